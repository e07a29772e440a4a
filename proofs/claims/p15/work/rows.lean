section
-- ===== PART A: goes FIRST, ahead of the names: the tables' words, and 'selects' of the private methods out of them =====
/-- a private method of a class that the tables say can be made, by its rows of tables_1 -/
def lw_okq (q : MethodName × Nat) : Prop := (q.1.cls ≠ "java/lang/invoke/MethodHandle" ∧ q.1.cls ≠ "java/lang/invoke/VarHandle") ∧ Cond.instantiable q.1.cls q.2 ∈ tables_1 ∧ Cond.privateMethod q.1 ∈ tables_1 ∧ Cond.instanceMethod q.1 ∈ tables_1
theorem lw_p0 : lw_okq (⟨"BeatBench", "sheetAt", "(I)LBeatBench$Sheet;"⟩, 10) := ⟨⟨by decide +kernel, by decide +kernel⟩, List.mem_of_getElem? (i := 17) (by decide +kernel), List.mem_of_getElem? (i := 248) (by decide +kernel), List.mem_of_getElem? (i := 249) (by decide +kernel)⟩
theorem lw_p1 : lw_okq (⟨"BeatBench", "refuse", "(I)Z"⟩, 10) := ⟨⟨by decide +kernel, by decide +kernel⟩, List.mem_of_getElem? (i := 17) (by decide +kernel), List.mem_of_getElem? (i := 252) (by decide +kernel), List.mem_of_getElem? (i := 253) (by decide +kernel)⟩
theorem lw_p2 : lw_okq (⟨"BeatBench", "accept", "()Z"⟩, 10) := ⟨⟨by decide +kernel, by decide +kernel⟩, List.mem_of_getElem? (i := 17) (by decide +kernel), List.mem_of_getElem? (i := 261) (by decide +kernel), List.mem_of_getElem? (i := 262) (by decide +kernel)⟩
theorem lw_p3 : lw_okq (⟨"BeatBench$Sheet", "cutToSort", "(J)J"⟩, 3) := ⟨⟨by decide +kernel, by decide +kernel⟩, List.mem_of_getElem? (i := 191) (by decide +kernel), List.mem_of_getElem? (i := 282) (by decide +kernel), List.mem_of_getElem? (i := 283) (by decide +kernel)⟩
theorem lw_p4 : lw_okq (⟨"BeatBench", "lack", "(I)I"⟩, 10) := ⟨⟨by decide +kernel, by decide +kernel⟩, List.mem_of_getElem? (i := 17) (by decide +kernel), List.mem_of_getElem? (i := 290) (by decide +kernel), List.mem_of_getElem? (i := 291) (by decide +kernel)⟩
theorem lw_p5 : lw_okq (⟨"BeatBench", "answer", "(I)I"⟩, 10) := ⟨⟨by decide +kernel, by decide +kernel⟩, List.mem_of_getElem? (i := 17) (by decide +kernel), List.mem_of_getElem? (i := 328) (by decide +kernel), List.mem_of_getElem? (i := 329) (by decide +kernel)⟩
theorem lw_p6 : lw_okq (⟨"BeatBench$Bench", "everyone", "()I"⟩, 14) := ⟨⟨by decide +kernel, by decide +kernel⟩, List.mem_of_getElem? (i := 27) (by decide +kernel), List.mem_of_getElem? (i := 373) (by decide +kernel), List.mem_of_getElem? (i := 374) (by decide +kernel)⟩
theorem lw_p7 : lw_okq (⟨"BeatBench$Bench", "pullOn", "(I[I)I"⟩, 14) := ⟨⟨by decide +kernel, by decide +kernel⟩, List.mem_of_getElem? (i := 27) (by decide +kernel), List.mem_of_getElem? (i := 397) (by decide +kernel), List.mem_of_getElem? (i := 398) (by decide +kernel)⟩
theorem lw_p8 : lw_okq (⟨"BeatBench$Bench", "wrap", "(I)I"⟩, 14) := ⟨⟨by decide +kernel, by decide +kernel⟩, List.mem_of_getElem? (i := 27) (by decide +kernel), List.mem_of_getElem? (i := 401) (by decide +kernel), List.mem_of_getElem? (i := 402) (by decide +kernel)⟩
theorem lw_p9 : lw_okq (⟨"BeatBench$Bench", "fire", "([I)V"⟩, 14) := ⟨⟨by decide +kernel, by decide +kernel⟩, List.mem_of_getElem? (i := 27) (by decide +kernel), List.mem_of_getElem? (i := 405) (by decide +kernel), List.mem_of_getElem? (i := 406) (by decide +kernel)⟩
theorem lw_p10 : lw_okq (⟨"BeatBench$Bench", "pushAt", "(I)I"⟩, 14) := ⟨⟨by decide +kernel, by decide +kernel⟩, List.mem_of_getElem? (i := 27) (by decide +kernel), List.mem_of_getElem? (i := 412) (by decide +kernel), List.mem_of_getElem? (i := 413) (by decide +kernel)⟩
theorem lw_p11 : lw_okq (⟨"BeatBench$Bench", "arcFrom", "(II)I"⟩, 14) := ⟨⟨by decide +kernel, by decide +kernel⟩, List.mem_of_getElem? (i := 27) (by decide +kernel), List.mem_of_getElem? (i := 456) (by decide +kernel), List.mem_of_getElem? (i := 457) (by decide +kernel)⟩
theorem lw_p12 : lw_okq (⟨"BeatBench$Trail", "makeRoom", "()V"⟩, 5) := ⟨⟨by decide +kernel, by decide +kernel⟩, List.mem_of_getElem? (i := 87) (by decide +kernel), List.mem_of_getElem? (i := 483) (by decide +kernel), List.mem_of_getElem? (i := 484) (by decide +kernel)⟩
theorem lw_p13 : lw_okq (⟨"BeatBench$Trail", "pack", "([II)V"⟩, 5) := ⟨⟨by decide +kernel, by decide +kernel⟩, List.mem_of_getElem? (i := 87) (by decide +kernel), List.mem_of_getElem? (i := 508) (by decide +kernel), List.mem_of_getElem? (i := 509) (by decide +kernel)⟩
theorem lw_p14 : lw_okq (⟨"BeatBench$Trail", "headOfLast", "()I"⟩, 5) := ⟨⟨by decide +kernel, by decide +kernel⟩, List.mem_of_getElem? (i := 87) (by decide +kernel), List.mem_of_getElem? (i := 512) (by decide +kernel), List.mem_of_getElem? (i := 513) (by decide +kernel)⟩
theorem lw_p15 : lw_okq (⟨"BeatBench$Trail", "isLikeLast", "(I)Z"⟩, 5) := ⟨⟨by decide +kernel, by decide +kernel⟩, List.mem_of_getElem? (i := 87) (by decide +kernel), List.mem_of_getElem? (i := 517) (by decide +kernel), List.mem_of_getElem? (i := 518) (by decide +kernel)⟩
def lw_privs_1 : List (MethodName × Nat) := [(⟨"BeatBench", "sheetAt", "(I)LBeatBench$Sheet;"⟩, 10), (⟨"BeatBench", "refuse", "(I)Z"⟩, 10), (⟨"BeatBench", "accept", "()Z"⟩, 10), (⟨"BeatBench$Sheet", "cutToSort", "(J)J"⟩, 3), (⟨"BeatBench", "lack", "(I)I"⟩, 10), (⟨"BeatBench", "answer", "(I)I"⟩, 10), (⟨"BeatBench$Bench", "everyone", "()I"⟩, 14), (⟨"BeatBench$Bench", "pullOn", "(I[I)I"⟩, 14), (⟨"BeatBench$Bench", "wrap", "(I)I"⟩, 14), (⟨"BeatBench$Bench", "fire", "([I)V"⟩, 14), (⟨"BeatBench$Bench", "pushAt", "(I)I"⟩, 14), (⟨"BeatBench$Bench", "arcFrom", "(II)I"⟩, 14), (⟨"BeatBench$Trail", "makeRoom", "()V"⟩, 5), (⟨"BeatBench$Trail", "pack", "([II)V"⟩, 5), (⟨"BeatBench$Trail", "headOfLast", "()I"⟩, 5), (⟨"BeatBench$Trail", "isLikeLast", "(I)Z"⟩, 5)]
theorem lw_r1 : ∀ q ∈ lw_privs_1, lw_okq q := List.forall_mem_cons.mpr ⟨lw_p0, List.forall_mem_cons.mpr ⟨lw_p1, List.forall_mem_cons.mpr ⟨lw_p2, List.forall_mem_cons.mpr ⟨lw_p3, List.forall_mem_cons.mpr ⟨lw_p4, List.forall_mem_cons.mpr ⟨lw_p5, List.forall_mem_cons.mpr ⟨lw_p6, List.forall_mem_cons.mpr ⟨lw_p7, List.forall_mem_cons.mpr ⟨lw_p8, List.forall_mem_cons.mpr ⟨lw_p9, List.forall_mem_cons.mpr ⟨lw_p10, List.forall_mem_cons.mpr ⟨lw_p11, List.forall_mem_cons.mpr ⟨lw_p12, List.forall_mem_cons.mpr ⟨lw_p13, List.forall_mem_cons.mpr ⟨lw_p14, List.forall_mem_cons.mpr ⟨lw_p15, fun _ h => absurd h List.not_mem_nil⟩⟩⟩⟩⟩⟩⟩⟩⟩⟩⟩⟩⟩⟩⟩⟩
theorem lw_p16 : lw_okq (⟨"BeatBench$Ends", "makeRoom", "(I)V"⟩, 5) := ⟨⟨by decide +kernel, by decide +kernel⟩, List.mem_of_getElem? (i := 110) (by decide +kernel), List.mem_of_getElem? (i := 542) (by decide +kernel), List.mem_of_getElem? (i := 543) (by decide +kernel)⟩
theorem lw_p17 : lw_okq (⟨"BeatBench$Bench", "setWalker", "(I)V"⟩, 14) := ⟨⟨by decide +kernel, by decide +kernel⟩, List.mem_of_getElem? (i := 27) (by decide +kernel), List.mem_of_getElem? (i := 552) (by decide +kernel), List.mem_of_getElem? (i := 553) (by decide +kernel)⟩
theorem lw_p18 : lw_okq (⟨"BeatBench$Ends", "followFrom", "(II)V"⟩, 5) := ⟨⟨by decide +kernel, by decide +kernel⟩, List.mem_of_getElem? (i := 110) (by decide +kernel), List.mem_of_getElem? (i := 558) (by decide +kernel), List.mem_of_getElem? (i := 559) (by decide +kernel)⟩
theorem lw_p19 : lw_okq (⟨"BeatBench$Ends", "leastOfRound", "(II)I"⟩, 5) := ⟨⟨by decide +kernel, by decide +kernel⟩, List.mem_of_getElem? (i := 110) (by decide +kernel), List.mem_of_getElem? (i := 562) (by decide +kernel), List.mem_of_getElem? (i := 563) (by decide +kernel)⟩
theorem lw_p20 : lw_okq (⟨"BeatBench$Ends", "lengthOfRound", "(II)I"⟩, 5) := ⟨⟨by decide +kernel, by decide +kernel⟩, List.mem_of_getElem? (i := 110) (by decide +kernel), List.mem_of_getElem? (i := 570) (by decide +kernel), List.mem_of_getElem? (i := 571) (by decide +kernel)⟩
theorem lw_p21 : lw_okq (⟨"BeatBench$Ends", "roundInStep", "(LBeatBench$Bench;III)Z"⟩, 5) := ⟨⟨by decide +kernel, by decide +kernel⟩, List.mem_of_getElem? (i := 110) (by decide +kernel), List.mem_of_getElem? (i := 590) (by decide +kernel), List.mem_of_getElem? (i := 591) (by decide +kernel)⟩
theorem lw_p22 : lw_okq (⟨"BeatBench$Bench", "fillReach", "()V"⟩, 14) := ⟨⟨by decide +kernel, by decide +kernel⟩, List.mem_of_getElem? (i := 27) (by decide +kernel), List.mem_of_getElem? (i := 607) (by decide +kernel), List.mem_of_getElem? (i := 608) (by decide +kernel)⟩
theorem lw_p23 : lw_okq (⟨"BeatBench$Bench", "allLeadBack", "(I)Z"⟩, 14) := ⟨⟨by decide +kernel, by decide +kernel⟩, List.mem_of_getElem? (i := 27) (by decide +kernel), List.mem_of_getElem? (i := 615) (by decide +kernel), List.mem_of_getElem? (i := 616) (by decide +kernel)⟩
theorem lw_p24 : lw_okq (⟨"BeatBench$Spans", "takeRounds", "(I)V"⟩, 14) := ⟨⟨by decide +kernel, by decide +kernel⟩, List.mem_of_getElem? (i := 133) (by decide +kernel), List.mem_of_getElem? (i := 665) (by decide +kernel), List.mem_of_getElem? (i := 666) (by decide +kernel)⟩
theorem lw_p25 : lw_okq (⟨"BeatBench$Spans", "multiplyPower", "([J)V"⟩, 14) := ⟨⟨by decide +kernel, by decide +kernel⟩, List.mem_of_getElem? (i := 133) (by decide +kernel), List.mem_of_getElem? (i := 669) (by decide +kernel), List.mem_of_getElem? (i := 670) (by decide +kernel)⟩
theorem lw_p26 : lw_okq (⟨"BeatBench$Spans", "multiply", "([J[J[J)V"⟩, 14) := ⟨⟨by decide +kernel, by decide +kernel⟩, List.mem_of_getElem? (i := 133) (by decide +kernel), List.mem_of_getElem? (i := 673) (by decide +kernel), List.mem_of_getElem? (i := 674) (by decide +kernel)⟩
theorem lw_p27 : lw_okq (⟨"BeatBench$Spans", "takeBetter", "(J[JI[JI)V"⟩, 14) := ⟨⟨by decide +kernel, by decide +kernel⟩, List.mem_of_getElem? (i := 133) (by decide +kernel), List.mem_of_getElem? (i := 677) (by decide +kernel), List.mem_of_getElem? (i := 678) (by decide +kernel)⟩
theorem lw_p28 : lw_okq (⟨"BeatBench$Spans", "reducePace", "()V"⟩, 14) := ⟨⟨by decide +kernel, by decide +kernel⟩, List.mem_of_getElem? (i := 133) (by decide +kernel), List.mem_of_getElem? (i := 681) (by decide +kernel), List.mem_of_getElem? (i := 682) (by decide +kernel)⟩
theorem lw_p29 : lw_okq (⟨"BeatBench$Spans", "shiftByPace", "()V"⟩, 14) := ⟨⟨by decide +kernel, by decide +kernel⟩, List.mem_of_getElem? (i := 133) (by decide +kernel), List.mem_of_getElem? (i := 693) (by decide +kernel), List.mem_of_getElem? (i := 694) (by decide +kernel)⟩
theorem lw_p30 : lw_okq (⟨"BeatBench$Spans", "fillBack", "(I)V"⟩, 14) := ⟨⟨by decide +kernel, by decide +kernel⟩, List.mem_of_getElem? (i := 133) (by decide +kernel), List.mem_of_getElem? (i := 697) (by decide +kernel), List.mem_of_getElem? (i := 698) (by decide +kernel)⟩
theorem lw_p31 : lw_okq (⟨"BeatBench$Spans", "writeRound", "(I[I)V"⟩, 14) := ⟨⟨by decide +kernel, by decide +kernel⟩, List.mem_of_getElem? (i := 133) (by decide +kernel), List.mem_of_getElem? (i := 707) (by decide +kernel), List.mem_of_getElem? (i := 708) (by decide +kernel)⟩
def lw_privs_2 : List (MethodName × Nat) := [(⟨"BeatBench$Ends", "makeRoom", "(I)V"⟩, 5), (⟨"BeatBench$Bench", "setWalker", "(I)V"⟩, 14), (⟨"BeatBench$Ends", "followFrom", "(II)V"⟩, 5), (⟨"BeatBench$Ends", "leastOfRound", "(II)I"⟩, 5), (⟨"BeatBench$Ends", "lengthOfRound", "(II)I"⟩, 5), (⟨"BeatBench$Ends", "roundInStep", "(LBeatBench$Bench;III)Z"⟩, 5), (⟨"BeatBench$Bench", "fillReach", "()V"⟩, 14), (⟨"BeatBench$Bench", "allLeadBack", "(I)Z"⟩, 14), (⟨"BeatBench$Spans", "takeRounds", "(I)V"⟩, 14), (⟨"BeatBench$Spans", "multiplyPower", "([J)V"⟩, 14), (⟨"BeatBench$Spans", "multiply", "([J[J[J)V"⟩, 14), (⟨"BeatBench$Spans", "takeBetter", "(J[JI[JI)V"⟩, 14), (⟨"BeatBench$Spans", "reducePace", "()V"⟩, 14), (⟨"BeatBench$Spans", "shiftByPace", "()V"⟩, 14), (⟨"BeatBench$Spans", "fillBack", "(I)V"⟩, 14), (⟨"BeatBench$Spans", "writeRound", "(I[I)V"⟩, 14)]
theorem lw_r2 : ∀ q ∈ lw_privs_2, lw_okq q := List.forall_mem_cons.mpr ⟨lw_p16, List.forall_mem_cons.mpr ⟨lw_p17, List.forall_mem_cons.mpr ⟨lw_p18, List.forall_mem_cons.mpr ⟨lw_p19, List.forall_mem_cons.mpr ⟨lw_p20, List.forall_mem_cons.mpr ⟨lw_p21, List.forall_mem_cons.mpr ⟨lw_p22, List.forall_mem_cons.mpr ⟨lw_p23, List.forall_mem_cons.mpr ⟨lw_p24, List.forall_mem_cons.mpr ⟨lw_p25, List.forall_mem_cons.mpr ⟨lw_p26, List.forall_mem_cons.mpr ⟨lw_p27, List.forall_mem_cons.mpr ⟨lw_p28, List.forall_mem_cons.mpr ⟨lw_p29, List.forall_mem_cons.mpr ⟨lw_p30, List.forall_mem_cons.mpr ⟨lw_p31, fun _ h => absurd h List.not_mem_nil⟩⟩⟩⟩⟩⟩⟩⟩⟩⟩⟩⟩⟩⟩⟩⟩
theorem lw_p32 : lw_okq (⟨"BeatBench$Spans", "leastNext", "(II)I"⟩, 14) := ⟨⟨by decide +kernel, by decide +kernel⟩, List.mem_of_getElem? (i := 133) (by decide +kernel), List.mem_of_getElem? (i := 711) (by decide +kernel), List.mem_of_getElem? (i := 712) (by decide +kernel)⟩
theorem lw_p33 : lw_okq (⟨"BeatBench$Spans", "startRow", "(I)V"⟩, 14) := ⟨⟨by decide +kernel, by decide +kernel⟩, List.mem_of_getElem? (i := 133) (by decide +kernel), List.mem_of_getElem? (i := 724) (by decide +kernel), List.mem_of_getElem? (i := 725) (by decide +kernel)⟩
theorem lw_p34 : lw_okq (⟨"BeatBench$Spans", "multiplyRow", "([J)V"⟩, 14) := ⟨⟨by decide +kernel, by decide +kernel⟩, List.mem_of_getElem? (i := 133) (by decide +kernel), List.mem_of_getElem? (i := 728) (by decide +kernel), List.mem_of_getElem? (i := 729) (by decide +kernel)⟩
theorem lw_p35 : lw_okq (⟨"BeatBench", "sumOrNone", "(J)J"⟩, 10) := ⟨⟨by decide +kernel, by decide +kernel⟩, List.mem_of_getElem? (i := 17) (by decide +kernel), List.mem_of_getElem? (i := 732) (by decide +kernel), List.mem_of_getElem? (i := 733) (by decide +kernel)⟩
theorem lw_p36 : lw_okq (⟨"BeatBench$Spans", "areAlike", "([J[J)Z"⟩, 14) := ⟨⟨by decide +kernel, by decide +kernel⟩, List.mem_of_getElem? (i := 133) (by decide +kernel), List.mem_of_getElem? (i := 754) (by decide +kernel), List.mem_of_getElem? (i := 755) (by decide +kernel)⟩
theorem lw_p37 : lw_okq (⟨"java/lang/Throwable", "fillInStackTrace", "(I)Ljava/lang/Throwable;"⟩, 6) := ⟨⟨by decide +kernel, by decide +kernel⟩, List.mem_of_getElem? (i := 802) (by decide +kernel), List.mem_of_getElem? (i := 800) (by decide +kernel), List.mem_of_getElem? (i := 801) (by decide +kernel)⟩
theorem lw_p38 : lw_okq (⟨"BeatBenchModel", "no", "(I)Z"⟩, 45) := ⟨⟨by decide +kernel, by decide +kernel⟩, List.mem_of_getElem? (i := 832) (by decide +kernel), List.mem_of_getElem? (i := 984) (by decide +kernel), List.mem_of_getElem? (i := 985) (by decide +kernel)⟩
theorem lw_p39 : lw_okq (⟨"BeatBenchModel", "placed", "(II)I"⟩, 45) := ⟨⟨by decide +kernel, by decide +kernel⟩, List.mem_of_getElem? (i := 832) (by decide +kernel), List.mem_of_getElem? (i := 992) (by decide +kernel), List.mem_of_getElem? (i := 993) (by decide +kernel)⟩
theorem lw_p40 : lw_okq (⟨"BeatBenchModel", "sheeted", "(I)I"⟩, 45) := ⟨⟨by decide +kernel, by decide +kernel⟩, List.mem_of_getElem? (i := 832) (by decide +kernel), List.mem_of_getElem? (i := 996) (by decide +kernel), List.mem_of_getElem? (i := 997) (by decide +kernel)⟩
theorem lw_p41 : lw_okq (⟨"BeatBenchModel", "isPhase", "(J)Z"⟩, 45) := ⟨⟨by decide +kernel, by decide +kernel⟩, List.mem_of_getElem? (i := 832) (by decide +kernel), List.mem_of_getElem? (i := 1020) (by decide +kernel), List.mem_of_getElem? (i := 1021) (by decide +kernel)⟩
theorem lw_p42 : lw_okq (⟨"BeatBenchModel", "refuse", "(I)I"⟩, 45) := ⟨⟨by decide +kernel, by decide +kernel⟩, List.mem_of_getElem? (i := 832) (by decide +kernel), List.mem_of_getElem? (i := 1024) (by decide +kernel), List.mem_of_getElem? (i := 1025) (by decide +kernel)⟩
theorem lw_p43 : lw_okq (⟨"BeatBenchModel", "isBeater", "(I)Z"⟩, 45) := ⟨⟨by decide +kernel, by decide +kernel⟩, List.mem_of_getElem? (i := 832) (by decide +kernel), List.mem_of_getElem? (i := 1032) (by decide +kernel), List.mem_of_getElem? (i := 1033) (by decide +kernel)⟩
theorem lw_p44 : lw_okq (⟨"BeatBenchModel", "clears", "()V"⟩, 45) := ⟨⟨by decide +kernel, by decide +kernel⟩, List.mem_of_getElem? (i := 832) (by decide +kernel), List.mem_of_getElem? (i := 1061) (by decide +kernel), List.mem_of_getElem? (i := 1062) (by decide +kernel)⟩
theorem lw_p45 : lw_okq (⟨"BeatBenchModel", "tick", "([I)V"⟩, 45) := ⟨⟨by decide +kernel, by decide +kernel⟩, List.mem_of_getElem? (i := 832) (by decide +kernel), List.mem_of_getElem? (i := 1069) (by decide +kernel), List.mem_of_getElem? (i := 1070) (by decide +kernel)⟩
theorem lw_p46 : lw_okq (⟨"BeatBenchModel", "pulled", "([II)I"⟩, 45) := ⟨⟨by decide +kernel, by decide +kernel⟩, List.mem_of_getElem? (i := 832) (by decide +kernel), List.mem_of_getElem? (i := 1073) (by decide +kernel), List.mem_of_getElem? (i := 1074) (by decide +kernel)⟩
theorem lw_p47 : lw_okq (⟨"BeatBenchModel", "seenBy", "(I)I"⟩, 45) := ⟨⟨by decide +kernel, by decide +kernel⟩, List.mem_of_getElem? (i := 832) (by decide +kernel), List.mem_of_getElem? (i := 1081) (by decide +kernel), List.mem_of_getElem? (i := 1082) (by decide +kernel)⟩
def lw_privs_3 : List (MethodName × Nat) := [(⟨"BeatBench$Spans", "leastNext", "(II)I"⟩, 14), (⟨"BeatBench$Spans", "startRow", "(I)V"⟩, 14), (⟨"BeatBench$Spans", "multiplyRow", "([J)V"⟩, 14), (⟨"BeatBench", "sumOrNone", "(J)J"⟩, 10), (⟨"BeatBench$Spans", "areAlike", "([J[J)Z"⟩, 14), (⟨"java/lang/Throwable", "fillInStackTrace", "(I)Ljava/lang/Throwable;"⟩, 6), (⟨"BeatBenchModel", "no", "(I)Z"⟩, 45), (⟨"BeatBenchModel", "placed", "(II)I"⟩, 45), (⟨"BeatBenchModel", "sheeted", "(I)I"⟩, 45), (⟨"BeatBenchModel", "isPhase", "(J)Z"⟩, 45), (⟨"BeatBenchModel", "refuse", "(I)I"⟩, 45), (⟨"BeatBenchModel", "isBeater", "(I)Z"⟩, 45), (⟨"BeatBenchModel", "clears", "()V"⟩, 45), (⟨"BeatBenchModel", "tick", "([I)V"⟩, 45), (⟨"BeatBenchModel", "pulled", "([II)I"⟩, 45), (⟨"BeatBenchModel", "seenBy", "(I)I"⟩, 45)]
theorem lw_r3 : ∀ q ∈ lw_privs_3, lw_okq q := List.forall_mem_cons.mpr ⟨lw_p32, List.forall_mem_cons.mpr ⟨lw_p33, List.forall_mem_cons.mpr ⟨lw_p34, List.forall_mem_cons.mpr ⟨lw_p35, List.forall_mem_cons.mpr ⟨lw_p36, List.forall_mem_cons.mpr ⟨lw_p37, List.forall_mem_cons.mpr ⟨lw_p38, List.forall_mem_cons.mpr ⟨lw_p39, List.forall_mem_cons.mpr ⟨lw_p40, List.forall_mem_cons.mpr ⟨lw_p41, List.forall_mem_cons.mpr ⟨lw_p42, List.forall_mem_cons.mpr ⟨lw_p43, List.forall_mem_cons.mpr ⟨lw_p44, List.forall_mem_cons.mpr ⟨lw_p45, List.forall_mem_cons.mpr ⟨lw_p46, List.forall_mem_cons.mpr ⟨lw_p47, fun _ h => absurd h List.not_mem_nil⟩⟩⟩⟩⟩⟩⟩⟩⟩⟩⟩⟩⟩⟩⟩⟩
theorem lw_p48 : lw_okq (⟨"BeatBenchModel", "isSet", "(I)Z"⟩, 45) := ⟨⟨by decide +kernel, by decide +kernel⟩, List.mem_of_getElem? (i := 832) (by decide +kernel), List.mem_of_getElem? (i := 1093) (by decide +kernel), List.mem_of_getElem? (i := 1094) (by decide +kernel)⟩
theorem lw_p49 : lw_okq (⟨"BeatBenchModel", "isInStep", "([II)Z"⟩, 45) := ⟨⟨by decide +kernel, by decide +kernel⟩, List.mem_of_getElem? (i := 832) (by decide +kernel), List.mem_of_getElem? (i := 1097) (by decide +kernel), List.mem_of_getElem? (i := 1098) (by decide +kernel)⟩
theorem lw_p50 : lw_okq (⟨"BeatBenchModel", "rounds", "()Z"⟩, 45) := ⟨⟨by decide +kernel, by decide +kernel⟩, List.mem_of_getElem? (i := 832) (by decide +kernel), List.mem_of_getElem? (i := 1111) (by decide +kernel), List.mem_of_getElem? (i := 1112) (by decide +kernel)⟩
theorem lw_p51 : lw_okq (⟨"BeatBenchModel", "begin", "([I)V"⟩, 45) := ⟨⟨by decide +kernel, by decide +kernel⟩, List.mem_of_getElem? (i := 832) (by decide +kernel), List.mem_of_getElem? (i := 1115) (by decide +kernel), List.mem_of_getElem? (i := 1116) (by decide +kernel)⟩
theorem lw_p52 : lw_okq (⟨"BeatBenchModel", "isLike", "([I[I)Z"⟩, 45) := ⟨⟨by decide +kernel, by decide +kernel⟩, List.mem_of_getElem? (i := 832) (by decide +kernel), List.mem_of_getElem? (i := 1119) (by decide +kernel), List.mem_of_getElem? (i := 1120) (by decide +kernel)⟩
theorem lw_p53 : lw_okq (⟨"BeatBenchModel", "states", "()I"⟩, 45) := ⟨⟨by decide +kernel, by decide +kernel⟩, List.mem_of_getElem? (i := 832) (by decide +kernel), List.mem_of_getElem? (i := 1132) (by decide +kernel), List.mem_of_getElem? (i := 1133) (by decide +kernel)⟩
theorem lw_p54 : lw_okq (⟨"BeatBenchModel", "fillEnds", "(I)V"⟩, 45) := ⟨⟨by decide +kernel, by decide +kernel⟩, List.mem_of_getElem? (i := 832) (by decide +kernel), List.mem_of_getElem? (i := 1137) (by decide +kernel), List.mem_of_getElem? (i := 1138) (by decide +kernel)⟩
theorem lw_p55 : lw_okq (⟨"BeatBenchModel", "stateTo", "(I[I)V"⟩, 45) := ⟨⟨by decide +kernel, by decide +kernel⟩, List.mem_of_getElem? (i := 832) (by decide +kernel), List.mem_of_getElem? (i := 1141) (by decide +kernel), List.mem_of_getElem? (i := 1142) (by decide +kernel)⟩
theorem lw_p56 : lw_okq (⟨"BeatBenchModel", "numberOf", "([I)I"⟩, 45) := ⟨⟨by decide +kernel, by decide +kernel⟩, List.mem_of_getElem? (i := 832) (by decide +kernel), List.mem_of_getElem? (i := 1145) (by decide +kernel), List.mem_of_getElem? (i := 1146) (by decide +kernel)⟩
theorem lw_p57 : lw_okq (⟨"BeatBenchModel", "isIn", "(II)Z"⟩, 45) := ⟨⟨by decide +kernel, by decide +kernel⟩, List.mem_of_getElem? (i := 832) (by decide +kernel), List.mem_of_getElem? (i := 1173) (by decide +kernel), List.mem_of_getElem? (i := 1174) (by decide +kernel)⟩
theorem lw_p58 : lw_okq (⟨"BeatBenchModel", "paces", "()Z"⟩, 45) := ⟨⟨by decide +kernel, by decide +kernel⟩, List.mem_of_getElem? (i := 832) (by decide +kernel), List.mem_of_getElem? (i := 1187) (by decide +kernel), List.mem_of_getElem? (i := 1188) (by decide +kernel)⟩
theorem lw_p59 : lw_okq (⟨"BeatBenchModel", "fillPowers", "(II)V"⟩, 45) := ⟨⟨by decide +kernel, by decide +kernel⟩, List.mem_of_getElem? (i := 832) (by decide +kernel), List.mem_of_getElem? (i := 1191) (by decide +kernel), List.mem_of_getElem? (i := 1192) (by decide +kernel)⟩
theorem lw_p60 : lw_okq (⟨"BeatBenchModel", "unit", "([JI)V"⟩, 45) := ⟨⟨by decide +kernel, by decide +kernel⟩, List.mem_of_getElem? (i := 832) (by decide +kernel), List.mem_of_getElem? (i := 1195) (by decide +kernel), List.mem_of_getElem? (i := 1196) (by decide +kernel)⟩
theorem lw_p61 : lw_okq (⟨"BeatBenchModel", "multiply", "([JI[JI[JII)V"⟩, 45) := ⟨⟨by decide +kernel, by decide +kernel⟩, List.mem_of_getElem? (i := 832) (by decide +kernel), List.mem_of_getElem? (i := 1199) (by decide +kernel), List.mem_of_getElem? (i := 1200) (by decide +kernel)⟩
theorem lw_p62 : lw_okq (⟨"BeatBenchModel", "isPace", "(JI)Z"⟩, 45) := ⟨⟨by decide +kernel, by decide +kernel⟩, List.mem_of_getElem? (i := 832) (by decide +kernel), List.mem_of_getElem? (i := 1214) (by decide +kernel), List.mem_of_getElem? (i := 1215) (by decide +kernel)⟩
theorem lw_p63 : lw_okq (⟨"BeatBenchModel", "goes", "(IIIIJ)Z"⟩, 45) := ⟨⟨by decide +kernel, by decide +kernel⟩, List.mem_of_getElem? (i := 832) (by decide +kernel), List.mem_of_getElem? (i := 1218) (by decide +kernel), List.mem_of_getElem? (i := 1219) (by decide +kernel)⟩
def lw_privs_4 : List (MethodName × Nat) := [(⟨"BeatBenchModel", "isSet", "(I)Z"⟩, 45), (⟨"BeatBenchModel", "isInStep", "([II)Z"⟩, 45), (⟨"BeatBenchModel", "rounds", "()Z"⟩, 45), (⟨"BeatBenchModel", "begin", "([I)V"⟩, 45), (⟨"BeatBenchModel", "isLike", "([I[I)Z"⟩, 45), (⟨"BeatBenchModel", "states", "()I"⟩, 45), (⟨"BeatBenchModel", "fillEnds", "(I)V"⟩, 45), (⟨"BeatBenchModel", "stateTo", "(I[I)V"⟩, 45), (⟨"BeatBenchModel", "numberOf", "([I)I"⟩, 45), (⟨"BeatBenchModel", "isIn", "(II)Z"⟩, 45), (⟨"BeatBenchModel", "paces", "()Z"⟩, 45), (⟨"BeatBenchModel", "fillPowers", "(II)V"⟩, 45), (⟨"BeatBenchModel", "unit", "([JI)V"⟩, 45), (⟨"BeatBenchModel", "multiply", "([JI[JI[JII)V"⟩, 45), (⟨"BeatBenchModel", "isPace", "(JI)Z"⟩, 45), (⟨"BeatBenchModel", "goes", "(IIIIJ)Z"⟩, 45)]
theorem lw_r4 : ∀ q ∈ lw_privs_4, lw_okq q := List.forall_mem_cons.mpr ⟨lw_p48, List.forall_mem_cons.mpr ⟨lw_p49, List.forall_mem_cons.mpr ⟨lw_p50, List.forall_mem_cons.mpr ⟨lw_p51, List.forall_mem_cons.mpr ⟨lw_p52, List.forall_mem_cons.mpr ⟨lw_p53, List.forall_mem_cons.mpr ⟨lw_p54, List.forall_mem_cons.mpr ⟨lw_p55, List.forall_mem_cons.mpr ⟨lw_p56, List.forall_mem_cons.mpr ⟨lw_p57, List.forall_mem_cons.mpr ⟨lw_p58, List.forall_mem_cons.mpr ⟨lw_p59, List.forall_mem_cons.mpr ⟨lw_p60, List.forall_mem_cons.mpr ⟨lw_p61, List.forall_mem_cons.mpr ⟨lw_p62, List.forall_mem_cons.mpr ⟨lw_p63, fun _ h => absurd h List.not_mem_nil⟩⟩⟩⟩⟩⟩⟩⟩⟩⟩⟩⟩⟩⟩⟩⟩
theorem lw_p64 : lw_okq (⟨"BeatBenchModel", "isAgain", "(II)Z"⟩, 45) := ⟨⟨by decide +kernel, by decide +kernel⟩, List.mem_of_getElem? (i := 832) (by decide +kernel), List.mem_of_getElem? (i := 1235) (by decide +kernel), List.mem_of_getElem? (i := 1236) (by decide +kernel)⟩
def lw_privs_5 : List (MethodName × Nat) := [(⟨"BeatBenchModel", "isAgain", "(II)Z"⟩, 45)]
theorem lw_r5 : ∀ q ∈ lw_privs_5, lw_okq q := List.forall_mem_cons.mpr ⟨lw_p64, fun _ h => absurd h List.not_mem_nil⟩
def lw_privs : List (MethodName × Nat) := lw_privs_1 ++ (lw_privs_2 ++ (lw_privs_3 ++ (lw_privs_4 ++ (lw_privs_5))))
def lw_tbl : List Cond := k2_sels lw_privs ++ tables_1
theorem lw_privs_ok : ∀ q ∈ lw_privs, lw_okq q := by
  show ∀ q ∈ lw_privs_1 ++ (lw_privs_2 ++ (lw_privs_3 ++ (lw_privs_4 ++ (lw_privs_5)))), lw_okq q
  exact List.forall_mem_append.mpr ⟨lw_r1, List.forall_mem_append.mpr ⟨lw_r2, List.forall_mem_append.mpr ⟨lw_r3, List.forall_mem_append.mpr ⟨lw_r4, lw_r5⟩⟩⟩⟩
end
section
/-- the class of arrays over arrays of t is there (the printed rows name it, the kit has it not) -/
def va_AOA (t : FieldType) (U : State) : Prop := (Cond.arrayOver (.array t)).before #[] U = true
theorem va_AOA.use {t : FieldType} {A : Array Value} {U : State} (h : va_AOA t U) : (Cond.arrayOver (.array t)).before A U = true := h
theorem va_AOA.moved {t : FieldType} {u U : State} (hvm : u.vm.Alike U.vm) (h : va_AOA t u) : va_AOA t U := by
  obtain ⟨comp, c, k, h1, h2, h3, h4, h5⟩ := arrayOverA_spec h
  obtain ⟨k', hk', he⟩ := hvm.2.2 _ _ h3
  have hi : (U.vm.classes.findIdx? fun (x : Class) => match x.kind with | .array component _ => component == comp | _ => false) = some c := by
    rw [hvm.findIdx?_eq _ (fun _ => rfl)]
    exact h2
  have hkind : k'.kind = .array comp (.array t) := by rw [he]; exact h4
  have f1 : U.vm.findClass (FieldType.array t).toString = some comp := by rw [hvm.findClass]; exact h1
  have f2 : U.vm.findClass ("[" ++ (FieldType.array t).toString) = some c := by rw [hvm.findClass]; exact h5
  unfold va_AOA Cond.before Cond.holds
  simp only [Cond.value]
  rw [f1, Option.bind_some]
  refine (congrArg (fun o : Option Nat => (o.bind (fun c => (U.vm.classes[c]?).map fun (k : Class) => match k.kind with | .array _ ty => decide (ty = FieldType.array t) && decide (U.vm.findClass ("[" ++ (FieldType.array t).toString) = some c) | _ => false) == some true)) hi).trans ?_
  simp [hk', hkind, f2]
/-! ===== BEGIN words of one list among another's, by their places ===== -/
theorem goodIn_r {big : List Cond} (ws : List Cond) (ps : List Nat) (hp : ws = ps.filterMap (fun i => big[i]?)) (h : ws.all goodWord = true) : GoodIn big ws := by
  intro w hw
  have h1 := List.all_eq_true.mp h w hw
  rw [hp] at hw
  obtain ⟨i, -, hi⟩ := List.mem_filterMap.mp hw
  have hm : w ∈ big := by first | exact List.mem_of_getElem? hi | exact List.getElem?_mem hi
  exact ⟨hm, good_of_word h1⟩
theorem goodIn_app {big a b : List Cond} (ha : GoodIn big a) (hb : GoodIn big b) : GoodIn big (a ++ b) := fun w h => (List.mem_append.mp h).elim (ha w) (hb w)
theorem goodIn_ca {big a b : List Cond} {c : Cond} (ha : GoodIn big (c :: a)) (hb : GoodIn big b) : GoodIn big (c :: (a ++ b)) := fun w h => (List.mem_cons.mp h).elim (fun e => ha w (List.mem_cons.mpr (Or.inl e))) (fun h => (List.mem_append.mp h).elim (fun h => ha w (List.mem_cons.mpr (Or.inr h))) (hb w))
theorem goodIn_sub {big ws : List Cond} (hm : ∀ w ∈ ws, w ∈ big) (h : ws.all goodWord = true) : GoodIn big ws := fun w hw => ⟨hm w hw, good_of_word (List.all_eq_true.mp h w hw)⟩
/-! ===== END ===== -/

/-! ===== BEGIN new T[n][m]: the outer array a place, the inner ones among the pooled ===== -/
/-- f, but v at every address of l -/
def vr_up {α : Type} (f : Nat → α) (l : List Nat) (v : α) : Nat → α := fun a => if a ∈ l then v else f a
theorem vr_up_in {α : Type} {f : Nat → α} {l : List Nat} {v : α} {a : Nat} (h : a ∈ l) : vr_up f l v a = v := if_pos h
theorem vr_up_ne {α : Type} {f : Nat → α} {l : List Nat} {v : α} {a : Nat} (h : a ∉ l) : vr_up f l v a = f a := if_neg h
theorem vr_rows {L l : List Nat} {f : Nat → va_E} {e : va_E} (h : ∀ a, a ∈ l → a ∉ L) : va_pl L f ++ l.map (fun a => (a, e)) = va_pl (L ++ l) (vr_up f l e) := by
  unfold va_pl
  rw [List.map_append]
  congr 1
  · apply List.map_congr_left
    intro a ha
    rw [vr_up_ne (fun q => h a q ha)]
  · apply List.map_congr_left
    intro a ha
    rw [vr_up_in ha]
theorem vr_lay {X rows : va_W} {x : Nat × va_E} {pl : va_W} {D : va_G} {cl : List vw_C} {H : Heap} (hP : va_P D cl (((X ++ pl) ++ [x]) ++ rows) H) : va_P D cl ((X ++ [x]) ++ (pl ++ rows)) H := by
  rw [List.append_assoc (X ++ pl)] at hP
  have h := va_P.swap hP
  rw [← List.append_assoc X] at h
  have h2 := va_P.swap h
  rw [List.append_assoc (X ++ [x])] at h2
  exact h2
theorem vr_layD {X rows : va_W} {x : Nat × va_E} {pl : va_W} {A : Nat → Prop} (hD : va_D A (((X ++ pl) ++ [x]) ++ rows)) : va_D A ((X ++ [x]) ++ (pl ++ rows)) := by
  rw [List.append_assoc (X ++ pl)] at hD
  have h := va_D.swap hD
  rw [← List.append_assoc X] at h
  have h2 := va_D.swap h
  rw [List.append_assoc (X ++ [x])] at h2
  exact h2
theorem vr_outer (c : ClassId) (N h0 : Nat) : ∀ i : Nat, Jvm.Free.Multi.outerC c N h0 i = arrV c N (fun j => va_rf (if j < i then some (h0 + 1 + j) else none))
  | 0 => by
    show ({ cls := c, slots := Array.replicate N .null, vm := .none } : Cell) = _
    rw [arrV_new]
    refine congrArg (arrV c N) (funext fun j => ?_)
    simp [va_rf]
  | i + 1 => by
    show (Jvm.Free.Multi.outerC c N h0 i).setSlot i (.ref (h0 + 1 + i)) = _
    rw [vr_outer c N h0 i, arrV_store]
    refine congrArg (arrV c N) (funext fun j => ?_)
    by_cases e : j = i
    · subst e
      simp [updV, va_rf]
    · by_cases h : j < i
      · simp [updV, e, h, Nat.lt_succ_of_lt h]
      · simp [updV, e, h, show ¬ j < i + 1 by omega]
section VGM
variable {p : Program} {l : Launch} {e : Env} {R : Room} {s : State} {m : MethodId} {args : Array Value} {below : List Frame} {meth : Method} {c : Code} {H : Heap} {locs : List Loc} {cells slots : Nat} {Q : State → Prop}
variable {cc : ByteArray} {pc : Nat} {ls : Array Slot} {rest : List Value} {D : va_G} {cl : List vw_C} {A : Nat → Prop} {a : Nat} {tys : List (ClassId × FieldType)} {ws : va_W} {H0 : Heap}
theorem va_mna {X : va_W} {L : List Nat} {f : Nat → va_E} {cc : ByteArray} (hexec : p.tables.exec = Jvm.exec) (hb : c.code = cc) {own : String} {index : Nat} {ty : FieldType} {cy : ClassId} (hown : s.vm.findClass own = some m.cls) (hclink : (Cond.classLink own index ("[" ++ (FieldType.array ty).toString)).before args s = true) (hover : va_AOA ty s) (harr : (Cond.arrayClass ty).before args s = true) (hcy : s.vm.findClass (FieldType.array ty).toString = some cy)
    (hK : va_K D cl tys s) (hP : va_P D cl (X ++ va_pl L f) H) (hD : va_D A (X ++ va_pl L f)) (hS : va_S A H0 H locs) (hA : ∀ q, H0.size ≤ q → A q) {n k : Int32} {N' K' : Nat} {z : vp_A} (hn : ¬ n < 0) (hk : ¬ k < 0) (hN : n.toNatClampNeg = N') (hM : k.toNatClampNeg = K')
    (hb1 : N' * 4 ≤ 536870912) (hb2 : K' * componentBytes ty ≤ 536870912) (hb3 : K' ≤ 536870912) (hdf : fits ty (defaultValue ty) = true) (hdd : (defaultValue ty).isDefault = true) (hcells : cells + (1 + N') ≤ R.cells) (hslots : slots + (N' + N' * K') ≤ R.slots) (hz : ∀ c : ClassId, Jvm.Free.Multi.innerC c K' (defaultValue ty) = vp_cell c z) (hdg : decode cc pc = .ok (.multianewarray index 2, 4))
    (kk : ∀ (q : Nat) (r : Nat → Nat) (cA : ClassId) (H1 : Heap), (∀ i j : Nat, i < N' → j < N' → r i = r j → i = j) → (∀ i : Nat, i < N' → r i ∉ L) → va_K D cl (tys ++ [(cA, .array ty)]) s →
      va_P D cl ((X ++ [(q, .inl (cA, N', .inr (.inr (.inr (.inr (fun i => if i < N' then some (r i) else none))))))]) ++ va_pl (L ++ (List.range N').map r) (vr_up f ((List.range N').map r) (.inl (cy, z)))) H1 → va_D A ((X ++ [(q, .inl (cA, N', .inr (.inr (.inr (.inr (fun i => if i < N' then some (r i) else none))))))]) ++ va_pl (L ++ (List.range N').map r) (vr_up f ((List.range N').map r) (.inl (cy, z)))) → va_S A H0 H1 locs →
      W p l e R s m args below meth c H1 locs (cells + 1 + N') (slots + N' + N' * K') Q (F0 m (pc + 4) ls (.ref q :: rest))) : W p l e R s m args below meth c H locs cells slots Q (F0 m pc ls (.int k :: .int n :: rest)) := by
  subst hN
  subst hM
  intro T hT Xs
  obtain ⟨vm₁, cA, comp, -, fA, fC, hO, -, X', step⟩ := Xs.multianewarray2F hexec hown hclink (va_AOA.use hover) harr (g := F0 m pc ls (.int k :: .int n :: rest)) rfl (by rw [hb]; exact hdg) rfl hn hk hb1 hb2 hb3 hdf hdd hcells hslots
  have ec : some cy = some comp := hcy.symm.trans fC
  cases ec
  generalize hF : Jvm.Free.Multi.fill (T.setVm vm₁) cA cy n.toNatClampNeg k.toNatClampNeg (defaultValue ty) n.toNatClampNeg = F at X' step
  have hTh : (T.setVm vm₁).heap = H := hT
  obtain ⟨f1, f2, -, -⟩ := Jvm.Free.Multi.fill_facts (T.setVm vm₁) cA cy n.toNatClampNeg k.toNatClampNeg (defaultValue ty) n.toNatClampNeg
  rw [hF, hTh] at f1 f2
  have hold : ∀ x : Nat, x < H.size → F.heap[x]? = H[x]? := fun x hx => by
    have := Jvm.Free.Multi.fill_old (T.setVm vm₁) cA cy n.toNatClampNeg k.toNatClampNeg (defaultValue ty) (a := x) (by rw [hTh]; exact hx) n.toNatClampNeg
    rw [hF, hTh] at this
    exact this
  have hrow : ∀ j : Nat, j < n.toNatClampNeg → F.heap[H.size + 1 + j]? = some (vp_cell cy z) := fun j hj => by
    have := Jvm.Free.Multi.fill_inner (T.setVm vm₁) cA cy n.toNatClampNeg k.toNatClampNeg (defaultValue ty) n.toNatClampNeg j hj
    rw [hF, hTh, hz] at this
    exact this
  have hout : Jvm.Free.Multi.outerC cA n.toNatClampNeg H.size n.toNatClampNeg = vp_cell cA (n.toNatClampNeg, .inr (.inr (.inr (.inr (fun i => if i < n.toNatClampNeg then some (H.size + 1 + i) else none))))) := by
    rw [vp_cell_q]
    exact vr_outer cA n.toNatClampNeg H.size n.toNatClampNeg
  rw [hout] at f2
  have hlt : ∀ a, a ∈ L → a < H.size := fun a ha => by
    obtain ⟨k9, hk9⟩ := va_pl_get (X := X) (f := f) ha
    exact (hP k9 _ hk9).lt
  have hnl : ∀ i : Nat, i < n.toNatClampNeg → H.size + 1 + i ∉ L := fun i _ h => by
    have := hlt _ h
    omega
  have hnm : ∀ a, a ∈ (List.range n.toNatClampNeg).map (fun i => H.size + 1 + i) → a ∉ L := fun a ha h => by
    obtain ⟨i, -, rfl⟩ := List.mem_map.mp ha
    have := hlt _ h
    omega
  have hP0 : va_P D cl (X ++ va_pl L f) F.heap := hP.kept (fun k9 x hx => hold x.1 ((hP k9 x hx).lt))
  have hP1 : va_P D cl ((X ++ va_pl L f) ++ [(H.size, .inl (cA, n.toNatClampNeg, .inr (.inr (.inr (.inr (fun i => if i < n.toNatClampNeg then some (H.size + 1 + i) else none))))))]) F.heap := hP0.app (fun k9 x hx => by
    have h0 : k9 < 1 := (List.getElem?_eq_some_iff.mp hx).1
    rw [show k9 = 0 by omega] at hx
    cases hx
    exact f2)
  have hP2 : va_P D cl (((X ++ va_pl L f) ++ [(H.size, .inl (cA, n.toNatClampNeg, .inr (.inr (.inr (.inr (fun i => if i < n.toNatClampNeg then some (H.size + 1 + i) else none))))))]) ++ ((List.range n.toNatClampNeg).map (fun i => H.size + 1 + i)).map (fun a => (a, .inl (cy, z)))) F.heap := hP1.app (fun k9 x hx => by
    obtain ⟨a, ha, rfl⟩ := List.mem_map.mp (List.mem_of_getElem? hx)
    obtain ⟨i, hi, rfl⟩ := List.mem_map.mp ha
    exact hrow i (List.mem_range.mp hi))
  have hD2 : va_D A (((X ++ va_pl L f) ++ [(H.size, .inl (cA, n.toNatClampNeg, .inr (.inr (.inr (.inr (fun i => if i < n.toNatClampNeg then some (H.size + 1 + i) else none))))))]) ++ ((List.range n.toNatClampNeg).map (fun i => H.size + 1 + i)).map (fun a => (a, .inl (cy, z)))) := by
    have hD1 := hD.push (e := .inl (cA, n.toNatClampNeg, .inr (.inr (.inr (.inr (fun i => if i < n.toNatClampNeg then some (H.size + 1 + i) else none)))))) hP rfl (hA _ hS.1)
    generalize hW1 : (X ++ va_pl L f) ++ [(H.size, .inl (cA, n.toNatClampNeg, .inr (.inr (.inr (.inr (fun i => if i < n.toNatClampNeg then some (H.size + 1 + i) else none))))))] = W1 at hD1 hP1 ⊢
    have hle : ∀ (k9 : Nat) (x : Nat × va_E), W1[k9]? = some x → x.1 ≤ H.size := fun k9 x hx => by
      rw [← hW1] at hx
      by_cases hl : k9 < (X ++ va_pl L f).length
      · rw [List.getElem?_append_left hl] at hx
        exact Nat.le_of_lt ((hP k9 x hx).lt)
      · rw [List.getElem?_append_right (by omega)] at hx
        have h0 : k9 - (X ++ va_pl L f).length < 1 := (List.getElem?_eq_some_iff.mp hx).1
        rw [show k9 - (X ++ va_pl L f).length = 0 by omega] at hx
        cases hx
        exact Nat.le_refl _
    have hr : ∀ (k9 : Nat) (x : Nat × va_E), (((List.range n.toNatClampNeg).map (fun i => H.size + 1 + i)).map (fun a => ((a, .inl (cy, z)) : Nat × va_E)))[k9]? = some x → x.1 = H.size + 1 + k9 := fun k9 x hx => by
      rw [List.getElem?_map, List.getElem?_map] at hx
      by_cases h9 : k9 < n.toNatClampNeg
      · rw [List.getElem?_range h9] at hx
        cases hx
        rfl
      · have hn0 : (List.range n.toNatClampNeg)[k9]? = none := List.getElem?_eq_none (by rw [List.length_range]; omega)
        rw [hn0] at hx
        cases hx
    refine ⟨fun i j x y hi hj hxy => ?_, fun k9 x hx => ?_⟩
    · by_cases h1 : i < W1.length <;> by_cases h2 : j < W1.length
      · rw [List.getElem?_append_left h1] at hi
        rw [List.getElem?_append_left h2] at hj
        exact hD1.1 i j x y hi hj hxy
      · rw [List.getElem?_append_left h1] at hi
        rw [List.getElem?_append_right (by omega)] at hj
        have := hle _ _ hi
        have := hr _ _ hj
        omega
      · rw [List.getElem?_append_right (by omega)] at hi
        rw [List.getElem?_append_left h2] at hj
        have := hle _ _ hj
        have := hr _ _ hi
        omega
      · rw [List.getElem?_append_right (by omega)] at hi hj
        have := hr _ _ hi
        have := hr _ _ hj
        omega
    · by_cases h1 : k9 < W1.length
      · rw [List.getElem?_append_left h1] at hx
        exact hD1.2 k9 x hx
      · rw [List.getElem?_append_right (by omega)] at hx
        have := hr _ _ hx
        exact hA _ (by have := hS.1; omega)
  have hAr : ArrOfT s cA (.array ty) := fun N9 z9 => by
    obtain ⟨-, k9, hk9, cm9, hkk9⟩ := (hO 0 0 0).1
    exact ⟨(fun q hq => by cases hq), k9, hk9, cm9, hkk9⟩
  have hK2 : va_K D cl (tys ++ [(cA, .array ty)]) s := ⟨hK.1, fun k9 x hx => by
    by_cases hl : k9 < tys.length
    · rw [List.getElem?_append_left hl] at hx
      exact hK.2 k9 x hx
    · rw [List.getElem?_append_right (by omega)] at hx
      have h0 : k9 - tys.length < 1 := (List.getElem?_eq_some_iff.mp hx).1
      rw [show k9 - tys.length = 0 by omega] at hx
      cases hx
      exact ⟨hAr, fA⟩⟩
  obtain ⟨t, a1, b1⟩ := kk H.size (fun i => H.size + 1 + i) cA F.heap (fun i j _ _ h => by have h9 : H.size + 1 + i = H.size + 1 + j := h; omega) hnl hK2 (by rw [← vr_rows hnm]; exact vr_lay hP2) (by rw [← vr_rows hnm]; exact vr_layD hD2) ⟨by rw [f1]; have := hS.1; omega, fun x h1 h2 => (hold x (Nat.lt_of_lt_of_le h1 hS.1)).trans (hS.2.1 x h1 h2), hS.2.2⟩ F rfl X'
  refine ⟨t, step t ?_, b1⟩
  have e : T.heap.size = H.size := by rw [hT]
  rw [e]
  exact a1
end VGM
/-! ===== END ===== -/
end
section
def RX0 : String := "BeatBench$Bench"
def TX0 : u_T := fun k => match k with
  | 0 => ("BeatBench$Bench", "ring", "I", false)
  | 1 => ("BeatBench$Bench", "many", "I", false)
  | 2 => ("BeatBench$Bench", "ticks", "I", false)
  | 3 => ("BeatBench$Bench", "kinds", "[I", true)
  | 4 => ("BeatBench$Bench", "phases", "[I", true)
  | 5 => ("BeatBench$Bench", "beats", "[I", true)
  | 6 => ("BeatBench$Bench", "sees", "[I", true)
  | 7 => ("BeatBench$Bench", "pushes", "[I", true)
  | 8 => ("BeatBench$Bench", "pushMany", "I", false)
  | 9 => ("BeatBench$Bench", "next", "[I", true)
  | 10 => ("BeatBench$Bench", "line", "[I", true)
  | 11 => ("BeatBench$Bench", "reach", "[I", true)
  | 12 => ("BeatBench$Bench", "walker", "[I", true)
  | _ => ("BeatBench$Bench", "walkerBeats", "[I", true)
def tyX0 : Nat → FieldType := fun k => match k with
  | 0 => .int
  | 1 => .int
  | 2 => .int
  | 3 => .array .int
  | 4 => .array .int
  | 5 => .array .int
  | 6 => .array .int
  | 7 => .array .int
  | 8 => .int
  | 9 => .array .int
  | 10 => .array .int
  | 11 => .array .int
  | 12 => .array .int
  | _ => .array .int
abbrev wsX00 : List Cond := u_ws RX0 TX0 14
theorem nmX0 : ∀ a, a < 14 → ∀ b, b < 14 → a ≠ b → (TX0 a).2.1 ≠ (TX0 b).2.1 := by decide +kernel
theorem tyX0_ok : ∀ k, k < 14 → parseFieldDescriptor (TX0 k).2.2.1 = some (tyX0 k) := by decide +kernel
abbrev cX0_init : ByteArray := prog_2_method_1_code
def yX0_init : MethodName := ⟨RX0, "<init>", "()V"⟩
abbrev cX0_empty : ByteArray := prog_2_method_2_code
def yX0_empty : MethodName := ⟨RX0, "empty", "(I)V"⟩
abbrev cX0_add : ByteArray := prog_2_method_3_code
def yX0_add : MethodName := ⟨RX0, "add", "(II)I"⟩
abbrev cX0_has : ByteArray := prog_2_method_4_code
def yX0_has : MethodName := ⟨RX0, "has", "(I)Z"⟩
abbrev cX0_isPhase : ByteArray := prog_2_method_5_code
def yX0_isPhase : MethodName := ⟨RX0, "isPhase", "(I)Z"⟩
abbrev cX0_isSet : ByteArray := prog_2_method_6_code
def yX0_isSet : MethodName := ⟨RX0, "isSet", "(I)Z"⟩
abbrev cX0_everyone : ByteArray := prog_2_method_7_code
def yX0_everyone : MethodName := ⟨RX0, "everyone", "()I"⟩
abbrev cX0_holds : ByteArray := prog_2_method_8_code
def yX0_holds : MethodName := ⟨RX0, "holds", "(II)Z"⟩
abbrev cX0_setRoad : ByteArray := prog_2_method_9_code
def yX0_setRoad : MethodName := ⟨RX0, "setRoad", "(IIZ)V"⟩
abbrev cX0_setRoads : ByteArray := prog_2_method_10_code
def yX0_setRoads : MethodName := ⟨RX0, "setRoads", "(I)V"⟩
abbrev cX0_allRoads : ByteArray := prog_2_method_11_code
def yX0_allRoads : MethodName := ⟨RX0, "allRoads", "()I"⟩
abbrev cX0_findLeaders : ByteArray := prog_2_method_12_code
def yX0_findLeaders : MethodName := ⟨RX0, "findLeaders", "([I)I"⟩
abbrev cX0_fillReach : ByteArray := prog_2_method_13_code
def yX0_fillReach : MethodName := ⟨RX0, "fillReach", "()V"⟩
abbrev cX0_allLeadBack : ByteArray := prog_2_method_14_code
def yX0_allLeadBack : MethodName := ⟨RX0, "allLeadBack", "(I)Z"⟩
abbrev cX0_tick : ByteArray := prog_2_method_15_code
def yX0_tick : MethodName := ⟨RX0, "tick", "([I[I)V"⟩
abbrev cX0_wrap : ByteArray := prog_2_method_16_code
def yX0_wrap : MethodName := ⟨RX0, "wrap", "(I)I"⟩
abbrev cX0_pullOn : ByteArray := prog_2_method_17_code
def yX0_pullOn : MethodName := ⟨RX0, "pullOn", "(I[I)I"⟩
abbrev cX0_fire : ByteArray := prog_2_method_18_code
def yX0_fire : MethodName := ⟨RX0, "fire", "([I)V"⟩
abbrev cX0_pushAt : ByteArray := prog_2_method_19_code
def yX0_pushAt : MethodName := ⟨RX0, "pushAt", "(I)I"⟩
abbrev cX0_startWalk : ByteArray := prog_2_method_20_code
def yX0_startWalk : MethodName := ⟨RX0, "startWalk", "()V"⟩
abbrev cX0_walk : ByteArray := prog_2_method_21_code
def yX0_walk : MethodName := ⟨RX0, "walk", "()V"⟩
abbrev cX0_inStep : ByteArray := prog_2_method_22_code
def yX0_inStep : MethodName := ⟨RX0, "inStep", "([II)Z"⟩
abbrev cX0_leastArc : ByteArray := prog_2_method_23_code
def yX0_leastArc : MethodName := ⟨RX0, "leastArc", "(I)I"⟩
abbrev cX0_arcFrom : ByteArray := prog_2_method_24_code
def yX0_arcFrom : MethodName := ⟨RX0, "arcFrom", "(II)I"⟩
abbrev cX0_smallStates : ByteArray := prog_2_method_25_code
def yX0_smallStates : MethodName := ⟨RX0, "smallStates", "()I"⟩
abbrev cX0_stateAfter : ByteArray := prog_2_method_26_code
def yX0_stateAfter : MethodName := ⟨RX0, "stateAfter", "(I)I"⟩
abbrev cX0_stateInStep : ByteArray := prog_2_method_27_code
def yX0_stateInStep : MethodName := ⟨RX0, "stateInStep", "(II)Z"⟩
abbrev cX0_setWalker : ByteArray := prog_2_method_28_code
def yX0_setWalker : MethodName := ⟨RX0, "setWalker", "(I)V"⟩
def RX1 : String := "BeatBench$Ends"
def TX1 : u_T := fun k => match k with
  | 0 => ("BeatBench$Ends", "after", "[I", false)
  | 1 => ("BeatBench$Ends", "home", "[I", false)
  | 2 => ("BeatBench$Ends", "basin", "[I", false)
  | 3 => ("BeatBench$Ends", "rows", "[I", false)
  | _ => ("BeatBench$Ends", "many", "I", false)
def tyX1 : Nat → FieldType := fun k => match k with
  | 0 => .array .int
  | 1 => .array .int
  | 2 => .array .int
  | 3 => .array .int
  | _ => .int
abbrev wsX10 : List Cond := u_ws RX1 TX1 5
theorem nmX1 : ∀ a, a < 5 → ∀ b, b < 5 → a ≠ b → (TX1 a).2.1 ≠ (TX1 b).2.1 := by decide +kernel
theorem tyX1_ok : ∀ k, k < 5 → parseFieldDescriptor (TX1 k).2.2.1 = some (tyX1 k) := by decide +kernel
abbrev cX1_init : ByteArray := prog_3_method_1_code
def yX1_init : MethodName := ⟨RX1, "<init>", "()V"⟩
abbrev cX1_follow : ByteArray := prog_3_method_2_code
def yX1_follow : MethodName := ⟨RX1, "follow", "(LBeatBench$Bench;I)V"⟩
abbrev cX1_makeRoom : ByteArray := prog_3_method_3_code
def yX1_makeRoom : MethodName := ⟨RX1, "makeRoom", "(I)V"⟩
abbrev cX1_followFrom : ByteArray := prog_3_method_4_code
def yX1_followFrom : MethodName := ⟨RX1, "followFrom", "(II)V"⟩
abbrev cX1_leastOfRound : ByteArray := prog_3_method_5_code
def yX1_leastOfRound : MethodName := ⟨RX1, "leastOfRound", "(II)I"⟩
abbrev cX1_keep : ByteArray := prog_3_method_6_code
def yX1_keep : MethodName := ⟨RX1, "keep", "(I)V"⟩
abbrev cX1_lengthOfRound : ByteArray := prog_3_method_7_code
def yX1_lengthOfRound : MethodName := ⟨RX1, "lengthOfRound", "(II)I"⟩
abbrev cX1_tell : ByteArray := prog_3_method_8_code
def yX1_tell : MethodName := ⟨RX1, "tell", "(II)I"⟩
abbrev cX1_statesInStep : ByteArray := prog_3_method_9_code
def yX1_statesInStep : MethodName := ⟨RX1, "statesInStep", "(LBeatBench$Bench;II)I"⟩
abbrev cX1_roundInStep : ByteArray := prog_3_method_10_code
def yX1_roundInStep : MethodName := ⟨RX1, "roundInStep", "(LBeatBench$Bench;III)Z"⟩
def RX2 : String := "BeatBench$Sheet"
def TX2 : u_T := fun k => match k with
  | 0 => ("BeatBench$Sheet", "sort", "I", false)
  | 1 => ("BeatBench$Sheet", "length", "I", false)
  | _ => ("BeatBench$Sheet", "cells", "[J", true)
def tyX2 : Nat → FieldType := fun k => match k with
  | 0 => .int
  | 1 => .int
  | _ => .array .long
abbrev wsX20 : List Cond := u_ws RX2 TX2 3
theorem nmX2 : ∀ a, a < 3 → ∀ b, b < 3 → a ≠ b → (TX2 a).2.1 ≠ (TX2 b).2.1 := by decide +kernel
theorem tyX2_ok : ∀ k, k < 3 → parseFieldDescriptor (TX2 k).2.2.1 = some (tyX2 k) := by decide +kernel
abbrev cX2_init : ByteArray := prog_4_method_1_code
def yX2_init : MethodName := ⟨RX2, "<init>", "()V"⟩
abbrev cX2_isMissing : ByteArray := prog_4_method_2_code
def yX2_isMissing : MethodName := ⟨RX2, "isMissing", "()Z"⟩
abbrev cX2_make : ByteArray := prog_4_method_3_code
def yX2_make : MethodName := ⟨RX2, "make", "(II)V"⟩
abbrev cX2_hasPlaces : ByteArray := prog_4_method_4_code
def yX2_hasPlaces : MethodName := ⟨RX2, "hasPlaces", "(II)Z"⟩
abbrev cX2_at : ByteArray := prog_4_method_5_code
def yX2_at : MethodName := ⟨RX2, "at", "(I)J"⟩
abbrev cX2_put : ByteArray := prog_4_method_6_code
def yX2_put : MethodName := ⟨RX2, "put", "(IJ)V"⟩
abbrev cX2_cutToSort : ByteArray := prog_4_method_7_code
def yX2_cutToSort : MethodName := ⟨RX2, "cutToSort", "(J)J"⟩
abbrev cX2_liesWithin : ByteArray := prog_4_method_8_code
def yX2_liesWithin : MethodName := ⟨RX2, "liesWithin", "(IJ)Z"⟩
abbrev cX2_copyInts : ByteArray := prog_4_method_9_code
def yX2_copyInts : MethodName := ⟨RX2, "copyInts", "([II)V"⟩
def RX3 : String := "BeatBench$Spans"
def TX3 : u_T := fun k => match k with
  | 0 => ("BeatBench$Spans", "size", "I", false)
  | 1 => ("BeatBench$Spans", "cells", "[J", true)
  | 2 => ("BeatBench$Spans", "power", "[J", false)
  | 3 => ("BeatBench$Spans", "spare", "[J", false)
  | 4 => ("BeatBench$Spans", "shifted", "[J", true)
  | 5 => ("BeatBench$Spans", "row", "[J", false)
  | 6 => ("BeatBench$Spans", "spareRow", "[J", false)
  | 7 => ("BeatBench$Spans", "back", "[J", true)
  | 8 => ("BeatBench$Spans", "orbit", "[[J", false)
  | 9 => ("BeatBench$Spans", "upper", "J", false)
  | 10 => ("BeatBench$Spans", "lower", "J", false)
  | 11 => ("BeatBench$Spans", "criticalRoads", "I", false)
  | 12 => ("BeatBench$Spans", "againLead", "I", false)
  | _ => ("BeatBench$Spans", "againRound", "I", false)
def tyX3 : Nat → FieldType := fun k => match k with
  | 0 => .int
  | 1 => .array .long
  | 2 => .array .long
  | 3 => .array .long
  | 4 => .array .long
  | 5 => .array .long
  | 6 => .array .long
  | 7 => .array .long
  | 8 => .array (.array .long)
  | 9 => .long
  | 10 => .long
  | 11 => .int
  | 12 => .int
  | _ => .int
abbrev wsX30 : List Cond := u_ws RX3 TX3 14
theorem nmX3 : ∀ a, a < 14 → ∀ b, b < 14 → a ≠ b → (TX3 a).2.1 ≠ (TX3 b).2.1 := by decide +kernel
theorem tyX3_ok : ∀ k, k < 14 → parseFieldDescriptor (TX3 k).2.2.1 = some (tyX3 k) := by decide +kernel
abbrev cX3_init : ByteArray := prog_5_method_1_code
def yX3_init : MethodName := ⟨RX3, "<init>", "()V"⟩
abbrev cX3_empty : ByteArray := prog_5_method_2_code
def yX3_empty : MethodName := ⟨RX3, "empty", "(I)V"⟩
abbrev cX3_has : ByteArray := prog_5_method_3_code
def yX3_has : MethodName := ⟨RX3, "has", "(II)Z"⟩
abbrev cX3_place : ByteArray := prog_5_method_4_code
def yX3_place : MethodName := ⟨RX3, "place", "(II)I"⟩
abbrev cX3_put : ByteArray := prog_5_method_5_code
def yX3_put : MethodName := ⟨RX3, "put", "(IIJ)V"⟩
abbrev cX3_remove : ByteArray := prog_5_method_6_code
def yX3_remove : MethodName := ⟨RX3, "remove", "(II)Z"⟩
abbrev cX3_join : ByteArray := prog_5_method_7_code
def yX3_join : MethodName := ⟨RX3, "join", "(JJ)J"⟩
abbrev cX3_multiply : ByteArray := prog_5_method_8_code
def yX3_multiply : MethodName := ⟨RX3, "multiply", "([J[J[J)V"⟩
abbrev cX3_takeBetter : ByteArray := prog_5_method_9_code
def yX3_takeBetter : MethodName := ⟨RX3, "takeBetter", "(J[JI[JI)V"⟩
abbrev cX3_multiplyPower : ByteArray := prog_5_method_10_code
def yX3_multiplyPower : MethodName := ⟨RX3, "multiplyPower", "([J)V"⟩
abbrev cX3_startRow : ByteArray := prog_5_method_11_code
def yX3_startRow : MethodName := ⟨RX3, "startRow", "(I)V"⟩
abbrev cX3_multiplyRow : ByteArray := prog_5_method_12_code
def yX3_multiplyRow : MethodName := ⟨RX3, "multiplyRow", "([J)V"⟩
abbrev cX3_sumOf : ByteArray := prog_5_method_13_code
def yX3_sumOf : MethodName := ⟨RX3, "sumOf", "(JII)J"⟩
abbrev cX3_longestSum : ByteArray := prog_5_method_14_code
def yX3_longestSum : MethodName := ⟨RX3, "longestSum", "(II)J"⟩
abbrev cX3_findPace : ByteArray := prog_5_method_15_code
def yX3_findPace : MethodName := ⟨RX3, "findPace", "()Z"⟩
abbrev cX3_takeRounds : ByteArray := prog_5_method_16_code
def yX3_takeRounds : MethodName := ⟨RX3, "takeRounds", "(I)V"⟩
abbrev cX3_reducePace : ByteArray := prog_5_method_17_code
def yX3_reducePace : MethodName := ⟨RX3, "reducePace", "()V"⟩
abbrev cX3_shiftByPace : ByteArray := prog_5_method_18_code
def yX3_shiftByPace : MethodName := ⟨RX3, "shiftByPace", "()V"⟩
abbrev cX3_traceCritical : ByteArray := prog_5_method_19_code
def yX3_traceCritical : MethodName := ⟨RX3, "traceCritical", "([I)I"⟩
abbrev cX3_fillBack : ByteArray := prog_5_method_20_code
def yX3_fillBack : MethodName := ⟨RX3, "fillBack", "(I)V"⟩
abbrev cX3_writeRound : ByteArray := prog_5_method_21_code
def yX3_writeRound : MethodName := ⟨RX3, "writeRound", "(I[I)V"⟩
abbrev cX3_leastNext : ByteArray := prog_5_method_22_code
def yX3_leastNext : MethodName := ⟨RX3, "leastNext", "(II)I"⟩
abbrev cX3_findAgain : ByteArray := prog_5_method_23_code
def yX3_findAgain : MethodName := ⟨RX3, "findAgain", "()Z"⟩
abbrev cX3_areAlike : ByteArray := prog_5_method_24_code
def yX3_areAlike : MethodName := ⟨RX3, "areAlike", "([J[J)Z"⟩
def RX4 : String := "BeatBench$Trail"
def TX4 : u_T := fun k => match k with
  | 0 => ("BeatBench$Trail", "heads", "[I", false)
  | 1 => ("BeatBench$Trail", "links", "[I", false)
  | 2 => ("BeatBench$Trail", "words", "[J", false)
  | 3 => ("BeatBench$Trail", "wordsAStep", "I", false)
  | _ => ("BeatBench$Trail", "length", "I", false)
def tyX4 : Nat → FieldType := fun k => match k with
  | 0 => .array .int
  | 1 => .array .int
  | 2 => .array .long
  | 3 => .int
  | _ => .int
abbrev wsX40 : List Cond := u_ws RX4 TX4 5
theorem nmX4 : ∀ a, a < 5 → ∀ b, b < 5 → a ≠ b → (TX4 a).2.1 ≠ (TX4 b).2.1 := by decide +kernel
theorem tyX4_ok : ∀ k, k < 5 → parseFieldDescriptor (TX4 k).2.2.1 = some (tyX4 k) := by decide +kernel
abbrev cX4_init : ByteArray := prog_6_method_1_code
def yX4_init : MethodName := ⟨RX4, "<init>", "()V"⟩
abbrev cX4_start : ByteArray := prog_6_method_2_code
def yX4_start : MethodName := ⟨RX4, "start", "(I)V"⟩
abbrev cX4_stepOf : ByteArray := prog_6_method_3_code
def yX4_stepOf : MethodName := ⟨RX4, "stepOf", "([II)I"⟩
abbrev cX4_makeRoom : ByteArray := prog_6_method_4_code
def yX4_makeRoom : MethodName := ⟨RX4, "makeRoom", "()V"⟩
abbrev cX4_pack : ByteArray := prog_6_method_5_code
def yX4_pack : MethodName := ⟨RX4, "pack", "([II)V"⟩
abbrev cX4_headOfLast : ByteArray := prog_6_method_6_code
def yX4_headOfLast : MethodName := ⟨RX4, "headOfLast", "()I"⟩
abbrev cX4_isLikeLast : ByteArray := prog_6_method_7_code
def yX4_isLikeLast : MethodName := ⟨RX4, "isLikeLast", "(I)Z"⟩
def RX5 : String := "BeatBench"
def TX5 : u_T := fun k => match k with
  | 0 => ("BeatBench", "status", "I", false)
  | 1 => ("BeatBench", "sheets", "[LBeatBench$Sheet;", true)
  | 2 => ("BeatBench", "bench", "LBeatBench$Bench;", true)
  | 3 => ("BeatBench", "trail", "LBeatBench$Trail;", true)
  | 4 => ("BeatBench", "kept", "LBeatBench$Ends;", true)
  | 5 => ("BeatBench", "spans", "LBeatBench$Spans;", true)
  | 6 => ("BeatBench", "leaders", "[I", true)
  | 7 => ("BeatBench", "leadersKept", "I", false)
  | 8 => ("BeatBench", "outBytes", "[I", true)
  | _ => ("BeatBench", "outLength", "I", false)
def tyX5 : Nat → FieldType := fun k => match k with
  | 0 => .int
  | 1 => .array (.object "BeatBench$Sheet")
  | 2 => .object "BeatBench$Bench"
  | 3 => .object "BeatBench$Trail"
  | 4 => .object "BeatBench$Ends"
  | 5 => .object "BeatBench$Spans"
  | 6 => .array .int
  | 7 => .int
  | 8 => .array .int
  | _ => .int
abbrev wsX50 : List Cond := u_ws RX5 TX5 10
theorem nmX5 : ∀ a, a < 10 → ∀ b, b < 10 → a ≠ b → (TX5 a).2.1 ≠ (TX5 b).2.1 := by decide +kernel
theorem tyX5_ok : ∀ k, k < 10 → parseFieldDescriptor (TX5 k).2.2.1 = some (tyX5 k) := by decide +kernel
abbrev cX5_init : ByteArray := prog_1_method_1_code
def yX5_init : MethodName := ⟨RX5, "<init>", "()V"⟩
abbrev cX5_status : ByteArray := prog_1_method_2_code
def yX5_status : MethodName := ⟨RX5, "status", "()I"⟩
abbrev cX5_sheet : ByteArray := prog_1_method_3_code
def yX5_sheet : MethodName := ⟨RX5, "sheet", "(III)Z"⟩
abbrev cX5_write : ByteArray := prog_1_method_4_code
def yX5_write : MethodName := ⟨RX5, "write", "(IIJ)Z"⟩
abbrev cX5_read : ByteArray := prog_1_method_5_code
def yX5_read : MethodName := ⟨RX5, "read", "(II)J"⟩
abbrev cX5_pour : ByteArray := prog_1_method_6_code
def yX5_pour : MethodName := ⟨RX5, "pour", "(IIIII)Z"⟩
abbrev cX5_ring : ByteArray := prog_1_method_7_code
def yX5_ring : MethodName := ⟨RX5, "ring", "(I)Z"⟩
abbrev cX5_beater : ByteArray := prog_1_method_8_code
def yX5_beater : MethodName := ⟨RX5, "beater", "(II)I"⟩
abbrev cX5_kind : ByteArray := prog_1_method_9_code
def yX5_kind : MethodName := ⟨RX5, "kind", "(II)Z"⟩
abbrev cX5_turn : ByteArray := prog_1_method_10_code
def yX5_turn : MethodName := ⟨RX5, "turn", "(II)Z"⟩
abbrev cX5_phases : ByteArray := prog_1_method_11_code
def yX5_phases : MethodName := ⟨RX5, "phases", "(I)Z"⟩
abbrev cX5_road : ByteArray := prog_1_method_12_code
def yX5_road : MethodName := ⟨RX5, "road", "(IIZ)Z"⟩
abbrev cX5_roads : ByteArray := prog_1_method_13_code
def yX5_roads : MethodName := ⟨RX5, "roads", "(I)Z"⟩
abbrev cX5_push : ByteArray := prog_1_method_14_code
def yX5_push : MethodName := ⟨RX5, "push", "(II)Z"⟩
abbrev cX5_clear : ByteArray := prog_1_method_15_code
def yX5_clear : MethodName := ⟨RX5, "clear", "()Z"⟩
abbrev cX5_go : ByteArray := prog_1_method_16_code
def yX5_go : MethodName := ⟨RX5, "go", "(I)Z"⟩
abbrev cX5_count : ByteArray := prog_1_method_17_code
def yX5_count : MethodName := ⟨RX5, "count", "(I)I"⟩
abbrev cX5_beats : ByteArray := prog_1_method_18_code
def yX5_beats : MethodName := ⟨RX5, "beats", "(II)I"⟩
abbrev cX5_step : ByteArray := prog_1_method_19_code
def yX5_step : MethodName := ⟨RX5, "step", "(I)I"⟩
abbrev cX5_arc : ByteArray := prog_1_method_20_code
def yX5_arc : MethodName := ⟨RX5, "arc", "(I)I"⟩
abbrev cX5_round : ByteArray := prog_1_method_21_code
def yX5_round : MethodName := ⟨RX5, "round", "(I)I"⟩
abbrev cX5_meet : ByteArray := prog_1_method_22_code
def yX5_meet : MethodName := ⟨RX5, "meet", "(I)I"⟩
abbrev cX5_ends : ByteArray := prog_1_method_23_code
def yX5_ends : MethodName := ⟨RX5, "ends", "()I"⟩
abbrev cX5_end : ByteArray := prog_1_method_24_code
def yX5_end : MethodName := ⟨RX5, "end", "(II)I"⟩
abbrev cX5_sure : ByteArray := prog_1_method_25_code
def yX5_sure : MethodName := ⟨RX5, "sure", "(I)I"⟩
abbrev cX5_lead : ByteArray := prog_1_method_26_code
def yX5_lead : MethodName := ⟨RX5, "lead", "()I"⟩
abbrev cX5_leader : ByteArray := prog_1_method_27_code
def yX5_leader : MethodName := ⟨RX5, "leader", "(I)I"⟩
abbrev cX5_table : ByteArray := prog_1_method_28_code
def yX5_table : MethodName := ⟨RX5, "table", "(I)Z"⟩
abbrev cX5_span : ByteArray := prog_1_method_29_code
def yX5_span : MethodName := ⟨RX5, "span", "(III)Z"⟩
abbrev cX5_cut : ByteArray := prog_1_method_30_code
def yX5_cut : MethodName := ⟨RX5, "cut", "(II)Z"⟩
abbrev cX5_pace : ByteArray := prog_1_method_31_code
def yX5_pace : MethodName := ⟨RX5, "pace", "(I)J"⟩
abbrev cX5_critical : ByteArray := prog_1_method_32_code
def yX5_critical : MethodName := ⟨RX5, "critical", "()I"⟩
abbrev cX5_sums : ByteArray := prog_1_method_33_code
def yX5_sums : MethodName := ⟨RX5, "sums", "(JII)J"⟩
abbrev cX5_longest : ByteArray := prog_1_method_34_code
def yX5_longest : MethodName := ⟨RX5, "longest", "(II)J"⟩
abbrev cX5_again : ByteArray := prog_1_method_35_code
def yX5_again : MethodName := ⟨RX5, "again", "(I)I"⟩
abbrev cX5_out : ByteArray := prog_1_method_36_code
def yX5_out : MethodName := ⟨RX5, "out", "(I)I"⟩
abbrev cX5_accept : ByteArray := prog_1_method_37_code
def yX5_accept : MethodName := ⟨RX5, "accept", "()Z"⟩
abbrev cX5_refuse : ByteArray := prog_1_method_38_code
def yX5_refuse : MethodName := ⟨RX5, "refuse", "(I)Z"⟩
abbrev cX5_answer : ByteArray := prog_1_method_39_code
def yX5_answer : MethodName := ⟨RX5, "answer", "(I)I"⟩
abbrev cX5_lack : ByteArray := prog_1_method_40_code
def yX5_lack : MethodName := ⟨RX5, "lack", "(I)I"⟩
abbrev cX5_sumOrNone : ByteArray := prog_1_method_41_code
def yX5_sumOrNone : MethodName := ⟨RX5, "sumOrNone", "(J)J"⟩
abbrev cX5_sheetAt : ByteArray := prog_1_method_42_code
def yX5_sheetAt : MethodName := ⟨RX5, "sheetAt", "(I)LBeatBench$Sheet;"⟩
abbrev cX5_isKind : ByteArray := prog_1_method_43_code
def yX5_isKind : MethodName := ⟨RX5, "isKind", "(I)Z"⟩
def RX6 : String := "BeatBenchModel"
def TX6 : u_T := fun k => match k with
  | 0 => ("BeatBenchModel", "status", "I", false)
  | 1 => ("BeatBenchModel", "thrown", "I", false)
  | 2 => ("BeatBenchModel", "sheetSort", "[I", true)
  | 3 => ("BeatBenchModel", "sheetMany", "[I", true)
  | 4 => ("BeatBenchModel", "numbers", "[J", true)
  | 5 => ("BeatBenchModel", "ring", "I", false)
  | 6 => ("BeatBenchModel", "beaters", "I", false)
  | 7 => ("BeatBenchModel", "ticks", "I", false)
  | 8 => ("BeatBenchModel", "pushes", "I", false)
  | 9 => ("BeatBenchModel", "kind", "[I", true)
  | 10 => ("BeatBenchModel", "phase", "[I", true)
  | 11 => ("BeatBenchModel", "push", "[I", true)
  | 12 => ("BeatBenchModel", "beats", "[J", true)
  | 13 => ("BeatBenchModel", "sees", "[Z", true)
  | 14 => ("BeatBenchModel", "then", "[I", true)
  | 15 => ("BeatBenchModel", "line", "[I", true)
  | 16 => ("BeatBenchModel", "inLine", "[Z", true)
  | 17 => ("BeatBenchModel", "didBeat", "[Z", true)
  | 18 => ("BeatBenchModel", "now", "[I", true)
  | 19 => ("BeatBenchModel", "hare", "[I", true)
  | 20 => ("BeatBenchModel", "tortoise", "[I", true)
  | 21 => ("BeatBenchModel", "mark", "[I", true)
  | 22 => ("BeatBenchModel", "next", "[I", true)
  | 23 => ("BeatBenchModel", "endOf", "[I", true)
  | 24 => ("BeatBenchModel", "endLeast", "[I", true)
  | 25 => ("BeatBenchModel", "endSize", "[I", true)
  | 26 => ("BeatBenchModel", "endBasin", "[I", true)
  | 27 => ("BeatBenchModel", "endMany", "I", false)
  | 28 => ("BeatBenchModel", "leadMany", "I", false)
  | 29 => ("BeatBenchModel", "lead", "[I", true)
  | 30 => ("BeatBenchModel", "size", "I", false)
  | 31 => ("BeatBenchModel", "span", "[J", true)
  | 32 => ("BeatBenchModel", "one", "[J", true)
  | 33 => ("BeatBenchModel", "two", "[J", true)
  | 34 => ("BeatBenchModel", "product", "[J", true)
  | 35 => ("BeatBenchModel", "powers", "[J", true)
  | 36 => ("BeatBenchModel", "paceTop", "J", false)
  | 37 => ("BeatBenchModel", "paceLow", "J", false)
  | 38 => ("BeatBenchModel", "out", "[B", true)
  | 39 => ("BeatBenchModel", "outs", "I", false)
  | 40 => ("BeatBenchModel", "roundLead", "I", false)
  | 41 => ("BeatBenchModel", "roundMany", "I", false)
  | 42 => ("BeatBenchModel", "color", "[I", true)
  | 43 => ("BeatBenchModel", "foundLeast", "[I", true)
  | _ => ("BeatBenchModel", "reach", "[I", true)
def tyX6 : Nat → FieldType := fun k => match k with
  | 0 => .int
  | 1 => .int
  | 2 => .array .int
  | 3 => .array .int
  | 4 => .array .long
  | 5 => .int
  | 6 => .int
  | 7 => .int
  | 8 => .int
  | 9 => .array .int
  | 10 => .array .int
  | 11 => .array .int
  | 12 => .array .long
  | 13 => .array .boolean
  | 14 => .array .int
  | 15 => .array .int
  | 16 => .array .boolean
  | 17 => .array .boolean
  | 18 => .array .int
  | 19 => .array .int
  | 20 => .array .int
  | 21 => .array .int
  | 22 => .array .int
  | 23 => .array .int
  | 24 => .array .int
  | 25 => .array .int
  | 26 => .array .int
  | 27 => .int
  | 28 => .int
  | 29 => .array .int
  | 30 => .int
  | 31 => .array .long
  | 32 => .array .long
  | 33 => .array .long
  | 34 => .array .long
  | 35 => .array .long
  | 36 => .long
  | 37 => .long
  | 38 => .array .byte
  | 39 => .int
  | 40 => .int
  | 41 => .int
  | 42 => .array .int
  | 43 => .array .int
  | _ => .array .int
abbrev wsX60 : List Cond := u_ws RX6 TX6 45
theorem nmX6 : ∀ a, a < 45 → ∀ b, b < 45 → a ≠ b → (TX6 a).2.1 ≠ (TX6 b).2.1 := by decide +kernel
theorem tyX6_ok : ∀ k, k < 45 → parseFieldDescriptor (TX6 k).2.2.1 = some (tyX6 k) := by decide +kernel
abbrev cX6_init : ByteArray := prog_8_method_1_code
def yX6_init : MethodName := ⟨RX6, "<init>", "()V"⟩
abbrev cX6_status : ByteArray := prog_8_method_3_code
def yX6_status : MethodName := ⟨RX6, "status", "()I"⟩
abbrev cX6_refuse : ByteArray := prog_8_method_4_code
def yX6_refuse : MethodName := ⟨RX6, "refuse", "(I)I"⟩
abbrev cX6_no : ByteArray := prog_8_method_5_code
def yX6_no : MethodName := ⟨RX6, "no", "(I)Z"⟩
abbrev cX6_cut : ByteArray := prog_8_method_6_code
def yX6_cut : MethodName := ⟨RX6, "cut", "(IJ)J"⟩
abbrev cX6_sheet : ByteArray := prog_8_method_7_code
def yX6_sheet : MethodName := ⟨RX6, "sheet", "(III)Z"⟩
abbrev cX6_sheeted : ByteArray := prog_8_method_8_code
def yX6_sheeted : MethodName := ⟨RX6, "sheeted", "(I)I"⟩
abbrev cX6_placed : ByteArray := prog_8_method_9_code
def yX6_placed : MethodName := ⟨RX6, "placed", "(II)I"⟩
abbrev cX6_write : ByteArray := prog_8_method_10_code
def yX6_write : MethodName := ⟨RX6, "write", "(IIJ)Z"⟩
abbrev cX6_read : ByteArray := prog_8_method_11_code
def yX6_read : MethodName := ⟨RX6, "read", "(II)J"⟩
abbrev cX6_pour : ByteArray := prog_8_method_12_code
def yX6_pour : MethodName := ⟨RX6, "pour", "(IIIII)Z"⟩
abbrev cX6_ring : ByteArray := prog_8_method_13_code
def yX6_ring : MethodName := ⟨RX6, "ring", "(I)Z"⟩
abbrev cX6_clears : ByteArray := prog_8_method_14_code
def yX6_clears : MethodName := ⟨RX6, "clears", "()V"⟩
abbrev cX6_isBeater : ByteArray := prog_8_method_15_code
def yX6_isBeater : MethodName := ⟨RX6, "isBeater", "(I)Z"⟩
abbrev cX6_isPhase : ByteArray := prog_8_method_16_code
def yX6_isPhase : MethodName := ⟨RX6, "isPhase", "(J)Z"⟩
abbrev cX6_beater : ByteArray := prog_8_method_17_code
def yX6_beater : MethodName := ⟨RX6, "beater", "(II)I"⟩
abbrev cX6_kind : ByteArray := prog_8_method_18_code
def yX6_kind : MethodName := ⟨RX6, "kind", "(II)Z"⟩
abbrev cX6_turn : ByteArray := prog_8_method_19_code
def yX6_turn : MethodName := ⟨RX6, "turn", "(II)Z"⟩
abbrev cX6_phases : ByteArray := prog_8_method_20_code
def yX6_phases : MethodName := ⟨RX6, "phases", "(I)Z"⟩
abbrev cX6_road : ByteArray := prog_8_method_21_code
def yX6_road : MethodName := ⟨RX6, "road", "(IIZ)Z"⟩
abbrev cX6_roads : ByteArray := prog_8_method_22_code
def yX6_roads : MethodName := ⟨RX6, "roads", "(I)Z"⟩
abbrev cX6_push : ByteArray := prog_8_method_23_code
def yX6_push : MethodName := ⟨RX6, "push", "(II)Z"⟩
abbrev cX6_clear : ByteArray := prog_8_method_24_code
def yX6_clear : MethodName := ⟨RX6, "clear", "()Z"⟩
abbrev cX6_pulled : ByteArray := prog_8_method_25_code
def yX6_pulled : MethodName := ⟨RX6, "pulled", "([II)I"⟩
abbrev cX6_tick : ByteArray := prog_8_method_26_code
def yX6_tick : MethodName := ⟨RX6, "tick", "([I)V"⟩
abbrev cX6_go : ByteArray := prog_8_method_27_code
def yX6_go : MethodName := ⟨RX6, "go", "(I)Z"⟩
abbrev cX6_count : ByteArray := prog_8_method_28_code
def yX6_count : MethodName := ⟨RX6, "count", "(I)I"⟩
abbrev cX6_seenBy : ByteArray := prog_8_method_29_code
def yX6_seenBy : MethodName := ⟨RX6, "seenBy", "(I)I"⟩
abbrev cX6_beats : ByteArray := prog_8_method_30_code
def yX6_beats : MethodName := ⟨RX6, "beats", "(II)I"⟩
abbrev cX6_isSet : ByteArray := prog_8_method_31_code
def yX6_isSet : MethodName := ⟨RX6, "isSet", "(I)Z"⟩
abbrev cX6_isInStep : ByteArray := prog_8_method_32_code
def yX6_isInStep : MethodName := ⟨RX6, "isInStep", "([II)Z"⟩
abbrev cX6_step : ByteArray := prog_8_method_33_code
def yX6_step : MethodName := ⟨RX6, "step", "(I)I"⟩
abbrev cX6_arc : ByteArray := prog_8_method_34_code
def yX6_arc : MethodName := ⟨RX6, "arc", "(I)I"⟩
abbrev cX6_begin : ByteArray := prog_8_method_35_code
def yX6_begin : MethodName := ⟨RX6, "begin", "([I)V"⟩
abbrev cX6_isLike : ByteArray := prog_8_method_36_code
def yX6_isLike : MethodName := ⟨RX6, "isLike", "([I[I)Z"⟩
abbrev cX6_rounds : ByteArray := prog_8_method_37_code
def yX6_rounds : MethodName := ⟨RX6, "rounds", "()Z"⟩
abbrev cX6_round : ByteArray := prog_8_method_38_code
def yX6_round : MethodName := ⟨RX6, "round", "(I)I"⟩
abbrev cX6_meet : ByteArray := prog_8_method_39_code
def yX6_meet : MethodName := ⟨RX6, "meet", "(I)I"⟩
abbrev cX6_states : ByteArray := prog_8_method_40_code
def yX6_states : MethodName := ⟨RX6, "states", "()I"⟩
abbrev cX6_stateTo : ByteArray := prog_8_method_41_code
def yX6_stateTo : MethodName := ⟨RX6, "stateTo", "(I[I)V"⟩
abbrev cX6_numberOf : ByteArray := prog_8_method_42_code
def yX6_numberOf : MethodName := ⟨RX6, "numberOf", "([I)I"⟩
abbrev cX6_fillEnds : ByteArray := prog_8_method_43_code
def yX6_fillEnds : MethodName := ⟨RX6, "fillEnds", "(I)V"⟩
abbrev cX6_ends : ByteArray := prog_8_method_44_code
def yX6_ends : MethodName := ⟨RX6, "ends", "()I"⟩
abbrev cX6_end : ByteArray := prog_8_method_45_code
def yX6_end : MethodName := ⟨RX6, "end", "(II)I"⟩
abbrev cX6_sure : ByteArray := prog_8_method_46_code
def yX6_sure : MethodName := ⟨RX6, "sure", "(I)I"⟩
abbrev cX6_lead : ByteArray := prog_8_method_47_code
def yX6_lead : MethodName := ⟨RX6, "lead", "()I"⟩
abbrev cX6_leader : ByteArray := prog_8_method_48_code
def yX6_leader : MethodName := ⟨RX6, "leader", "(I)I"⟩
abbrev cX6_table : ByteArray := prog_8_method_49_code
def yX6_table : MethodName := ⟨RX6, "table", "(I)Z"⟩
abbrev cX6_isIn : ByteArray := prog_8_method_50_code
def yX6_isIn : MethodName := ⟨RX6, "isIn", "(II)Z"⟩
abbrev cX6_span : ByteArray := prog_8_method_51_code
def yX6_span : MethodName := ⟨RX6, "span", "(III)Z"⟩
abbrev cX6_cut_ : ByteArray := prog_8_method_52_code
def yX6_cut_ : MethodName := ⟨RX6, "cut", "(II)Z"⟩
abbrev cX6_multiply : ByteArray := prog_8_method_53_code
def yX6_multiply : MethodName := ⟨RX6, "multiply", "([JI[JI[JII)V"⟩
abbrev cX6_unit : ByteArray := prog_8_method_54_code
def yX6_unit : MethodName := ⟨RX6, "unit", "([JI)V"⟩
abbrev cX6_fillPowers : ByteArray := prog_8_method_55_code
def yX6_fillPowers : MethodName := ⟨RX6, "fillPowers", "(II)V"⟩
abbrev cX6_common : ByteArray := prog_8_method_56_code
def yX6_common : MethodName := ⟨RX6, "common", "(JJ)J"⟩
abbrev cX6_paces : ByteArray := prog_8_method_57_code
def yX6_paces : MethodName := ⟨RX6, "paces", "()Z"⟩
abbrev cX6_pace : ByteArray := prog_8_method_58_code
def yX6_pace : MethodName := ⟨RX6, "pace", "(I)J"⟩
abbrev cX6_critical : ByteArray := prog_8_method_59_code
def yX6_critical : MethodName := ⟨RX6, "critical", "()I"⟩
abbrev cX6_isPace : ByteArray := prog_8_method_60_code
def yX6_isPace : MethodName := ⟨RX6, "isPace", "(JI)Z"⟩
abbrev cX6_goes : ByteArray := prog_8_method_61_code
def yX6_goes : MethodName := ⟨RX6, "goes", "(IIIIJ)Z"⟩
abbrev cX6_sums : ByteArray := prog_8_method_62_code
def yX6_sums : MethodName := ⟨RX6, "sums", "(JII)J"⟩
abbrev cX6_longest : ByteArray := prog_8_method_63_code
def yX6_longest : MethodName := ⟨RX6, "longest", "(II)J"⟩
abbrev cX6_again : ByteArray := prog_8_method_64_code
def yX6_again : MethodName := ⟨RX6, "again", "(I)I"⟩
abbrev cX6_isAgain : ByteArray := prog_8_method_65_code
def yX6_isAgain : MethodName := ⟨RX6, "isAgain", "(II)Z"⟩
abbrev cX6_out : ByteArray := prog_8_method_66_code
def yX6_out : MethodName := ⟨RX6, "out", "(I)I"⟩
def RJx8e188 : String := "java/lang/Cloneable"
def RJ6 : String := "java/lang/Integer"
abbrev cJ6_numberOfTrailingZeros_0f7a4 : ByteArray := prog_11_method_48_code
def yJ6_numberOfTrailingZeros_0f7a4 : MethodName := ⟨RJ6, "numberOfTrailingZeros", "(I)I"⟩
abbrev cJ6_bitCount_0f7a4 : ByteArray := prog_11_method_49_code
def yJ6_bitCount_0f7a4 : MethodName := ⟨RJ6, "bitCount", "(I)I"⟩
def RJ9 : String := "java/lang/Math"
abbrev cJ9_abs_067f4 : ByteArray := prog_12_method_61_code
def yJ9_abs_067f4 : MethodName := ⟨RJ9, "abs", "(J)J"⟩
abbrev cJ9_max_7cf53 : ByteArray := prog_12_method_65_code
def yJ9_max_7cf53 : MethodName := ⟨RJ9, "max", "(II)I"⟩
abbrev cJ9_max_f86c9 : ByteArray := prog_12_method_66_code
def yJ9_max_f86c9 : MethodName := ⟨RJ9, "max", "(JJ)J"⟩
abbrev cJ9_min_7cf53 : ByteArray := prog_12_method_69_code
def yJ9_min_7cf53 : MethodName := ⟨RJ9, "min", "(II)I"⟩
def RJ0 : String := "java/lang/String"
def RJ10 : String := "java/lang/System"
def RJ7 : String := "java/util/Arrays"
abbrev cJ7_fill_d0a16 : ByteArray := prog_17_method_101_code
def yJ7_fill_d0a16 : MethodName := ⟨RJ7, "fill", "([JJ)V"⟩
abbrev cJ7_fill_53178 : ByteArray := prog_17_method_103_code
def yJ7_fill_53178 : MethodName := ⟨RJ7, "fill", "([II)V"⟩
abbrev cJ7_copyOf_59c91 : ByteArray := prog_17_method_123_code
def yJ7_copyOf_59c91 : MethodName := ⟨RJ7, "copyOf", "([II)[I"⟩
abbrev cJ7_copyOf_c38d5 : ByteArray := prog_17_method_124_code
def yJ7_copyOf_c38d5 : MethodName := ⟨RJ7, "copyOf", "([JI)[J"⟩
def RL : String := "BeatBenchLaw"
abbrev cL_out : ByteArray := method_3_code
def yL_out : MethodName := ⟨RL, "out", "(LBeatBench;I[J)I"⟩
abbrev cL_law : ByteArray := code
def yL_law : MethodName := ⟨RL, "law", "([I)Z"⟩
abbrev vwCl : List vw_C := [(RX0, TX0, 14), (RX1, TX1, 5), (RX2, TX2, 3), (RX3, TX3, 14), (RX4, TX4, 5), (RX5, TX5, 10), (RX6, TX6, 45)]
end
section
theorem dJ6_numberOfTrailingZeros_0f7a4_0 : decode cJ6_numberOfTrailingZeros_0f7a4 0 = .ok (.iload_n 0, 1) := by decide +kernel
theorem dJ6_numberOfTrailingZeros_0f7a4_1 : decode cJ6_numberOfTrailingZeros_0f7a4 1 = .ok (.iconst (-1), 1) := by decide +kernel
theorem dJ6_numberOfTrailingZeros_0f7a4_2 : decode cJ6_numberOfTrailingZeros_0f7a4 2 = .ok (.ixor, 1) := by decide +kernel
theorem dJ6_numberOfTrailingZeros_0f7a4_3 : decode cJ6_numberOfTrailingZeros_0f7a4 3 = .ok (.iload_n 0, 1) := by decide +kernel
theorem dJ6_numberOfTrailingZeros_0f7a4_4 : decode cJ6_numberOfTrailingZeros_0f7a4 4 = .ok (.iconst 1, 1) := by decide +kernel
theorem dJ6_numberOfTrailingZeros_0f7a4_5 : decode cJ6_numberOfTrailingZeros_0f7a4 5 = .ok (.isub, 1) := by decide +kernel
theorem dJ6_numberOfTrailingZeros_0f7a4_6 : decode cJ6_numberOfTrailingZeros_0f7a4 6 = .ok (.iand, 1) := by decide +kernel
theorem dJ6_numberOfTrailingZeros_0f7a4_7 : decode cJ6_numberOfTrailingZeros_0f7a4 7 = .ok (.istore_n 0, 1) := by decide +kernel
theorem dJ6_numberOfTrailingZeros_0f7a4_8 : decode cJ6_numberOfTrailingZeros_0f7a4 8 = .ok (.iload_n 0, 1) := by decide +kernel
theorem dJ6_numberOfTrailingZeros_0f7a4_9 : decode cJ6_numberOfTrailingZeros_0f7a4 9 = .ok (.ifCond .gt 8, 3) := by decide +kernel
theorem dJ6_numberOfTrailingZeros_0f7a4_12 : decode cJ6_numberOfTrailingZeros_0f7a4 12 = .ok (.iload_n 0, 1) := by decide +kernel
theorem dJ6_numberOfTrailingZeros_0f7a4_13 : decode cJ6_numberOfTrailingZeros_0f7a4 13 = .ok (.bipush 32, 2) := by decide +kernel
theorem dJ6_numberOfTrailingZeros_0f7a4_15 : decode cJ6_numberOfTrailingZeros_0f7a4 15 = .ok (.iand, 1) := by decide +kernel
theorem dJ6_numberOfTrailingZeros_0f7a4_16 : decode cJ6_numberOfTrailingZeros_0f7a4 16 = .ok (.ireturn, 1) := by decide +kernel
theorem dJ6_numberOfTrailingZeros_0f7a4_17 : decode cJ6_numberOfTrailingZeros_0f7a4 17 = .ok (.iconst 1, 1) := by decide +kernel
theorem dJ6_numberOfTrailingZeros_0f7a4_18 : decode cJ6_numberOfTrailingZeros_0f7a4 18 = .ok (.istore_n 1, 1) := by decide +kernel
theorem dJ6_numberOfTrailingZeros_0f7a4_19 : decode cJ6_numberOfTrailingZeros_0f7a4 19 = .ok (.iload_n 0, 1) := by decide +kernel
theorem dJ6_numberOfTrailingZeros_0f7a4_20 : decode cJ6_numberOfTrailingZeros_0f7a4 20 = .ok (.ldc_w 264, 3) := by decide +kernel
theorem dJ6_numberOfTrailingZeros_0f7a4_23 : decode cJ6_numberOfTrailingZeros_0f7a4 23 = .ok (.if_icmp .le 11, 3) := by decide +kernel
theorem dJ6_numberOfTrailingZeros_0f7a4_26 : decode cJ6_numberOfTrailingZeros_0f7a4 26 = .ok (.iinc 1 16, 3) := by decide +kernel
theorem dJ6_numberOfTrailingZeros_0f7a4_29 : decode cJ6_numberOfTrailingZeros_0f7a4 29 = .ok (.iload_n 0, 1) := by decide +kernel
theorem dJ6_numberOfTrailingZeros_0f7a4_30 : decode cJ6_numberOfTrailingZeros_0f7a4 30 = .ok (.bipush 16, 2) := by decide +kernel
theorem dJ6_numberOfTrailingZeros_0f7a4_32 : decode cJ6_numberOfTrailingZeros_0f7a4 32 = .ok (.iushr, 1) := by decide +kernel
theorem dJ6_numberOfTrailingZeros_0f7a4_33 : decode cJ6_numberOfTrailingZeros_0f7a4 33 = .ok (.istore_n 0, 1) := by decide +kernel
theorem dJ6_numberOfTrailingZeros_0f7a4_34 : decode cJ6_numberOfTrailingZeros_0f7a4 34 = .ok (.iload_n 0, 1) := by decide +kernel
theorem dJ6_numberOfTrailingZeros_0f7a4_35 : decode cJ6_numberOfTrailingZeros_0f7a4 35 = .ok (.sipush 256, 3) := by decide +kernel
theorem dJ6_numberOfTrailingZeros_0f7a4_38 : decode cJ6_numberOfTrailingZeros_0f7a4 38 = .ok (.if_icmp .le 11, 3) := by decide +kernel
theorem dJ6_numberOfTrailingZeros_0f7a4_41 : decode cJ6_numberOfTrailingZeros_0f7a4 41 = .ok (.iinc 1 8, 3) := by decide +kernel
theorem dJ6_numberOfTrailingZeros_0f7a4_44 : decode cJ6_numberOfTrailingZeros_0f7a4 44 = .ok (.iload_n 0, 1) := by decide +kernel
theorem dJ6_numberOfTrailingZeros_0f7a4_45 : decode cJ6_numberOfTrailingZeros_0f7a4 45 = .ok (.bipush 8, 2) := by decide +kernel
theorem dJ6_numberOfTrailingZeros_0f7a4_47 : decode cJ6_numberOfTrailingZeros_0f7a4 47 = .ok (.iushr, 1) := by decide +kernel
theorem dJ6_numberOfTrailingZeros_0f7a4_48 : decode cJ6_numberOfTrailingZeros_0f7a4 48 = .ok (.istore_n 0, 1) := by decide +kernel
theorem dJ6_numberOfTrailingZeros_0f7a4_49 : decode cJ6_numberOfTrailingZeros_0f7a4 49 = .ok (.iload_n 0, 1) := by decide +kernel
theorem dJ6_numberOfTrailingZeros_0f7a4_50 : decode cJ6_numberOfTrailingZeros_0f7a4 50 = .ok (.bipush 16, 2) := by decide +kernel
theorem dJ6_numberOfTrailingZeros_0f7a4_52 : decode cJ6_numberOfTrailingZeros_0f7a4 52 = .ok (.if_icmp .le 10, 3) := by decide +kernel
theorem dJ6_numberOfTrailingZeros_0f7a4_55 : decode cJ6_numberOfTrailingZeros_0f7a4 55 = .ok (.iinc 1 4, 3) := by decide +kernel
theorem dJ6_numberOfTrailingZeros_0f7a4_58 : decode cJ6_numberOfTrailingZeros_0f7a4 58 = .ok (.iload_n 0, 1) := by decide +kernel
theorem dJ6_numberOfTrailingZeros_0f7a4_59 : decode cJ6_numberOfTrailingZeros_0f7a4 59 = .ok (.iconst 4, 1) := by decide +kernel
theorem dJ6_numberOfTrailingZeros_0f7a4_60 : decode cJ6_numberOfTrailingZeros_0f7a4 60 = .ok (.iushr, 1) := by decide +kernel
theorem dJ6_numberOfTrailingZeros_0f7a4_61 : decode cJ6_numberOfTrailingZeros_0f7a4 61 = .ok (.istore_n 0, 1) := by decide +kernel
theorem dJ6_numberOfTrailingZeros_0f7a4_62 : decode cJ6_numberOfTrailingZeros_0f7a4 62 = .ok (.iload_n 0, 1) := by decide +kernel
theorem dJ6_numberOfTrailingZeros_0f7a4_63 : decode cJ6_numberOfTrailingZeros_0f7a4 63 = .ok (.iconst 4, 1) := by decide +kernel
theorem dJ6_numberOfTrailingZeros_0f7a4_64 : decode cJ6_numberOfTrailingZeros_0f7a4 64 = .ok (.if_icmp .le 10, 3) := by decide +kernel
theorem dJ6_numberOfTrailingZeros_0f7a4_67 : decode cJ6_numberOfTrailingZeros_0f7a4 67 = .ok (.iinc 1 2, 3) := by decide +kernel
theorem dJ6_numberOfTrailingZeros_0f7a4_70 : decode cJ6_numberOfTrailingZeros_0f7a4 70 = .ok (.iload_n 0, 1) := by decide +kernel
theorem dJ6_numberOfTrailingZeros_0f7a4_71 : decode cJ6_numberOfTrailingZeros_0f7a4 71 = .ok (.iconst 2, 1) := by decide +kernel
theorem dJ6_numberOfTrailingZeros_0f7a4_72 : decode cJ6_numberOfTrailingZeros_0f7a4 72 = .ok (.iushr, 1) := by decide +kernel
theorem dJ6_numberOfTrailingZeros_0f7a4_73 : decode cJ6_numberOfTrailingZeros_0f7a4 73 = .ok (.istore_n 0, 1) := by decide +kernel
theorem dJ6_numberOfTrailingZeros_0f7a4_74 : decode cJ6_numberOfTrailingZeros_0f7a4 74 = .ok (.iload_n 1, 1) := by decide +kernel
theorem dJ6_numberOfTrailingZeros_0f7a4_75 : decode cJ6_numberOfTrailingZeros_0f7a4 75 = .ok (.iload_n 0, 1) := by decide +kernel
theorem dJ6_numberOfTrailingZeros_0f7a4_76 : decode cJ6_numberOfTrailingZeros_0f7a4 76 = .ok (.iconst 1, 1) := by decide +kernel
theorem dJ6_numberOfTrailingZeros_0f7a4_77 : decode cJ6_numberOfTrailingZeros_0f7a4 77 = .ok (.iushr, 1) := by decide +kernel
theorem dJ6_numberOfTrailingZeros_0f7a4_78 : decode cJ6_numberOfTrailingZeros_0f7a4 78 = .ok (.iadd, 1) := by decide +kernel
theorem dJ6_numberOfTrailingZeros_0f7a4_79 : decode cJ6_numberOfTrailingZeros_0f7a4 79 = .ok (.ireturn, 1) := by decide +kernel
theorem dJ6_bitCount_0f7a4_0 : decode cJ6_bitCount_0f7a4 0 = .ok (.iload_n 0, 1) := by decide +kernel
theorem dJ6_bitCount_0f7a4_1 : decode cJ6_bitCount_0f7a4 1 = .ok (.iload_n 0, 1) := by decide +kernel
theorem dJ6_bitCount_0f7a4_2 : decode cJ6_bitCount_0f7a4 2 = .ok (.iconst 1, 1) := by decide +kernel
theorem dJ6_bitCount_0f7a4_3 : decode cJ6_bitCount_0f7a4 3 = .ok (.iushr, 1) := by decide +kernel
theorem dJ6_bitCount_0f7a4_4 : decode cJ6_bitCount_0f7a4 4 = .ok (.ldc_w 265, 3) := by decide +kernel
theorem dJ6_bitCount_0f7a4_7 : decode cJ6_bitCount_0f7a4 7 = .ok (.iand, 1) := by decide +kernel
theorem dJ6_bitCount_0f7a4_8 : decode cJ6_bitCount_0f7a4 8 = .ok (.isub, 1) := by decide +kernel
theorem dJ6_bitCount_0f7a4_9 : decode cJ6_bitCount_0f7a4 9 = .ok (.istore_n 0, 1) := by decide +kernel
theorem dJ6_bitCount_0f7a4_10 : decode cJ6_bitCount_0f7a4 10 = .ok (.iload_n 0, 1) := by decide +kernel
theorem dJ6_bitCount_0f7a4_11 : decode cJ6_bitCount_0f7a4 11 = .ok (.ldc_w 266, 3) := by decide +kernel
theorem dJ6_bitCount_0f7a4_14 : decode cJ6_bitCount_0f7a4 14 = .ok (.iand, 1) := by decide +kernel
theorem dJ6_bitCount_0f7a4_15 : decode cJ6_bitCount_0f7a4 15 = .ok (.iload_n 0, 1) := by decide +kernel
theorem dJ6_bitCount_0f7a4_16 : decode cJ6_bitCount_0f7a4 16 = .ok (.iconst 2, 1) := by decide +kernel
theorem dJ6_bitCount_0f7a4_17 : decode cJ6_bitCount_0f7a4 17 = .ok (.iushr, 1) := by decide +kernel
theorem dJ6_bitCount_0f7a4_18 : decode cJ6_bitCount_0f7a4 18 = .ok (.ldc_w 266, 3) := by decide +kernel
theorem dJ6_bitCount_0f7a4_21 : decode cJ6_bitCount_0f7a4 21 = .ok (.iand, 1) := by decide +kernel
theorem dJ6_bitCount_0f7a4_22 : decode cJ6_bitCount_0f7a4 22 = .ok (.iadd, 1) := by decide +kernel
theorem dJ6_bitCount_0f7a4_23 : decode cJ6_bitCount_0f7a4 23 = .ok (.istore_n 0, 1) := by decide +kernel
theorem dJ6_bitCount_0f7a4_24 : decode cJ6_bitCount_0f7a4 24 = .ok (.iload_n 0, 1) := by decide +kernel
theorem dJ6_bitCount_0f7a4_25 : decode cJ6_bitCount_0f7a4 25 = .ok (.iload_n 0, 1) := by decide +kernel
theorem dJ6_bitCount_0f7a4_26 : decode cJ6_bitCount_0f7a4 26 = .ok (.iconst 4, 1) := by decide +kernel
theorem dJ6_bitCount_0f7a4_27 : decode cJ6_bitCount_0f7a4 27 = .ok (.iushr, 1) := by decide +kernel
theorem dJ6_bitCount_0f7a4_28 : decode cJ6_bitCount_0f7a4 28 = .ok (.iadd, 1) := by decide +kernel
theorem dJ6_bitCount_0f7a4_29 : decode cJ6_bitCount_0f7a4 29 = .ok (.ldc_w 267, 3) := by decide +kernel
theorem dJ6_bitCount_0f7a4_32 : decode cJ6_bitCount_0f7a4 32 = .ok (.iand, 1) := by decide +kernel
theorem dJ6_bitCount_0f7a4_33 : decode cJ6_bitCount_0f7a4 33 = .ok (.istore_n 0, 1) := by decide +kernel
theorem dJ6_bitCount_0f7a4_34 : decode cJ6_bitCount_0f7a4 34 = .ok (.iload_n 0, 1) := by decide +kernel
theorem dJ6_bitCount_0f7a4_35 : decode cJ6_bitCount_0f7a4 35 = .ok (.iload_n 0, 1) := by decide +kernel
theorem dJ6_bitCount_0f7a4_36 : decode cJ6_bitCount_0f7a4 36 = .ok (.bipush 8, 2) := by decide +kernel
theorem dJ6_bitCount_0f7a4_38 : decode cJ6_bitCount_0f7a4 38 = .ok (.iushr, 1) := by decide +kernel
theorem dJ6_bitCount_0f7a4_39 : decode cJ6_bitCount_0f7a4 39 = .ok (.iadd, 1) := by decide +kernel
theorem dJ6_bitCount_0f7a4_40 : decode cJ6_bitCount_0f7a4 40 = .ok (.istore_n 0, 1) := by decide +kernel
theorem dJ6_bitCount_0f7a4_41 : decode cJ6_bitCount_0f7a4 41 = .ok (.iload_n 0, 1) := by decide +kernel
theorem dJ6_bitCount_0f7a4_42 : decode cJ6_bitCount_0f7a4 42 = .ok (.iload_n 0, 1) := by decide +kernel
theorem dJ6_bitCount_0f7a4_43 : decode cJ6_bitCount_0f7a4 43 = .ok (.bipush 16, 2) := by decide +kernel
theorem dJ6_bitCount_0f7a4_45 : decode cJ6_bitCount_0f7a4 45 = .ok (.iushr, 1) := by decide +kernel
theorem dJ6_bitCount_0f7a4_46 : decode cJ6_bitCount_0f7a4 46 = .ok (.iadd, 1) := by decide +kernel
theorem dJ6_bitCount_0f7a4_47 : decode cJ6_bitCount_0f7a4 47 = .ok (.istore_n 0, 1) := by decide +kernel
theorem dJ6_bitCount_0f7a4_48 : decode cJ6_bitCount_0f7a4 48 = .ok (.iload_n 0, 1) := by decide +kernel
theorem dJ6_bitCount_0f7a4_49 : decode cJ6_bitCount_0f7a4 49 = .ok (.bipush 63, 2) := by decide +kernel
theorem dJ6_bitCount_0f7a4_51 : decode cJ6_bitCount_0f7a4 51 = .ok (.iand, 1) := by decide +kernel
theorem dJ6_bitCount_0f7a4_52 : decode cJ6_bitCount_0f7a4 52 = .ok (.ireturn, 1) := by decide +kernel
theorem dJ9_abs_067f4_0 : decode cJ9_abs_067f4 0 = .ok (.lload_n 0, 1) := by decide +kernel
theorem dJ9_abs_067f4_1 : decode cJ9_abs_067f4 1 = .ok (.lconst 0, 1) := by decide +kernel
theorem dJ9_abs_067f4_2 : decode cJ9_abs_067f4 2 = .ok (.lcmp, 1) := by decide +kernel
theorem dJ9_abs_067f4_3 : decode cJ9_abs_067f4 3 = .ok (.ifCond .ge 8, 3) := by decide +kernel
theorem dJ9_abs_067f4_6 : decode cJ9_abs_067f4 6 = .ok (.lload_n 0, 1) := by decide +kernel
theorem dJ9_abs_067f4_7 : decode cJ9_abs_067f4 7 = .ok (.lneg, 1) := by decide +kernel
theorem dJ9_abs_067f4_8 : decode cJ9_abs_067f4 8 = .ok (.goto 4, 3) := by decide +kernel
theorem dJ9_abs_067f4_11 : decode cJ9_abs_067f4 11 = .ok (.lload_n 0, 1) := by decide +kernel
theorem dJ9_abs_067f4_12 : decode cJ9_abs_067f4 12 = .ok (.lreturn, 1) := by decide +kernel
theorem dJ9_max_7cf53_0 : decode cJ9_max_7cf53 0 = .ok (.iload_n 0, 1) := by decide +kernel
theorem dJ9_max_7cf53_1 : decode cJ9_max_7cf53 1 = .ok (.iload_n 1, 1) := by decide +kernel
theorem dJ9_max_7cf53_2 : decode cJ9_max_7cf53 2 = .ok (.if_icmp .lt 7, 3) := by decide +kernel
theorem dJ9_max_7cf53_5 : decode cJ9_max_7cf53 5 = .ok (.iload_n 0, 1) := by decide +kernel
theorem dJ9_max_7cf53_6 : decode cJ9_max_7cf53 6 = .ok (.goto 4, 3) := by decide +kernel
theorem dJ9_max_7cf53_9 : decode cJ9_max_7cf53 9 = .ok (.iload_n 1, 1) := by decide +kernel
theorem dJ9_max_7cf53_10 : decode cJ9_max_7cf53 10 = .ok (.ireturn, 1) := by decide +kernel
theorem dJ9_max_f86c9_0 : decode cJ9_max_f86c9 0 = .ok (.lload_n 0, 1) := by decide +kernel
theorem dJ9_max_f86c9_1 : decode cJ9_max_f86c9 1 = .ok (.lload_n 2, 1) := by decide +kernel
theorem dJ9_max_f86c9_2 : decode cJ9_max_f86c9 2 = .ok (.lcmp, 1) := by decide +kernel
theorem dJ9_max_f86c9_3 : decode cJ9_max_f86c9 3 = .ok (.ifCond .lt 7, 3) := by decide +kernel
theorem dJ9_max_f86c9_6 : decode cJ9_max_f86c9 6 = .ok (.lload_n 0, 1) := by decide +kernel
theorem dJ9_max_f86c9_7 : decode cJ9_max_f86c9 7 = .ok (.goto 4, 3) := by decide +kernel
theorem dJ9_max_f86c9_10 : decode cJ9_max_f86c9 10 = .ok (.lload_n 2, 1) := by decide +kernel
theorem dJ9_max_f86c9_11 : decode cJ9_max_f86c9 11 = .ok (.lreturn, 1) := by decide +kernel
theorem dJ9_min_7cf53_0 : decode cJ9_min_7cf53 0 = .ok (.iload_n 0, 1) := by decide +kernel
theorem dJ9_min_7cf53_1 : decode cJ9_min_7cf53 1 = .ok (.iload_n 1, 1) := by decide +kernel
theorem dJ9_min_7cf53_2 : decode cJ9_min_7cf53 2 = .ok (.if_icmp .gt 7, 3) := by decide +kernel
theorem dJ9_min_7cf53_5 : decode cJ9_min_7cf53 5 = .ok (.iload_n 0, 1) := by decide +kernel
theorem dJ9_min_7cf53_6 : decode cJ9_min_7cf53 6 = .ok (.goto 4, 3) := by decide +kernel
theorem dJ9_min_7cf53_9 : decode cJ9_min_7cf53 9 = .ok (.iload_n 1, 1) := by decide +kernel
theorem dJ9_min_7cf53_10 : decode cJ9_min_7cf53 10 = .ok (.ireturn, 1) := by decide +kernel
theorem dJ7_fill_d0a16_0 : decode cJ7_fill_d0a16 0 = .ok (.iconst 0, 1) := by decide +kernel
theorem dJ7_fill_d0a16_1 : decode cJ7_fill_d0a16 1 = .ok (.istore_n 3, 1) := by decide +kernel
theorem dJ7_fill_d0a16_2 : decode cJ7_fill_d0a16 2 = .ok (.aload_n 0, 1) := by decide +kernel
theorem dJ7_fill_d0a16_3 : decode cJ7_fill_d0a16 3 = .ok (.arraylength, 1) := by decide +kernel
theorem dJ7_fill_d0a16_4 : decode cJ7_fill_d0a16 4 = .ok (.istore 4, 2) := by decide +kernel
theorem dJ7_fill_d0a16_6 : decode cJ7_fill_d0a16 6 = .ok (.iload_n 3, 1) := by decide +kernel
theorem dJ7_fill_d0a16_7 : decode cJ7_fill_d0a16 7 = .ok (.iload 4, 2) := by decide +kernel
theorem dJ7_fill_d0a16_9 : decode cJ7_fill_d0a16 9 = .ok (.if_icmp .ge 13, 3) := by decide +kernel
theorem dJ7_fill_d0a16_12 : decode cJ7_fill_d0a16 12 = .ok (.aload_n 0, 1) := by decide +kernel
theorem dJ7_fill_d0a16_13 : decode cJ7_fill_d0a16 13 = .ok (.iload_n 3, 1) := by decide +kernel
theorem dJ7_fill_d0a16_14 : decode cJ7_fill_d0a16 14 = .ok (.lload_n 1, 1) := by decide +kernel
theorem dJ7_fill_d0a16_15 : decode cJ7_fill_d0a16 15 = .ok (.lastore, 1) := by decide +kernel
theorem dJ7_fill_d0a16_16 : decode cJ7_fill_d0a16 16 = .ok (.iinc 3 1, 3) := by decide +kernel
theorem dJ7_fill_d0a16_19 : decode cJ7_fill_d0a16 19 = .ok (.goto (-13), 3) := by decide +kernel
theorem dJ7_fill_d0a16_22 : decode cJ7_fill_d0a16 22 = .ok (.return_, 1) := by decide +kernel
theorem dJ7_fill_53178_0 : decode cJ7_fill_53178 0 = .ok (.iconst 0, 1) := by decide +kernel
theorem dJ7_fill_53178_1 : decode cJ7_fill_53178 1 = .ok (.istore_n 2, 1) := by decide +kernel
theorem dJ7_fill_53178_2 : decode cJ7_fill_53178 2 = .ok (.aload_n 0, 1) := by decide +kernel
theorem dJ7_fill_53178_3 : decode cJ7_fill_53178 3 = .ok (.arraylength, 1) := by decide +kernel
theorem dJ7_fill_53178_4 : decode cJ7_fill_53178 4 = .ok (.istore_n 3, 1) := by decide +kernel
theorem dJ7_fill_53178_5 : decode cJ7_fill_53178 5 = .ok (.iload_n 2, 1) := by decide +kernel
theorem dJ7_fill_53178_6 : decode cJ7_fill_53178 6 = .ok (.iload_n 3, 1) := by decide +kernel
theorem dJ7_fill_53178_7 : decode cJ7_fill_53178 7 = .ok (.if_icmp .ge 13, 3) := by decide +kernel
theorem dJ7_fill_53178_10 : decode cJ7_fill_53178 10 = .ok (.aload_n 0, 1) := by decide +kernel
theorem dJ7_fill_53178_11 : decode cJ7_fill_53178 11 = .ok (.iload_n 2, 1) := by decide +kernel
theorem dJ7_fill_53178_12 : decode cJ7_fill_53178 12 = .ok (.iload_n 1, 1) := by decide +kernel
theorem dJ7_fill_53178_13 : decode cJ7_fill_53178 13 = .ok (.iastore, 1) := by decide +kernel
theorem dJ7_fill_53178_14 : decode cJ7_fill_53178 14 = .ok (.iinc 2 1, 3) := by decide +kernel
theorem dJ7_fill_53178_17 : decode cJ7_fill_53178 17 = .ok (.goto (-12), 3) := by decide +kernel
theorem dJ7_fill_53178_20 : decode cJ7_fill_53178 20 = .ok (.return_, 1) := by decide +kernel
theorem dJ7_copyOf_59c91_0 : decode cJ7_copyOf_59c91 0 = .ok (.iload_n 1, 1) := by decide +kernel
theorem dJ7_copyOf_59c91_1 : decode cJ7_copyOf_59c91 1 = .ok (.aload_n 0, 1) := by decide +kernel
theorem dJ7_copyOf_59c91_2 : decode cJ7_copyOf_59c91 2 = .ok (.arraylength, 1) := by decide +kernel
theorem dJ7_copyOf_59c91_3 : decode cJ7_copyOf_59c91 3 = .ok (.if_icmp .ne 11, 3) := by decide +kernel
theorem dJ7_copyOf_59c91_6 : decode cJ7_copyOf_59c91 6 = .ok (.aload_n 0, 1) := by decide +kernel
theorem dJ7_copyOf_59c91_7 : decode cJ7_copyOf_59c91 7 = .ok (.invokevirtual 316, 3) := by decide +kernel
theorem dJ7_copyOf_59c91_10 : decode cJ7_copyOf_59c91 10 = .ok (.checkcast 317, 3) := by decide +kernel
theorem dJ7_copyOf_59c91_13 : decode cJ7_copyOf_59c91 13 = .ok (.areturn, 1) := by decide +kernel
theorem dJ7_copyOf_59c91_14 : decode cJ7_copyOf_59c91 14 = .ok (.iload_n 1, 1) := by decide +kernel
theorem dJ7_copyOf_59c91_15 : decode cJ7_copyOf_59c91 15 = .ok (.newarray .int, 2) := by decide +kernel
theorem dJ7_copyOf_59c91_17 : decode cJ7_copyOf_59c91 17 = .ok (.astore_n 2, 1) := by decide +kernel
theorem dJ7_copyOf_59c91_18 : decode cJ7_copyOf_59c91 18 = .ok (.aload_n 0, 1) := by decide +kernel
theorem dJ7_copyOf_59c91_19 : decode cJ7_copyOf_59c91 19 = .ok (.iconst 0, 1) := by decide +kernel
theorem dJ7_copyOf_59c91_20 : decode cJ7_copyOf_59c91 20 = .ok (.aload_n 2, 1) := by decide +kernel
theorem dJ7_copyOf_59c91_21 : decode cJ7_copyOf_59c91 21 = .ok (.iconst 0, 1) := by decide +kernel
theorem dJ7_copyOf_59c91_22 : decode cJ7_copyOf_59c91 22 = .ok (.aload_n 0, 1) := by decide +kernel
theorem dJ7_copyOf_59c91_23 : decode cJ7_copyOf_59c91 23 = .ok (.arraylength, 1) := by decide +kernel
theorem dJ7_copyOf_59c91_24 : decode cJ7_copyOf_59c91 24 = .ok (.iload_n 1, 1) := by decide +kernel
theorem dJ7_copyOf_59c91_25 : decode cJ7_copyOf_59c91 25 = .ok (.invokestatic 304, 3) := by decide +kernel
theorem dJ7_copyOf_59c91_28 : decode cJ7_copyOf_59c91 28 = .ok (.invokestatic 150, 3) := by decide +kernel
theorem dJ7_copyOf_59c91_31 : decode cJ7_copyOf_59c91 31 = .ok (.aload_n 2, 1) := by decide +kernel
theorem dJ7_copyOf_59c91_32 : decode cJ7_copyOf_59c91 32 = .ok (.areturn, 1) := by decide +kernel
theorem dJ7_copyOf_c38d5_0 : decode cJ7_copyOf_c38d5 0 = .ok (.iload_n 1, 1) := by decide +kernel
theorem dJ7_copyOf_c38d5_1 : decode cJ7_copyOf_c38d5 1 = .ok (.aload_n 0, 1) := by decide +kernel
theorem dJ7_copyOf_c38d5_2 : decode cJ7_copyOf_c38d5 2 = .ok (.arraylength, 1) := by decide +kernel
theorem dJ7_copyOf_c38d5_3 : decode cJ7_copyOf_c38d5 3 = .ok (.if_icmp .ne 11, 3) := by decide +kernel
theorem dJ7_copyOf_c38d5_6 : decode cJ7_copyOf_c38d5 6 = .ok (.aload_n 0, 1) := by decide +kernel
theorem dJ7_copyOf_c38d5_7 : decode cJ7_copyOf_c38d5 7 = .ok (.invokevirtual 319, 3) := by decide +kernel
theorem dJ7_copyOf_c38d5_10 : decode cJ7_copyOf_c38d5 10 = .ok (.checkcast 320, 3) := by decide +kernel
theorem dJ7_copyOf_c38d5_13 : decode cJ7_copyOf_c38d5 13 = .ok (.areturn, 1) := by decide +kernel
theorem dJ7_copyOf_c38d5_14 : decode cJ7_copyOf_c38d5 14 = .ok (.iload_n 1, 1) := by decide +kernel
theorem dJ7_copyOf_c38d5_15 : decode cJ7_copyOf_c38d5 15 = .ok (.newarray .long, 2) := by decide +kernel
theorem dJ7_copyOf_c38d5_17 : decode cJ7_copyOf_c38d5 17 = .ok (.astore_n 2, 1) := by decide +kernel
theorem dJ7_copyOf_c38d5_18 : decode cJ7_copyOf_c38d5 18 = .ok (.aload_n 0, 1) := by decide +kernel
theorem dJ7_copyOf_c38d5_19 : decode cJ7_copyOf_c38d5 19 = .ok (.iconst 0, 1) := by decide +kernel
theorem dJ7_copyOf_c38d5_20 : decode cJ7_copyOf_c38d5 20 = .ok (.aload_n 2, 1) := by decide +kernel
theorem dJ7_copyOf_c38d5_21 : decode cJ7_copyOf_c38d5 21 = .ok (.iconst 0, 1) := by decide +kernel
theorem dJ7_copyOf_c38d5_22 : decode cJ7_copyOf_c38d5 22 = .ok (.aload_n 0, 1) := by decide +kernel
theorem dJ7_copyOf_c38d5_23 : decode cJ7_copyOf_c38d5 23 = .ok (.arraylength, 1) := by decide +kernel
theorem dJ7_copyOf_c38d5_24 : decode cJ7_copyOf_c38d5 24 = .ok (.iload_n 1, 1) := by decide +kernel
theorem dJ7_copyOf_c38d5_25 : decode cJ7_copyOf_c38d5 25 = .ok (.invokestatic 304, 3) := by decide +kernel
theorem dJ7_copyOf_c38d5_28 : decode cJ7_copyOf_c38d5 28 = .ok (.invokestatic 150, 3) := by decide +kernel
theorem dJ7_copyOf_c38d5_31 : decode cJ7_copyOf_c38d5 31 = .ok (.aload_n 2, 1) := by decide +kernel
theorem dJ7_copyOf_c38d5_32 : decode cJ7_copyOf_c38d5 32 = .ok (.areturn, 1) := by decide +kernel
end
section
theorem dX0_init_0 : decode cX0_init 0 = .ok (.aload_n 0, 1) := by decide +kernel
theorem dX0_init_1 : decode cX0_init 1 = .ok (.invokespecial 3, 3) := by decide +kernel
theorem dX0_init_4 : decode cX0_init 4 = .ok (.aload_n 0, 1) := by decide +kernel
theorem dX0_init_5 : decode cX0_init 5 = .ok (.bipush 12, 2) := by decide +kernel
theorem dX0_init_7 : decode cX0_init 7 = .ok (.putfield 9, 3) := by decide +kernel
theorem dX0_init_10 : decode cX0_init 10 = .ok (.aload_n 0, 1) := by decide +kernel
theorem dX0_init_11 : decode cX0_init 11 = .ok (.iconst 0, 1) := by decide +kernel
theorem dX0_init_12 : decode cX0_init 12 = .ok (.putfield 15, 3) := by decide +kernel
theorem dX0_init_15 : decode cX0_init 15 = .ok (.aload_n 0, 1) := by decide +kernel
theorem dX0_init_16 : decode cX0_init 16 = .ok (.iconst 0, 1) := by decide +kernel
theorem dX0_init_17 : decode cX0_init 17 = .ok (.putfield 18, 3) := by decide +kernel
theorem dX0_init_20 : decode cX0_init 20 = .ok (.aload_n 0, 1) := by decide +kernel
theorem dX0_init_21 : decode cX0_init 21 = .ok (.bipush 24, 2) := by decide +kernel
theorem dX0_init_23 : decode cX0_init 23 = .ok (.newarray .int, 2) := by decide +kernel
theorem dX0_init_25 : decode cX0_init 25 = .ok (.putfield 21, 3) := by decide +kernel
theorem dX0_init_28 : decode cX0_init 28 = .ok (.aload_n 0, 1) := by decide +kernel
theorem dX0_init_29 : decode cX0_init 29 = .ok (.bipush 24, 2) := by decide +kernel
theorem dX0_init_31 : decode cX0_init 31 = .ok (.newarray .int, 2) := by decide +kernel
theorem dX0_init_33 : decode cX0_init 33 = .ok (.putfield 25, 3) := by decide +kernel
theorem dX0_init_36 : decode cX0_init 36 = .ok (.aload_n 0, 1) := by decide +kernel
theorem dX0_init_37 : decode cX0_init 37 = .ok (.bipush 24, 2) := by decide +kernel
theorem dX0_init_39 : decode cX0_init 39 = .ok (.newarray .int, 2) := by decide +kernel
theorem dX0_init_41 : decode cX0_init 41 = .ok (.putfield 28, 3) := by decide +kernel
theorem dX0_init_44 : decode cX0_init 44 = .ok (.aload_n 0, 1) := by decide +kernel
theorem dX0_init_45 : decode cX0_init 45 = .ok (.bipush 24, 2) := by decide +kernel
theorem dX0_init_47 : decode cX0_init 47 = .ok (.newarray .int, 2) := by decide +kernel
theorem dX0_init_49 : decode cX0_init 49 = .ok (.putfield 31, 3) := by decide +kernel
theorem dX0_init_52 : decode cX0_init 52 = .ok (.aload_n 0, 1) := by decide +kernel
theorem dX0_init_53 : decode cX0_init 53 = .ok (.bipush 16, 2) := by decide +kernel
theorem dX0_init_55 : decode cX0_init 55 = .ok (.newarray .int, 2) := by decide +kernel
theorem dX0_init_57 : decode cX0_init 57 = .ok (.putfield 34, 3) := by decide +kernel
theorem dX0_init_60 : decode cX0_init 60 = .ok (.aload_n 0, 1) := by decide +kernel
theorem dX0_init_61 : decode cX0_init 61 = .ok (.iconst 1, 1) := by decide +kernel
theorem dX0_init_62 : decode cX0_init 62 = .ok (.putfield 37, 3) := by decide +kernel
theorem dX0_init_65 : decode cX0_init 65 = .ok (.aload_n 0, 1) := by decide +kernel
theorem dX0_init_66 : decode cX0_init 66 = .ok (.bipush 24, 2) := by decide +kernel
theorem dX0_init_68 : decode cX0_init 68 = .ok (.newarray .int, 2) := by decide +kernel
theorem dX0_init_70 : decode cX0_init 70 = .ok (.putfield 40, 3) := by decide +kernel
theorem dX0_init_73 : decode cX0_init 73 = .ok (.aload_n 0, 1) := by decide +kernel
theorem dX0_init_74 : decode cX0_init 74 = .ok (.bipush 24, 2) := by decide +kernel
theorem dX0_init_76 : decode cX0_init 76 = .ok (.newarray .int, 2) := by decide +kernel
theorem dX0_init_78 : decode cX0_init 78 = .ok (.putfield 43, 3) := by decide +kernel
theorem dX0_init_81 : decode cX0_init 81 = .ok (.aload_n 0, 1) := by decide +kernel
theorem dX0_init_82 : decode cX0_init 82 = .ok (.bipush 24, 2) := by decide +kernel
theorem dX0_init_84 : decode cX0_init 84 = .ok (.newarray .int, 2) := by decide +kernel
theorem dX0_init_86 : decode cX0_init 86 = .ok (.putfield 46, 3) := by decide +kernel
theorem dX0_init_89 : decode cX0_init 89 = .ok (.aload_n 0, 1) := by decide +kernel
theorem dX0_init_90 : decode cX0_init 90 = .ok (.bipush 24, 2) := by decide +kernel
theorem dX0_init_92 : decode cX0_init 92 = .ok (.newarray .int, 2) := by decide +kernel
theorem dX0_init_94 : decode cX0_init 94 = .ok (.putfield 49, 3) := by decide +kernel
theorem dX0_init_97 : decode cX0_init 97 = .ok (.aload_n 0, 1) := by decide +kernel
theorem dX0_init_98 : decode cX0_init 98 = .ok (.bipush 24, 2) := by decide +kernel
theorem dX0_init_100 : decode cX0_init 100 = .ok (.newarray .int, 2) := by decide +kernel
theorem dX0_init_102 : decode cX0_init 102 = .ok (.putfield 52, 3) := by decide +kernel
theorem dX0_init_105 : decode cX0_init 105 = .ok (.aload_n 0, 1) := by decide +kernel
theorem dX0_init_106 : decode cX0_init 106 = .ok (.getfield 34, 3) := by decide +kernel
theorem dX0_init_109 : decode cX0_init 109 = .ok (.iconst 0, 1) := by decide +kernel
theorem dX0_init_110 : decode cX0_init 110 = .ok (.iconst 1, 1) := by decide +kernel
theorem dX0_init_111 : decode cX0_init 111 = .ok (.iastore, 1) := by decide +kernel
theorem dX0_init_112 : decode cX0_init 112 = .ok (.return_, 1) := by decide +kernel
theorem dX0_empty_0 : decode cX0_empty 0 = .ok (.aload_n 0, 1) := by decide +kernel
theorem dX0_empty_1 : decode cX0_empty 1 = .ok (.iload_n 1, 1) := by decide +kernel
theorem dX0_empty_2 : decode cX0_empty 2 = .ok (.putfield 9, 3) := by decide +kernel
theorem dX0_empty_5 : decode cX0_empty 5 = .ok (.aload_n 0, 1) := by decide +kernel
theorem dX0_empty_6 : decode cX0_empty 6 = .ok (.iconst 0, 1) := by decide +kernel
theorem dX0_empty_7 : decode cX0_empty 7 = .ok (.putfield 15, 3) := by decide +kernel
theorem dX0_empty_10 : decode cX0_empty 10 = .ok (.return_, 1) := by decide +kernel
theorem dX0_add_0 : decode cX0_add 0 = .ok (.aload_n 0, 1) := by decide +kernel
theorem dX0_add_1 : decode cX0_add 1 = .ok (.getfield 15, 3) := by decide +kernel
theorem dX0_add_4 : decode cX0_add 4 = .ok (.bipush 24, 2) := by decide +kernel
theorem dX0_add_6 : decode cX0_add 6 = .ok (.if_icmp .lt 5, 3) := by decide +kernel
theorem dX0_add_9 : decode cX0_add 9 = .ok (.iconst (-1), 1) := by decide +kernel
theorem dX0_add_10 : decode cX0_add 10 = .ok (.ireturn, 1) := by decide +kernel
theorem dX0_add_11 : decode cX0_add 11 = .ok (.aload_n 0, 1) := by decide +kernel
theorem dX0_add_12 : decode cX0_add 12 = .ok (.getfield 21, 3) := by decide +kernel
theorem dX0_add_15 : decode cX0_add 15 = .ok (.aload_n 0, 1) := by decide +kernel
theorem dX0_add_16 : decode cX0_add 16 = .ok (.getfield 15, 3) := by decide +kernel
theorem dX0_add_19 : decode cX0_add 19 = .ok (.iload_n 1, 1) := by decide +kernel
theorem dX0_add_20 : decode cX0_add 20 = .ok (.iastore, 1) := by decide +kernel
theorem dX0_add_21 : decode cX0_add 21 = .ok (.aload_n 0, 1) := by decide +kernel
theorem dX0_add_22 : decode cX0_add 22 = .ok (.getfield 25, 3) := by decide +kernel
theorem dX0_add_25 : decode cX0_add 25 = .ok (.aload_n 0, 1) := by decide +kernel
theorem dX0_add_26 : decode cX0_add 26 = .ok (.getfield 15, 3) := by decide +kernel
theorem dX0_add_29 : decode cX0_add 29 = .ok (.iload_n 2, 1) := by decide +kernel
theorem dX0_add_30 : decode cX0_add 30 = .ok (.iastore, 1) := by decide +kernel
theorem dX0_add_31 : decode cX0_add 31 = .ok (.aload_n 0, 1) := by decide +kernel
theorem dX0_add_32 : decode cX0_add 32 = .ok (.getfield 28, 3) := by decide +kernel
theorem dX0_add_35 : decode cX0_add 35 = .ok (.aload_n 0, 1) := by decide +kernel
theorem dX0_add_36 : decode cX0_add 36 = .ok (.getfield 15, 3) := by decide +kernel
theorem dX0_add_39 : decode cX0_add 39 = .ok (.iconst 0, 1) := by decide +kernel
theorem dX0_add_40 : decode cX0_add 40 = .ok (.iastore, 1) := by decide +kernel
theorem dX0_add_41 : decode cX0_add 41 = .ok (.aload_n 0, 1) := by decide +kernel
theorem dX0_add_42 : decode cX0_add 42 = .ok (.getfield 31, 3) := by decide +kernel
theorem dX0_add_45 : decode cX0_add 45 = .ok (.aload_n 0, 1) := by decide +kernel
theorem dX0_add_46 : decode cX0_add 46 = .ok (.getfield 15, 3) := by decide +kernel
theorem dX0_add_49 : decode cX0_add 49 = .ok (.iconst 0, 1) := by decide +kernel
theorem dX0_add_50 : decode cX0_add 50 = .ok (.iastore, 1) := by decide +kernel
theorem dX0_add_51 : decode cX0_add 51 = .ok (.aload_n 0, 1) := by decide +kernel
theorem dX0_add_52 : decode cX0_add 52 = .ok (.dup, 1) := by decide +kernel
theorem dX0_add_53 : decode cX0_add 53 = .ok (.getfield 15, 3) := by decide +kernel
theorem dX0_add_56 : decode cX0_add 56 = .ok (.iconst 1, 1) := by decide +kernel
theorem dX0_add_57 : decode cX0_add 57 = .ok (.iadd, 1) := by decide +kernel
theorem dX0_add_58 : decode cX0_add 58 = .ok (.putfield 15, 3) := by decide +kernel
theorem dX0_add_61 : decode cX0_add 61 = .ok (.aload_n 0, 1) := by decide +kernel
theorem dX0_add_62 : decode cX0_add 62 = .ok (.getfield 15, 3) := by decide +kernel
theorem dX0_add_65 : decode cX0_add 65 = .ok (.iconst 1, 1) := by decide +kernel
theorem dX0_add_66 : decode cX0_add 66 = .ok (.isub, 1) := by decide +kernel
theorem dX0_add_67 : decode cX0_add 67 = .ok (.ireturn, 1) := by decide +kernel
theorem dX0_has_0 : decode cX0_has 0 = .ok (.iload_n 1, 1) := by decide +kernel
theorem dX0_has_1 : decode cX0_has 1 = .ok (.ifCond .lt 15, 3) := by decide +kernel
theorem dX0_has_4 : decode cX0_has 4 = .ok (.iload_n 1, 1) := by decide +kernel
theorem dX0_has_5 : decode cX0_has 5 = .ok (.aload_n 0, 1) := by decide +kernel
theorem dX0_has_6 : decode cX0_has 6 = .ok (.getfield 15, 3) := by decide +kernel
theorem dX0_has_9 : decode cX0_has 9 = .ok (.if_icmp .ge 7, 3) := by decide +kernel
theorem dX0_has_12 : decode cX0_has 12 = .ok (.iconst 1, 1) := by decide +kernel
theorem dX0_has_13 : decode cX0_has 13 = .ok (.goto 4, 3) := by decide +kernel
theorem dX0_has_16 : decode cX0_has 16 = .ok (.iconst 0, 1) := by decide +kernel
theorem dX0_has_17 : decode cX0_has 17 = .ok (.ireturn, 1) := by decide +kernel
theorem dX0_isPhase_0 : decode cX0_isPhase 0 = .ok (.iload_n 1, 1) := by decide +kernel
theorem dX0_isPhase_1 : decode cX0_isPhase 1 = .ok (.ifCond .lt 15, 3) := by decide +kernel
theorem dX0_isPhase_4 : decode cX0_isPhase 4 = .ok (.iload_n 1, 1) := by decide +kernel
theorem dX0_isPhase_5 : decode cX0_isPhase 5 = .ok (.aload_n 0, 1) := by decide +kernel
theorem dX0_isPhase_6 : decode cX0_isPhase 6 = .ok (.getfield 9, 3) := by decide +kernel
theorem dX0_isPhase_9 : decode cX0_isPhase 9 = .ok (.if_icmp .ge 7, 3) := by decide +kernel
theorem dX0_isPhase_12 : decode cX0_isPhase 12 = .ok (.iconst 1, 1) := by decide +kernel
theorem dX0_isPhase_13 : decode cX0_isPhase 13 = .ok (.goto 4, 3) := by decide +kernel
theorem dX0_isPhase_16 : decode cX0_isPhase 16 = .ok (.iconst 0, 1) := by decide +kernel
theorem dX0_isPhase_17 : decode cX0_isPhase 17 = .ok (.ireturn, 1) := by decide +kernel
theorem dX0_isSet_0 : decode cX0_isSet 0 = .ok (.iload_n 1, 1) := by decide +kernel
theorem dX0_isSet_1 : decode cX0_isSet 1 = .ok (.aload_n 0, 1) := by decide +kernel
theorem dX0_isSet_2 : decode cX0_isSet 2 = .ok (.invokevirtual 55, 3) := by decide +kernel
theorem dX0_isSet_5 : decode cX0_isSet 5 = .ok (.iconst (-1), 1) := by decide +kernel
theorem dX0_isSet_6 : decode cX0_isSet 6 = .ok (.ixor, 1) := by decide +kernel
theorem dX0_isSet_7 : decode cX0_isSet 7 = .ok (.iand, 1) := by decide +kernel
theorem dX0_isSet_8 : decode cX0_isSet 8 = .ok (.ifCond .ne 7, 3) := by decide +kernel
theorem dX0_isSet_11 : decode cX0_isSet 11 = .ok (.iconst 1, 1) := by decide +kernel
theorem dX0_isSet_12 : decode cX0_isSet 12 = .ok (.goto 4, 3) := by decide +kernel
theorem dX0_isSet_15 : decode cX0_isSet 15 = .ok (.iconst 0, 1) := by decide +kernel
theorem dX0_isSet_16 : decode cX0_isSet 16 = .ok (.ireturn, 1) := by decide +kernel
theorem dX0_everyone_0 : decode cX0_everyone 0 = .ok (.iconst 1, 1) := by decide +kernel
theorem dX0_everyone_1 : decode cX0_everyone 1 = .ok (.aload_n 0, 1) := by decide +kernel
theorem dX0_everyone_2 : decode cX0_everyone 2 = .ok (.getfield 15, 3) := by decide +kernel
theorem dX0_everyone_5 : decode cX0_everyone 5 = .ok (.ishl, 1) := by decide +kernel
theorem dX0_everyone_6 : decode cX0_everyone 6 = .ok (.iconst 1, 1) := by decide +kernel
theorem dX0_everyone_7 : decode cX0_everyone 7 = .ok (.isub, 1) := by decide +kernel
theorem dX0_everyone_8 : decode cX0_everyone 8 = .ok (.ireturn, 1) := by decide +kernel
theorem dX0_holds_0 : decode cX0_holds 0 = .ok (.iload_n 0, 1) := by decide +kernel
theorem dX0_holds_1 : decode cX0_holds 1 = .ok (.iload_n 1, 1) := by decide +kernel
theorem dX0_holds_2 : decode cX0_holds 2 = .ok (.ishr, 1) := by decide +kernel
theorem dX0_holds_3 : decode cX0_holds 3 = .ok (.iconst 1, 1) := by decide +kernel
theorem dX0_holds_4 : decode cX0_holds 4 = .ok (.iand, 1) := by decide +kernel
theorem dX0_holds_5 : decode cX0_holds 5 = .ok (.ifCond .eq 7, 3) := by decide +kernel
theorem dX0_holds_8 : decode cX0_holds 8 = .ok (.iconst 1, 1) := by decide +kernel
theorem dX0_holds_9 : decode cX0_holds 9 = .ok (.goto 4, 3) := by decide +kernel
theorem dX0_holds_12 : decode cX0_holds 12 = .ok (.iconst 0, 1) := by decide +kernel
theorem dX0_holds_13 : decode cX0_holds 13 = .ok (.ireturn, 1) := by decide +kernel
theorem dX0_setRoad_0 : decode cX0_setRoad 0 = .ok (.aload_n 0, 1) := by decide +kernel
theorem dX0_setRoad_1 : decode cX0_setRoad 1 = .ok (.getfield 31, 3) := by decide +kernel
theorem dX0_setRoad_4 : decode cX0_setRoad 4 = .ok (.iload_n 1, 1) := by decide +kernel
theorem dX0_setRoad_5 : decode cX0_setRoad 5 = .ok (.iload_n 3, 1) := by decide +kernel
theorem dX0_setRoad_6 : decode cX0_setRoad 6 = .ok (.ifCond .eq 16, 3) := by decide +kernel
theorem dX0_setRoad_9 : decode cX0_setRoad 9 = .ok (.aload_n 0, 1) := by decide +kernel
theorem dX0_setRoad_10 : decode cX0_setRoad 10 = .ok (.getfield 31, 3) := by decide +kernel
theorem dX0_setRoad_13 : decode cX0_setRoad 13 = .ok (.iload_n 1, 1) := by decide +kernel
theorem dX0_setRoad_14 : decode cX0_setRoad 14 = .ok (.iaload, 1) := by decide +kernel
theorem dX0_setRoad_15 : decode cX0_setRoad 15 = .ok (.iconst 1, 1) := by decide +kernel
theorem dX0_setRoad_16 : decode cX0_setRoad 16 = .ok (.iload_n 2, 1) := by decide +kernel
theorem dX0_setRoad_17 : decode cX0_setRoad 17 = .ok (.ishl, 1) := by decide +kernel
theorem dX0_setRoad_18 : decode cX0_setRoad 18 = .ok (.ior, 1) := by decide +kernel
theorem dX0_setRoad_19 : decode cX0_setRoad 19 = .ok (.goto 15, 3) := by decide +kernel
theorem dX0_setRoad_22 : decode cX0_setRoad 22 = .ok (.aload_n 0, 1) := by decide +kernel
theorem dX0_setRoad_23 : decode cX0_setRoad 23 = .ok (.getfield 31, 3) := by decide +kernel
theorem dX0_setRoad_26 : decode cX0_setRoad 26 = .ok (.iload_n 1, 1) := by decide +kernel
theorem dX0_setRoad_27 : decode cX0_setRoad 27 = .ok (.iaload, 1) := by decide +kernel
theorem dX0_setRoad_28 : decode cX0_setRoad 28 = .ok (.iconst 1, 1) := by decide +kernel
theorem dX0_setRoad_29 : decode cX0_setRoad 29 = .ok (.iload_n 2, 1) := by decide +kernel
theorem dX0_setRoad_30 : decode cX0_setRoad 30 = .ok (.ishl, 1) := by decide +kernel
theorem dX0_setRoad_31 : decode cX0_setRoad 31 = .ok (.iconst (-1), 1) := by decide +kernel
theorem dX0_setRoad_32 : decode cX0_setRoad 32 = .ok (.ixor, 1) := by decide +kernel
theorem dX0_setRoad_33 : decode cX0_setRoad 33 = .ok (.iand, 1) := by decide +kernel
theorem dX0_setRoad_34 : decode cX0_setRoad 34 = .ok (.iastore, 1) := by decide +kernel
theorem dX0_setRoad_35 : decode cX0_setRoad 35 = .ok (.return_, 1) := by decide +kernel
theorem dX0_setRoads_0 : decode cX0_setRoads 0 = .ok (.iconst 0, 1) := by decide +kernel
theorem dX0_setRoads_1 : decode cX0_setRoads 1 = .ok (.istore_n 2, 1) := by decide +kernel
theorem dX0_setRoads_2 : decode cX0_setRoads 2 = .ok (.iload_n 2, 1) := by decide +kernel
theorem dX0_setRoads_3 : decode cX0_setRoads 3 = .ok (.aload_n 0, 1) := by decide +kernel
theorem dX0_setRoads_4 : decode cX0_setRoads 4 = .ok (.getfield 15, 3) := by decide +kernel
theorem dX0_setRoads_7 : decode cX0_setRoads 7 = .ok (.if_icmp .ge 124, 3) := by decide +kernel
theorem dX0_setRoads_10 : decode cX0_setRoads 10 = .ok (.iconst 1, 1) := by decide +kernel
theorem dX0_setRoads_11 : decode cX0_setRoads 11 = .ok (.iload_n 2, 1) := by decide +kernel
theorem dX0_setRoads_12 : decode cX0_setRoads 12 = .ok (.ifCond .ne 12, 3) := by decide +kernel
theorem dX0_setRoads_15 : decode cX0_setRoads 15 = .ok (.aload_n 0, 1) := by decide +kernel
theorem dX0_setRoads_16 : decode cX0_setRoads 16 = .ok (.getfield 15, 3) := by decide +kernel
theorem dX0_setRoads_19 : decode cX0_setRoads 19 = .ok (.iconst 1, 1) := by decide +kernel
theorem dX0_setRoads_20 : decode cX0_setRoads 20 = .ok (.isub, 1) := by decide +kernel
theorem dX0_setRoads_21 : decode cX0_setRoads 21 = .ok (.goto 6, 3) := by decide +kernel
theorem dX0_setRoads_24 : decode cX0_setRoads 24 = .ok (.iload_n 2, 1) := by decide +kernel
theorem dX0_setRoads_25 : decode cX0_setRoads 25 = .ok (.iconst 1, 1) := by decide +kernel
theorem dX0_setRoads_26 : decode cX0_setRoads 26 = .ok (.isub, 1) := by decide +kernel
theorem dX0_setRoads_27 : decode cX0_setRoads 27 = .ok (.ishl, 1) := by decide +kernel
theorem dX0_setRoads_28 : decode cX0_setRoads 28 = .ok (.istore_n 3, 1) := by decide +kernel
theorem dX0_setRoads_29 : decode cX0_setRoads 29 = .ok (.iconst 1, 1) := by decide +kernel
theorem dX0_setRoads_30 : decode cX0_setRoads 30 = .ok (.iload_n 2, 1) := by decide +kernel
theorem dX0_setRoads_31 : decode cX0_setRoads 31 = .ok (.aload_n 0, 1) := by decide +kernel
theorem dX0_setRoads_32 : decode cX0_setRoads 32 = .ok (.getfield 15, 3) := by decide +kernel
theorem dX0_setRoads_35 : decode cX0_setRoads 35 = .ok (.iconst 1, 1) := by decide +kernel
theorem dX0_setRoads_36 : decode cX0_setRoads 36 = .ok (.isub, 1) := by decide +kernel
theorem dX0_setRoads_37 : decode cX0_setRoads 37 = .ok (.if_icmp .ne 7, 3) := by decide +kernel
theorem dX0_setRoads_40 : decode cX0_setRoads 40 = .ok (.iconst 0, 1) := by decide +kernel
theorem dX0_setRoads_41 : decode cX0_setRoads 41 = .ok (.goto 6, 3) := by decide +kernel
theorem dX0_setRoads_44 : decode cX0_setRoads 44 = .ok (.iload_n 2, 1) := by decide +kernel
theorem dX0_setRoads_45 : decode cX0_setRoads 45 = .ok (.iconst 1, 1) := by decide +kernel
theorem dX0_setRoads_46 : decode cX0_setRoads 46 = .ok (.iadd, 1) := by decide +kernel
theorem dX0_setRoads_47 : decode cX0_setRoads 47 = .ok (.ishl, 1) := by decide +kernel
theorem dX0_setRoads_48 : decode cX0_setRoads 48 = .ok (.istore 4, 2) := by decide +kernel
theorem dX0_setRoads_50 : decode cX0_setRoads 50 = .ok (.iload_n 1, 1) := by decide +kernel
theorem dX0_setRoads_51 : decode cX0_setRoads 51 = .ok (.tableswitch 67 1 3 #[25, 44, 54], 25) := by decide +kernel
theorem dX0_setRoads_76 : decode cX0_setRoads 76 = .ok (.aload_n 0, 1) := by decide +kernel
theorem dX0_setRoads_77 : decode cX0_setRoads 77 = .ok (.getfield 31, 3) := by decide +kernel
theorem dX0_setRoads_80 : decode cX0_setRoads 80 = .ok (.iload_n 2, 1) := by decide +kernel
theorem dX0_setRoads_81 : decode cX0_setRoads 81 = .ok (.aload_n 0, 1) := by decide +kernel
theorem dX0_setRoads_82 : decode cX0_setRoads 82 = .ok (.invokevirtual 55, 3) := by decide +kernel
theorem dX0_setRoads_85 : decode cX0_setRoads 85 = .ok (.iconst 1, 1) := by decide +kernel
theorem dX0_setRoads_86 : decode cX0_setRoads 86 = .ok (.iload_n 2, 1) := by decide +kernel
theorem dX0_setRoads_87 : decode cX0_setRoads 87 = .ok (.ishl, 1) := by decide +kernel
theorem dX0_setRoads_88 : decode cX0_setRoads 88 = .ok (.iconst (-1), 1) := by decide +kernel
theorem dX0_setRoads_89 : decode cX0_setRoads 89 = .ok (.ixor, 1) := by decide +kernel
theorem dX0_setRoads_90 : decode cX0_setRoads 90 = .ok (.iand, 1) := by decide +kernel
theorem dX0_setRoads_91 : decode cX0_setRoads 91 = .ok (.iastore, 1) := by decide +kernel
theorem dX0_setRoads_92 : decode cX0_setRoads 92 = .ok (.goto 33, 3) := by decide +kernel
theorem dX0_setRoads_95 : decode cX0_setRoads 95 = .ok (.aload_n 0, 1) := by decide +kernel
theorem dX0_setRoads_96 : decode cX0_setRoads 96 = .ok (.getfield 31, 3) := by decide +kernel
theorem dX0_setRoads_99 : decode cX0_setRoads 99 = .ok (.iload_n 2, 1) := by decide +kernel
theorem dX0_setRoads_100 : decode cX0_setRoads 100 = .ok (.iload_n 3, 1) := by decide +kernel
theorem dX0_setRoads_101 : decode cX0_setRoads 101 = .ok (.iastore, 1) := by decide +kernel
theorem dX0_setRoads_102 : decode cX0_setRoads 102 = .ok (.goto 23, 3) := by decide +kernel
theorem dX0_setRoads_105 : decode cX0_setRoads 105 = .ok (.aload_n 0, 1) := by decide +kernel
theorem dX0_setRoads_106 : decode cX0_setRoads 106 = .ok (.getfield 31, 3) := by decide +kernel
theorem dX0_setRoads_109 : decode cX0_setRoads 109 = .ok (.iload_n 2, 1) := by decide +kernel
theorem dX0_setRoads_110 : decode cX0_setRoads 110 = .ok (.iload_n 3, 1) := by decide +kernel
theorem dX0_setRoads_111 : decode cX0_setRoads 111 = .ok (.iload 4, 2) := by decide +kernel
theorem dX0_setRoads_113 : decode cX0_setRoads 113 = .ok (.ior, 1) := by decide +kernel
theorem dX0_setRoads_114 : decode cX0_setRoads 114 = .ok (.iastore, 1) := by decide +kernel
theorem dX0_setRoads_115 : decode cX0_setRoads 115 = .ok (.goto 10, 3) := by decide +kernel
theorem dX0_setRoads_118 : decode cX0_setRoads 118 = .ok (.aload_n 0, 1) := by decide +kernel
theorem dX0_setRoads_119 : decode cX0_setRoads 119 = .ok (.getfield 31, 3) := by decide +kernel
theorem dX0_setRoads_122 : decode cX0_setRoads 122 = .ok (.iload_n 2, 1) := by decide +kernel
theorem dX0_setRoads_123 : decode cX0_setRoads 123 = .ok (.iconst 0, 1) := by decide +kernel
theorem dX0_setRoads_124 : decode cX0_setRoads 124 = .ok (.iastore, 1) := by decide +kernel
theorem dX0_setRoads_125 : decode cX0_setRoads 125 = .ok (.iinc 2 1, 3) := by decide +kernel
theorem dX0_setRoads_128 : decode cX0_setRoads 128 = .ok (.goto (-126), 3) := by decide +kernel
theorem dX0_setRoads_131 : decode cX0_setRoads 131 = .ok (.return_, 1) := by decide +kernel
theorem dX0_allRoads_0 : decode cX0_allRoads 0 = .ok (.iconst 0, 1) := by decide +kernel
theorem dX0_allRoads_1 : decode cX0_allRoads 1 = .ok (.istore_n 1, 1) := by decide +kernel
theorem dX0_allRoads_2 : decode cX0_allRoads 2 = .ok (.iconst 0, 1) := by decide +kernel
theorem dX0_allRoads_3 : decode cX0_allRoads 3 = .ok (.istore_n 2, 1) := by decide +kernel
theorem dX0_allRoads_4 : decode cX0_allRoads 4 = .ok (.iload_n 2, 1) := by decide +kernel
theorem dX0_allRoads_5 : decode cX0_allRoads 5 = .ok (.aload_n 0, 1) := by decide +kernel
theorem dX0_allRoads_6 : decode cX0_allRoads 6 = .ok (.getfield 15, 3) := by decide +kernel
theorem dX0_allRoads_9 : decode cX0_allRoads 9 = .ok (.if_icmp .ge 21, 3) := by decide +kernel
theorem dX0_allRoads_12 : decode cX0_allRoads 12 = .ok (.iload_n 1, 1) := by decide +kernel
theorem dX0_allRoads_13 : decode cX0_allRoads 13 = .ok (.aload_n 0, 1) := by decide +kernel
theorem dX0_allRoads_14 : decode cX0_allRoads 14 = .ok (.getfield 31, 3) := by decide +kernel
theorem dX0_allRoads_17 : decode cX0_allRoads 17 = .ok (.iload_n 2, 1) := by decide +kernel
theorem dX0_allRoads_18 : decode cX0_allRoads 18 = .ok (.iaload, 1) := by decide +kernel
theorem dX0_allRoads_19 : decode cX0_allRoads 19 = .ok (.invokestatic 59, 3) := by decide +kernel
theorem dX0_allRoads_22 : decode cX0_allRoads 22 = .ok (.iadd, 1) := by decide +kernel
theorem dX0_allRoads_23 : decode cX0_allRoads 23 = .ok (.istore_n 1, 1) := by decide +kernel
theorem dX0_allRoads_24 : decode cX0_allRoads 24 = .ok (.iinc 2 1, 3) := by decide +kernel
theorem dX0_allRoads_27 : decode cX0_allRoads 27 = .ok (.goto (-23), 3) := by decide +kernel
theorem dX0_allRoads_30 : decode cX0_allRoads 30 = .ok (.iload_n 1, 1) := by decide +kernel
theorem dX0_allRoads_31 : decode cX0_allRoads 31 = .ok (.ireturn, 1) := by decide +kernel
theorem dX0_findLeaders_0 : decode cX0_findLeaders 0 = .ok (.aload_n 0, 1) := by decide +kernel
theorem dX0_findLeaders_1 : decode cX0_findLeaders 1 = .ok (.invokevirtual 65, 3) := by decide +kernel
theorem dX0_findLeaders_4 : decode cX0_findLeaders 4 = .ok (.iconst 0, 1) := by decide +kernel
theorem dX0_findLeaders_5 : decode cX0_findLeaders 5 = .ok (.istore_n 2, 1) := by decide +kernel
theorem dX0_findLeaders_6 : decode cX0_findLeaders 6 = .ok (.iconst 0, 1) := by decide +kernel
theorem dX0_findLeaders_7 : decode cX0_findLeaders 7 = .ok (.istore_n 3, 1) := by decide +kernel
theorem dX0_findLeaders_8 : decode cX0_findLeaders 8 = .ok (.iload_n 3, 1) := by decide +kernel
theorem dX0_findLeaders_9 : decode cX0_findLeaders 9 = .ok (.aload_n 0, 1) := by decide +kernel
theorem dX0_findLeaders_10 : decode cX0_findLeaders 10 = .ok (.getfield 15, 3) := by decide +kernel
theorem dX0_findLeaders_13 : decode cX0_findLeaders 13 = .ok (.if_icmp .ge 55, 3) := by decide +kernel
theorem dX0_findLeaders_16 : decode cX0_findLeaders 16 = .ok (.iload_n 2, 1) := by decide +kernel
theorem dX0_findLeaders_17 : decode cX0_findLeaders 17 = .ok (.aload_n 1, 1) := by decide +kernel
theorem dX0_findLeaders_18 : decode cX0_findLeaders 18 = .ok (.arraylength, 1) := by decide +kernel
theorem dX0_findLeaders_19 : decode cX0_findLeaders 19 = .ok (.if_icmp .ge 49, 3) := by decide +kernel
theorem dX0_findLeaders_22 : decode cX0_findLeaders 22 = .ok (.aload_n 0, 1) := by decide +kernel
theorem dX0_findLeaders_23 : decode cX0_findLeaders 23 = .ok (.getfield 46, 3) := by decide +kernel
theorem dX0_findLeaders_26 : decode cX0_findLeaders 26 = .ok (.iload_n 3, 1) := by decide +kernel
theorem dX0_findLeaders_27 : decode cX0_findLeaders 27 = .ok (.iaload, 1) := by decide +kernel
theorem dX0_findLeaders_28 : decode cX0_findLeaders 28 = .ok (.invokestatic 68, 3) := by decide +kernel
theorem dX0_findLeaders_31 : decode cX0_findLeaders 31 = .ok (.iload_n 3, 1) := by decide +kernel
theorem dX0_findLeaders_32 : decode cX0_findLeaders 32 = .ok (.if_icmp .ne 7, 3) := by decide +kernel
theorem dX0_findLeaders_35 : decode cX0_findLeaders 35 = .ok (.iconst 1, 1) := by decide +kernel
theorem dX0_findLeaders_36 : decode cX0_findLeaders 36 = .ok (.goto 4, 3) := by decide +kernel
theorem dX0_findLeaders_39 : decode cX0_findLeaders 39 = .ok (.iconst 0, 1) := by decide +kernel
theorem dX0_findLeaders_40 : decode cX0_findLeaders 40 = .ok (.istore 4, 2) := by decide +kernel
theorem dX0_findLeaders_42 : decode cX0_findLeaders 42 = .ok (.iload 4, 2) := by decide +kernel
theorem dX0_findLeaders_44 : decode cX0_findLeaders 44 = .ok (.ifCond .eq 18, 3) := by decide +kernel
theorem dX0_findLeaders_47 : decode cX0_findLeaders 47 = .ok (.aload_n 0, 1) := by decide +kernel
theorem dX0_findLeaders_48 : decode cX0_findLeaders 48 = .ok (.iload_n 3, 1) := by decide +kernel
theorem dX0_findLeaders_49 : decode cX0_findLeaders 49 = .ok (.invokevirtual 71, 3) := by decide +kernel
theorem dX0_findLeaders_52 : decode cX0_findLeaders 52 = .ok (.ifCond .eq 10, 3) := by decide +kernel
theorem dX0_findLeaders_55 : decode cX0_findLeaders 55 = .ok (.aload_n 1, 1) := by decide +kernel
theorem dX0_findLeaders_56 : decode cX0_findLeaders 56 = .ok (.iload_n 2, 1) := by decide +kernel
theorem dX0_findLeaders_57 : decode cX0_findLeaders 57 = .ok (.iload_n 3, 1) := by decide +kernel
theorem dX0_findLeaders_58 : decode cX0_findLeaders 58 = .ok (.iastore, 1) := by decide +kernel
theorem dX0_findLeaders_59 : decode cX0_findLeaders 59 = .ok (.iinc 2 1, 3) := by decide +kernel
theorem dX0_findLeaders_62 : decode cX0_findLeaders 62 = .ok (.iinc 3 1, 3) := by decide +kernel
theorem dX0_findLeaders_65 : decode cX0_findLeaders 65 = .ok (.goto (-57), 3) := by decide +kernel
theorem dX0_findLeaders_68 : decode cX0_findLeaders 68 = .ok (.iload_n 2, 1) := by decide +kernel
theorem dX0_findLeaders_69 : decode cX0_findLeaders 69 = .ok (.ireturn, 1) := by decide +kernel
theorem dX0_fillReach_0 : decode cX0_fillReach 0 = .ok (.iconst 0, 1) := by decide +kernel
theorem dX0_fillReach_1 : decode cX0_fillReach 1 = .ok (.istore_n 1, 1) := by decide +kernel
theorem dX0_fillReach_2 : decode cX0_fillReach 2 = .ok (.iload_n 1, 1) := by decide +kernel
theorem dX0_fillReach_3 : decode cX0_fillReach 3 = .ok (.aload_n 0, 1) := by decide +kernel
theorem dX0_fillReach_4 : decode cX0_fillReach 4 = .ok (.getfield 15, 3) := by decide +kernel
theorem dX0_fillReach_7 : decode cX0_fillReach 7 = .ok (.if_icmp .ge 25, 3) := by decide +kernel
theorem dX0_fillReach_10 : decode cX0_fillReach 10 = .ok (.aload_n 0, 1) := by decide +kernel
theorem dX0_fillReach_11 : decode cX0_fillReach 11 = .ok (.getfield 46, 3) := by decide +kernel
theorem dX0_fillReach_14 : decode cX0_fillReach 14 = .ok (.iload_n 1, 1) := by decide +kernel
theorem dX0_fillReach_15 : decode cX0_fillReach 15 = .ok (.aload_n 0, 1) := by decide +kernel
theorem dX0_fillReach_16 : decode cX0_fillReach 16 = .ok (.getfield 31, 3) := by decide +kernel
theorem dX0_fillReach_19 : decode cX0_fillReach 19 = .ok (.iload_n 1, 1) := by decide +kernel
theorem dX0_fillReach_20 : decode cX0_fillReach 20 = .ok (.iaload, 1) := by decide +kernel
theorem dX0_fillReach_21 : decode cX0_fillReach 21 = .ok (.iconst 1, 1) := by decide +kernel
theorem dX0_fillReach_22 : decode cX0_fillReach 22 = .ok (.iload_n 1, 1) := by decide +kernel
theorem dX0_fillReach_23 : decode cX0_fillReach 23 = .ok (.ishl, 1) := by decide +kernel
theorem dX0_fillReach_24 : decode cX0_fillReach 24 = .ok (.ior, 1) := by decide +kernel
theorem dX0_fillReach_25 : decode cX0_fillReach 25 = .ok (.iastore, 1) := by decide +kernel
theorem dX0_fillReach_26 : decode cX0_fillReach 26 = .ok (.iinc 1 1, 3) := by decide +kernel
theorem dX0_fillReach_29 : decode cX0_fillReach 29 = .ok (.goto (-27), 3) := by decide +kernel
theorem dX0_fillReach_32 : decode cX0_fillReach 32 = .ok (.iconst 0, 1) := by decide +kernel
theorem dX0_fillReach_33 : decode cX0_fillReach 33 = .ok (.istore_n 1, 1) := by decide +kernel
theorem dX0_fillReach_34 : decode cX0_fillReach 34 = .ok (.iload_n 1, 1) := by decide +kernel
theorem dX0_fillReach_35 : decode cX0_fillReach 35 = .ok (.aload_n 0, 1) := by decide +kernel
theorem dX0_fillReach_36 : decode cX0_fillReach 36 = .ok (.getfield 15, 3) := by decide +kernel
theorem dX0_fillReach_39 : decode cX0_fillReach 39 = .ok (.if_icmp .ge 53, 3) := by decide +kernel
theorem dX0_fillReach_42 : decode cX0_fillReach 42 = .ok (.iconst 0, 1) := by decide +kernel
theorem dX0_fillReach_43 : decode cX0_fillReach 43 = .ok (.istore_n 2, 1) := by decide +kernel
theorem dX0_fillReach_44 : decode cX0_fillReach 44 = .ok (.iload_n 2, 1) := by decide +kernel
theorem dX0_fillReach_45 : decode cX0_fillReach 45 = .ok (.aload_n 0, 1) := by decide +kernel
theorem dX0_fillReach_46 : decode cX0_fillReach 46 = .ok (.getfield 15, 3) := by decide +kernel
theorem dX0_fillReach_49 : decode cX0_fillReach 49 = .ok (.if_icmp .ge 37, 3) := by decide +kernel
theorem dX0_fillReach_52 : decode cX0_fillReach 52 = .ok (.aload_n 0, 1) := by decide +kernel
theorem dX0_fillReach_53 : decode cX0_fillReach 53 = .ok (.getfield 46, 3) := by decide +kernel
theorem dX0_fillReach_56 : decode cX0_fillReach 56 = .ok (.iload_n 2, 1) := by decide +kernel
theorem dX0_fillReach_57 : decode cX0_fillReach 57 = .ok (.iaload, 1) := by decide +kernel
theorem dX0_fillReach_58 : decode cX0_fillReach 58 = .ok (.iload_n 1, 1) := by decide +kernel
theorem dX0_fillReach_59 : decode cX0_fillReach 59 = .ok (.invokestatic 75, 3) := by decide +kernel
theorem dX0_fillReach_62 : decode cX0_fillReach 62 = .ok (.ifCond .eq 18, 3) := by decide +kernel
theorem dX0_fillReach_65 : decode cX0_fillReach 65 = .ok (.aload_n 0, 1) := by decide +kernel
theorem dX0_fillReach_66 : decode cX0_fillReach 66 = .ok (.getfield 46, 3) := by decide +kernel
theorem dX0_fillReach_69 : decode cX0_fillReach 69 = .ok (.iload_n 2, 1) := by decide +kernel
theorem dX0_fillReach_70 : decode cX0_fillReach 70 = .ok (.dup2, 1) := by decide +kernel
theorem dX0_fillReach_71 : decode cX0_fillReach 71 = .ok (.iaload, 1) := by decide +kernel
theorem dX0_fillReach_72 : decode cX0_fillReach 72 = .ok (.aload_n 0, 1) := by decide +kernel
theorem dX0_fillReach_73 : decode cX0_fillReach 73 = .ok (.getfield 46, 3) := by decide +kernel
theorem dX0_fillReach_76 : decode cX0_fillReach 76 = .ok (.iload_n 1, 1) := by decide +kernel
theorem dX0_fillReach_77 : decode cX0_fillReach 77 = .ok (.iaload, 1) := by decide +kernel
theorem dX0_fillReach_78 : decode cX0_fillReach 78 = .ok (.ior, 1) := by decide +kernel
theorem dX0_fillReach_79 : decode cX0_fillReach 79 = .ok (.iastore, 1) := by decide +kernel
theorem dX0_fillReach_80 : decode cX0_fillReach 80 = .ok (.iinc 2 1, 3) := by decide +kernel
theorem dX0_fillReach_83 : decode cX0_fillReach 83 = .ok (.goto (-39), 3) := by decide +kernel
theorem dX0_fillReach_86 : decode cX0_fillReach 86 = .ok (.iinc 1 1, 3) := by decide +kernel
theorem dX0_fillReach_89 : decode cX0_fillReach 89 = .ok (.goto (-55), 3) := by decide +kernel
theorem dX0_fillReach_92 : decode cX0_fillReach 92 = .ok (.return_, 1) := by decide +kernel
theorem dX0_allLeadBack_0 : decode cX0_allLeadBack 0 = .ok (.iconst 0, 1) := by decide +kernel
theorem dX0_allLeadBack_1 : decode cX0_allLeadBack 1 = .ok (.istore_n 2, 1) := by decide +kernel
theorem dX0_allLeadBack_2 : decode cX0_allLeadBack 2 = .ok (.iload_n 2, 1) := by decide +kernel
theorem dX0_allLeadBack_3 : decode cX0_allLeadBack 3 = .ok (.aload_n 0, 1) := by decide +kernel
theorem dX0_allLeadBack_4 : decode cX0_allLeadBack 4 = .ok (.getfield 15, 3) := by decide +kernel
theorem dX0_allLeadBack_7 : decode cX0_allLeadBack 7 = .ok (.if_icmp .ge 37, 3) := by decide +kernel
theorem dX0_allLeadBack_10 : decode cX0_allLeadBack 10 = .ok (.aload_n 0, 1) := by decide +kernel
theorem dX0_allLeadBack_11 : decode cX0_allLeadBack 11 = .ok (.getfield 46, 3) := by decide +kernel
theorem dX0_allLeadBack_14 : decode cX0_allLeadBack 14 = .ok (.iload_n 1, 1) := by decide +kernel
theorem dX0_allLeadBack_15 : decode cX0_allLeadBack 15 = .ok (.iaload, 1) := by decide +kernel
theorem dX0_allLeadBack_16 : decode cX0_allLeadBack 16 = .ok (.iload_n 2, 1) := by decide +kernel
theorem dX0_allLeadBack_17 : decode cX0_allLeadBack 17 = .ok (.invokestatic 75, 3) := by decide +kernel
theorem dX0_allLeadBack_20 : decode cX0_allLeadBack 20 = .ok (.ifCond .eq 18, 3) := by decide +kernel
theorem dX0_allLeadBack_23 : decode cX0_allLeadBack 23 = .ok (.aload_n 0, 1) := by decide +kernel
theorem dX0_allLeadBack_24 : decode cX0_allLeadBack 24 = .ok (.getfield 46, 3) := by decide +kernel
theorem dX0_allLeadBack_27 : decode cX0_allLeadBack 27 = .ok (.iload_n 2, 1) := by decide +kernel
theorem dX0_allLeadBack_28 : decode cX0_allLeadBack 28 = .ok (.iaload, 1) := by decide +kernel
theorem dX0_allLeadBack_29 : decode cX0_allLeadBack 29 = .ok (.iload_n 1, 1) := by decide +kernel
theorem dX0_allLeadBack_30 : decode cX0_allLeadBack 30 = .ok (.invokestatic 75, 3) := by decide +kernel
theorem dX0_allLeadBack_33 : decode cX0_allLeadBack 33 = .ok (.ifCond .ne 5, 3) := by decide +kernel
theorem dX0_allLeadBack_36 : decode cX0_allLeadBack 36 = .ok (.iconst 0, 1) := by decide +kernel
theorem dX0_allLeadBack_37 : decode cX0_allLeadBack 37 = .ok (.ireturn, 1) := by decide +kernel
theorem dX0_allLeadBack_38 : decode cX0_allLeadBack 38 = .ok (.iinc 2 1, 3) := by decide +kernel
theorem dX0_allLeadBack_41 : decode cX0_allLeadBack 41 = .ok (.goto (-39), 3) := by decide +kernel
theorem dX0_allLeadBack_44 : decode cX0_allLeadBack 44 = .ok (.iconst 1, 1) := by decide +kernel
theorem dX0_allLeadBack_45 : decode cX0_allLeadBack 45 = .ok (.ireturn, 1) := by decide +kernel
theorem dX0_tick_0 : decode cX0_tick 0 = .ok (.iconst 0, 1) := by decide +kernel
theorem dX0_tick_1 : decode cX0_tick 1 = .ok (.istore_n 3, 1) := by decide +kernel
theorem dX0_tick_2 : decode cX0_tick 2 = .ok (.iconst 0, 1) := by decide +kernel
theorem dX0_tick_3 : decode cX0_tick 3 = .ok (.istore 4, 2) := by decide +kernel
theorem dX0_tick_5 : decode cX0_tick 5 = .ok (.iload 4, 2) := by decide +kernel
theorem dX0_tick_7 : decode cX0_tick 7 = .ok (.aload_n 0, 1) := by decide +kernel
theorem dX0_tick_8 : decode cX0_tick 8 = .ok (.getfield 15, 3) := by decide +kernel
theorem dX0_tick_11 : decode cX0_tick 11 = .ok (.if_icmp .ge 114, 3) := by decide +kernel
theorem dX0_tick_14 : decode cX0_tick 14 = .ok (.aload_n 0, 1) := by decide +kernel
theorem dX0_tick_15 : decode cX0_tick 15 = .ok (.getfield 21, 3) := by decide +kernel
theorem dX0_tick_18 : decode cX0_tick 18 = .ok (.iload 4, 2) := by decide +kernel
theorem dX0_tick_20 : decode cX0_tick 20 = .ok (.iaload, 1) := by decide +kernel
theorem dX0_tick_21 : decode cX0_tick 21 = .ok (.iconst 2, 1) := by decide +kernel
theorem dX0_tick_22 : decode cX0_tick 22 = .ok (.if_icmp .ne 41, 3) := by decide +kernel
theorem dX0_tick_25 : decode cX0_tick 25 = .ok (.aload_n 0, 1) := by decide +kernel
theorem dX0_tick_26 : decode cX0_tick 26 = .ok (.getfield 40, 3) := by decide +kernel
theorem dX0_tick_29 : decode cX0_tick 29 = .ok (.iload 4, 2) := by decide +kernel
theorem dX0_tick_31 : decode cX0_tick 31 = .ok (.aload_n 1, 1) := by decide +kernel
theorem dX0_tick_32 : decode cX0_tick 32 = .ok (.iload 4, 2) := by decide +kernel
theorem dX0_tick_34 : decode cX0_tick 34 = .ok (.iaload, 1) := by decide +kernel
theorem dX0_tick_35 : decode cX0_tick 35 = .ok (.iconst 1, 1) := by decide +kernel
theorem dX0_tick_36 : decode cX0_tick 36 = .ok (.iadd, 1) := by decide +kernel
theorem dX0_tick_37 : decode cX0_tick 37 = .ok (.iastore, 1) := by decide +kernel
theorem dX0_tick_38 : decode cX0_tick 38 = .ok (.iload_n 3, 1) := by decide +kernel
theorem dX0_tick_39 : decode cX0_tick 39 = .ok (.aload_n 0, 1) := by decide +kernel
theorem dX0_tick_40 : decode cX0_tick 40 = .ok (.getfield 40, 3) := by decide +kernel
theorem dX0_tick_43 : decode cX0_tick 43 = .ok (.iload 4, 2) := by decide +kernel
theorem dX0_tick_45 : decode cX0_tick 45 = .ok (.iaload, 1) := by decide +kernel
theorem dX0_tick_46 : decode cX0_tick 46 = .ok (.aload_n 0, 1) := by decide +kernel
theorem dX0_tick_47 : decode cX0_tick 47 = .ok (.getfield 9, 3) := by decide +kernel
theorem dX0_tick_50 : decode cX0_tick 50 = .ok (.if_icmp .lt 7, 3) := by decide +kernel
theorem dX0_tick_53 : decode cX0_tick 53 = .ok (.iconst 1, 1) := by decide +kernel
theorem dX0_tick_54 : decode cX0_tick 54 = .ok (.goto 4, 3) := by decide +kernel
theorem dX0_tick_57 : decode cX0_tick 57 = .ok (.iconst 0, 1) := by decide +kernel
theorem dX0_tick_58 : decode cX0_tick 58 = .ok (.ior, 1) := by decide +kernel
theorem dX0_tick_59 : decode cX0_tick 59 = .ok (.istore_n 3, 1) := by decide +kernel
theorem dX0_tick_60 : decode cX0_tick 60 = .ok (.goto 59, 3) := by decide +kernel
theorem dX0_tick_63 : decode cX0_tick 63 = .ok (.aload_n 0, 1) := by decide +kernel
theorem dX0_tick_64 : decode cX0_tick 64 = .ok (.getfield 21, 3) := by decide +kernel
theorem dX0_tick_67 : decode cX0_tick 67 = .ok (.iload 4, 2) := by decide +kernel
theorem dX0_tick_69 : decode cX0_tick 69 = .ok (.iaload, 1) := by decide +kernel
theorem dX0_tick_70 : decode cX0_tick 70 = .ok (.iconst 1, 1) := by decide +kernel
theorem dX0_tick_71 : decode cX0_tick 71 = .ok (.if_icmp .ne 31, 3) := by decide +kernel
theorem dX0_tick_74 : decode cX0_tick 74 = .ok (.aload_n 0, 1) := by decide +kernel
theorem dX0_tick_75 : decode cX0_tick 75 = .ok (.getfield 40, 3) := by decide +kernel
theorem dX0_tick_78 : decode cX0_tick 78 = .ok (.iload 4, 2) := by decide +kernel
theorem dX0_tick_80 : decode cX0_tick 80 = .ok (.aload_n 0, 1) := by decide +kernel
theorem dX0_tick_81 : decode cX0_tick 81 = .ok (.aload_n 1, 1) := by decide +kernel
theorem dX0_tick_82 : decode cX0_tick 82 = .ok (.iload 4, 2) := by decide +kernel
theorem dX0_tick_84 : decode cX0_tick 84 = .ok (.iaload, 1) := by decide +kernel
theorem dX0_tick_85 : decode cX0_tick 85 = .ok (.iconst 1, 1) := by decide +kernel
theorem dX0_tick_86 : decode cX0_tick 86 = .ok (.iadd, 1) := by decide +kernel
theorem dX0_tick_87 : decode cX0_tick 87 = .ok (.aload_n 0, 1) := by decide +kernel
theorem dX0_tick_88 : decode cX0_tick 88 = .ok (.iload 4, 2) := by decide +kernel
theorem dX0_tick_90 : decode cX0_tick 90 = .ok (.aload_n 1, 1) := by decide +kernel
theorem dX0_tick_91 : decode cX0_tick 91 = .ok (.invokevirtual 79, 3) := by decide +kernel
theorem dX0_tick_94 : decode cX0_tick 94 = .ok (.iadd, 1) := by decide +kernel
theorem dX0_tick_95 : decode cX0_tick 95 = .ok (.invokevirtual 83, 3) := by decide +kernel
theorem dX0_tick_98 : decode cX0_tick 98 = .ok (.iastore, 1) := by decide +kernel
theorem dX0_tick_99 : decode cX0_tick 99 = .ok (.goto 20, 3) := by decide +kernel
theorem dX0_tick_102 : decode cX0_tick 102 = .ok (.aload_n 0, 1) := by decide +kernel
theorem dX0_tick_103 : decode cX0_tick 103 = .ok (.getfield 40, 3) := by decide +kernel
theorem dX0_tick_106 : decode cX0_tick 106 = .ok (.iload 4, 2) := by decide +kernel
theorem dX0_tick_108 : decode cX0_tick 108 = .ok (.aload_n 0, 1) := by decide +kernel
theorem dX0_tick_109 : decode cX0_tick 109 = .ok (.aload_n 1, 1) := by decide +kernel
theorem dX0_tick_110 : decode cX0_tick 110 = .ok (.iload 4, 2) := by decide +kernel
theorem dX0_tick_112 : decode cX0_tick 112 = .ok (.iaload, 1) := by decide +kernel
theorem dX0_tick_113 : decode cX0_tick 113 = .ok (.iconst 1, 1) := by decide +kernel
theorem dX0_tick_114 : decode cX0_tick 114 = .ok (.iadd, 1) := by decide +kernel
theorem dX0_tick_115 : decode cX0_tick 115 = .ok (.invokevirtual 83, 3) := by decide +kernel
theorem dX0_tick_118 : decode cX0_tick 118 = .ok (.iastore, 1) := by decide +kernel
theorem dX0_tick_119 : decode cX0_tick 119 = .ok (.iinc 4 1, 3) := by decide +kernel
theorem dX0_tick_122 : decode cX0_tick 122 = .ok (.goto (-117), 3) := by decide +kernel
theorem dX0_tick_125 : decode cX0_tick 125 = .ok (.iload_n 3, 1) := by decide +kernel
theorem dX0_tick_126 : decode cX0_tick 126 = .ok (.ifCond .eq 8, 3) := by decide +kernel
theorem dX0_tick_129 : decode cX0_tick 129 = .ok (.aload_n 0, 1) := by decide +kernel
theorem dX0_tick_130 : decode cX0_tick 130 = .ok (.aload_n 2, 1) := by decide +kernel
theorem dX0_tick_131 : decode cX0_tick 131 = .ok (.invokevirtual 86, 3) := by decide +kernel
theorem dX0_tick_134 : decode cX0_tick 134 = .ok (.aload_n 0, 1) := by decide +kernel
theorem dX0_tick_135 : decode cX0_tick 135 = .ok (.getfield 40, 3) := by decide +kernel
theorem dX0_tick_138 : decode cX0_tick 138 = .ok (.iconst 0, 1) := by decide +kernel
theorem dX0_tick_139 : decode cX0_tick 139 = .ok (.aload_n 1, 1) := by decide +kernel
theorem dX0_tick_140 : decode cX0_tick 140 = .ok (.iconst 0, 1) := by decide +kernel
theorem dX0_tick_141 : decode cX0_tick 141 = .ok (.aload_n 0, 1) := by decide +kernel
theorem dX0_tick_142 : decode cX0_tick 142 = .ok (.getfield 15, 3) := by decide +kernel
theorem dX0_tick_145 : decode cX0_tick 145 = .ok (.invokestatic 90, 3) := by decide +kernel
theorem dX0_tick_148 : decode cX0_tick 148 = .ok (.return_, 1) := by decide +kernel
theorem dX0_wrap_0 : decode cX0_wrap 0 = .ok (.iload_n 1, 1) := by decide +kernel
theorem dX0_wrap_1 : decode cX0_wrap 1 = .ok (.aload_n 0, 1) := by decide +kernel
theorem dX0_wrap_2 : decode cX0_wrap 2 = .ok (.getfield 9, 3) := by decide +kernel
theorem dX0_wrap_5 : decode cX0_wrap 5 = .ok (.if_icmp .lt 10, 3) := by decide +kernel
theorem dX0_wrap_8 : decode cX0_wrap 8 = .ok (.iload_n 1, 1) := by decide +kernel
theorem dX0_wrap_9 : decode cX0_wrap 9 = .ok (.aload_n 0, 1) := by decide +kernel
theorem dX0_wrap_10 : decode cX0_wrap 10 = .ok (.getfield 9, 3) := by decide +kernel
theorem dX0_wrap_13 : decode cX0_wrap 13 = .ok (.isub, 1) := by decide +kernel
theorem dX0_wrap_14 : decode cX0_wrap 14 = .ok (.ireturn, 1) := by decide +kernel
theorem dX0_wrap_15 : decode cX0_wrap 15 = .ok (.iload_n 1, 1) := by decide +kernel
theorem dX0_wrap_16 : decode cX0_wrap 16 = .ok (.ifCond .ge 12, 3) := by decide +kernel
theorem dX0_wrap_19 : decode cX0_wrap 19 = .ok (.iload_n 1, 1) := by decide +kernel
theorem dX0_wrap_20 : decode cX0_wrap 20 = .ok (.aload_n 0, 1) := by decide +kernel
theorem dX0_wrap_21 : decode cX0_wrap 21 = .ok (.getfield 9, 3) := by decide +kernel
theorem dX0_wrap_24 : decode cX0_wrap 24 = .ok (.iadd, 1) := by decide +kernel
theorem dX0_wrap_25 : decode cX0_wrap 25 = .ok (.goto 4, 3) := by decide +kernel
theorem dX0_wrap_28 : decode cX0_wrap 28 = .ok (.iload_n 1, 1) := by decide +kernel
theorem dX0_wrap_29 : decode cX0_wrap 29 = .ok (.ireturn, 1) := by decide +kernel
theorem dX0_pullOn_0 : decode cX0_pullOn 0 = .ok (.aload_n 0, 1) := by decide +kernel
theorem dX0_pullOn_1 : decode cX0_pullOn 1 = .ok (.getfield 31, 3) := by decide +kernel
theorem dX0_pullOn_4 : decode cX0_pullOn 4 = .ok (.iload_n 1, 1) := by decide +kernel
theorem dX0_pullOn_5 : decode cX0_pullOn 5 = .ok (.iaload, 1) := by decide +kernel
theorem dX0_pullOn_6 : decode cX0_pullOn 6 = .ok (.iconst 1, 1) := by decide +kernel
theorem dX0_pullOn_7 : decode cX0_pullOn 7 = .ok (.iload_n 1, 1) := by decide +kernel
theorem dX0_pullOn_8 : decode cX0_pullOn 8 = .ok (.ishl, 1) := by decide +kernel
theorem dX0_pullOn_9 : decode cX0_pullOn 9 = .ok (.iconst (-1), 1) := by decide +kernel
theorem dX0_pullOn_10 : decode cX0_pullOn 10 = .ok (.ixor, 1) := by decide +kernel
theorem dX0_pullOn_11 : decode cX0_pullOn 11 = .ok (.iand, 1) := by decide +kernel
theorem dX0_pullOn_12 : decode cX0_pullOn 12 = .ok (.istore_n 3, 1) := by decide +kernel
theorem dX0_pullOn_13 : decode cX0_pullOn 13 = .ok (.aload_n 2, 1) := by decide +kernel
theorem dX0_pullOn_14 : decode cX0_pullOn 14 = .ok (.iload_n 1, 1) := by decide +kernel
theorem dX0_pullOn_15 : decode cX0_pullOn 15 = .ok (.iaload, 1) := by decide +kernel
theorem dX0_pullOn_16 : decode cX0_pullOn 16 = .ok (.istore 4, 2) := by decide +kernel
theorem dX0_pullOn_18 : decode cX0_pullOn 18 = .ok (.iconst 0, 1) := by decide +kernel
theorem dX0_pullOn_19 : decode cX0_pullOn 19 = .ok (.istore 5, 2) := by decide +kernel
theorem dX0_pullOn_21 : decode cX0_pullOn 21 = .ok (.iconst 1, 1) := by decide +kernel
theorem dX0_pullOn_22 : decode cX0_pullOn 22 = .ok (.istore 6, 2) := by decide +kernel
theorem dX0_pullOn_24 : decode cX0_pullOn 24 = .ok (.iconst 0, 1) := by decide +kernel
theorem dX0_pullOn_25 : decode cX0_pullOn 25 = .ok (.istore 7, 2) := by decide +kernel
theorem dX0_pullOn_27 : decode cX0_pullOn 27 = .ok (.iload 7, 2) := by decide +kernel
theorem dX0_pullOn_29 : decode cX0_pullOn 29 = .ok (.aload_n 0, 1) := by decide +kernel
theorem dX0_pullOn_30 : decode cX0_pullOn 30 = .ok (.getfield 15, 3) := by decide +kernel
theorem dX0_pullOn_33 : decode cX0_pullOn 33 = .ok (.if_icmp .ge 81, 3) := by decide +kernel
theorem dX0_pullOn_36 : decode cX0_pullOn 36 = .ok (.iload_n 3, 1) := by decide +kernel
theorem dX0_pullOn_37 : decode cX0_pullOn 37 = .ok (.iload 7, 2) := by decide +kernel
theorem dX0_pullOn_39 : decode cX0_pullOn 39 = .ok (.ishr, 1) := by decide +kernel
theorem dX0_pullOn_40 : decode cX0_pullOn 40 = .ok (.iconst 1, 1) := by decide +kernel
theorem dX0_pullOn_41 : decode cX0_pullOn 41 = .ok (.iand, 1) := by decide +kernel
theorem dX0_pullOn_42 : decode cX0_pullOn 42 = .ok (.ifCond .eq 66, 3) := by decide +kernel
theorem dX0_pullOn_45 : decode cX0_pullOn 45 = .ok (.aload_n 2, 1) := by decide +kernel
theorem dX0_pullOn_46 : decode cX0_pullOn 46 = .ok (.iload 7, 2) := by decide +kernel
theorem dX0_pullOn_48 : decode cX0_pullOn 48 = .ok (.iaload, 1) := by decide +kernel
theorem dX0_pullOn_49 : decode cX0_pullOn 49 = .ok (.iload 4, 2) := by decide +kernel
theorem dX0_pullOn_51 : decode cX0_pullOn 51 = .ok (.isub, 1) := by decide +kernel
theorem dX0_pullOn_52 : decode cX0_pullOn 52 = .ok (.istore 8, 2) := by decide +kernel
theorem dX0_pullOn_54 : decode cX0_pullOn 54 = .ok (.iconst 2, 1) := by decide +kernel
theorem dX0_pullOn_55 : decode cX0_pullOn 55 = .ok (.iload 8, 2) := by decide +kernel
theorem dX0_pullOn_57 : decode cX0_pullOn 57 = .ok (.imul, 1) := by decide +kernel
theorem dX0_pullOn_58 : decode cX0_pullOn 58 = .ok (.aload_n 0, 1) := by decide +kernel
theorem dX0_pullOn_59 : decode cX0_pullOn 59 = .ok (.getfield 9, 3) := by decide +kernel
theorem dX0_pullOn_62 : decode cX0_pullOn 62 = .ok (.if_icmp .le 15, 3) := by decide +kernel
theorem dX0_pullOn_65 : decode cX0_pullOn 65 = .ok (.iload 8, 2) := by decide +kernel
theorem dX0_pullOn_67 : decode cX0_pullOn 67 = .ok (.aload_n 0, 1) := by decide +kernel
theorem dX0_pullOn_68 : decode cX0_pullOn 68 = .ok (.getfield 9, 3) := by decide +kernel
theorem dX0_pullOn_71 : decode cX0_pullOn 71 = .ok (.isub, 1) := by decide +kernel
theorem dX0_pullOn_72 : decode cX0_pullOn 72 = .ok (.istore 8, 2) := by decide +kernel
theorem dX0_pullOn_74 : decode cX0_pullOn 74 = .ok (.goto 24, 3) := by decide +kernel
theorem dX0_pullOn_77 : decode cX0_pullOn 77 = .ok (.iconst 2, 1) := by decide +kernel
theorem dX0_pullOn_78 : decode cX0_pullOn 78 = .ok (.iload 8, 2) := by decide +kernel
theorem dX0_pullOn_80 : decode cX0_pullOn 80 = .ok (.imul, 1) := by decide +kernel
theorem dX0_pullOn_81 : decode cX0_pullOn 81 = .ok (.aload_n 0, 1) := by decide +kernel
theorem dX0_pullOn_82 : decode cX0_pullOn 82 = .ok (.getfield 9, 3) := by decide +kernel
theorem dX0_pullOn_85 : decode cX0_pullOn 85 = .ok (.ineg, 1) := by decide +kernel
theorem dX0_pullOn_86 : decode cX0_pullOn 86 = .ok (.if_icmp .gt 12, 3) := by decide +kernel
theorem dX0_pullOn_89 : decode cX0_pullOn 89 = .ok (.iload 8, 2) := by decide +kernel
theorem dX0_pullOn_91 : decode cX0_pullOn 91 = .ok (.aload_n 0, 1) := by decide +kernel
theorem dX0_pullOn_92 : decode cX0_pullOn 92 = .ok (.getfield 9, 3) := by decide +kernel
theorem dX0_pullOn_95 : decode cX0_pullOn 95 = .ok (.iadd, 1) := by decide +kernel
theorem dX0_pullOn_96 : decode cX0_pullOn 96 = .ok (.istore 8, 2) := by decide +kernel
theorem dX0_pullOn_98 : decode cX0_pullOn 98 = .ok (.iload 5, 2) := by decide +kernel
theorem dX0_pullOn_100 : decode cX0_pullOn 100 = .ok (.iload 8, 2) := by decide +kernel
theorem dX0_pullOn_102 : decode cX0_pullOn 102 = .ok (.iadd, 1) := by decide +kernel
theorem dX0_pullOn_103 : decode cX0_pullOn 103 = .ok (.istore 5, 2) := by decide +kernel
theorem dX0_pullOn_105 : decode cX0_pullOn 105 = .ok (.iinc 6 1, 3) := by decide +kernel
theorem dX0_pullOn_108 : decode cX0_pullOn 108 = .ok (.iinc 7 1, 3) := by decide +kernel
theorem dX0_pullOn_111 : decode cX0_pullOn 111 = .ok (.goto (-84), 3) := by decide +kernel
theorem dX0_pullOn_114 : decode cX0_pullOn 114 = .ok (.iload 6, 2) := by decide +kernel
theorem dX0_pullOn_116 : decode cX0_pullOn 116 = .ok (.iconst 1, 1) := by decide +kernel
theorem dX0_pullOn_117 : decode cX0_pullOn 117 = .ok (.if_icmp .le 11, 3) := by decide +kernel
theorem dX0_pullOn_120 : decode cX0_pullOn 120 = .ok (.iload 5, 2) := by decide +kernel
theorem dX0_pullOn_122 : decode cX0_pullOn 122 = .ok (.iload 6, 2) := by decide +kernel
theorem dX0_pullOn_124 : decode cX0_pullOn 124 = .ok (.idiv, 1) := by decide +kernel
theorem dX0_pullOn_125 : decode cX0_pullOn 125 = .ok (.goto 4, 3) := by decide +kernel
theorem dX0_pullOn_128 : decode cX0_pullOn 128 = .ok (.iconst 0, 1) := by decide +kernel
theorem dX0_pullOn_129 : decode cX0_pullOn 129 = .ok (.ireturn, 1) := by decide +kernel
theorem dX0_fire_0 : decode cX0_fire 0 = .ok (.iconst 0, 1) := by decide +kernel
theorem dX0_fire_1 : decode cX0_fire 1 = .ok (.istore_n 2, 1) := by decide +kernel
theorem dX0_fire_2 : decode cX0_fire 2 = .ok (.iconst 0, 1) := by decide +kernel
theorem dX0_fire_3 : decode cX0_fire 3 = .ok (.istore_n 3, 1) := by decide +kernel
theorem dX0_fire_4 : decode cX0_fire 4 = .ok (.iconst 0, 1) := by decide +kernel
theorem dX0_fire_5 : decode cX0_fire 5 = .ok (.istore 4, 2) := by decide +kernel
theorem dX0_fire_7 : decode cX0_fire 7 = .ok (.iload 4, 2) := by decide +kernel
theorem dX0_fire_9 : decode cX0_fire 9 = .ok (.aload_n 0, 1) := by decide +kernel
theorem dX0_fire_10 : decode cX0_fire 10 = .ok (.getfield 15, 3) := by decide +kernel
theorem dX0_fire_13 : decode cX0_fire 13 = .ok (.if_icmp .ge 52, 3) := by decide +kernel
theorem dX0_fire_16 : decode cX0_fire 16 = .ok (.aload_n 0, 1) := by decide +kernel
theorem dX0_fire_17 : decode cX0_fire 17 = .ok (.getfield 21, 3) := by decide +kernel
theorem dX0_fire_20 : decode cX0_fire 20 = .ok (.iload 4, 2) := by decide +kernel
theorem dX0_fire_22 : decode cX0_fire 22 = .ok (.iaload, 1) := by decide +kernel
theorem dX0_fire_23 : decode cX0_fire 23 = .ok (.iconst 2, 1) := by decide +kernel
theorem dX0_fire_24 : decode cX0_fire 24 = .ok (.if_icmp .ne 35, 3) := by decide +kernel
theorem dX0_fire_27 : decode cX0_fire 27 = .ok (.aload_n 0, 1) := by decide +kernel
theorem dX0_fire_28 : decode cX0_fire 28 = .ok (.getfield 40, 3) := by decide +kernel
theorem dX0_fire_31 : decode cX0_fire 31 = .ok (.iload 4, 2) := by decide +kernel
theorem dX0_fire_33 : decode cX0_fire 33 = .ok (.iaload, 1) := by decide +kernel
theorem dX0_fire_34 : decode cX0_fire 34 = .ok (.aload_n 0, 1) := by decide +kernel
theorem dX0_fire_35 : decode cX0_fire 35 = .ok (.getfield 9, 3) := by decide +kernel
theorem dX0_fire_38 : decode cX0_fire 38 = .ok (.if_icmp .lt 21, 3) := by decide +kernel
theorem dX0_fire_41 : decode cX0_fire 41 = .ok (.aload_n 0, 1) := by decide +kernel
theorem dX0_fire_42 : decode cX0_fire 42 = .ok (.getfield 43, 3) := by decide +kernel
theorem dX0_fire_45 : decode cX0_fire 45 = .ok (.iload_n 2, 1) := by decide +kernel
theorem dX0_fire_46 : decode cX0_fire 46 = .ok (.iload 4, 2) := by decide +kernel
theorem dX0_fire_48 : decode cX0_fire 48 = .ok (.iastore, 1) := by decide +kernel
theorem dX0_fire_49 : decode cX0_fire 49 = .ok (.iinc 2 1, 3) := by decide +kernel
theorem dX0_fire_52 : decode cX0_fire 52 = .ok (.iload_n 3, 1) := by decide +kernel
theorem dX0_fire_53 : decode cX0_fire 53 = .ok (.iconst 1, 1) := by decide +kernel
theorem dX0_fire_54 : decode cX0_fire 54 = .ok (.iload 4, 2) := by decide +kernel
theorem dX0_fire_56 : decode cX0_fire 56 = .ok (.ishl, 1) := by decide +kernel
theorem dX0_fire_57 : decode cX0_fire 57 = .ok (.ior, 1) := by decide +kernel
theorem dX0_fire_58 : decode cX0_fire 58 = .ok (.istore_n 3, 1) := by decide +kernel
theorem dX0_fire_59 : decode cX0_fire 59 = .ok (.iinc 4 1, 3) := by decide +kernel
theorem dX0_fire_62 : decode cX0_fire 62 = .ok (.goto (-55), 3) := by decide +kernel
theorem dX0_fire_65 : decode cX0_fire 65 = .ok (.iconst 0, 1) := by decide +kernel
theorem dX0_fire_66 : decode cX0_fire 66 = .ok (.istore 4, 2) := by decide +kernel
theorem dX0_fire_68 : decode cX0_fire 68 = .ok (.iload 4, 2) := by decide +kernel
theorem dX0_fire_70 : decode cX0_fire 70 = .ok (.iload_n 2, 1) := by decide +kernel
theorem dX0_fire_71 : decode cX0_fire 71 = .ok (.if_icmp .ge 175, 3) := by decide +kernel
theorem dX0_fire_74 : decode cX0_fire 74 = .ok (.iload 4, 2) := by decide +kernel
theorem dX0_fire_76 : decode cX0_fire 76 = .ok (.aload_n 0, 1) := by decide +kernel
theorem dX0_fire_77 : decode cX0_fire 77 = .ok (.getfield 15, 3) := by decide +kernel
theorem dX0_fire_80 : decode cX0_fire 80 = .ok (.if_icmp .ge 166, 3) := by decide +kernel
theorem dX0_fire_83 : decode cX0_fire 83 = .ok (.aload_n 0, 1) := by decide +kernel
theorem dX0_fire_84 : decode cX0_fire 84 = .ok (.getfield 43, 3) := by decide +kernel
theorem dX0_fire_87 : decode cX0_fire 87 = .ok (.iload 4, 2) := by decide +kernel
theorem dX0_fire_89 : decode cX0_fire 89 = .ok (.iaload, 1) := by decide +kernel
theorem dX0_fire_90 : decode cX0_fire 90 = .ok (.istore 5, 2) := by decide +kernel
theorem dX0_fire_92 : decode cX0_fire 92 = .ok (.aload_n 0, 1) := by decide +kernel
theorem dX0_fire_93 : decode cX0_fire 93 = .ok (.getfield 40, 3) := by decide +kernel
theorem dX0_fire_96 : decode cX0_fire 96 = .ok (.iload 5, 2) := by decide +kernel
theorem dX0_fire_98 : decode cX0_fire 98 = .ok (.iconst 0, 1) := by decide +kernel
theorem dX0_fire_99 : decode cX0_fire 99 = .ok (.iastore, 1) := by decide +kernel
theorem dX0_fire_100 : decode cX0_fire 100 = .ok (.aload_n 1, 1) := by decide +kernel
theorem dX0_fire_101 : decode cX0_fire 101 = .ok (.iload 5, 2) := by decide +kernel
theorem dX0_fire_103 : decode cX0_fire 103 = .ok (.dup2, 1) := by decide +kernel
theorem dX0_fire_104 : decode cX0_fire 104 = .ok (.iaload, 1) := by decide +kernel
theorem dX0_fire_105 : decode cX0_fire 105 = .ok (.iconst 1, 1) := by decide +kernel
theorem dX0_fire_106 : decode cX0_fire 106 = .ok (.iadd, 1) := by decide +kernel
theorem dX0_fire_107 : decode cX0_fire 107 = .ok (.iastore, 1) := by decide +kernel
theorem dX0_fire_108 : decode cX0_fire 108 = .ok (.iconst 0, 1) := by decide +kernel
theorem dX0_fire_109 : decode cX0_fire 109 = .ok (.istore 6, 2) := by decide +kernel
theorem dX0_fire_111 : decode cX0_fire 111 = .ok (.iload 6, 2) := by decide +kernel
theorem dX0_fire_113 : decode cX0_fire 113 = .ok (.aload_n 0, 1) := by decide +kernel
theorem dX0_fire_114 : decode cX0_fire 114 = .ok (.getfield 15, 3) := by decide +kernel
theorem dX0_fire_117 : decode cX0_fire 117 = .ok (.if_icmp .ge 123, 3) := by decide +kernel
theorem dX0_fire_120 : decode cX0_fire 120 = .ok (.aload_n 0, 1) := by decide +kernel
theorem dX0_fire_121 : decode cX0_fire 121 = .ok (.getfield 21, 3) := by decide +kernel
theorem dX0_fire_124 : decode cX0_fire 124 = .ok (.iload 6, 2) := by decide +kernel
theorem dX0_fire_126 : decode cX0_fire 126 = .ok (.iaload, 1) := by decide +kernel
theorem dX0_fire_127 : decode cX0_fire 127 = .ok (.iconst 2, 1) := by decide +kernel
theorem dX0_fire_128 : decode cX0_fire 128 = .ok (.if_icmp .ne 31, 3) := by decide +kernel
theorem dX0_fire_131 : decode cX0_fire 131 = .ok (.iload_n 3, 1) := by decide +kernel
theorem dX0_fire_132 : decode cX0_fire 132 = .ok (.iload 6, 2) := by decide +kernel
theorem dX0_fire_134 : decode cX0_fire 134 = .ok (.invokestatic 75, 3) := by decide +kernel
theorem dX0_fire_137 : decode cX0_fire 137 = .ok (.ifCond .ne 22, 3) := by decide +kernel
theorem dX0_fire_140 : decode cX0_fire 140 = .ok (.aload_n 0, 1) := by decide +kernel
theorem dX0_fire_141 : decode cX0_fire 141 = .ok (.getfield 31, 3) := by decide +kernel
theorem dX0_fire_144 : decode cX0_fire 144 = .ok (.iload 6, 2) := by decide +kernel
theorem dX0_fire_146 : decode cX0_fire 146 = .ok (.iaload, 1) := by decide +kernel
theorem dX0_fire_147 : decode cX0_fire 147 = .ok (.iload 5, 2) := by decide +kernel
theorem dX0_fire_149 : decode cX0_fire 149 = .ok (.invokestatic 75, 3) := by decide +kernel
theorem dX0_fire_152 : decode cX0_fire 152 = .ok (.ifCond .eq 7, 3) := by decide +kernel
theorem dX0_fire_155 : decode cX0_fire 155 = .ok (.iconst 1, 1) := by decide +kernel
theorem dX0_fire_156 : decode cX0_fire 156 = .ok (.goto 4, 3) := by decide +kernel
theorem dX0_fire_159 : decode cX0_fire 159 = .ok (.iconst 0, 1) := by decide +kernel
theorem dX0_fire_160 : decode cX0_fire 160 = .ok (.istore 7, 2) := by decide +kernel
theorem dX0_fire_162 : decode cX0_fire 162 = .ok (.iload 7, 2) := by decide +kernel
theorem dX0_fire_164 : decode cX0_fire 164 = .ok (.ifCond .eq 24, 3) := by decide +kernel
theorem dX0_fire_167 : decode cX0_fire 167 = .ok (.aload_n 0, 1) := by decide +kernel
theorem dX0_fire_168 : decode cX0_fire 168 = .ok (.getfield 40, 3) := by decide +kernel
theorem dX0_fire_171 : decode cX0_fire 171 = .ok (.iload 6, 2) := by decide +kernel
theorem dX0_fire_173 : decode cX0_fire 173 = .ok (.dup2, 1) := by decide +kernel
theorem dX0_fire_174 : decode cX0_fire 174 = .ok (.iaload, 1) := by decide +kernel
theorem dX0_fire_175 : decode cX0_fire 175 = .ok (.aload_n 0, 1) := by decide +kernel
theorem dX0_fire_176 : decode cX0_fire 176 = .ok (.aload_n 0, 1) := by decide +kernel
theorem dX0_fire_177 : decode cX0_fire 177 = .ok (.getfield 40, 3) := by decide +kernel
theorem dX0_fire_180 : decode cX0_fire 180 = .ok (.iload 6, 2) := by decide +kernel
theorem dX0_fire_182 : decode cX0_fire 182 = .ok (.iaload, 1) := by decide +kernel
theorem dX0_fire_183 : decode cX0_fire 183 = .ok (.invokevirtual 96, 3) := by decide +kernel
theorem dX0_fire_186 : decode cX0_fire 186 = .ok (.iadd, 1) := by decide +kernel
theorem dX0_fire_187 : decode cX0_fire 187 = .ok (.iastore, 1) := by decide +kernel
theorem dX0_fire_188 : decode cX0_fire 188 = .ok (.iload 7, 2) := by decide +kernel
theorem dX0_fire_190 : decode cX0_fire 190 = .ok (.ifCond .eq 44, 3) := by decide +kernel
theorem dX0_fire_193 : decode cX0_fire 193 = .ok (.aload_n 0, 1) := by decide +kernel
theorem dX0_fire_194 : decode cX0_fire 194 = .ok (.getfield 40, 3) := by decide +kernel
theorem dX0_fire_197 : decode cX0_fire 197 = .ok (.iload 6, 2) := by decide +kernel
theorem dX0_fire_199 : decode cX0_fire 199 = .ok (.iaload, 1) := by decide +kernel
theorem dX0_fire_200 : decode cX0_fire 200 = .ok (.aload_n 0, 1) := by decide +kernel
theorem dX0_fire_201 : decode cX0_fire 201 = .ok (.getfield 9, 3) := by decide +kernel
theorem dX0_fire_204 : decode cX0_fire 204 = .ok (.if_icmp .lt 30, 3) := by decide +kernel
theorem dX0_fire_207 : decode cX0_fire 207 = .ok (.iload_n 2, 1) := by decide +kernel
theorem dX0_fire_208 : decode cX0_fire 208 = .ok (.aload_n 0, 1) := by decide +kernel
theorem dX0_fire_209 : decode cX0_fire 209 = .ok (.getfield 43, 3) := by decide +kernel
theorem dX0_fire_212 : decode cX0_fire 212 = .ok (.arraylength, 1) := by decide +kernel
theorem dX0_fire_213 : decode cX0_fire 213 = .ok (.if_icmp .ge 21, 3) := by decide +kernel
theorem dX0_fire_216 : decode cX0_fire 216 = .ok (.aload_n 0, 1) := by decide +kernel
theorem dX0_fire_217 : decode cX0_fire 217 = .ok (.getfield 43, 3) := by decide +kernel
theorem dX0_fire_220 : decode cX0_fire 220 = .ok (.iload_n 2, 1) := by decide +kernel
theorem dX0_fire_221 : decode cX0_fire 221 = .ok (.iload 6, 2) := by decide +kernel
theorem dX0_fire_223 : decode cX0_fire 223 = .ok (.iastore, 1) := by decide +kernel
theorem dX0_fire_224 : decode cX0_fire 224 = .ok (.iinc 2 1, 3) := by decide +kernel
theorem dX0_fire_227 : decode cX0_fire 227 = .ok (.iload_n 3, 1) := by decide +kernel
theorem dX0_fire_228 : decode cX0_fire 228 = .ok (.iconst 1, 1) := by decide +kernel
theorem dX0_fire_229 : decode cX0_fire 229 = .ok (.iload 6, 2) := by decide +kernel
theorem dX0_fire_231 : decode cX0_fire 231 = .ok (.ishl, 1) := by decide +kernel
theorem dX0_fire_232 : decode cX0_fire 232 = .ok (.ior, 1) := by decide +kernel
theorem dX0_fire_233 : decode cX0_fire 233 = .ok (.istore_n 3, 1) := by decide +kernel
theorem dX0_fire_234 : decode cX0_fire 234 = .ok (.iinc 6 1, 3) := by decide +kernel
theorem dX0_fire_237 : decode cX0_fire 237 = .ok (.goto (-126), 3) := by decide +kernel
theorem dX0_fire_240 : decode cX0_fire 240 = .ok (.iinc 4 1, 3) := by decide +kernel
theorem dX0_fire_243 : decode cX0_fire 243 = .ok (.goto (-175), 3) := by decide +kernel
theorem dX0_fire_246 : decode cX0_fire 246 = .ok (.return_, 1) := by decide +kernel
theorem dX0_pushAt_0 : decode cX0_pushAt 0 = .ok (.aload_n 0, 1) := by decide +kernel
theorem dX0_pushAt_1 : decode cX0_pushAt 1 = .ok (.getfield 9, 3) := by decide +kernel
theorem dX0_pushAt_4 : decode cX0_pushAt 4 = .ok (.ifCond .le 17, 3) := by decide +kernel
theorem dX0_pushAt_7 : decode cX0_pushAt 7 = .ok (.iload_n 1, 1) := by decide +kernel
theorem dX0_pushAt_8 : decode cX0_pushAt 8 = .ok (.aload_n 0, 1) := by decide +kernel
theorem dX0_pushAt_9 : decode cX0_pushAt 9 = .ok (.getfield 37, 3) := by decide +kernel
theorem dX0_pushAt_12 : decode cX0_pushAt 12 = .ok (.imul, 1) := by decide +kernel
theorem dX0_pushAt_13 : decode cX0_pushAt 13 = .ok (.aload_n 0, 1) := by decide +kernel
theorem dX0_pushAt_14 : decode cX0_pushAt 14 = .ok (.getfield 9, 3) := by decide +kernel
theorem dX0_pushAt_17 : decode cX0_pushAt 17 = .ok (.idiv, 1) := by decide +kernel
theorem dX0_pushAt_18 : decode cX0_pushAt 18 = .ok (.goto 4, 3) := by decide +kernel
theorem dX0_pushAt_21 : decode cX0_pushAt 21 = .ok (.iconst 0, 1) := by decide +kernel
theorem dX0_pushAt_22 : decode cX0_pushAt 22 = .ok (.istore_n 2, 1) := by decide +kernel
theorem dX0_pushAt_23 : decode cX0_pushAt 23 = .ok (.iload_n 2, 1) := by decide +kernel
theorem dX0_pushAt_24 : decode cX0_pushAt 24 = .ok (.ifCond .lt 21, 3) := by decide +kernel
theorem dX0_pushAt_27 : decode cX0_pushAt 27 = .ok (.iload_n 2, 1) := by decide +kernel
theorem dX0_pushAt_28 : decode cX0_pushAt 28 = .ok (.aload_n 0, 1) := by decide +kernel
theorem dX0_pushAt_29 : decode cX0_pushAt 29 = .ok (.getfield 34, 3) := by decide +kernel
theorem dX0_pushAt_32 : decode cX0_pushAt 32 = .ok (.arraylength, 1) := by decide +kernel
theorem dX0_pushAt_33 : decode cX0_pushAt 33 = .ok (.if_icmp .ge 12, 3) := by decide +kernel
theorem dX0_pushAt_36 : decode cX0_pushAt 36 = .ok (.aload_n 0, 1) := by decide +kernel
theorem dX0_pushAt_37 : decode cX0_pushAt 37 = .ok (.getfield 34, 3) := by decide +kernel
theorem dX0_pushAt_40 : decode cX0_pushAt 40 = .ok (.iload_n 2, 1) := by decide +kernel
theorem dX0_pushAt_41 : decode cX0_pushAt 41 = .ok (.iaload, 1) := by decide +kernel
theorem dX0_pushAt_42 : decode cX0_pushAt 42 = .ok (.goto 4, 3) := by decide +kernel
theorem dX0_pushAt_45 : decode cX0_pushAt 45 = .ok (.iconst 0, 1) := by decide +kernel
theorem dX0_pushAt_46 : decode cX0_pushAt 46 = .ok (.ireturn, 1) := by decide +kernel
theorem dX0_startWalk_0 : decode cX0_startWalk 0 = .ok (.aload_n 0, 1) := by decide +kernel
theorem dX0_startWalk_1 : decode cX0_startWalk 1 = .ok (.getfield 25, 3) := by decide +kernel
theorem dX0_startWalk_4 : decode cX0_startWalk 4 = .ok (.iconst 0, 1) := by decide +kernel
theorem dX0_startWalk_5 : decode cX0_startWalk 5 = .ok (.aload_n 0, 1) := by decide +kernel
theorem dX0_startWalk_6 : decode cX0_startWalk 6 = .ok (.getfield 49, 3) := by decide +kernel
theorem dX0_startWalk_9 : decode cX0_startWalk 9 = .ok (.iconst 0, 1) := by decide +kernel
theorem dX0_startWalk_10 : decode cX0_startWalk 10 = .ok (.aload_n 0, 1) := by decide +kernel
theorem dX0_startWalk_11 : decode cX0_startWalk 11 = .ok (.getfield 15, 3) := by decide +kernel
theorem dX0_startWalk_14 : decode cX0_startWalk 14 = .ok (.invokestatic 90, 3) := by decide +kernel
theorem dX0_startWalk_17 : decode cX0_startWalk 17 = .ok (.return_, 1) := by decide +kernel
theorem dX0_walk_0 : decode cX0_walk 0 = .ok (.aload_n 0, 1) := by decide +kernel
theorem dX0_walk_1 : decode cX0_walk 1 = .ok (.aload_n 0, 1) := by decide +kernel
theorem dX0_walk_2 : decode cX0_walk 2 = .ok (.getfield 49, 3) := by decide +kernel
theorem dX0_walk_5 : decode cX0_walk 5 = .ok (.aload_n 0, 1) := by decide +kernel
theorem dX0_walk_6 : decode cX0_walk 6 = .ok (.getfield 52, 3) := by decide +kernel
theorem dX0_walk_9 : decode cX0_walk 9 = .ok (.invokevirtual 99, 3) := by decide +kernel
theorem dX0_walk_12 : decode cX0_walk 12 = .ok (.return_, 1) := by decide +kernel
theorem dX0_inStep_0 : decode cX0_inStep 0 = .ok (.iconst (-1), 1) := by decide +kernel
theorem dX0_inStep_1 : decode cX0_inStep 1 = .ok (.istore_n 3, 1) := by decide +kernel
theorem dX0_inStep_2 : decode cX0_inStep 2 = .ok (.iconst 0, 1) := by decide +kernel
theorem dX0_inStep_3 : decode cX0_inStep 3 = .ok (.istore 4, 2) := by decide +kernel
theorem dX0_inStep_5 : decode cX0_inStep 5 = .ok (.iload 4, 2) := by decide +kernel
theorem dX0_inStep_7 : decode cX0_inStep 7 = .ok (.aload_n 0, 1) := by decide +kernel
theorem dX0_inStep_8 : decode cX0_inStep 8 = .ok (.getfield 15, 3) := by decide +kernel
theorem dX0_inStep_11 : decode cX0_inStep 11 = .ok (.if_icmp .ge 38, 3) := by decide +kernel
theorem dX0_inStep_14 : decode cX0_inStep 14 = .ok (.iload_n 2, 1) := by decide +kernel
theorem dX0_inStep_15 : decode cX0_inStep 15 = .ok (.iload 4, 2) := by decide +kernel
theorem dX0_inStep_17 : decode cX0_inStep 17 = .ok (.invokestatic 75, 3) := by decide +kernel
theorem dX0_inStep_20 : decode cX0_inStep 20 = .ok (.ifCond .eq 23, 3) := by decide +kernel
theorem dX0_inStep_23 : decode cX0_inStep 23 = .ok (.iload_n 3, 1) := by decide +kernel
theorem dX0_inStep_24 : decode cX0_inStep 24 = .ok (.iconst (-1), 1) := by decide +kernel
theorem dX0_inStep_25 : decode cX0_inStep 25 = .ok (.if_icmp .eq 13, 3) := by decide +kernel
theorem dX0_inStep_28 : decode cX0_inStep 28 = .ok (.iload_n 3, 1) := by decide +kernel
theorem dX0_inStep_29 : decode cX0_inStep 29 = .ok (.aload_n 1, 1) := by decide +kernel
theorem dX0_inStep_30 : decode cX0_inStep 30 = .ok (.iload 4, 2) := by decide +kernel
theorem dX0_inStep_32 : decode cX0_inStep 32 = .ok (.iaload, 1) := by decide +kernel
theorem dX0_inStep_33 : decode cX0_inStep 33 = .ok (.if_icmp .eq 5, 3) := by decide +kernel
theorem dX0_inStep_36 : decode cX0_inStep 36 = .ok (.iconst 0, 1) := by decide +kernel
theorem dX0_inStep_37 : decode cX0_inStep 37 = .ok (.ireturn, 1) := by decide +kernel
theorem dX0_inStep_38 : decode cX0_inStep 38 = .ok (.aload_n 1, 1) := by decide +kernel
theorem dX0_inStep_39 : decode cX0_inStep 39 = .ok (.iload 4, 2) := by decide +kernel
theorem dX0_inStep_41 : decode cX0_inStep 41 = .ok (.iaload, 1) := by decide +kernel
theorem dX0_inStep_42 : decode cX0_inStep 42 = .ok (.istore_n 3, 1) := by decide +kernel
theorem dX0_inStep_43 : decode cX0_inStep 43 = .ok (.iinc 4 1, 3) := by decide +kernel
theorem dX0_inStep_46 : decode cX0_inStep 46 = .ok (.goto (-41), 3) := by decide +kernel
theorem dX0_inStep_49 : decode cX0_inStep 49 = .ok (.iconst 1, 1) := by decide +kernel
theorem dX0_inStep_50 : decode cX0_inStep 50 = .ok (.ireturn, 1) := by decide +kernel
theorem dX0_leastArc_0 : decode cX0_leastArc 0 = .ok (.aload_n 0, 1) := by decide +kernel
theorem dX0_leastArc_1 : decode cX0_leastArc 1 = .ok (.getfield 9, 3) := by decide +kernel
theorem dX0_leastArc_4 : decode cX0_leastArc 4 = .ok (.istore_n 2, 1) := by decide +kernel
theorem dX0_leastArc_5 : decode cX0_leastArc 5 = .ok (.iconst 0, 1) := by decide +kernel
theorem dX0_leastArc_6 : decode cX0_leastArc 6 = .ok (.istore_n 3, 1) := by decide +kernel
theorem dX0_leastArc_7 : decode cX0_leastArc 7 = .ok (.iload_n 3, 1) := by decide +kernel
theorem dX0_leastArc_8 : decode cX0_leastArc 8 = .ok (.aload_n 0, 1) := by decide +kernel
theorem dX0_leastArc_9 : decode cX0_leastArc 9 = .ok (.getfield 15, 3) := by decide +kernel
theorem dX0_leastArc_12 : decode cX0_leastArc 12 = .ok (.if_icmp .ge 33, 3) := by decide +kernel
theorem dX0_leastArc_15 : decode cX0_leastArc 15 = .ok (.iload_n 1, 1) := by decide +kernel
theorem dX0_leastArc_16 : decode cX0_leastArc 16 = .ok (.iload_n 3, 1) := by decide +kernel
theorem dX0_leastArc_17 : decode cX0_leastArc 17 = .ok (.invokestatic 75, 3) := by decide +kernel
theorem dX0_leastArc_20 : decode cX0_leastArc 20 = .ok (.ifCond .eq 19, 3) := by decide +kernel
theorem dX0_leastArc_23 : decode cX0_leastArc 23 = .ok (.iload_n 2, 1) := by decide +kernel
theorem dX0_leastArc_24 : decode cX0_leastArc 24 = .ok (.aload_n 0, 1) := by decide +kernel
theorem dX0_leastArc_25 : decode cX0_leastArc 25 = .ok (.aload_n 0, 1) := by decide +kernel
theorem dX0_leastArc_26 : decode cX0_leastArc 26 = .ok (.getfield 25, 3) := by decide +kernel
theorem dX0_leastArc_29 : decode cX0_leastArc 29 = .ok (.iload_n 3, 1) := by decide +kernel
theorem dX0_leastArc_30 : decode cX0_leastArc 30 = .ok (.iaload, 1) := by decide +kernel
theorem dX0_leastArc_31 : decode cX0_leastArc 31 = .ok (.iload_n 1, 1) := by decide +kernel
theorem dX0_leastArc_32 : decode cX0_leastArc 32 = .ok (.invokevirtual 103, 3) := by decide +kernel
theorem dX0_leastArc_35 : decode cX0_leastArc 35 = .ok (.invokestatic 107, 3) := by decide +kernel
theorem dX0_leastArc_38 : decode cX0_leastArc 38 = .ok (.istore_n 2, 1) := by decide +kernel
theorem dX0_leastArc_39 : decode cX0_leastArc 39 = .ok (.iinc 3 1, 3) := by decide +kernel
theorem dX0_leastArc_42 : decode cX0_leastArc 42 = .ok (.goto (-35), 3) := by decide +kernel
theorem dX0_leastArc_45 : decode cX0_leastArc 45 = .ok (.iload_n 2, 1) := by decide +kernel
theorem dX0_leastArc_46 : decode cX0_leastArc 46 = .ok (.ireturn, 1) := by decide +kernel
theorem dX0_arcFrom_0 : decode cX0_arcFrom 0 = .ok (.iconst 0, 1) := by decide +kernel
theorem dX0_arcFrom_1 : decode cX0_arcFrom 1 = .ok (.istore_n 3, 1) := by decide +kernel
theorem dX0_arcFrom_2 : decode cX0_arcFrom 2 = .ok (.iconst 0, 1) := by decide +kernel
theorem dX0_arcFrom_3 : decode cX0_arcFrom 3 = .ok (.istore 4, 2) := by decide +kernel
theorem dX0_arcFrom_5 : decode cX0_arcFrom 5 = .ok (.iload 4, 2) := by decide +kernel
theorem dX0_arcFrom_7 : decode cX0_arcFrom 7 = .ok (.aload_n 0, 1) := by decide +kernel
theorem dX0_arcFrom_8 : decode cX0_arcFrom 8 = .ok (.getfield 15, 3) := by decide +kernel
theorem dX0_arcFrom_11 : decode cX0_arcFrom 11 = .ok (.if_icmp .ge 36, 3) := by decide +kernel
theorem dX0_arcFrom_14 : decode cX0_arcFrom 14 = .ok (.iload_n 2, 1) := by decide +kernel
theorem dX0_arcFrom_15 : decode cX0_arcFrom 15 = .ok (.iload 4, 2) := by decide +kernel
theorem dX0_arcFrom_17 : decode cX0_arcFrom 17 = .ok (.invokestatic 75, 3) := by decide +kernel
theorem dX0_arcFrom_20 : decode cX0_arcFrom 20 = .ok (.ifCond .eq 21, 3) := by decide +kernel
theorem dX0_arcFrom_23 : decode cX0_arcFrom 23 = .ok (.iload_n 3, 1) := by decide +kernel
theorem dX0_arcFrom_24 : decode cX0_arcFrom 24 = .ok (.aload_n 0, 1) := by decide +kernel
theorem dX0_arcFrom_25 : decode cX0_arcFrom 25 = .ok (.aload_n 0, 1) := by decide +kernel
theorem dX0_arcFrom_26 : decode cX0_arcFrom 26 = .ok (.getfield 25, 3) := by decide +kernel
theorem dX0_arcFrom_29 : decode cX0_arcFrom 29 = .ok (.iload 4, 2) := by decide +kernel
theorem dX0_arcFrom_31 : decode cX0_arcFrom 31 = .ok (.iaload, 1) := by decide +kernel
theorem dX0_arcFrom_32 : decode cX0_arcFrom 32 = .ok (.iload_n 1, 1) := by decide +kernel
theorem dX0_arcFrom_33 : decode cX0_arcFrom 33 = .ok (.isub, 1) := by decide +kernel
theorem dX0_arcFrom_34 : decode cX0_arcFrom 34 = .ok (.invokevirtual 83, 3) := by decide +kernel
theorem dX0_arcFrom_37 : decode cX0_arcFrom 37 = .ok (.invokestatic 112, 3) := by decide +kernel
theorem dX0_arcFrom_40 : decode cX0_arcFrom 40 = .ok (.istore_n 3, 1) := by decide +kernel
theorem dX0_arcFrom_41 : decode cX0_arcFrom 41 = .ok (.iinc 4 1, 3) := by decide +kernel
theorem dX0_arcFrom_44 : decode cX0_arcFrom 44 = .ok (.goto (-39), 3) := by decide +kernel
theorem dX0_arcFrom_47 : decode cX0_arcFrom 47 = .ok (.iload_n 3, 1) := by decide +kernel
theorem dX0_arcFrom_48 : decode cX0_arcFrom 48 = .ok (.ireturn, 1) := by decide +kernel
theorem dX0_smallStates_0 : decode cX0_smallStates 0 = .ok (.aload_n 0, 1) := by decide +kernel
theorem dX0_smallStates_1 : decode cX0_smallStates 1 = .ok (.getfield 15, 3) := by decide +kernel
theorem dX0_smallStates_4 : decode cX0_smallStates 4 = .ok (.ifCond .le 7, 3) := by decide +kernel
theorem dX0_smallStates_7 : decode cX0_smallStates 7 = .ok (.iconst 1, 1) := by decide +kernel
theorem dX0_smallStates_8 : decode cX0_smallStates 8 = .ok (.goto 4, 3) := by decide +kernel
theorem dX0_smallStates_11 : decode cX0_smallStates 11 = .ok (.iconst 0, 1) := by decide +kernel
theorem dX0_smallStates_12 : decode cX0_smallStates 12 = .ok (.istore_n 1, 1) := by decide +kernel
theorem dX0_smallStates_13 : decode cX0_smallStates 13 = .ok (.iconst 0, 1) := by decide +kernel
theorem dX0_smallStates_14 : decode cX0_smallStates 14 = .ok (.istore_n 2, 1) := by decide +kernel
theorem dX0_smallStates_15 : decode cX0_smallStates 15 = .ok (.iload_n 2, 1) := by decide +kernel
theorem dX0_smallStates_16 : decode cX0_smallStates 16 = .ok (.aload_n 0, 1) := by decide +kernel
theorem dX0_smallStates_17 : decode cX0_smallStates 17 = .ok (.getfield 15, 3) := by decide +kernel
theorem dX0_smallStates_20 : decode cX0_smallStates 20 = .ok (.if_icmp .ge 25, 3) := by decide +kernel
theorem dX0_smallStates_23 : decode cX0_smallStates 23 = .ok (.iload_n 1, 1) := by decide +kernel
theorem dX0_smallStates_24 : decode cX0_smallStates 24 = .ok (.aload_n 0, 1) := by decide +kernel
theorem dX0_smallStates_25 : decode cX0_smallStates 25 = .ok (.getfield 9, 3) := by decide +kernel
theorem dX0_smallStates_28 : decode cX0_smallStates 28 = .ok (.imul, 1) := by decide +kernel
theorem dX0_smallStates_29 : decode cX0_smallStates 29 = .ok (.istore_n 1, 1) := by decide +kernel
theorem dX0_smallStates_30 : decode cX0_smallStates 30 = .ok (.iload_n 1, 1) := by decide +kernel
theorem dX0_smallStates_31 : decode cX0_smallStates 31 = .ok (.sipush 20736, 3) := by decide +kernel
theorem dX0_smallStates_34 : decode cX0_smallStates 34 = .ok (.if_icmp .le 5, 3) := by decide +kernel
theorem dX0_smallStates_37 : decode cX0_smallStates 37 = .ok (.iconst 0, 1) := by decide +kernel
theorem dX0_smallStates_38 : decode cX0_smallStates 38 = .ok (.ireturn, 1) := by decide +kernel
theorem dX0_smallStates_39 : decode cX0_smallStates 39 = .ok (.iinc 2 1, 3) := by decide +kernel
theorem dX0_smallStates_42 : decode cX0_smallStates 42 = .ok (.goto (-27), 3) := by decide +kernel
theorem dX0_smallStates_45 : decode cX0_smallStates 45 = .ok (.iload_n 1, 1) := by decide +kernel
theorem dX0_smallStates_46 : decode cX0_smallStates 46 = .ok (.ireturn, 1) := by decide +kernel
theorem dX0_stateAfter_0 : decode cX0_stateAfter 0 = .ok (.aload_n 0, 1) := by decide +kernel
theorem dX0_stateAfter_1 : decode cX0_stateAfter 1 = .ok (.iload_n 1, 1) := by decide +kernel
theorem dX0_stateAfter_2 : decode cX0_stateAfter 2 = .ok (.invokevirtual 115, 3) := by decide +kernel
theorem dX0_stateAfter_5 : decode cX0_stateAfter 5 = .ok (.aload_n 0, 1) := by decide +kernel
theorem dX0_stateAfter_6 : decode cX0_stateAfter 6 = .ok (.invokevirtual 119, 3) := by decide +kernel
theorem dX0_stateAfter_9 : decode cX0_stateAfter 9 = .ok (.iconst 0, 1) := by decide +kernel
theorem dX0_stateAfter_10 : decode cX0_stateAfter 10 = .ok (.istore_n 2, 1) := by decide +kernel
theorem dX0_stateAfter_11 : decode cX0_stateAfter 11 = .ok (.aload_n 0, 1) := by decide +kernel
theorem dX0_stateAfter_12 : decode cX0_stateAfter 12 = .ok (.getfield 15, 3) := by decide +kernel
theorem dX0_stateAfter_15 : decode cX0_stateAfter 15 = .ok (.iconst 1, 1) := by decide +kernel
theorem dX0_stateAfter_16 : decode cX0_stateAfter 16 = .ok (.isub, 1) := by decide +kernel
theorem dX0_stateAfter_17 : decode cX0_stateAfter 17 = .ok (.istore_n 3, 1) := by decide +kernel
theorem dX0_stateAfter_18 : decode cX0_stateAfter 18 = .ok (.iload_n 3, 1) := by decide +kernel
theorem dX0_stateAfter_19 : decode cX0_stateAfter 19 = .ok (.ifCond .lt 23, 3) := by decide +kernel
theorem dX0_stateAfter_22 : decode cX0_stateAfter 22 = .ok (.iload_n 2, 1) := by decide +kernel
theorem dX0_stateAfter_23 : decode cX0_stateAfter 23 = .ok (.aload_n 0, 1) := by decide +kernel
theorem dX0_stateAfter_24 : decode cX0_stateAfter 24 = .ok (.getfield 9, 3) := by decide +kernel
theorem dX0_stateAfter_27 : decode cX0_stateAfter 27 = .ok (.imul, 1) := by decide +kernel
theorem dX0_stateAfter_28 : decode cX0_stateAfter 28 = .ok (.aload_n 0, 1) := by decide +kernel
theorem dX0_stateAfter_29 : decode cX0_stateAfter 29 = .ok (.getfield 49, 3) := by decide +kernel
theorem dX0_stateAfter_32 : decode cX0_stateAfter 32 = .ok (.iload_n 3, 1) := by decide +kernel
theorem dX0_stateAfter_33 : decode cX0_stateAfter 33 = .ok (.iaload, 1) := by decide +kernel
theorem dX0_stateAfter_34 : decode cX0_stateAfter 34 = .ok (.iadd, 1) := by decide +kernel
theorem dX0_stateAfter_35 : decode cX0_stateAfter 35 = .ok (.istore_n 2, 1) := by decide +kernel
theorem dX0_stateAfter_36 : decode cX0_stateAfter 36 = .ok (.iinc 3 (-1), 3) := by decide +kernel
theorem dX0_stateAfter_39 : decode cX0_stateAfter 39 = .ok (.goto (-21), 3) := by decide +kernel
theorem dX0_stateAfter_42 : decode cX0_stateAfter 42 = .ok (.iload_n 2, 1) := by decide +kernel
theorem dX0_stateAfter_43 : decode cX0_stateAfter 43 = .ok (.ireturn, 1) := by decide +kernel
theorem dX0_stateInStep_0 : decode cX0_stateInStep 0 = .ok (.aload_n 0, 1) := by decide +kernel
theorem dX0_stateInStep_1 : decode cX0_stateInStep 1 = .ok (.iload_n 1, 1) := by decide +kernel
theorem dX0_stateInStep_2 : decode cX0_stateInStep 2 = .ok (.invokevirtual 115, 3) := by decide +kernel
theorem dX0_stateInStep_5 : decode cX0_stateInStep 5 = .ok (.aload_n 0, 1) := by decide +kernel
theorem dX0_stateInStep_6 : decode cX0_stateInStep 6 = .ok (.aload_n 0, 1) := by decide +kernel
theorem dX0_stateInStep_7 : decode cX0_stateInStep 7 = .ok (.getfield 49, 3) := by decide +kernel
theorem dX0_stateInStep_10 : decode cX0_stateInStep 10 = .ok (.iload_n 2, 1) := by decide +kernel
theorem dX0_stateInStep_11 : decode cX0_stateInStep 11 = .ok (.invokevirtual 122, 3) := by decide +kernel
theorem dX0_stateInStep_14 : decode cX0_stateInStep 14 = .ok (.ireturn, 1) := by decide +kernel
theorem dX0_setWalker_0 : decode cX0_setWalker 0 = .ok (.iload_n 1, 1) := by decide +kernel
theorem dX0_setWalker_1 : decode cX0_setWalker 1 = .ok (.istore_n 2, 1) := by decide +kernel
theorem dX0_setWalker_2 : decode cX0_setWalker 2 = .ok (.iconst 0, 1) := by decide +kernel
theorem dX0_setWalker_3 : decode cX0_setWalker 3 = .ok (.istore_n 3, 1) := by decide +kernel
theorem dX0_setWalker_4 : decode cX0_setWalker 4 = .ok (.iload_n 3, 1) := by decide +kernel
theorem dX0_setWalker_5 : decode cX0_setWalker 5 = .ok (.aload_n 0, 1) := by decide +kernel
theorem dX0_setWalker_6 : decode cX0_setWalker 6 = .ok (.getfield 15, 3) := by decide +kernel
theorem dX0_setWalker_9 : decode cX0_setWalker 9 = .ok (.if_icmp .ge 35, 3) := by decide +kernel
theorem dX0_setWalker_12 : decode cX0_setWalker 12 = .ok (.aload_n 0, 1) := by decide +kernel
theorem dX0_setWalker_13 : decode cX0_setWalker 13 = .ok (.getfield 9, 3) := by decide +kernel
theorem dX0_setWalker_16 : decode cX0_setWalker 16 = .ok (.ifCond .le 28, 3) := by decide +kernel
theorem dX0_setWalker_19 : decode cX0_setWalker 19 = .ok (.aload_n 0, 1) := by decide +kernel
theorem dX0_setWalker_20 : decode cX0_setWalker 20 = .ok (.getfield 49, 3) := by decide +kernel
theorem dX0_setWalker_23 : decode cX0_setWalker 23 = .ok (.iload_n 3, 1) := by decide +kernel
theorem dX0_setWalker_24 : decode cX0_setWalker 24 = .ok (.iload_n 2, 1) := by decide +kernel
theorem dX0_setWalker_25 : decode cX0_setWalker 25 = .ok (.aload_n 0, 1) := by decide +kernel
theorem dX0_setWalker_26 : decode cX0_setWalker 26 = .ok (.getfield 9, 3) := by decide +kernel
theorem dX0_setWalker_29 : decode cX0_setWalker 29 = .ok (.irem, 1) := by decide +kernel
theorem dX0_setWalker_30 : decode cX0_setWalker 30 = .ok (.iastore, 1) := by decide +kernel
theorem dX0_setWalker_31 : decode cX0_setWalker 31 = .ok (.iload_n 2, 1) := by decide +kernel
theorem dX0_setWalker_32 : decode cX0_setWalker 32 = .ok (.aload_n 0, 1) := by decide +kernel
theorem dX0_setWalker_33 : decode cX0_setWalker 33 = .ok (.getfield 9, 3) := by decide +kernel
theorem dX0_setWalker_36 : decode cX0_setWalker 36 = .ok (.idiv, 1) := by decide +kernel
theorem dX0_setWalker_37 : decode cX0_setWalker 37 = .ok (.istore_n 2, 1) := by decide +kernel
theorem dX0_setWalker_38 : decode cX0_setWalker 38 = .ok (.iinc 3 1, 3) := by decide +kernel
theorem dX0_setWalker_41 : decode cX0_setWalker 41 = .ok (.goto (-37), 3) := by decide +kernel
theorem dX0_setWalker_44 : decode cX0_setWalker 44 = .ok (.return_, 1) := by decide +kernel
theorem dX1_init_0 : decode cX1_init 0 = .ok (.aload_n 0, 1) := by decide +kernel
theorem dX1_init_1 : decode cX1_init 1 = .ok (.invokespecial 3, 3) := by decide +kernel
theorem dX1_init_4 : decode cX1_init 4 = .ok (.aload_n 0, 1) := by decide +kernel
theorem dX1_init_5 : decode cX1_init 5 = .ok (.iconst 0, 1) := by decide +kernel
theorem dX1_init_6 : decode cX1_init 6 = .ok (.newarray .int, 2) := by decide +kernel
theorem dX1_init_8 : decode cX1_init 8 = .ok (.putfield 9, 3) := by decide +kernel
theorem dX1_init_11 : decode cX1_init 11 = .ok (.aload_n 0, 1) := by decide +kernel
theorem dX1_init_12 : decode cX1_init 12 = .ok (.iconst 0, 1) := by decide +kernel
theorem dX1_init_13 : decode cX1_init 13 = .ok (.newarray .int, 2) := by decide +kernel
theorem dX1_init_15 : decode cX1_init 15 = .ok (.putfield 15, 3) := by decide +kernel
theorem dX1_init_18 : decode cX1_init 18 = .ok (.aload_n 0, 1) := by decide +kernel
theorem dX1_init_19 : decode cX1_init 19 = .ok (.iconst 0, 1) := by decide +kernel
theorem dX1_init_20 : decode cX1_init 20 = .ok (.newarray .int, 2) := by decide +kernel
theorem dX1_init_22 : decode cX1_init 22 = .ok (.putfield 18, 3) := by decide +kernel
theorem dX1_init_25 : decode cX1_init 25 = .ok (.aload_n 0, 1) := by decide +kernel
theorem dX1_init_26 : decode cX1_init 26 = .ok (.iconst 0, 1) := by decide +kernel
theorem dX1_init_27 : decode cX1_init 27 = .ok (.newarray .int, 2) := by decide +kernel
theorem dX1_init_29 : decode cX1_init 29 = .ok (.putfield 21, 3) := by decide +kernel
theorem dX1_init_32 : decode cX1_init 32 = .ok (.aload_n 0, 1) := by decide +kernel
theorem dX1_init_33 : decode cX1_init 33 = .ok (.iconst 0, 1) := by decide +kernel
theorem dX1_init_34 : decode cX1_init 34 = .ok (.putfield 24, 3) := by decide +kernel
theorem dX1_init_37 : decode cX1_init 37 = .ok (.return_, 1) := by decide +kernel
theorem dX1_follow_0 : decode cX1_follow 0 = .ok (.aload_n 0, 1) := by decide +kernel
theorem dX1_follow_1 : decode cX1_follow 1 = .ok (.iload_n 2, 1) := by decide +kernel
theorem dX1_follow_2 : decode cX1_follow 2 = .ok (.invokevirtual 28, 3) := by decide +kernel
theorem dX1_follow_5 : decode cX1_follow 5 = .ok (.iconst 0, 1) := by decide +kernel
theorem dX1_follow_6 : decode cX1_follow 6 = .ok (.istore_n 3, 1) := by decide +kernel
theorem dX1_follow_7 : decode cX1_follow 7 = .ok (.iload_n 3, 1) := by decide +kernel
theorem dX1_follow_8 : decode cX1_follow 8 = .ok (.iload_n 2, 1) := by decide +kernel
theorem dX1_follow_9 : decode cX1_follow 9 = .ok (.if_icmp .ge 20, 3) := by decide +kernel
theorem dX1_follow_12 : decode cX1_follow 12 = .ok (.aload_n 0, 1) := by decide +kernel
theorem dX1_follow_13 : decode cX1_follow 13 = .ok (.getfield 9, 3) := by decide +kernel
theorem dX1_follow_16 : decode cX1_follow 16 = .ok (.iload_n 3, 1) := by decide +kernel
theorem dX1_follow_17 : decode cX1_follow 17 = .ok (.aload_n 1, 1) := by decide +kernel
theorem dX1_follow_18 : decode cX1_follow 18 = .ok (.iload_n 3, 1) := by decide +kernel
theorem dX1_follow_19 : decode cX1_follow 19 = .ok (.invokevirtual 32, 3) := by decide +kernel
theorem dX1_follow_22 : decode cX1_follow 22 = .ok (.iastore, 1) := by decide +kernel
theorem dX1_follow_23 : decode cX1_follow 23 = .ok (.iinc 3 1, 3) := by decide +kernel
theorem dX1_follow_26 : decode cX1_follow 26 = .ok (.goto (-19), 3) := by decide +kernel
theorem dX1_follow_29 : decode cX1_follow 29 = .ok (.aload_n 0, 1) := by decide +kernel
theorem dX1_follow_30 : decode cX1_follow 30 = .ok (.getfield 15, 3) := by decide +kernel
theorem dX1_follow_33 : decode cX1_follow 33 = .ok (.iconst (-1), 1) := by decide +kernel
theorem dX1_follow_34 : decode cX1_follow 34 = .ok (.invokestatic 38, 3) := by decide +kernel
theorem dX1_follow_37 : decode cX1_follow 37 = .ok (.aload_n 0, 1) := by decide +kernel
theorem dX1_follow_38 : decode cX1_follow 38 = .ok (.getfield 18, 3) := by decide +kernel
theorem dX1_follow_41 : decode cX1_follow 41 = .ok (.iconst 0, 1) := by decide +kernel
theorem dX1_follow_42 : decode cX1_follow 42 = .ok (.invokestatic 38, 3) := by decide +kernel
theorem dX1_follow_45 : decode cX1_follow 45 = .ok (.iconst 0, 1) := by decide +kernel
theorem dX1_follow_46 : decode cX1_follow 46 = .ok (.istore_n 3, 1) := by decide +kernel
theorem dX1_follow_47 : decode cX1_follow 47 = .ok (.iload_n 3, 1) := by decide +kernel
theorem dX1_follow_48 : decode cX1_follow 48 = .ok (.iload_n 2, 1) := by decide +kernel
theorem dX1_follow_49 : decode cX1_follow 49 = .ok (.if_icmp .ge 55, 3) := by decide +kernel
theorem dX1_follow_52 : decode cX1_follow 52 = .ok (.aload_n 0, 1) := by decide +kernel
theorem dX1_follow_53 : decode cX1_follow 53 = .ok (.getfield 15, 3) := by decide +kernel
theorem dX1_follow_56 : decode cX1_follow 56 = .ok (.iload_n 3, 1) := by decide +kernel
theorem dX1_follow_57 : decode cX1_follow 57 = .ok (.iaload, 1) := by decide +kernel
theorem dX1_follow_58 : decode cX1_follow 58 = .ok (.iconst (-1), 1) := by decide +kernel
theorem dX1_follow_59 : decode cX1_follow 59 = .ok (.if_icmp .ne 9, 3) := by decide +kernel
theorem dX1_follow_62 : decode cX1_follow 62 = .ok (.aload_n 0, 1) := by decide +kernel
theorem dX1_follow_63 : decode cX1_follow 63 = .ok (.iload_n 3, 1) := by decide +kernel
theorem dX1_follow_64 : decode cX1_follow 64 = .ok (.iload_n 2, 1) := by decide +kernel
theorem dX1_follow_65 : decode cX1_follow 65 = .ok (.invokevirtual 44, 3) := by decide +kernel
theorem dX1_follow_68 : decode cX1_follow 68 = .ok (.aload_n 0, 1) := by decide +kernel
theorem dX1_follow_69 : decode cX1_follow 69 = .ok (.getfield 15, 3) := by decide +kernel
theorem dX1_follow_72 : decode cX1_follow 72 = .ok (.iload_n 3, 1) := by decide +kernel
theorem dX1_follow_73 : decode cX1_follow 73 = .ok (.iaload, 1) := by decide +kernel
theorem dX1_follow_74 : decode cX1_follow 74 = .ok (.istore 4, 2) := by decide +kernel
theorem dX1_follow_76 : decode cX1_follow 76 = .ok (.iload 4, 2) := by decide +kernel
theorem dX1_follow_78 : decode cX1_follow 78 = .ok (.ifCond .lt 20, 3) := by decide +kernel
theorem dX1_follow_81 : decode cX1_follow 81 = .ok (.iload 4, 2) := by decide +kernel
theorem dX1_follow_83 : decode cX1_follow 83 = .ok (.iload_n 2, 1) := by decide +kernel
theorem dX1_follow_84 : decode cX1_follow 84 = .ok (.if_icmp .ge 14, 3) := by decide +kernel
theorem dX1_follow_87 : decode cX1_follow 87 = .ok (.aload_n 0, 1) := by decide +kernel
theorem dX1_follow_88 : decode cX1_follow 88 = .ok (.getfield 18, 3) := by decide +kernel
theorem dX1_follow_91 : decode cX1_follow 91 = .ok (.iload 4, 2) := by decide +kernel
theorem dX1_follow_93 : decode cX1_follow 93 = .ok (.dup2, 1) := by decide +kernel
theorem dX1_follow_94 : decode cX1_follow 94 = .ok (.iaload, 1) := by decide +kernel
theorem dX1_follow_95 : decode cX1_follow 95 = .ok (.iconst 1, 1) := by decide +kernel
theorem dX1_follow_96 : decode cX1_follow 96 = .ok (.iadd, 1) := by decide +kernel
theorem dX1_follow_97 : decode cX1_follow 97 = .ok (.iastore, 1) := by decide +kernel
theorem dX1_follow_98 : decode cX1_follow 98 = .ok (.iinc 3 1, 3) := by decide +kernel
theorem dX1_follow_101 : decode cX1_follow 101 = .ok (.goto (-54), 3) := by decide +kernel
theorem dX1_follow_104 : decode cX1_follow 104 = .ok (.return_, 1) := by decide +kernel
theorem dX1_makeRoom_0 : decode cX1_makeRoom 0 = .ok (.aload_n 0, 1) := by decide +kernel
theorem dX1_makeRoom_1 : decode cX1_makeRoom 1 = .ok (.getfield 9, 3) := by decide +kernel
theorem dX1_makeRoom_4 : decode cX1_makeRoom 4 = .ok (.arraylength, 1) := by decide +kernel
theorem dX1_makeRoom_5 : decode cX1_makeRoom 5 = .ok (.iload_n 1, 1) := by decide +kernel
theorem dX1_makeRoom_6 : decode cX1_makeRoom 6 = .ok (.if_icmp .ge 42, 3) := by decide +kernel
theorem dX1_makeRoom_9 : decode cX1_makeRoom 9 = .ok (.iload_n 1, 1) := by decide +kernel
theorem dX1_makeRoom_10 : decode cX1_makeRoom 10 = .ok (.sipush 20736, 3) := by decide +kernel
theorem dX1_makeRoom_13 : decode cX1_makeRoom 13 = .ok (.iconst 2, 1) := by decide +kernel
theorem dX1_makeRoom_14 : decode cX1_makeRoom 14 = .ok (.aload_n 0, 1) := by decide +kernel
theorem dX1_makeRoom_15 : decode cX1_makeRoom 15 = .ok (.getfield 9, 3) := by decide +kernel
theorem dX1_makeRoom_18 : decode cX1_makeRoom 18 = .ok (.arraylength, 1) := by decide +kernel
theorem dX1_makeRoom_19 : decode cX1_makeRoom 19 = .ok (.imul, 1) := by decide +kernel
theorem dX1_makeRoom_20 : decode cX1_makeRoom 20 = .ok (.invokestatic 48, 3) := by decide +kernel
theorem dX1_makeRoom_23 : decode cX1_makeRoom 23 = .ok (.invokestatic 54, 3) := by decide +kernel
theorem dX1_makeRoom_26 : decode cX1_makeRoom 26 = .ok (.istore_n 2, 1) := by decide +kernel
theorem dX1_makeRoom_27 : decode cX1_makeRoom 27 = .ok (.aload_n 0, 1) := by decide +kernel
theorem dX1_makeRoom_28 : decode cX1_makeRoom 28 = .ok (.iload_n 2, 1) := by decide +kernel
theorem dX1_makeRoom_29 : decode cX1_makeRoom 29 = .ok (.newarray .int, 2) := by decide +kernel
theorem dX1_makeRoom_31 : decode cX1_makeRoom 31 = .ok (.putfield 9, 3) := by decide +kernel
theorem dX1_makeRoom_34 : decode cX1_makeRoom 34 = .ok (.aload_n 0, 1) := by decide +kernel
theorem dX1_makeRoom_35 : decode cX1_makeRoom 35 = .ok (.iload_n 2, 1) := by decide +kernel
theorem dX1_makeRoom_36 : decode cX1_makeRoom 36 = .ok (.newarray .int, 2) := by decide +kernel
theorem dX1_makeRoom_38 : decode cX1_makeRoom 38 = .ok (.putfield 15, 3) := by decide +kernel
theorem dX1_makeRoom_41 : decode cX1_makeRoom 41 = .ok (.aload_n 0, 1) := by decide +kernel
theorem dX1_makeRoom_42 : decode cX1_makeRoom 42 = .ok (.iload_n 2, 1) := by decide +kernel
theorem dX1_makeRoom_43 : decode cX1_makeRoom 43 = .ok (.newarray .int, 2) := by decide +kernel
theorem dX1_makeRoom_45 : decode cX1_makeRoom 45 = .ok (.putfield 18, 3) := by decide +kernel
theorem dX1_makeRoom_48 : decode cX1_makeRoom 48 = .ok (.return_, 1) := by decide +kernel
theorem dX1_followFrom_0 : decode cX1_followFrom 0 = .ok (.bipush (-2), 2) := by decide +kernel
theorem dX1_followFrom_2 : decode cX1_followFrom 2 = .ok (.iload_n 1, 1) := by decide +kernel
theorem dX1_followFrom_3 : decode cX1_followFrom 3 = .ok (.isub, 1) := by decide +kernel
theorem dX1_followFrom_4 : decode cX1_followFrom 4 = .ok (.istore_n 3, 1) := by decide +kernel
theorem dX1_followFrom_5 : decode cX1_followFrom 5 = .ok (.iload_n 1, 1) := by decide +kernel
theorem dX1_followFrom_6 : decode cX1_followFrom 6 = .ok (.istore 4, 2) := by decide +kernel
theorem dX1_followFrom_8 : decode cX1_followFrom 8 = .ok (.iconst 0, 1) := by decide +kernel
theorem dX1_followFrom_9 : decode cX1_followFrom 9 = .ok (.istore 5, 2) := by decide +kernel
theorem dX1_followFrom_11 : decode cX1_followFrom 11 = .ok (.iload 5, 2) := by decide +kernel
theorem dX1_followFrom_13 : decode cX1_followFrom 13 = .ok (.iload_n 2, 1) := by decide +kernel
theorem dX1_followFrom_14 : decode cX1_followFrom 14 = .ok (.if_icmp .ge 37, 3) := by decide +kernel
theorem dX1_followFrom_17 : decode cX1_followFrom 17 = .ok (.aload_n 0, 1) := by decide +kernel
theorem dX1_followFrom_18 : decode cX1_followFrom 18 = .ok (.getfield 15, 3) := by decide +kernel
theorem dX1_followFrom_21 : decode cX1_followFrom 21 = .ok (.iload 4, 2) := by decide +kernel
theorem dX1_followFrom_23 : decode cX1_followFrom 23 = .ok (.iaload, 1) := by decide +kernel
theorem dX1_followFrom_24 : decode cX1_followFrom 24 = .ok (.iconst (-1), 1) := by decide +kernel
theorem dX1_followFrom_25 : decode cX1_followFrom 25 = .ok (.if_icmp .ne 26, 3) := by decide +kernel
theorem dX1_followFrom_28 : decode cX1_followFrom 28 = .ok (.aload_n 0, 1) := by decide +kernel
theorem dX1_followFrom_29 : decode cX1_followFrom 29 = .ok (.getfield 15, 3) := by decide +kernel
theorem dX1_followFrom_32 : decode cX1_followFrom 32 = .ok (.iload 4, 2) := by decide +kernel
theorem dX1_followFrom_34 : decode cX1_followFrom 34 = .ok (.iload_n 3, 1) := by decide +kernel
theorem dX1_followFrom_35 : decode cX1_followFrom 35 = .ok (.iastore, 1) := by decide +kernel
theorem dX1_followFrom_36 : decode cX1_followFrom 36 = .ok (.aload_n 0, 1) := by decide +kernel
theorem dX1_followFrom_37 : decode cX1_followFrom 37 = .ok (.getfield 9, 3) := by decide +kernel
theorem dX1_followFrom_40 : decode cX1_followFrom 40 = .ok (.iload 4, 2) := by decide +kernel
theorem dX1_followFrom_42 : decode cX1_followFrom 42 = .ok (.iaload, 1) := by decide +kernel
theorem dX1_followFrom_43 : decode cX1_followFrom 43 = .ok (.istore 4, 2) := by decide +kernel
theorem dX1_followFrom_45 : decode cX1_followFrom 45 = .ok (.iinc 5 1, 3) := by decide +kernel
theorem dX1_followFrom_48 : decode cX1_followFrom 48 = .ok (.goto (-37), 3) := by decide +kernel
theorem dX1_followFrom_51 : decode cX1_followFrom 51 = .ok (.aload_n 0, 1) := by decide +kernel
theorem dX1_followFrom_52 : decode cX1_followFrom 52 = .ok (.getfield 15, 3) := by decide +kernel
theorem dX1_followFrom_55 : decode cX1_followFrom 55 = .ok (.iload 4, 2) := by decide +kernel
theorem dX1_followFrom_57 : decode cX1_followFrom 57 = .ok (.iaload, 1) := by decide +kernel
theorem dX1_followFrom_58 : decode cX1_followFrom 58 = .ok (.iload_n 3, 1) := by decide +kernel
theorem dX1_followFrom_59 : decode cX1_followFrom 59 = .ok (.if_icmp .ne 13, 3) := by decide +kernel
theorem dX1_followFrom_62 : decode cX1_followFrom 62 = .ok (.aload_n 0, 1) := by decide +kernel
theorem dX1_followFrom_63 : decode cX1_followFrom 63 = .ok (.iload 4, 2) := by decide +kernel
theorem dX1_followFrom_65 : decode cX1_followFrom 65 = .ok (.iload_n 2, 1) := by decide +kernel
theorem dX1_followFrom_66 : decode cX1_followFrom 66 = .ok (.invokevirtual 57, 3) := by decide +kernel
theorem dX1_followFrom_69 : decode cX1_followFrom 69 = .ok (.goto 10, 3) := by decide +kernel
theorem dX1_followFrom_72 : decode cX1_followFrom 72 = .ok (.aload_n 0, 1) := by decide +kernel
theorem dX1_followFrom_73 : decode cX1_followFrom 73 = .ok (.getfield 15, 3) := by decide +kernel
theorem dX1_followFrom_76 : decode cX1_followFrom 76 = .ok (.iload 4, 2) := by decide +kernel
theorem dX1_followFrom_78 : decode cX1_followFrom 78 = .ok (.iaload, 1) := by decide +kernel
theorem dX1_followFrom_79 : decode cX1_followFrom 79 = .ok (.istore 5, 2) := by decide +kernel
theorem dX1_followFrom_81 : decode cX1_followFrom 81 = .ok (.iload_n 1, 1) := by decide +kernel
theorem dX1_followFrom_82 : decode cX1_followFrom 82 = .ok (.istore 4, 2) := by decide +kernel
theorem dX1_followFrom_84 : decode cX1_followFrom 84 = .ok (.iconst 0, 1) := by decide +kernel
theorem dX1_followFrom_85 : decode cX1_followFrom 85 = .ok (.istore 6, 2) := by decide +kernel
theorem dX1_followFrom_87 : decode cX1_followFrom 87 = .ok (.iload 6, 2) := by decide +kernel
theorem dX1_followFrom_89 : decode cX1_followFrom 89 = .ok (.iload_n 2, 1) := by decide +kernel
theorem dX1_followFrom_90 : decode cX1_followFrom 90 = .ok (.if_icmp .ge 38, 3) := by decide +kernel
theorem dX1_followFrom_93 : decode cX1_followFrom 93 = .ok (.aload_n 0, 1) := by decide +kernel
theorem dX1_followFrom_94 : decode cX1_followFrom 94 = .ok (.getfield 15, 3) := by decide +kernel
theorem dX1_followFrom_97 : decode cX1_followFrom 97 = .ok (.iload 4, 2) := by decide +kernel
theorem dX1_followFrom_99 : decode cX1_followFrom 99 = .ok (.iaload, 1) := by decide +kernel
theorem dX1_followFrom_100 : decode cX1_followFrom 100 = .ok (.iload_n 3, 1) := by decide +kernel
theorem dX1_followFrom_101 : decode cX1_followFrom 101 = .ok (.if_icmp .ne 27, 3) := by decide +kernel
theorem dX1_followFrom_104 : decode cX1_followFrom 104 = .ok (.aload_n 0, 1) := by decide +kernel
theorem dX1_followFrom_105 : decode cX1_followFrom 105 = .ok (.getfield 15, 3) := by decide +kernel
theorem dX1_followFrom_108 : decode cX1_followFrom 108 = .ok (.iload 4, 2) := by decide +kernel
theorem dX1_followFrom_110 : decode cX1_followFrom 110 = .ok (.iload 5, 2) := by decide +kernel
theorem dX1_followFrom_112 : decode cX1_followFrom 112 = .ok (.iastore, 1) := by decide +kernel
theorem dX1_followFrom_113 : decode cX1_followFrom 113 = .ok (.aload_n 0, 1) := by decide +kernel
theorem dX1_followFrom_114 : decode cX1_followFrom 114 = .ok (.getfield 9, 3) := by decide +kernel
theorem dX1_followFrom_117 : decode cX1_followFrom 117 = .ok (.iload 4, 2) := by decide +kernel
theorem dX1_followFrom_119 : decode cX1_followFrom 119 = .ok (.iaload, 1) := by decide +kernel
theorem dX1_followFrom_120 : decode cX1_followFrom 120 = .ok (.istore 4, 2) := by decide +kernel
theorem dX1_followFrom_122 : decode cX1_followFrom 122 = .ok (.iinc 6 1, 3) := by decide +kernel
theorem dX1_followFrom_125 : decode cX1_followFrom 125 = .ok (.goto (-38), 3) := by decide +kernel
theorem dX1_followFrom_128 : decode cX1_followFrom 128 = .ok (.return_, 1) := by decide +kernel
theorem dX1_leastOfRound_0 : decode cX1_leastOfRound 0 = .ok (.iload_n 1, 1) := by decide +kernel
theorem dX1_leastOfRound_1 : decode cX1_leastOfRound 1 = .ok (.istore_n 3, 1) := by decide +kernel
theorem dX1_leastOfRound_2 : decode cX1_leastOfRound 2 = .ok (.aload_n 0, 1) := by decide +kernel
theorem dX1_leastOfRound_3 : decode cX1_leastOfRound 3 = .ok (.getfield 9, 3) := by decide +kernel
theorem dX1_leastOfRound_6 : decode cX1_leastOfRound 6 = .ok (.iload_n 1, 1) := by decide +kernel
theorem dX1_leastOfRound_7 : decode cX1_leastOfRound 7 = .ok (.iaload, 1) := by decide +kernel
theorem dX1_leastOfRound_8 : decode cX1_leastOfRound 8 = .ok (.istore 4, 2) := by decide +kernel
theorem dX1_leastOfRound_10 : decode cX1_leastOfRound 10 = .ok (.iconst 0, 1) := by decide +kernel
theorem dX1_leastOfRound_11 : decode cX1_leastOfRound 11 = .ok (.istore 5, 2) := by decide +kernel
theorem dX1_leastOfRound_13 : decode cX1_leastOfRound 13 = .ok (.iload 5, 2) := by decide +kernel
theorem dX1_leastOfRound_15 : decode cX1_leastOfRound 15 = .ok (.iload_n 2, 1) := by decide +kernel
theorem dX1_leastOfRound_16 : decode cX1_leastOfRound 16 = .ok (.if_icmp .ge 31, 3) := by decide +kernel
theorem dX1_leastOfRound_19 : decode cX1_leastOfRound 19 = .ok (.iload 4, 2) := by decide +kernel
theorem dX1_leastOfRound_21 : decode cX1_leastOfRound 21 = .ok (.iload_n 1, 1) := by decide +kernel
theorem dX1_leastOfRound_22 : decode cX1_leastOfRound 22 = .ok (.if_icmp .eq 25, 3) := by decide +kernel
theorem dX1_leastOfRound_25 : decode cX1_leastOfRound 25 = .ok (.iload_n 3, 1) := by decide +kernel
theorem dX1_leastOfRound_26 : decode cX1_leastOfRound 26 = .ok (.iload 4, 2) := by decide +kernel
theorem dX1_leastOfRound_28 : decode cX1_leastOfRound 28 = .ok (.invokestatic 48, 3) := by decide +kernel
theorem dX1_leastOfRound_31 : decode cX1_leastOfRound 31 = .ok (.istore_n 3, 1) := by decide +kernel
theorem dX1_leastOfRound_32 : decode cX1_leastOfRound 32 = .ok (.aload_n 0, 1) := by decide +kernel
theorem dX1_leastOfRound_33 : decode cX1_leastOfRound 33 = .ok (.getfield 9, 3) := by decide +kernel
theorem dX1_leastOfRound_36 : decode cX1_leastOfRound 36 = .ok (.iload 4, 2) := by decide +kernel
theorem dX1_leastOfRound_38 : decode cX1_leastOfRound 38 = .ok (.iaload, 1) := by decide +kernel
theorem dX1_leastOfRound_39 : decode cX1_leastOfRound 39 = .ok (.istore 4, 2) := by decide +kernel
theorem dX1_leastOfRound_41 : decode cX1_leastOfRound 41 = .ok (.iinc 5 1, 3) := by decide +kernel
theorem dX1_leastOfRound_44 : decode cX1_leastOfRound 44 = .ok (.goto (-31), 3) := by decide +kernel
theorem dX1_leastOfRound_47 : decode cX1_leastOfRound 47 = .ok (.iload_n 3, 1) := by decide +kernel
theorem dX1_leastOfRound_48 : decode cX1_leastOfRound 48 = .ok (.ireturn, 1) := by decide +kernel
theorem dX1_keep_0 : decode cX1_keep 0 = .ok (.iconst 0, 1) := by decide +kernel
theorem dX1_keep_1 : decode cX1_keep 1 = .ok (.istore_n 2, 1) := by decide +kernel
theorem dX1_keep_2 : decode cX1_keep 2 = .ok (.iconst 0, 1) := by decide +kernel
theorem dX1_keep_3 : decode cX1_keep 3 = .ok (.istore_n 3, 1) := by decide +kernel
theorem dX1_keep_4 : decode cX1_keep 4 = .ok (.iload_n 3, 1) := by decide +kernel
theorem dX1_keep_5 : decode cX1_keep 5 = .ok (.iload_n 1, 1) := by decide +kernel
theorem dX1_keep_6 : decode cX1_keep 6 = .ok (.if_icmp .ge 27, 3) := by decide +kernel
theorem dX1_keep_9 : decode cX1_keep 9 = .ok (.iload_n 2, 1) := by decide +kernel
theorem dX1_keep_10 : decode cX1_keep 10 = .ok (.aload_n 0, 1) := by decide +kernel
theorem dX1_keep_11 : decode cX1_keep 11 = .ok (.getfield 15, 3) := by decide +kernel
theorem dX1_keep_14 : decode cX1_keep 14 = .ok (.iload_n 3, 1) := by decide +kernel
theorem dX1_keep_15 : decode cX1_keep 15 = .ok (.iaload, 1) := by decide +kernel
theorem dX1_keep_16 : decode cX1_keep 16 = .ok (.iload_n 3, 1) := by decide +kernel
theorem dX1_keep_17 : decode cX1_keep 17 = .ok (.if_icmp .ne 7, 3) := by decide +kernel
theorem dX1_keep_20 : decode cX1_keep 20 = .ok (.iconst 1, 1) := by decide +kernel
theorem dX1_keep_21 : decode cX1_keep 21 = .ok (.goto 4, 3) := by decide +kernel
theorem dX1_keep_24 : decode cX1_keep 24 = .ok (.iconst 0, 1) := by decide +kernel
theorem dX1_keep_25 : decode cX1_keep 25 = .ok (.iadd, 1) := by decide +kernel
theorem dX1_keep_26 : decode cX1_keep 26 = .ok (.istore_n 2, 1) := by decide +kernel
theorem dX1_keep_27 : decode cX1_keep 27 = .ok (.iinc 3 1, 3) := by decide +kernel
theorem dX1_keep_30 : decode cX1_keep 30 = .ok (.goto (-26), 3) := by decide +kernel
theorem dX1_keep_33 : decode cX1_keep 33 = .ok (.aload_n 0, 1) := by decide +kernel
theorem dX1_keep_34 : decode cX1_keep 34 = .ok (.getfield 21, 3) := by decide +kernel
theorem dX1_keep_37 : decode cX1_keep 37 = .ok (.arraylength, 1) := by decide +kernel
theorem dX1_keep_38 : decode cX1_keep 38 = .ok (.iload_n 2, 1) := by decide +kernel
theorem dX1_keep_39 : decode cX1_keep 39 = .ok (.iconst 3, 1) := by decide +kernel
theorem dX1_keep_40 : decode cX1_keep 40 = .ok (.imul, 1) := by decide +kernel
theorem dX1_keep_41 : decode cX1_keep 41 = .ok (.if_icmp .ge 27, 3) := by decide +kernel
theorem dX1_keep_44 : decode cX1_keep 44 = .ok (.aload_n 0, 1) := by decide +kernel
theorem dX1_keep_45 : decode cX1_keep 45 = .ok (.iload_n 2, 1) := by decide +kernel
theorem dX1_keep_46 : decode cX1_keep 46 = .ok (.sipush 20736, 3) := by decide +kernel
theorem dX1_keep_49 : decode cX1_keep 49 = .ok (.iconst 2, 1) := by decide +kernel
theorem dX1_keep_50 : decode cX1_keep 50 = .ok (.aload_n 0, 1) := by decide +kernel
theorem dX1_keep_51 : decode cX1_keep 51 = .ok (.getfield 24, 3) := by decide +kernel
theorem dX1_keep_54 : decode cX1_keep 54 = .ok (.imul, 1) := by decide +kernel
theorem dX1_keep_55 : decode cX1_keep 55 = .ok (.invokestatic 48, 3) := by decide +kernel
theorem dX1_keep_58 : decode cX1_keep 58 = .ok (.invokestatic 54, 3) := by decide +kernel
theorem dX1_keep_61 : decode cX1_keep 61 = .ok (.iconst 3, 1) := by decide +kernel
theorem dX1_keep_62 : decode cX1_keep 62 = .ok (.imul, 1) := by decide +kernel
theorem dX1_keep_63 : decode cX1_keep 63 = .ok (.newarray .int, 2) := by decide +kernel
theorem dX1_keep_65 : decode cX1_keep 65 = .ok (.putfield 21, 3) := by decide +kernel
theorem dX1_keep_68 : decode cX1_keep 68 = .ok (.aload_n 0, 1) := by decide +kernel
theorem dX1_keep_69 : decode cX1_keep 69 = .ok (.iload_n 2, 1) := by decide +kernel
theorem dX1_keep_70 : decode cX1_keep 70 = .ok (.putfield 24, 3) := by decide +kernel
theorem dX1_keep_73 : decode cX1_keep 73 = .ok (.iconst 0, 1) := by decide +kernel
theorem dX1_keep_74 : decode cX1_keep 74 = .ok (.istore_n 3, 1) := by decide +kernel
theorem dX1_keep_75 : decode cX1_keep 75 = .ok (.iconst 0, 1) := by decide +kernel
theorem dX1_keep_76 : decode cX1_keep 76 = .ok (.istore 4, 2) := by decide +kernel
theorem dX1_keep_78 : decode cX1_keep 78 = .ok (.iload 4, 2) := by decide +kernel
theorem dX1_keep_80 : decode cX1_keep 80 = .ok (.iload_n 1, 1) := by decide +kernel
theorem dX1_keep_81 : decode cX1_keep 81 = .ok (.if_icmp .ge 73, 3) := by decide +kernel
theorem dX1_keep_84 : decode cX1_keep 84 = .ok (.iload_n 3, 1) := by decide +kernel
theorem dX1_keep_85 : decode cX1_keep 85 = .ok (.iload_n 2, 1) := by decide +kernel
theorem dX1_keep_86 : decode cX1_keep 86 = .ok (.if_icmp .ge 68, 3) := by decide +kernel
theorem dX1_keep_89 : decode cX1_keep 89 = .ok (.aload_n 0, 1) := by decide +kernel
theorem dX1_keep_90 : decode cX1_keep 90 = .ok (.getfield 15, 3) := by decide +kernel
theorem dX1_keep_93 : decode cX1_keep 93 = .ok (.iload 4, 2) := by decide +kernel
theorem dX1_keep_95 : decode cX1_keep 95 = .ok (.iaload, 1) := by decide +kernel
theorem dX1_keep_96 : decode cX1_keep 96 = .ok (.iload 4, 2) := by decide +kernel
theorem dX1_keep_98 : decode cX1_keep 98 = .ok (.if_icmp .ne 50, 3) := by decide +kernel
theorem dX1_keep_101 : decode cX1_keep 101 = .ok (.aload_n 0, 1) := by decide +kernel
theorem dX1_keep_102 : decode cX1_keep 102 = .ok (.getfield 21, 3) := by decide +kernel
theorem dX1_keep_105 : decode cX1_keep 105 = .ok (.iload_n 3, 1) := by decide +kernel
theorem dX1_keep_106 : decode cX1_keep 106 = .ok (.iconst 3, 1) := by decide +kernel
theorem dX1_keep_107 : decode cX1_keep 107 = .ok (.imul, 1) := by decide +kernel
theorem dX1_keep_108 : decode cX1_keep 108 = .ok (.iload 4, 2) := by decide +kernel
theorem dX1_keep_110 : decode cX1_keep 110 = .ok (.iastore, 1) := by decide +kernel
theorem dX1_keep_111 : decode cX1_keep 111 = .ok (.aload_n 0, 1) := by decide +kernel
theorem dX1_keep_112 : decode cX1_keep 112 = .ok (.getfield 21, 3) := by decide +kernel
theorem dX1_keep_115 : decode cX1_keep 115 = .ok (.iload_n 3, 1) := by decide +kernel
theorem dX1_keep_116 : decode cX1_keep 116 = .ok (.iconst 3, 1) := by decide +kernel
theorem dX1_keep_117 : decode cX1_keep 117 = .ok (.imul, 1) := by decide +kernel
theorem dX1_keep_118 : decode cX1_keep 118 = .ok (.iconst 1, 1) := by decide +kernel
theorem dX1_keep_119 : decode cX1_keep 119 = .ok (.iadd, 1) := by decide +kernel
theorem dX1_keep_120 : decode cX1_keep 120 = .ok (.aload_n 0, 1) := by decide +kernel
theorem dX1_keep_121 : decode cX1_keep 121 = .ok (.iload 4, 2) := by decide +kernel
theorem dX1_keep_123 : decode cX1_keep 123 = .ok (.iload_n 1, 1) := by decide +kernel
theorem dX1_keep_124 : decode cX1_keep 124 = .ok (.invokevirtual 60, 3) := by decide +kernel
theorem dX1_keep_127 : decode cX1_keep 127 = .ok (.iastore, 1) := by decide +kernel
theorem dX1_keep_128 : decode cX1_keep 128 = .ok (.aload_n 0, 1) := by decide +kernel
theorem dX1_keep_129 : decode cX1_keep 129 = .ok (.getfield 21, 3) := by decide +kernel
theorem dX1_keep_132 : decode cX1_keep 132 = .ok (.iload_n 3, 1) := by decide +kernel
theorem dX1_keep_133 : decode cX1_keep 133 = .ok (.iconst 3, 1) := by decide +kernel
theorem dX1_keep_134 : decode cX1_keep 134 = .ok (.imul, 1) := by decide +kernel
theorem dX1_keep_135 : decode cX1_keep 135 = .ok (.iconst 2, 1) := by decide +kernel
theorem dX1_keep_136 : decode cX1_keep 136 = .ok (.iadd, 1) := by decide +kernel
theorem dX1_keep_137 : decode cX1_keep 137 = .ok (.aload_n 0, 1) := by decide +kernel
theorem dX1_keep_138 : decode cX1_keep 138 = .ok (.getfield 18, 3) := by decide +kernel
theorem dX1_keep_141 : decode cX1_keep 141 = .ok (.iload 4, 2) := by decide +kernel
theorem dX1_keep_143 : decode cX1_keep 143 = .ok (.iaload, 1) := by decide +kernel
theorem dX1_keep_144 : decode cX1_keep 144 = .ok (.iastore, 1) := by decide +kernel
theorem dX1_keep_145 : decode cX1_keep 145 = .ok (.iinc 3 1, 3) := by decide +kernel
theorem dX1_keep_148 : decode cX1_keep 148 = .ok (.iinc 4 1, 3) := by decide +kernel
theorem dX1_keep_151 : decode cX1_keep 151 = .ok (.goto (-73), 3) := by decide +kernel
theorem dX1_keep_154 : decode cX1_keep 154 = .ok (.return_, 1) := by decide +kernel
theorem dX1_lengthOfRound_0 : decode cX1_lengthOfRound 0 = .ok (.iconst 1, 1) := by decide +kernel
theorem dX1_lengthOfRound_1 : decode cX1_lengthOfRound 1 = .ok (.istore_n 3, 1) := by decide +kernel
theorem dX1_lengthOfRound_2 : decode cX1_lengthOfRound 2 = .ok (.aload_n 0, 1) := by decide +kernel
theorem dX1_lengthOfRound_3 : decode cX1_lengthOfRound 3 = .ok (.getfield 9, 3) := by decide +kernel
theorem dX1_lengthOfRound_6 : decode cX1_lengthOfRound 6 = .ok (.iload_n 1, 1) := by decide +kernel
theorem dX1_lengthOfRound_7 : decode cX1_lengthOfRound 7 = .ok (.iaload, 1) := by decide +kernel
theorem dX1_lengthOfRound_8 : decode cX1_lengthOfRound 8 = .ok (.istore 4, 2) := by decide +kernel
theorem dX1_lengthOfRound_10 : decode cX1_lengthOfRound 10 = .ok (.iload 4, 2) := by decide +kernel
theorem dX1_lengthOfRound_12 : decode cX1_lengthOfRound 12 = .ok (.iload_n 1, 1) := by decide +kernel
theorem dX1_lengthOfRound_13 : decode cX1_lengthOfRound 13 = .ok (.if_icmp .eq 23, 3) := by decide +kernel
theorem dX1_lengthOfRound_16 : decode cX1_lengthOfRound 16 = .ok (.iload_n 3, 1) := by decide +kernel
theorem dX1_lengthOfRound_17 : decode cX1_lengthOfRound 17 = .ok (.iload_n 2, 1) := by decide +kernel
theorem dX1_lengthOfRound_18 : decode cX1_lengthOfRound 18 = .ok (.if_icmp .ge 18, 3) := by decide +kernel
theorem dX1_lengthOfRound_21 : decode cX1_lengthOfRound 21 = .ok (.iinc 3 1, 3) := by decide +kernel
theorem dX1_lengthOfRound_24 : decode cX1_lengthOfRound 24 = .ok (.aload_n 0, 1) := by decide +kernel
theorem dX1_lengthOfRound_25 : decode cX1_lengthOfRound 25 = .ok (.getfield 9, 3) := by decide +kernel
theorem dX1_lengthOfRound_28 : decode cX1_lengthOfRound 28 = .ok (.iload 4, 2) := by decide +kernel
theorem dX1_lengthOfRound_30 : decode cX1_lengthOfRound 30 = .ok (.iaload, 1) := by decide +kernel
theorem dX1_lengthOfRound_31 : decode cX1_lengthOfRound 31 = .ok (.istore 4, 2) := by decide +kernel
theorem dX1_lengthOfRound_33 : decode cX1_lengthOfRound 33 = .ok (.goto (-23), 3) := by decide +kernel
theorem dX1_lengthOfRound_36 : decode cX1_lengthOfRound 36 = .ok (.iload_n 3, 1) := by decide +kernel
theorem dX1_lengthOfRound_37 : decode cX1_lengthOfRound 37 = .ok (.ireturn, 1) := by decide +kernel
theorem dX1_tell_0 : decode cX1_tell 0 = .ok (.iload_n 1, 1) := by decide +kernel
theorem dX1_tell_1 : decode cX1_tell 1 = .ok (.iconst 3, 1) := by decide +kernel
theorem dX1_tell_2 : decode cX1_tell 2 = .ok (.imul, 1) := by decide +kernel
theorem dX1_tell_3 : decode cX1_tell 3 = .ok (.iload_n 2, 1) := by decide +kernel
theorem dX1_tell_4 : decode cX1_tell 4 = .ok (.iadd, 1) := by decide +kernel
theorem dX1_tell_5 : decode cX1_tell 5 = .ok (.istore_n 3, 1) := by decide +kernel
theorem dX1_tell_6 : decode cX1_tell 6 = .ok (.iload_n 3, 1) := by decide +kernel
theorem dX1_tell_7 : decode cX1_tell 7 = .ok (.ifCond .lt 21, 3) := by decide +kernel
theorem dX1_tell_10 : decode cX1_tell 10 = .ok (.iload_n 3, 1) := by decide +kernel
theorem dX1_tell_11 : decode cX1_tell 11 = .ok (.aload_n 0, 1) := by decide +kernel
theorem dX1_tell_12 : decode cX1_tell 12 = .ok (.getfield 21, 3) := by decide +kernel
theorem dX1_tell_15 : decode cX1_tell 15 = .ok (.arraylength, 1) := by decide +kernel
theorem dX1_tell_16 : decode cX1_tell 16 = .ok (.if_icmp .ge 12, 3) := by decide +kernel
theorem dX1_tell_19 : decode cX1_tell 19 = .ok (.aload_n 0, 1) := by decide +kernel
theorem dX1_tell_20 : decode cX1_tell 20 = .ok (.getfield 21, 3) := by decide +kernel
theorem dX1_tell_23 : decode cX1_tell 23 = .ok (.iload_n 3, 1) := by decide +kernel
theorem dX1_tell_24 : decode cX1_tell 24 = .ok (.iaload, 1) := by decide +kernel
theorem dX1_tell_25 : decode cX1_tell 25 = .ok (.goto 4, 3) := by decide +kernel
theorem dX1_tell_28 : decode cX1_tell 28 = .ok (.iconst (-1), 1) := by decide +kernel
theorem dX1_tell_29 : decode cX1_tell 29 = .ok (.ireturn, 1) := by decide +kernel
theorem dX1_statesInStep_0 : decode cX1_statesInStep 0 = .ok (.iconst 0, 1) := by decide +kernel
theorem dX1_statesInStep_1 : decode cX1_statesInStep 1 = .ok (.istore 4, 2) := by decide +kernel
theorem dX1_statesInStep_3 : decode cX1_statesInStep 3 = .ok (.iconst 0, 1) := by decide +kernel
theorem dX1_statesInStep_4 : decode cX1_statesInStep 4 = .ok (.istore 5, 2) := by decide +kernel
theorem dX1_statesInStep_6 : decode cX1_statesInStep 6 = .ok (.iload 5, 2) := by decide +kernel
theorem dX1_statesInStep_8 : decode cX1_statesInStep 8 = .ok (.iload_n 2, 1) := by decide +kernel
theorem dX1_statesInStep_9 : decode cX1_statesInStep 9 = .ok (.if_icmp .ge 45, 3) := by decide +kernel
theorem dX1_statesInStep_12 : decode cX1_statesInStep 12 = .ok (.aload_n 0, 1) := by decide +kernel
theorem dX1_statesInStep_13 : decode cX1_statesInStep 13 = .ok (.getfield 15, 3) := by decide +kernel
theorem dX1_statesInStep_16 : decode cX1_statesInStep 16 = .ok (.iload 5, 2) := by decide +kernel
theorem dX1_statesInStep_18 : decode cX1_statesInStep 18 = .ok (.iaload, 1) := by decide +kernel
theorem dX1_statesInStep_19 : decode cX1_statesInStep 19 = .ok (.iload 5, 2) := by decide +kernel
theorem dX1_statesInStep_21 : decode cX1_statesInStep 21 = .ok (.if_icmp .ne 27, 3) := by decide +kernel
theorem dX1_statesInStep_24 : decode cX1_statesInStep 24 = .ok (.aload_n 0, 1) := by decide +kernel
theorem dX1_statesInStep_25 : decode cX1_statesInStep 25 = .ok (.aload_n 1, 1) := by decide +kernel
theorem dX1_statesInStep_26 : decode cX1_statesInStep 26 = .ok (.iload 5, 2) := by decide +kernel
theorem dX1_statesInStep_28 : decode cX1_statesInStep 28 = .ok (.iload_n 2, 1) := by decide +kernel
theorem dX1_statesInStep_29 : decode cX1_statesInStep 29 = .ok (.iload_n 3, 1) := by decide +kernel
theorem dX1_statesInStep_30 : decode cX1_statesInStep 30 = .ok (.invokevirtual 63, 3) := by decide +kernel
theorem dX1_statesInStep_33 : decode cX1_statesInStep 33 = .ok (.ifCond .eq 15, 3) := by decide +kernel
theorem dX1_statesInStep_36 : decode cX1_statesInStep 36 = .ok (.iload 4, 2) := by decide +kernel
theorem dX1_statesInStep_38 : decode cX1_statesInStep 38 = .ok (.aload_n 0, 1) := by decide +kernel
theorem dX1_statesInStep_39 : decode cX1_statesInStep 39 = .ok (.getfield 18, 3) := by decide +kernel
theorem dX1_statesInStep_42 : decode cX1_statesInStep 42 = .ok (.iload 5, 2) := by decide +kernel
theorem dX1_statesInStep_44 : decode cX1_statesInStep 44 = .ok (.iaload, 1) := by decide +kernel
theorem dX1_statesInStep_45 : decode cX1_statesInStep 45 = .ok (.iadd, 1) := by decide +kernel
theorem dX1_statesInStep_46 : decode cX1_statesInStep 46 = .ok (.istore 4, 2) := by decide +kernel
theorem dX1_statesInStep_48 : decode cX1_statesInStep 48 = .ok (.iinc 5 1, 3) := by decide +kernel
theorem dX1_statesInStep_51 : decode cX1_statesInStep 51 = .ok (.goto (-45), 3) := by decide +kernel
theorem dX1_statesInStep_54 : decode cX1_statesInStep 54 = .ok (.iload 4, 2) := by decide +kernel
theorem dX1_statesInStep_56 : decode cX1_statesInStep 56 = .ok (.ireturn, 1) := by decide +kernel
theorem dX1_roundInStep_0 : decode cX1_roundInStep 0 = .ok (.iload_n 2, 1) := by decide +kernel
theorem dX1_roundInStep_1 : decode cX1_roundInStep 1 = .ok (.istore 5, 2) := by decide +kernel
theorem dX1_roundInStep_3 : decode cX1_roundInStep 3 = .ok (.iconst 0, 1) := by decide +kernel
theorem dX1_roundInStep_4 : decode cX1_roundInStep 4 = .ok (.istore 6, 2) := by decide +kernel
theorem dX1_roundInStep_6 : decode cX1_roundInStep 6 = .ok (.iload 6, 2) := by decide +kernel
theorem dX1_roundInStep_8 : decode cX1_roundInStep 8 = .ok (.iload_n 3, 1) := by decide +kernel
theorem dX1_roundInStep_9 : decode cX1_roundInStep 9 = .ok (.if_icmp .ge 39, 3) := by decide +kernel
theorem dX1_roundInStep_12 : decode cX1_roundInStep 12 = .ok (.aload_n 1, 1) := by decide +kernel
theorem dX1_roundInStep_13 : decode cX1_roundInStep 13 = .ok (.iload 5, 2) := by decide +kernel
theorem dX1_roundInStep_15 : decode cX1_roundInStep 15 = .ok (.iload 4, 2) := by decide +kernel
theorem dX1_roundInStep_17 : decode cX1_roundInStep 17 = .ok (.invokevirtual 67, 3) := by decide +kernel
theorem dX1_roundInStep_20 : decode cX1_roundInStep 20 = .ok (.ifCond .ne 5, 3) := by decide +kernel
theorem dX1_roundInStep_23 : decode cX1_roundInStep 23 = .ok (.iconst 0, 1) := by decide +kernel
theorem dX1_roundInStep_24 : decode cX1_roundInStep 24 = .ok (.ireturn, 1) := by decide +kernel
theorem dX1_roundInStep_25 : decode cX1_roundInStep 25 = .ok (.aload_n 0, 1) := by decide +kernel
theorem dX1_roundInStep_26 : decode cX1_roundInStep 26 = .ok (.getfield 9, 3) := by decide +kernel
theorem dX1_roundInStep_29 : decode cX1_roundInStep 29 = .ok (.iload 5, 2) := by decide +kernel
theorem dX1_roundInStep_31 : decode cX1_roundInStep 31 = .ok (.iaload, 1) := by decide +kernel
theorem dX1_roundInStep_32 : decode cX1_roundInStep 32 = .ok (.istore 5, 2) := by decide +kernel
theorem dX1_roundInStep_34 : decode cX1_roundInStep 34 = .ok (.iload 5, 2) := by decide +kernel
theorem dX1_roundInStep_36 : decode cX1_roundInStep 36 = .ok (.iload_n 2, 1) := by decide +kernel
theorem dX1_roundInStep_37 : decode cX1_roundInStep 37 = .ok (.if_icmp .ne 5, 3) := by decide +kernel
theorem dX1_roundInStep_40 : decode cX1_roundInStep 40 = .ok (.iconst 1, 1) := by decide +kernel
theorem dX1_roundInStep_41 : decode cX1_roundInStep 41 = .ok (.ireturn, 1) := by decide +kernel
theorem dX1_roundInStep_42 : decode cX1_roundInStep 42 = .ok (.iinc 6 1, 3) := by decide +kernel
theorem dX1_roundInStep_45 : decode cX1_roundInStep 45 = .ok (.goto (-39), 3) := by decide +kernel
theorem dX1_roundInStep_48 : decode cX1_roundInStep 48 = .ok (.iconst 1, 1) := by decide +kernel
theorem dX1_roundInStep_49 : decode cX1_roundInStep 49 = .ok (.ireturn, 1) := by decide +kernel
theorem dX2_init_0 : decode cX2_init 0 = .ok (.aload_n 0, 1) := by decide +kernel
theorem dX2_init_1 : decode cX2_init 1 = .ok (.invokespecial 3, 3) := by decide +kernel
theorem dX2_init_4 : decode cX2_init 4 = .ok (.aload_n 0, 1) := by decide +kernel
theorem dX2_init_5 : decode cX2_init 5 = .ok (.iconst 0, 1) := by decide +kernel
theorem dX2_init_6 : decode cX2_init 6 = .ok (.putfield 9, 3) := by decide +kernel
theorem dX2_init_9 : decode cX2_init 9 = .ok (.aload_n 0, 1) := by decide +kernel
theorem dX2_init_10 : decode cX2_init 10 = .ok (.iconst (-1), 1) := by decide +kernel
theorem dX2_init_11 : decode cX2_init 11 = .ok (.putfield 15, 3) := by decide +kernel
theorem dX2_init_14 : decode cX2_init 14 = .ok (.aload_n 0, 1) := by decide +kernel
theorem dX2_init_15 : decode cX2_init 15 = .ok (.bipush 100, 2) := by decide +kernel
theorem dX2_init_17 : decode cX2_init 17 = .ok (.newarray .long, 2) := by decide +kernel
theorem dX2_init_19 : decode cX2_init 19 = .ok (.putfield 18, 3) := by decide +kernel
theorem dX2_init_22 : decode cX2_init 22 = .ok (.return_, 1) := by decide +kernel
theorem dX2_isMissing_0 : decode cX2_isMissing 0 = .ok (.aload_n 0, 1) := by decide +kernel
theorem dX2_isMissing_1 : decode cX2_isMissing 1 = .ok (.getfield 15, 3) := by decide +kernel
theorem dX2_isMissing_4 : decode cX2_isMissing 4 = .ok (.iconst (-1), 1) := by decide +kernel
theorem dX2_isMissing_5 : decode cX2_isMissing 5 = .ok (.if_icmp .ne 7, 3) := by decide +kernel
theorem dX2_isMissing_8 : decode cX2_isMissing 8 = .ok (.iconst 1, 1) := by decide +kernel
theorem dX2_isMissing_9 : decode cX2_isMissing 9 = .ok (.goto 4, 3) := by decide +kernel
theorem dX2_isMissing_12 : decode cX2_isMissing 12 = .ok (.iconst 0, 1) := by decide +kernel
theorem dX2_isMissing_13 : decode cX2_isMissing 13 = .ok (.ireturn, 1) := by decide +kernel
theorem dX2_make_0 : decode cX2_make 0 = .ok (.aload_n 0, 1) := by decide +kernel
theorem dX2_make_1 : decode cX2_make 1 = .ok (.iload_n 1, 1) := by decide +kernel
theorem dX2_make_2 : decode cX2_make 2 = .ok (.putfield 9, 3) := by decide +kernel
theorem dX2_make_5 : decode cX2_make 5 = .ok (.aload_n 0, 1) := by decide +kernel
theorem dX2_make_6 : decode cX2_make 6 = .ok (.iload_n 2, 1) := by decide +kernel
theorem dX2_make_7 : decode cX2_make 7 = .ok (.putfield 15, 3) := by decide +kernel
theorem dX2_make_10 : decode cX2_make 10 = .ok (.aload_n 0, 1) := by decide +kernel
theorem dX2_make_11 : decode cX2_make 11 = .ok (.getfield 18, 3) := by decide +kernel
theorem dX2_make_14 : decode cX2_make 14 = .ok (.lconst 0, 1) := by decide +kernel
theorem dX2_make_15 : decode cX2_make 15 = .ok (.invokestatic 22, 3) := by decide +kernel
theorem dX2_make_18 : decode cX2_make 18 = .ok (.return_, 1) := by decide +kernel
theorem dX2_hasPlaces_0 : decode cX2_hasPlaces 0 = .ok (.iload_n 1, 1) := by decide +kernel
theorem dX2_hasPlaces_1 : decode cX2_hasPlaces 1 = .ok (.ifCond .lt 25, 3) := by decide +kernel
theorem dX2_hasPlaces_4 : decode cX2_hasPlaces 4 = .ok (.iload_n 2, 1) := by decide +kernel
theorem dX2_hasPlaces_5 : decode cX2_hasPlaces 5 = .ok (.ifCond .lt 21, 3) := by decide +kernel
theorem dX2_hasPlaces_8 : decode cX2_hasPlaces 8 = .ok (.iload_n 1, 1) := by decide +kernel
theorem dX2_hasPlaces_9 : decode cX2_hasPlaces 9 = .ok (.i2l, 1) := by decide +kernel
theorem dX2_hasPlaces_10 : decode cX2_hasPlaces 10 = .ok (.iload_n 2, 1) := by decide +kernel
theorem dX2_hasPlaces_11 : decode cX2_hasPlaces 11 = .ok (.i2l, 1) := by decide +kernel
theorem dX2_hasPlaces_12 : decode cX2_hasPlaces 12 = .ok (.ladd, 1) := by decide +kernel
theorem dX2_hasPlaces_13 : decode cX2_hasPlaces 13 = .ok (.aload_n 0, 1) := by decide +kernel
theorem dX2_hasPlaces_14 : decode cX2_hasPlaces 14 = .ok (.getfield 15, 3) := by decide +kernel
theorem dX2_hasPlaces_17 : decode cX2_hasPlaces 17 = .ok (.i2l, 1) := by decide +kernel
theorem dX2_hasPlaces_18 : decode cX2_hasPlaces 18 = .ok (.lcmp, 1) := by decide +kernel
theorem dX2_hasPlaces_19 : decode cX2_hasPlaces 19 = .ok (.ifCond .gt 7, 3) := by decide +kernel
theorem dX2_hasPlaces_22 : decode cX2_hasPlaces 22 = .ok (.iconst 1, 1) := by decide +kernel
theorem dX2_hasPlaces_23 : decode cX2_hasPlaces 23 = .ok (.goto 4, 3) := by decide +kernel
theorem dX2_hasPlaces_26 : decode cX2_hasPlaces 26 = .ok (.iconst 0, 1) := by decide +kernel
theorem dX2_hasPlaces_27 : decode cX2_hasPlaces 27 = .ok (.ireturn, 1) := by decide +kernel
theorem dX2_at_0 : decode cX2_at 0 = .ok (.aload_n 0, 1) := by decide +kernel
theorem dX2_at_1 : decode cX2_at 1 = .ok (.iload_n 1, 1) := by decide +kernel
theorem dX2_at_2 : decode cX2_at 2 = .ok (.iconst 1, 1) := by decide +kernel
theorem dX2_at_3 : decode cX2_at 3 = .ok (.invokevirtual 28, 3) := by decide +kernel
theorem dX2_at_6 : decode cX2_at 6 = .ok (.ifCond .eq 12, 3) := by decide +kernel
theorem dX2_at_9 : decode cX2_at 9 = .ok (.aload_n 0, 1) := by decide +kernel
theorem dX2_at_10 : decode cX2_at 10 = .ok (.getfield 18, 3) := by decide +kernel
theorem dX2_at_13 : decode cX2_at 13 = .ok (.iload_n 1, 1) := by decide +kernel
theorem dX2_at_14 : decode cX2_at 14 = .ok (.laload, 1) := by decide +kernel
theorem dX2_at_15 : decode cX2_at 15 = .ok (.goto 4, 3) := by decide +kernel
theorem dX2_at_18 : decode cX2_at 18 = .ok (.lconst 0, 1) := by decide +kernel
theorem dX2_at_19 : decode cX2_at 19 = .ok (.lreturn, 1) := by decide +kernel
theorem dX2_put_0 : decode cX2_put 0 = .ok (.aload_n 0, 1) := by decide +kernel
theorem dX2_put_1 : decode cX2_put 1 = .ok (.iload_n 1, 1) := by decide +kernel
theorem dX2_put_2 : decode cX2_put 2 = .ok (.iconst 1, 1) := by decide +kernel
theorem dX2_put_3 : decode cX2_put 3 = .ok (.invokevirtual 28, 3) := by decide +kernel
theorem dX2_put_6 : decode cX2_put 6 = .ok (.ifCond .eq 14, 3) := by decide +kernel
theorem dX2_put_9 : decode cX2_put 9 = .ok (.aload_n 0, 1) := by decide +kernel
theorem dX2_put_10 : decode cX2_put 10 = .ok (.getfield 18, 3) := by decide +kernel
theorem dX2_put_13 : decode cX2_put 13 = .ok (.iload_n 1, 1) := by decide +kernel
theorem dX2_put_14 : decode cX2_put 14 = .ok (.aload_n 0, 1) := by decide +kernel
theorem dX2_put_15 : decode cX2_put 15 = .ok (.lload_n 2, 1) := by decide +kernel
theorem dX2_put_16 : decode cX2_put 16 = .ok (.invokevirtual 32, 3) := by decide +kernel
theorem dX2_put_19 : decode cX2_put 19 = .ok (.lastore, 1) := by decide +kernel
theorem dX2_put_20 : decode cX2_put 20 = .ok (.return_, 1) := by decide +kernel
theorem dX2_cutToSort_0 : decode cX2_cutToSort 0 = .ok (.aload_n 0, 1) := by decide +kernel
theorem dX2_cutToSort_1 : decode cX2_cutToSort 1 = .ok (.getfield 9, 3) := by decide +kernel
theorem dX2_cutToSort_4 : decode cX2_cutToSort 4 = .ok (.tableswitch 42 0 2 #[28, 33, 38], 28) := by decide +kernel
theorem dX2_cutToSort_32 : decode cX2_cutToSort 32 = .ok (.lload_n 1, 1) := by decide +kernel
theorem dX2_cutToSort_33 : decode cX2_cutToSort 33 = .ok (.l2i, 1) := by decide +kernel
theorem dX2_cutToSort_34 : decode cX2_cutToSort 34 = .ok (.i2b, 1) := by decide +kernel
theorem dX2_cutToSort_35 : decode cX2_cutToSort 35 = .ok (.i2l, 1) := by decide +kernel
theorem dX2_cutToSort_36 : decode cX2_cutToSort 36 = .ok (.lreturn, 1) := by decide +kernel
theorem dX2_cutToSort_37 : decode cX2_cutToSort 37 = .ok (.lload_n 1, 1) := by decide +kernel
theorem dX2_cutToSort_38 : decode cX2_cutToSort 38 = .ok (.l2i, 1) := by decide +kernel
theorem dX2_cutToSort_39 : decode cX2_cutToSort 39 = .ok (.i2s, 1) := by decide +kernel
theorem dX2_cutToSort_40 : decode cX2_cutToSort 40 = .ok (.i2l, 1) := by decide +kernel
theorem dX2_cutToSort_41 : decode cX2_cutToSort 41 = .ok (.lreturn, 1) := by decide +kernel
theorem dX2_cutToSort_42 : decode cX2_cutToSort 42 = .ok (.lload_n 1, 1) := by decide +kernel
theorem dX2_cutToSort_43 : decode cX2_cutToSort 43 = .ok (.l2i, 1) := by decide +kernel
theorem dX2_cutToSort_44 : decode cX2_cutToSort 44 = .ok (.i2l, 1) := by decide +kernel
theorem dX2_cutToSort_45 : decode cX2_cutToSort 45 = .ok (.lreturn, 1) := by decide +kernel
theorem dX2_cutToSort_46 : decode cX2_cutToSort 46 = .ok (.lload_n 1, 1) := by decide +kernel
theorem dX2_cutToSort_47 : decode cX2_cutToSort 47 = .ok (.lreturn, 1) := by decide +kernel
theorem dX2_liesWithin_0 : decode cX2_liesWithin 0 = .ok (.iconst 0, 1) := by decide +kernel
theorem dX2_liesWithin_1 : decode cX2_liesWithin 1 = .ok (.istore 4, 2) := by decide +kernel
theorem dX2_liesWithin_3 : decode cX2_liesWithin 3 = .ok (.iload 4, 2) := by decide +kernel
theorem dX2_liesWithin_5 : decode cX2_liesWithin 5 = .ok (.iload_n 1, 1) := by decide +kernel
theorem dX2_liesWithin_6 : decode cX2_liesWithin 6 = .ok (.if_icmp .ge 33, 3) := by decide +kernel
theorem dX2_liesWithin_9 : decode cX2_liesWithin 9 = .ok (.aload_n 0, 1) := by decide +kernel
theorem dX2_liesWithin_10 : decode cX2_liesWithin 10 = .ok (.iload 4, 2) := by decide +kernel
theorem dX2_liesWithin_12 : decode cX2_liesWithin 12 = .ok (.invokevirtual 36, 3) := by decide +kernel
theorem dX2_liesWithin_15 : decode cX2_liesWithin 15 = .ok (.lstore 5, 2) := by decide +kernel
theorem dX2_liesWithin_17 : decode cX2_liesWithin 17 = .ok (.lload 5, 2) := by decide +kernel
theorem dX2_liesWithin_19 : decode cX2_liesWithin 19 = .ok (.lconst 0, 1) := by decide +kernel
theorem dX2_liesWithin_20 : decode cX2_liesWithin 20 = .ok (.lcmp, 1) := by decide +kernel
theorem dX2_liesWithin_21 : decode cX2_liesWithin 21 = .ok (.ifCond .lt 10, 3) := by decide +kernel
theorem dX2_liesWithin_24 : decode cX2_liesWithin 24 = .ok (.lload 5, 2) := by decide +kernel
theorem dX2_liesWithin_26 : decode cX2_liesWithin 26 = .ok (.lload_n 2, 1) := by decide +kernel
theorem dX2_liesWithin_27 : decode cX2_liesWithin 27 = .ok (.lcmp, 1) := by decide +kernel
theorem dX2_liesWithin_28 : decode cX2_liesWithin 28 = .ok (.ifCond .le 5, 3) := by decide +kernel
theorem dX2_liesWithin_31 : decode cX2_liesWithin 31 = .ok (.iconst 0, 1) := by decide +kernel
theorem dX2_liesWithin_32 : decode cX2_liesWithin 32 = .ok (.ireturn, 1) := by decide +kernel
theorem dX2_liesWithin_33 : decode cX2_liesWithin 33 = .ok (.iinc 4 1, 3) := by decide +kernel
theorem dX2_liesWithin_36 : decode cX2_liesWithin 36 = .ok (.goto (-33), 3) := by decide +kernel
theorem dX2_liesWithin_39 : decode cX2_liesWithin 39 = .ok (.iconst 1, 1) := by decide +kernel
theorem dX2_liesWithin_40 : decode cX2_liesWithin 40 = .ok (.ireturn, 1) := by decide +kernel
theorem dX2_copyInts_0 : decode cX2_copyInts 0 = .ok (.iconst 0, 1) := by decide +kernel
theorem dX2_copyInts_1 : decode cX2_copyInts 1 = .ok (.istore_n 3, 1) := by decide +kernel
theorem dX2_copyInts_2 : decode cX2_copyInts 2 = .ok (.iload_n 3, 1) := by decide +kernel
theorem dX2_copyInts_3 : decode cX2_copyInts 3 = .ok (.iload_n 2, 1) := by decide +kernel
theorem dX2_copyInts_4 : decode cX2_copyInts 4 = .ok (.if_icmp .ge 24, 3) := by decide +kernel
theorem dX2_copyInts_7 : decode cX2_copyInts 7 = .ok (.iload_n 3, 1) := by decide +kernel
theorem dX2_copyInts_8 : decode cX2_copyInts 8 = .ok (.aload_n 1, 1) := by decide +kernel
theorem dX2_copyInts_9 : decode cX2_copyInts 9 = .ok (.arraylength, 1) := by decide +kernel
theorem dX2_copyInts_10 : decode cX2_copyInts 10 = .ok (.if_icmp .ge 18, 3) := by decide +kernel
theorem dX2_copyInts_13 : decode cX2_copyInts 13 = .ok (.aload_n 1, 1) := by decide +kernel
theorem dX2_copyInts_14 : decode cX2_copyInts 14 = .ok (.iload_n 3, 1) := by decide +kernel
theorem dX2_copyInts_15 : decode cX2_copyInts 15 = .ok (.aload_n 0, 1) := by decide +kernel
theorem dX2_copyInts_16 : decode cX2_copyInts 16 = .ok (.iload_n 3, 1) := by decide +kernel
theorem dX2_copyInts_17 : decode cX2_copyInts 17 = .ok (.invokevirtual 36, 3) := by decide +kernel
theorem dX2_copyInts_20 : decode cX2_copyInts 20 = .ok (.l2i, 1) := by decide +kernel
theorem dX2_copyInts_21 : decode cX2_copyInts 21 = .ok (.iastore, 1) := by decide +kernel
theorem dX2_copyInts_22 : decode cX2_copyInts 22 = .ok (.iinc 3 1, 3) := by decide +kernel
theorem dX2_copyInts_25 : decode cX2_copyInts 25 = .ok (.goto (-23), 3) := by decide +kernel
theorem dX2_copyInts_28 : decode cX2_copyInts 28 = .ok (.return_, 1) := by decide +kernel
theorem dX3_init_0 : decode cX3_init 0 = .ok (.aload_n 0, 1) := by decide +kernel
theorem dX3_init_1 : decode cX3_init 1 = .ok (.invokespecial 3, 3) := by decide +kernel
theorem dX3_init_4 : decode cX3_init 4 = .ok (.aload_n 0, 1) := by decide +kernel
theorem dX3_init_5 : decode cX3_init 5 = .ok (.bipush 10, 2) := by decide +kernel
theorem dX3_init_7 : decode cX3_init 7 = .ok (.putfield 9, 3) := by decide +kernel
theorem dX3_init_10 : decode cX3_init 10 = .ok (.aload_n 0, 1) := by decide +kernel
theorem dX3_init_11 : decode cX3_init 11 = .ok (.bipush 100, 2) := by decide +kernel
theorem dX3_init_13 : decode cX3_init 13 = .ok (.newarray .long, 2) := by decide +kernel
theorem dX3_init_15 : decode cX3_init 15 = .ok (.putfield 15, 3) := by decide +kernel
theorem dX3_init_18 : decode cX3_init 18 = .ok (.aload_n 0, 1) := by decide +kernel
theorem dX3_init_19 : decode cX3_init 19 = .ok (.bipush 100, 2) := by decide +kernel
theorem dX3_init_21 : decode cX3_init 21 = .ok (.newarray .long, 2) := by decide +kernel
theorem dX3_init_23 : decode cX3_init 23 = .ok (.putfield 19, 3) := by decide +kernel
theorem dX3_init_26 : decode cX3_init 26 = .ok (.aload_n 0, 1) := by decide +kernel
theorem dX3_init_27 : decode cX3_init 27 = .ok (.bipush 100, 2) := by decide +kernel
theorem dX3_init_29 : decode cX3_init 29 = .ok (.newarray .long, 2) := by decide +kernel
theorem dX3_init_31 : decode cX3_init 31 = .ok (.putfield 22, 3) := by decide +kernel
theorem dX3_init_34 : decode cX3_init 34 = .ok (.aload_n 0, 1) := by decide +kernel
theorem dX3_init_35 : decode cX3_init 35 = .ok (.bipush 100, 2) := by decide +kernel
theorem dX3_init_37 : decode cX3_init 37 = .ok (.newarray .long, 2) := by decide +kernel
theorem dX3_init_39 : decode cX3_init 39 = .ok (.putfield 25, 3) := by decide +kernel
theorem dX3_init_42 : decode cX3_init 42 = .ok (.aload_n 0, 1) := by decide +kernel
theorem dX3_init_43 : decode cX3_init 43 = .ok (.bipush 10, 2) := by decide +kernel
theorem dX3_init_45 : decode cX3_init 45 = .ok (.newarray .long, 2) := by decide +kernel
theorem dX3_init_47 : decode cX3_init 47 = .ok (.putfield 28, 3) := by decide +kernel
theorem dX3_init_50 : decode cX3_init 50 = .ok (.aload_n 0, 1) := by decide +kernel
theorem dX3_init_51 : decode cX3_init 51 = .ok (.bipush 10, 2) := by decide +kernel
theorem dX3_init_53 : decode cX3_init 53 = .ok (.newarray .long, 2) := by decide +kernel
theorem dX3_init_55 : decode cX3_init 55 = .ok (.putfield 31, 3) := by decide +kernel
theorem dX3_init_58 : decode cX3_init 58 = .ok (.aload_n 0, 1) := by decide +kernel
theorem dX3_init_59 : decode cX3_init 59 = .ok (.bipush 110, 2) := by decide +kernel
theorem dX3_init_61 : decode cX3_init 61 = .ok (.newarray .long, 2) := by decide +kernel
theorem dX3_init_63 : decode cX3_init 63 = .ok (.putfield 34, 3) := by decide +kernel
theorem dX3_init_66 : decode cX3_init 66 = .ok (.aload_n 0, 1) := by decide +kernel
theorem dX3_init_67 : decode cX3_init 67 = .ok (.iconst 0, 1) := by decide +kernel
theorem dX3_init_68 : decode cX3_init 68 = .ok (.iconst 0, 1) := by decide +kernel
theorem dX3_init_69 : decode cX3_init 69 = .ok (.multianewarray 37 2, 4) := by decide +kernel
theorem dX3_init_73 : decode cX3_init 73 = .ok (.putfield 39, 3) := by decide +kernel
theorem dX3_init_76 : decode cX3_init 76 = .ok (.aload_n 0, 1) := by decide +kernel
theorem dX3_init_77 : decode cX3_init 77 = .ok (.lconst 0, 1) := by decide +kernel
theorem dX3_init_78 : decode cX3_init 78 = .ok (.putfield 42, 3) := by decide +kernel
theorem dX3_init_81 : decode cX3_init 81 = .ok (.aload_n 0, 1) := by decide +kernel
theorem dX3_init_82 : decode cX3_init 82 = .ok (.lconst 1, 1) := by decide +kernel
theorem dX3_init_83 : decode cX3_init 83 = .ok (.putfield 46, 3) := by decide +kernel
theorem dX3_init_86 : decode cX3_init 86 = .ok (.aload_n 0, 1) := by decide +kernel
theorem dX3_init_87 : decode cX3_init 87 = .ok (.iconst 0, 1) := by decide +kernel
theorem dX3_init_88 : decode cX3_init 88 = .ok (.putfield 49, 3) := by decide +kernel
theorem dX3_init_91 : decode cX3_init 91 = .ok (.aload_n 0, 1) := by decide +kernel
theorem dX3_init_92 : decode cX3_init 92 = .ok (.iconst 0, 1) := by decide +kernel
theorem dX3_init_93 : decode cX3_init 93 = .ok (.putfield 52, 3) := by decide +kernel
theorem dX3_init_96 : decode cX3_init 96 = .ok (.aload_n 0, 1) := by decide +kernel
theorem dX3_init_97 : decode cX3_init 97 = .ok (.iconst 0, 1) := by decide +kernel
theorem dX3_init_98 : decode cX3_init 98 = .ok (.putfield 55, 3) := by decide +kernel
theorem dX3_init_101 : decode cX3_init 101 = .ok (.aload_n 0, 1) := by decide +kernel
theorem dX3_init_102 : decode cX3_init 102 = .ok (.getfield 15, 3) := by decide +kernel
theorem dX3_init_105 : decode cX3_init 105 = .ok (.ldc2_w 58, 3) := by decide +kernel
theorem dX3_init_108 : decode cX3_init 108 = .ok (.invokestatic 60, 3) := by decide +kernel
theorem dX3_init_111 : decode cX3_init 111 = .ok (.return_, 1) := by decide +kernel
theorem dX3_empty_0 : decode cX3_empty 0 = .ok (.aload_n 0, 1) := by decide +kernel
theorem dX3_empty_1 : decode cX3_empty 1 = .ok (.iload_n 1, 1) := by decide +kernel
theorem dX3_empty_2 : decode cX3_empty 2 = .ok (.putfield 9, 3) := by decide +kernel
theorem dX3_empty_5 : decode cX3_empty 5 = .ok (.aload_n 0, 1) := by decide +kernel
theorem dX3_empty_6 : decode cX3_empty 6 = .ok (.getfield 15, 3) := by decide +kernel
theorem dX3_empty_9 : decode cX3_empty 9 = .ok (.ldc2_w 58, 3) := by decide +kernel
theorem dX3_empty_12 : decode cX3_empty 12 = .ok (.invokestatic 60, 3) := by decide +kernel
theorem dX3_empty_15 : decode cX3_empty 15 = .ok (.return_, 1) := by decide +kernel
theorem dX3_has_0 : decode cX3_has 0 = .ok (.iload_n 1, 1) := by decide +kernel
theorem dX3_has_1 : decode cX3_has 1 = .ok (.ifCond .lt 27, 3) := by decide +kernel
theorem dX3_has_4 : decode cX3_has 4 = .ok (.iload_n 1, 1) := by decide +kernel
theorem dX3_has_5 : decode cX3_has 5 = .ok (.aload_n 0, 1) := by decide +kernel
theorem dX3_has_6 : decode cX3_has 6 = .ok (.getfield 9, 3) := by decide +kernel
theorem dX3_has_9 : decode cX3_has 9 = .ok (.if_icmp .ge 19, 3) := by decide +kernel
theorem dX3_has_12 : decode cX3_has 12 = .ok (.iload_n 2, 1) := by decide +kernel
theorem dX3_has_13 : decode cX3_has 13 = .ok (.ifCond .lt 15, 3) := by decide +kernel
theorem dX3_has_16 : decode cX3_has 16 = .ok (.iload_n 2, 1) := by decide +kernel
theorem dX3_has_17 : decode cX3_has 17 = .ok (.aload_n 0, 1) := by decide +kernel
theorem dX3_has_18 : decode cX3_has 18 = .ok (.getfield 9, 3) := by decide +kernel
theorem dX3_has_21 : decode cX3_has 21 = .ok (.if_icmp .ge 7, 3) := by decide +kernel
theorem dX3_has_24 : decode cX3_has 24 = .ok (.iconst 1, 1) := by decide +kernel
theorem dX3_has_25 : decode cX3_has 25 = .ok (.goto 4, 3) := by decide +kernel
theorem dX3_has_28 : decode cX3_has 28 = .ok (.iconst 0, 1) := by decide +kernel
theorem dX3_has_29 : decode cX3_has 29 = .ok (.ireturn, 1) := by decide +kernel
theorem dX3_place_0 : decode cX3_place 0 = .ok (.iload_n 0, 1) := by decide +kernel
theorem dX3_place_1 : decode cX3_place 1 = .ok (.bipush 10, 2) := by decide +kernel
theorem dX3_place_3 : decode cX3_place 3 = .ok (.imul, 1) := by decide +kernel
theorem dX3_place_4 : decode cX3_place 4 = .ok (.iload_n 1, 1) := by decide +kernel
theorem dX3_place_5 : decode cX3_place 5 = .ok (.iadd, 1) := by decide +kernel
theorem dX3_place_6 : decode cX3_place 6 = .ok (.ireturn, 1) := by decide +kernel
theorem dX3_put_0 : decode cX3_put 0 = .ok (.aload_n 0, 1) := by decide +kernel
theorem dX3_put_1 : decode cX3_put 1 = .ok (.getfield 15, 3) := by decide +kernel
theorem dX3_put_4 : decode cX3_put 4 = .ok (.iload_n 1, 1) := by decide +kernel
theorem dX3_put_5 : decode cX3_put 5 = .ok (.iload_n 2, 1) := by decide +kernel
theorem dX3_put_6 : decode cX3_put 6 = .ok (.invokestatic 66, 3) := by decide +kernel
theorem dX3_put_9 : decode cX3_put 9 = .ok (.lload_n 3, 1) := by decide +kernel
theorem dX3_put_10 : decode cX3_put 10 = .ok (.lastore, 1) := by decide +kernel
theorem dX3_put_11 : decode cX3_put 11 = .ok (.return_, 1) := by decide +kernel
theorem dX3_remove_0 : decode cX3_remove 0 = .ok (.aload_n 0, 1) := by decide +kernel
theorem dX3_remove_1 : decode cX3_remove 1 = .ok (.getfield 15, 3) := by decide +kernel
theorem dX3_remove_4 : decode cX3_remove 4 = .ok (.iload_n 1, 1) := by decide +kernel
theorem dX3_remove_5 : decode cX3_remove 5 = .ok (.iload_n 2, 1) := by decide +kernel
theorem dX3_remove_6 : decode cX3_remove 6 = .ok (.invokestatic 66, 3) := by decide +kernel
theorem dX3_remove_9 : decode cX3_remove 9 = .ok (.laload, 1) := by decide +kernel
theorem dX3_remove_10 : decode cX3_remove 10 = .ok (.ldc2_w 58, 3) := by decide +kernel
theorem dX3_remove_13 : decode cX3_remove 13 = .ok (.lcmp, 1) := by decide +kernel
theorem dX3_remove_14 : decode cX3_remove 14 = .ok (.ifCond .eq 7, 3) := by decide +kernel
theorem dX3_remove_17 : decode cX3_remove 17 = .ok (.iconst 1, 1) := by decide +kernel
theorem dX3_remove_18 : decode cX3_remove 18 = .ok (.goto 4, 3) := by decide +kernel
theorem dX3_remove_21 : decode cX3_remove 21 = .ok (.iconst 0, 1) := by decide +kernel
theorem dX3_remove_22 : decode cX3_remove 22 = .ok (.istore_n 3, 1) := by decide +kernel
theorem dX3_remove_23 : decode cX3_remove 23 = .ok (.aload_n 0, 1) := by decide +kernel
theorem dX3_remove_24 : decode cX3_remove 24 = .ok (.getfield 15, 3) := by decide +kernel
theorem dX3_remove_27 : decode cX3_remove 27 = .ok (.iload_n 1, 1) := by decide +kernel
theorem dX3_remove_28 : decode cX3_remove 28 = .ok (.iload_n 2, 1) := by decide +kernel
theorem dX3_remove_29 : decode cX3_remove 29 = .ok (.invokestatic 66, 3) := by decide +kernel
theorem dX3_remove_32 : decode cX3_remove 32 = .ok (.ldc2_w 58, 3) := by decide +kernel
theorem dX3_remove_35 : decode cX3_remove 35 = .ok (.lastore, 1) := by decide +kernel
theorem dX3_remove_36 : decode cX3_remove 36 = .ok (.iload_n 3, 1) := by decide +kernel
theorem dX3_remove_37 : decode cX3_remove 37 = .ok (.ireturn, 1) := by decide +kernel
theorem dX3_join_0 : decode cX3_join 0 = .ok (.lload_n 0, 1) := by decide +kernel
theorem dX3_join_1 : decode cX3_join 1 = .ok (.ldc2_w 58, 3) := by decide +kernel
theorem dX3_join_4 : decode cX3_join 4 = .ok (.lcmp, 1) := by decide +kernel
theorem dX3_join_5 : decode cX3_join 5 = .ok (.ifCond .eq 11, 3) := by decide +kernel
theorem dX3_join_8 : decode cX3_join 8 = .ok (.lload_n 2, 1) := by decide +kernel
theorem dX3_join_9 : decode cX3_join 9 = .ok (.ldc2_w 58, 3) := by decide +kernel
theorem dX3_join_12 : decode cX3_join 12 = .ok (.lcmp, 1) := by decide +kernel
theorem dX3_join_13 : decode cX3_join 13 = .ok (.ifCond .ne 9, 3) := by decide +kernel
theorem dX3_join_16 : decode cX3_join 16 = .ok (.ldc2_w 58, 3) := by decide +kernel
theorem dX3_join_19 : decode cX3_join 19 = .ok (.goto 6, 3) := by decide +kernel
theorem dX3_join_22 : decode cX3_join 22 = .ok (.lload_n 0, 1) := by decide +kernel
theorem dX3_join_23 : decode cX3_join 23 = .ok (.lload_n 2, 1) := by decide +kernel
theorem dX3_join_24 : decode cX3_join 24 = .ok (.ladd, 1) := by decide +kernel
theorem dX3_join_25 : decode cX3_join 25 = .ok (.lreturn, 1) := by decide +kernel
theorem dX3_multiply_0 : decode cX3_multiply 0 = .ok (.aload_n 3, 1) := by decide +kernel
theorem dX3_multiply_1 : decode cX3_multiply 1 = .ok (.ldc2_w 58, 3) := by decide +kernel
theorem dX3_multiply_4 : decode cX3_multiply 4 = .ok (.invokestatic 60, 3) := by decide +kernel
theorem dX3_multiply_7 : decode cX3_multiply 7 = .ok (.iconst 0, 1) := by decide +kernel
theorem dX3_multiply_8 : decode cX3_multiply 8 = .ok (.istore 4, 2) := by decide +kernel
theorem dX3_multiply_10 : decode cX3_multiply 10 = .ok (.iload 4, 2) := by decide +kernel
theorem dX3_multiply_12 : decode cX3_multiply 12 = .ok (.aload_n 0, 1) := by decide +kernel
theorem dX3_multiply_13 : decode cX3_multiply 13 = .ok (.getfield 9, 3) := by decide +kernel
theorem dX3_multiply_16 : decode cX3_multiply 16 = .ok (.if_icmp .ge 59, 3) := by decide +kernel
theorem dX3_multiply_19 : decode cX3_multiply 19 = .ok (.iconst 0, 1) := by decide +kernel
theorem dX3_multiply_20 : decode cX3_multiply 20 = .ok (.istore 5, 2) := by decide +kernel
theorem dX3_multiply_22 : decode cX3_multiply 22 = .ok (.iload 5, 2) := by decide +kernel
theorem dX3_multiply_24 : decode cX3_multiply 24 = .ok (.aload_n 0, 1) := by decide +kernel
theorem dX3_multiply_25 : decode cX3_multiply 25 = .ok (.getfield 9, 3) := by decide +kernel
theorem dX3_multiply_28 : decode cX3_multiply 28 = .ok (.if_icmp .ge 41, 3) := by decide +kernel
theorem dX3_multiply_31 : decode cX3_multiply 31 = .ok (.aload_n 1, 1) := by decide +kernel
theorem dX3_multiply_32 : decode cX3_multiply 32 = .ok (.iload 4, 2) := by decide +kernel
theorem dX3_multiply_34 : decode cX3_multiply 34 = .ok (.iload 5, 2) := by decide +kernel
theorem dX3_multiply_36 : decode cX3_multiply 36 = .ok (.invokestatic 66, 3) := by decide +kernel
theorem dX3_multiply_39 : decode cX3_multiply 39 = .ok (.laload, 1) := by decide +kernel
theorem dX3_multiply_40 : decode cX3_multiply 40 = .ok (.lstore 6, 2) := by decide +kernel
theorem dX3_multiply_42 : decode cX3_multiply 42 = .ok (.lload 6, 2) := by decide +kernel
theorem dX3_multiply_44 : decode cX3_multiply 44 = .ok (.ldc2_w 58, 3) := by decide +kernel
theorem dX3_multiply_47 : decode cX3_multiply 47 = .ok (.lcmp, 1) := by decide +kernel
theorem dX3_multiply_48 : decode cX3_multiply 48 = .ok (.ifCond .eq 15, 3) := by decide +kernel
theorem dX3_multiply_51 : decode cX3_multiply 51 = .ok (.aload_n 0, 1) := by decide +kernel
theorem dX3_multiply_52 : decode cX3_multiply 52 = .ok (.lload 6, 2) := by decide +kernel
theorem dX3_multiply_54 : decode cX3_multiply 54 = .ok (.aload_n 2, 1) := by decide +kernel
theorem dX3_multiply_55 : decode cX3_multiply 55 = .ok (.iload 5, 2) := by decide +kernel
theorem dX3_multiply_57 : decode cX3_multiply 57 = .ok (.aload_n 3, 1) := by decide +kernel
theorem dX3_multiply_58 : decode cX3_multiply 58 = .ok (.iload 4, 2) := by decide +kernel
theorem dX3_multiply_60 : decode cX3_multiply 60 = .ok (.invokevirtual 70, 3) := by decide +kernel
theorem dX3_multiply_63 : decode cX3_multiply 63 = .ok (.iinc 5 1, 3) := by decide +kernel
theorem dX3_multiply_66 : decode cX3_multiply 66 = .ok (.goto (-44), 3) := by decide +kernel
theorem dX3_multiply_69 : decode cX3_multiply 69 = .ok (.iinc 4 1, 3) := by decide +kernel
theorem dX3_multiply_72 : decode cX3_multiply 72 = .ok (.goto (-62), 3) := by decide +kernel
theorem dX3_multiply_75 : decode cX3_multiply 75 = .ok (.return_, 1) := by decide +kernel
theorem dX3_takeBetter_0 : decode cX3_takeBetter 0 = .ok (.iload 4, 2) := by decide +kernel
theorem dX3_takeBetter_2 : decode cX3_takeBetter 2 = .ok (.iconst 0, 1) := by decide +kernel
theorem dX3_takeBetter_3 : decode cX3_takeBetter 3 = .ok (.invokestatic 66, 3) := by decide +kernel
theorem dX3_takeBetter_6 : decode cX3_takeBetter 6 = .ok (.istore 7, 2) := by decide +kernel
theorem dX3_takeBetter_8 : decode cX3_takeBetter 8 = .ok (.iload 6, 2) := by decide +kernel
theorem dX3_takeBetter_10 : decode cX3_takeBetter 10 = .ok (.iconst 0, 1) := by decide +kernel
theorem dX3_takeBetter_11 : decode cX3_takeBetter 11 = .ok (.invokestatic 66, 3) := by decide +kernel
theorem dX3_takeBetter_14 : decode cX3_takeBetter 14 = .ok (.istore 8, 2) := by decide +kernel
theorem dX3_takeBetter_16 : decode cX3_takeBetter 16 = .ok (.iconst 0, 1) := by decide +kernel
theorem dX3_takeBetter_17 : decode cX3_takeBetter 17 = .ok (.istore 9, 2) := by decide +kernel
theorem dX3_takeBetter_19 : decode cX3_takeBetter 19 = .ok (.iload 9, 2) := by decide +kernel
theorem dX3_takeBetter_21 : decode cX3_takeBetter 21 = .ok (.aload_n 0, 1) := by decide +kernel
theorem dX3_takeBetter_22 : decode cX3_takeBetter 22 = .ok (.getfield 9, 3) := by decide +kernel
theorem dX3_takeBetter_25 : decode cX3_takeBetter 25 = .ok (.if_icmp .ge 55, 3) := by decide +kernel
theorem dX3_takeBetter_28 : decode cX3_takeBetter 28 = .ok (.aload_n 3, 1) := by decide +kernel
theorem dX3_takeBetter_29 : decode cX3_takeBetter 29 = .ok (.iload 7, 2) := by decide +kernel
theorem dX3_takeBetter_31 : decode cX3_takeBetter 31 = .ok (.iload 9, 2) := by decide +kernel
theorem dX3_takeBetter_33 : decode cX3_takeBetter 33 = .ok (.iadd, 1) := by decide +kernel
theorem dX3_takeBetter_34 : decode cX3_takeBetter 34 = .ok (.laload, 1) := by decide +kernel
theorem dX3_takeBetter_35 : decode cX3_takeBetter 35 = .ok (.lstore 10, 2) := by decide +kernel
theorem dX3_takeBetter_37 : decode cX3_takeBetter 37 = .ok (.lload 10, 2) := by decide +kernel
theorem dX3_takeBetter_39 : decode cX3_takeBetter 39 = .ok (.ldc2_w 58, 3) := by decide +kernel
theorem dX3_takeBetter_42 : decode cX3_takeBetter 42 = .ok (.lcmp, 1) := by decide +kernel
theorem dX3_takeBetter_43 : decode cX3_takeBetter 43 = .ok (.ifCond .eq 31, 3) := by decide +kernel
theorem dX3_takeBetter_46 : decode cX3_takeBetter 46 = .ok (.lload_n 1, 1) := by decide +kernel
theorem dX3_takeBetter_47 : decode cX3_takeBetter 47 = .ok (.lload 10, 2) := by decide +kernel
theorem dX3_takeBetter_49 : decode cX3_takeBetter 49 = .ok (.ladd, 1) := by decide +kernel
theorem dX3_takeBetter_50 : decode cX3_takeBetter 50 = .ok (.aload 5, 2) := by decide +kernel
theorem dX3_takeBetter_52 : decode cX3_takeBetter 52 = .ok (.iload 8, 2) := by decide +kernel
theorem dX3_takeBetter_54 : decode cX3_takeBetter 54 = .ok (.iload 9, 2) := by decide +kernel
theorem dX3_takeBetter_56 : decode cX3_takeBetter 56 = .ok (.iadd, 1) := by decide +kernel
theorem dX3_takeBetter_57 : decode cX3_takeBetter 57 = .ok (.laload, 1) := by decide +kernel
theorem dX3_takeBetter_58 : decode cX3_takeBetter 58 = .ok (.lcmp, 1) := by decide +kernel
theorem dX3_takeBetter_59 : decode cX3_takeBetter 59 = .ok (.ifCond .le 15, 3) := by decide +kernel
theorem dX3_takeBetter_62 : decode cX3_takeBetter 62 = .ok (.aload 5, 2) := by decide +kernel
theorem dX3_takeBetter_64 : decode cX3_takeBetter 64 = .ok (.iload 8, 2) := by decide +kernel
theorem dX3_takeBetter_66 : decode cX3_takeBetter 66 = .ok (.iload 9, 2) := by decide +kernel
theorem dX3_takeBetter_68 : decode cX3_takeBetter 68 = .ok (.iadd, 1) := by decide +kernel
theorem dX3_takeBetter_69 : decode cX3_takeBetter 69 = .ok (.lload_n 1, 1) := by decide +kernel
theorem dX3_takeBetter_70 : decode cX3_takeBetter 70 = .ok (.lload 10, 2) := by decide +kernel
theorem dX3_takeBetter_72 : decode cX3_takeBetter 72 = .ok (.ladd, 1) := by decide +kernel
theorem dX3_takeBetter_73 : decode cX3_takeBetter 73 = .ok (.lastore, 1) := by decide +kernel
theorem dX3_takeBetter_74 : decode cX3_takeBetter 74 = .ok (.iinc 9 1, 3) := by decide +kernel
theorem dX3_takeBetter_77 : decode cX3_takeBetter 77 = .ok (.goto (-58), 3) := by decide +kernel
theorem dX3_takeBetter_80 : decode cX3_takeBetter 80 = .ok (.return_, 1) := by decide +kernel
theorem dX3_multiplyPower_0 : decode cX3_multiplyPower 0 = .ok (.aload_n 0, 1) := by decide +kernel
theorem dX3_multiplyPower_1 : decode cX3_multiplyPower 1 = .ok (.aload_n 1, 1) := by decide +kernel
theorem dX3_multiplyPower_2 : decode cX3_multiplyPower 2 = .ok (.aload_n 0, 1) := by decide +kernel
theorem dX3_multiplyPower_3 : decode cX3_multiplyPower 3 = .ok (.getfield 19, 3) := by decide +kernel
theorem dX3_multiplyPower_6 : decode cX3_multiplyPower 6 = .ok (.aload_n 0, 1) := by decide +kernel
theorem dX3_multiplyPower_7 : decode cX3_multiplyPower 7 = .ok (.getfield 22, 3) := by decide +kernel
theorem dX3_multiplyPower_10 : decode cX3_multiplyPower 10 = .ok (.invokevirtual 74, 3) := by decide +kernel
theorem dX3_multiplyPower_13 : decode cX3_multiplyPower 13 = .ok (.aload_n 0, 1) := by decide +kernel
theorem dX3_multiplyPower_14 : decode cX3_multiplyPower 14 = .ok (.getfield 22, 3) := by decide +kernel
theorem dX3_multiplyPower_17 : decode cX3_multiplyPower 17 = .ok (.astore_n 2, 1) := by decide +kernel
theorem dX3_multiplyPower_18 : decode cX3_multiplyPower 18 = .ok (.aload_n 0, 1) := by decide +kernel
theorem dX3_multiplyPower_19 : decode cX3_multiplyPower 19 = .ok (.aload_n 0, 1) := by decide +kernel
theorem dX3_multiplyPower_20 : decode cX3_multiplyPower 20 = .ok (.getfield 19, 3) := by decide +kernel
theorem dX3_multiplyPower_23 : decode cX3_multiplyPower 23 = .ok (.putfield 22, 3) := by decide +kernel
theorem dX3_multiplyPower_26 : decode cX3_multiplyPower 26 = .ok (.aload_n 0, 1) := by decide +kernel
theorem dX3_multiplyPower_27 : decode cX3_multiplyPower 27 = .ok (.aload_n 2, 1) := by decide +kernel
theorem dX3_multiplyPower_28 : decode cX3_multiplyPower 28 = .ok (.putfield 19, 3) := by decide +kernel
theorem dX3_multiplyPower_31 : decode cX3_multiplyPower 31 = .ok (.return_, 1) := by decide +kernel
theorem dX3_startRow_0 : decode cX3_startRow 0 = .ok (.aload_n 0, 1) := by decide +kernel
theorem dX3_startRow_1 : decode cX3_startRow 1 = .ok (.getfield 28, 3) := by decide +kernel
theorem dX3_startRow_4 : decode cX3_startRow 4 = .ok (.ldc2_w 58, 3) := by decide +kernel
theorem dX3_startRow_7 : decode cX3_startRow 7 = .ok (.invokestatic 60, 3) := by decide +kernel
theorem dX3_startRow_10 : decode cX3_startRow 10 = .ok (.aload_n 0, 1) := by decide +kernel
theorem dX3_startRow_11 : decode cX3_startRow 11 = .ok (.getfield 28, 3) := by decide +kernel
theorem dX3_startRow_14 : decode cX3_startRow 14 = .ok (.iload_n 1, 1) := by decide +kernel
theorem dX3_startRow_15 : decode cX3_startRow 15 = .ok (.lconst 0, 1) := by decide +kernel
theorem dX3_startRow_16 : decode cX3_startRow 16 = .ok (.lastore, 1) := by decide +kernel
theorem dX3_startRow_17 : decode cX3_startRow 17 = .ok (.return_, 1) := by decide +kernel
theorem dX3_multiplyRow_0 : decode cX3_multiplyRow 0 = .ok (.iconst 0, 1) := by decide +kernel
theorem dX3_multiplyRow_1 : decode cX3_multiplyRow 1 = .ok (.istore_n 2, 1) := by decide +kernel
theorem dX3_multiplyRow_2 : decode cX3_multiplyRow 2 = .ok (.iload_n 2, 1) := by decide +kernel
theorem dX3_multiplyRow_3 : decode cX3_multiplyRow 3 = .ok (.aload_n 0, 1) := by decide +kernel
theorem dX3_multiplyRow_4 : decode cX3_multiplyRow 4 = .ok (.getfield 9, 3) := by decide +kernel
theorem dX3_multiplyRow_7 : decode cX3_multiplyRow 7 = .ok (.if_icmp .ge 61, 3) := by decide +kernel
theorem dX3_multiplyRow_10 : decode cX3_multiplyRow 10 = .ok (.ldc2_w 58, 3) := by decide +kernel
theorem dX3_multiplyRow_13 : decode cX3_multiplyRow 13 = .ok (.lstore_n 3, 1) := by decide +kernel
theorem dX3_multiplyRow_14 : decode cX3_multiplyRow 14 = .ok (.iconst 0, 1) := by decide +kernel
theorem dX3_multiplyRow_15 : decode cX3_multiplyRow 15 = .ok (.istore 5, 2) := by decide +kernel
theorem dX3_multiplyRow_17 : decode cX3_multiplyRow 17 = .ok (.iload 5, 2) := by decide +kernel
theorem dX3_multiplyRow_19 : decode cX3_multiplyRow 19 = .ok (.aload_n 0, 1) := by decide +kernel
theorem dX3_multiplyRow_20 : decode cX3_multiplyRow 20 = .ok (.getfield 9, 3) := by decide +kernel
theorem dX3_multiplyRow_23 : decode cX3_multiplyRow 23 = .ok (.if_icmp .ge 32, 3) := by decide +kernel
theorem dX3_multiplyRow_26 : decode cX3_multiplyRow 26 = .ok (.lload_n 3, 1) := by decide +kernel
theorem dX3_multiplyRow_27 : decode cX3_multiplyRow 27 = .ok (.aload_n 1, 1) := by decide +kernel
theorem dX3_multiplyRow_28 : decode cX3_multiplyRow 28 = .ok (.iload_n 2, 1) := by decide +kernel
theorem dX3_multiplyRow_29 : decode cX3_multiplyRow 29 = .ok (.iload 5, 2) := by decide +kernel
theorem dX3_multiplyRow_31 : decode cX3_multiplyRow 31 = .ok (.invokestatic 66, 3) := by decide +kernel
theorem dX3_multiplyRow_34 : decode cX3_multiplyRow 34 = .ok (.laload, 1) := by decide +kernel
theorem dX3_multiplyRow_35 : decode cX3_multiplyRow 35 = .ok (.aload_n 0, 1) := by decide +kernel
theorem dX3_multiplyRow_36 : decode cX3_multiplyRow 36 = .ok (.getfield 28, 3) := by decide +kernel
theorem dX3_multiplyRow_39 : decode cX3_multiplyRow 39 = .ok (.iload 5, 2) := by decide +kernel
theorem dX3_multiplyRow_41 : decode cX3_multiplyRow 41 = .ok (.laload, 1) := by decide +kernel
theorem dX3_multiplyRow_42 : decode cX3_multiplyRow 42 = .ok (.invokestatic 78, 3) := by decide +kernel
theorem dX3_multiplyRow_45 : decode cX3_multiplyRow 45 = .ok (.invokestatic 82, 3) := by decide +kernel
theorem dX3_multiplyRow_48 : decode cX3_multiplyRow 48 = .ok (.lstore_n 3, 1) := by decide +kernel
theorem dX3_multiplyRow_49 : decode cX3_multiplyRow 49 = .ok (.iinc 5 1, 3) := by decide +kernel
theorem dX3_multiplyRow_52 : decode cX3_multiplyRow 52 = .ok (.goto (-35), 3) := by decide +kernel
theorem dX3_multiplyRow_55 : decode cX3_multiplyRow 55 = .ok (.aload_n 0, 1) := by decide +kernel
theorem dX3_multiplyRow_56 : decode cX3_multiplyRow 56 = .ok (.getfield 31, 3) := by decide +kernel
theorem dX3_multiplyRow_59 : decode cX3_multiplyRow 59 = .ok (.iload_n 2, 1) := by decide +kernel
theorem dX3_multiplyRow_60 : decode cX3_multiplyRow 60 = .ok (.lload_n 3, 1) := by decide +kernel
theorem dX3_multiplyRow_61 : decode cX3_multiplyRow 61 = .ok (.lastore, 1) := by decide +kernel
theorem dX3_multiplyRow_62 : decode cX3_multiplyRow 62 = .ok (.iinc 2 1, 3) := by decide +kernel
theorem dX3_multiplyRow_65 : decode cX3_multiplyRow 65 = .ok (.goto (-63), 3) := by decide +kernel
theorem dX3_multiplyRow_68 : decode cX3_multiplyRow 68 = .ok (.aload_n 0, 1) := by decide +kernel
theorem dX3_multiplyRow_69 : decode cX3_multiplyRow 69 = .ok (.getfield 31, 3) := by decide +kernel
theorem dX3_multiplyRow_72 : decode cX3_multiplyRow 72 = .ok (.astore_n 2, 1) := by decide +kernel
theorem dX3_multiplyRow_73 : decode cX3_multiplyRow 73 = .ok (.aload_n 0, 1) := by decide +kernel
theorem dX3_multiplyRow_74 : decode cX3_multiplyRow 74 = .ok (.aload_n 0, 1) := by decide +kernel
theorem dX3_multiplyRow_75 : decode cX3_multiplyRow 75 = .ok (.getfield 28, 3) := by decide +kernel
theorem dX3_multiplyRow_78 : decode cX3_multiplyRow 78 = .ok (.putfield 31, 3) := by decide +kernel
theorem dX3_multiplyRow_81 : decode cX3_multiplyRow 81 = .ok (.aload_n 0, 1) := by decide +kernel
theorem dX3_multiplyRow_82 : decode cX3_multiplyRow 82 = .ok (.aload_n 2, 1) := by decide +kernel
theorem dX3_multiplyRow_83 : decode cX3_multiplyRow 83 = .ok (.putfield 28, 3) := by decide +kernel
theorem dX3_multiplyRow_86 : decode cX3_multiplyRow 86 = .ok (.return_, 1) := by decide +kernel
theorem dX3_sumOf_0 : decode cX3_sumOf 0 = .ok (.aload_n 0, 1) := by decide +kernel
theorem dX3_sumOf_1 : decode cX3_sumOf 1 = .ok (.getfield 15, 3) := by decide +kernel
theorem dX3_sumOf_4 : decode cX3_sumOf 4 = .ok (.iconst 0, 1) := by decide +kernel
theorem dX3_sumOf_5 : decode cX3_sumOf 5 = .ok (.aload_n 0, 1) := by decide +kernel
theorem dX3_sumOf_6 : decode cX3_sumOf 6 = .ok (.getfield 19, 3) := by decide +kernel
theorem dX3_sumOf_9 : decode cX3_sumOf 9 = .ok (.iconst 0, 1) := by decide +kernel
theorem dX3_sumOf_10 : decode cX3_sumOf 10 = .ok (.bipush 100, 2) := by decide +kernel
theorem dX3_sumOf_12 : decode cX3_sumOf 12 = .ok (.invokestatic 87, 3) := by decide +kernel
theorem dX3_sumOf_15 : decode cX3_sumOf 15 = .ok (.aload_n 0, 1) := by decide +kernel
theorem dX3_sumOf_16 : decode cX3_sumOf 16 = .ok (.iload 4, 2) := by decide +kernel
theorem dX3_sumOf_18 : decode cX3_sumOf 18 = .ok (.invokevirtual 93, 3) := by decide +kernel
theorem dX3_sumOf_21 : decode cX3_sumOf 21 = .ok (.lload_n 1, 1) := by decide +kernel
theorem dX3_sumOf_22 : decode cX3_sumOf 22 = .ok (.lstore 5, 2) := by decide +kernel
theorem dX3_sumOf_24 : decode cX3_sumOf 24 = .ok (.lload 5, 2) := by decide +kernel
theorem dX3_sumOf_26 : decode cX3_sumOf 26 = .ok (.lconst 0, 1) := by decide +kernel
theorem dX3_sumOf_27 : decode cX3_sumOf 27 = .ok (.lcmp, 1) := by decide +kernel
theorem dX3_sumOf_28 : decode cX3_sumOf 28 = .ok (.ifCond .le 44, 3) := by decide +kernel
theorem dX3_sumOf_31 : decode cX3_sumOf 31 = .ok (.lload 5, 2) := by decide +kernel
theorem dX3_sumOf_33 : decode cX3_sumOf 33 = .ok (.lconst 1, 1) := by decide +kernel
theorem dX3_sumOf_34 : decode cX3_sumOf 34 = .ok (.land, 1) := by decide +kernel
theorem dX3_sumOf_35 : decode cX3_sumOf 35 = .ok (.lconst 0, 1) := by decide +kernel
theorem dX3_sumOf_36 : decode cX3_sumOf 36 = .ok (.lcmp, 1) := by decide +kernel
theorem dX3_sumOf_37 : decode cX3_sumOf 37 = .ok (.ifCond .eq 11, 3) := by decide +kernel
theorem dX3_sumOf_40 : decode cX3_sumOf 40 = .ok (.aload_n 0, 1) := by decide +kernel
theorem dX3_sumOf_41 : decode cX3_sumOf 41 = .ok (.aload_n 0, 1) := by decide +kernel
theorem dX3_sumOf_42 : decode cX3_sumOf 42 = .ok (.getfield 19, 3) := by decide +kernel
theorem dX3_sumOf_45 : decode cX3_sumOf 45 = .ok (.invokevirtual 97, 3) := by decide +kernel
theorem dX3_sumOf_48 : decode cX3_sumOf 48 = .ok (.lload 5, 2) := by decide +kernel
theorem dX3_sumOf_50 : decode cX3_sumOf 50 = .ok (.lconst 1, 1) := by decide +kernel
theorem dX3_sumOf_51 : decode cX3_sumOf 51 = .ok (.lcmp, 1) := by decide +kernel
theorem dX3_sumOf_52 : decode cX3_sumOf 52 = .ok (.ifCond .le 11, 3) := by decide +kernel
theorem dX3_sumOf_55 : decode cX3_sumOf 55 = .ok (.aload_n 0, 1) := by decide +kernel
theorem dX3_sumOf_56 : decode cX3_sumOf 56 = .ok (.aload_n 0, 1) := by decide +kernel
theorem dX3_sumOf_57 : decode cX3_sumOf 57 = .ok (.getfield 19, 3) := by decide +kernel
theorem dX3_sumOf_60 : decode cX3_sumOf 60 = .ok (.invokevirtual 101, 3) := by decide +kernel
theorem dX3_sumOf_63 : decode cX3_sumOf 63 = .ok (.lload 5, 2) := by decide +kernel
theorem dX3_sumOf_65 : decode cX3_sumOf 65 = .ok (.iconst 1, 1) := by decide +kernel
theorem dX3_sumOf_66 : decode cX3_sumOf 66 = .ok (.lshr, 1) := by decide +kernel
theorem dX3_sumOf_67 : decode cX3_sumOf 67 = .ok (.lstore 5, 2) := by decide +kernel
end
section
theorem dX3_sumOf_69 : decode cX3_sumOf 69 = .ok (.goto (-45), 3) := by decide +kernel
theorem dX3_sumOf_72 : decode cX3_sumOf 72 = .ok (.aload_n 0, 1) := by decide +kernel
theorem dX3_sumOf_73 : decode cX3_sumOf 73 = .ok (.getfield 28, 3) := by decide +kernel
theorem dX3_sumOf_76 : decode cX3_sumOf 76 = .ok (.iload_n 3, 1) := by decide +kernel
theorem dX3_sumOf_77 : decode cX3_sumOf 77 = .ok (.laload, 1) := by decide +kernel
theorem dX3_sumOf_78 : decode cX3_sumOf 78 = .ok (.lreturn, 1) := by decide +kernel
theorem dX3_longestSum_0 : decode cX3_longestSum 0 = .ok (.aload_n 0, 1) := by decide +kernel
theorem dX3_longestSum_1 : decode cX3_longestSum 1 = .ok (.iload_n 2, 1) := by decide +kernel
theorem dX3_longestSum_2 : decode cX3_longestSum 2 = .ok (.invokevirtual 93, 3) := by decide +kernel
theorem dX3_longestSum_5 : decode cX3_longestSum 5 = .ok (.aload_n 0, 1) := by decide +kernel
theorem dX3_longestSum_6 : decode cX3_longestSum 6 = .ok (.getfield 28, 3) := by decide +kernel
theorem dX3_longestSum_9 : decode cX3_longestSum 9 = .ok (.iload_n 1, 1) := by decide +kernel
theorem dX3_longestSum_10 : decode cX3_longestSum 10 = .ok (.laload, 1) := by decide +kernel
theorem dX3_longestSum_11 : decode cX3_longestSum 11 = .ok (.lstore_n 3, 1) := by decide +kernel
theorem dX3_longestSum_12 : decode cX3_longestSum 12 = .ok (.iconst 1, 1) := by decide +kernel
theorem dX3_longestSum_13 : decode cX3_longestSum 13 = .ok (.istore 5, 2) := by decide +kernel
theorem dX3_longestSum_15 : decode cX3_longestSum 15 = .ok (.iload 5, 2) := by decide +kernel
theorem dX3_longestSum_17 : decode cX3_longestSum 17 = .ok (.aload_n 0, 1) := by decide +kernel
theorem dX3_longestSum_18 : decode cX3_longestSum 18 = .ok (.getfield 9, 3) := by decide +kernel
theorem dX3_longestSum_21 : decode cX3_longestSum 21 = .ok (.if_icmp .ge 28, 3) := by decide +kernel
theorem dX3_longestSum_24 : decode cX3_longestSum 24 = .ok (.aload_n 0, 1) := by decide +kernel
theorem dX3_longestSum_25 : decode cX3_longestSum 25 = .ok (.aload_n 0, 1) := by decide +kernel
theorem dX3_longestSum_26 : decode cX3_longestSum 26 = .ok (.getfield 15, 3) := by decide +kernel
theorem dX3_longestSum_29 : decode cX3_longestSum 29 = .ok (.invokevirtual 97, 3) := by decide +kernel
theorem dX3_longestSum_32 : decode cX3_longestSum 32 = .ok (.lload_n 3, 1) := by decide +kernel
theorem dX3_longestSum_33 : decode cX3_longestSum 33 = .ok (.aload_n 0, 1) := by decide +kernel
theorem dX3_longestSum_34 : decode cX3_longestSum 34 = .ok (.getfield 28, 3) := by decide +kernel
theorem dX3_longestSum_37 : decode cX3_longestSum 37 = .ok (.iload_n 1, 1) := by decide +kernel
theorem dX3_longestSum_38 : decode cX3_longestSum 38 = .ok (.laload, 1) := by decide +kernel
theorem dX3_longestSum_39 : decode cX3_longestSum 39 = .ok (.invokestatic 82, 3) := by decide +kernel
theorem dX3_longestSum_42 : decode cX3_longestSum 42 = .ok (.lstore_n 3, 1) := by decide +kernel
theorem dX3_longestSum_43 : decode cX3_longestSum 43 = .ok (.iinc 5 1, 3) := by decide +kernel
theorem dX3_longestSum_46 : decode cX3_longestSum 46 = .ok (.goto (-31), 3) := by decide +kernel
theorem dX3_longestSum_49 : decode cX3_longestSum 49 = .ok (.lload_n 3, 1) := by decide +kernel
theorem dX3_longestSum_50 : decode cX3_longestSum 50 = .ok (.lreturn, 1) := by decide +kernel
theorem dX3_findPace_0 : decode cX3_findPace 0 = .ok (.aload_n 0, 1) := by decide +kernel
theorem dX3_findPace_1 : decode cX3_findPace 1 = .ok (.iconst 0, 1) := by decide +kernel
theorem dX3_findPace_2 : decode cX3_findPace 2 = .ok (.putfield 49, 3) := by decide +kernel
theorem dX3_findPace_5 : decode cX3_findPace 5 = .ok (.aload_n 0, 1) := by decide +kernel
theorem dX3_findPace_6 : decode cX3_findPace 6 = .ok (.getfield 15, 3) := by decide +kernel
theorem dX3_findPace_9 : decode cX3_findPace 9 = .ok (.iconst 0, 1) := by decide +kernel
theorem dX3_findPace_10 : decode cX3_findPace 10 = .ok (.aload_n 0, 1) := by decide +kernel
theorem dX3_findPace_11 : decode cX3_findPace 11 = .ok (.getfield 19, 3) := by decide +kernel
theorem dX3_findPace_14 : decode cX3_findPace 14 = .ok (.iconst 0, 1) := by decide +kernel
theorem dX3_findPace_15 : decode cX3_findPace 15 = .ok (.bipush 100, 2) := by decide +kernel
theorem dX3_findPace_17 : decode cX3_findPace 17 = .ok (.invokestatic 87, 3) := by decide +kernel
theorem dX3_findPace_20 : decode cX3_findPace 20 = .ok (.iconst 1, 1) := by decide +kernel
theorem dX3_findPace_21 : decode cX3_findPace 21 = .ok (.istore_n 1, 1) := by decide +kernel
theorem dX3_findPace_22 : decode cX3_findPace 22 = .ok (.iload_n 1, 1) := by decide +kernel
theorem dX3_findPace_23 : decode cX3_findPace 23 = .ok (.aload_n 0, 1) := by decide +kernel
theorem dX3_findPace_24 : decode cX3_findPace 24 = .ok (.getfield 9, 3) := by decide +kernel
theorem dX3_findPace_27 : decode cX3_findPace 27 = .ok (.if_icmp .gt 22, 3) := by decide +kernel
theorem dX3_findPace_30 : decode cX3_findPace 30 = .ok (.aload_n 0, 1) := by decide +kernel
theorem dX3_findPace_31 : decode cX3_findPace 31 = .ok (.iload_n 1, 1) := by decide +kernel
theorem dX3_findPace_32 : decode cX3_findPace 32 = .ok (.invokevirtual 104, 3) := by decide +kernel
theorem dX3_findPace_35 : decode cX3_findPace 35 = .ok (.aload_n 0, 1) := by decide +kernel
theorem dX3_findPace_36 : decode cX3_findPace 36 = .ok (.aload_n 0, 1) := by decide +kernel
theorem dX3_findPace_37 : decode cX3_findPace 37 = .ok (.getfield 15, 3) := by decide +kernel
theorem dX3_findPace_40 : decode cX3_findPace 40 = .ok (.invokevirtual 101, 3) := by decide +kernel
theorem dX3_findPace_43 : decode cX3_findPace 43 = .ok (.iinc 1 1, 3) := by decide +kernel
theorem dX3_findPace_46 : decode cX3_findPace 46 = .ok (.goto (-24), 3) := by decide +kernel
theorem dX3_findPace_49 : decode cX3_findPace 49 = .ok (.aload_n 0, 1) := by decide +kernel
theorem dX3_findPace_50 : decode cX3_findPace 50 = .ok (.invokevirtual 107, 3) := by decide +kernel
theorem dX3_findPace_53 : decode cX3_findPace 53 = .ok (.aload_n 0, 1) := by decide +kernel
theorem dX3_findPace_54 : decode cX3_findPace 54 = .ok (.getfield 49, 3) := by decide +kernel
theorem dX3_findPace_57 : decode cX3_findPace 57 = .ok (.ifCond .le 7, 3) := by decide +kernel
theorem dX3_findPace_60 : decode cX3_findPace 60 = .ok (.iconst 1, 1) := by decide +kernel
theorem dX3_findPace_61 : decode cX3_findPace 61 = .ok (.goto 4, 3) := by decide +kernel
theorem dX3_findPace_64 : decode cX3_findPace 64 = .ok (.iconst 0, 1) := by decide +kernel
theorem dX3_findPace_65 : decode cX3_findPace 65 = .ok (.ireturn, 1) := by decide +kernel
theorem dX3_takeRounds_0 : decode cX3_takeRounds 0 = .ok (.iconst 0, 1) := by decide +kernel
theorem dX3_takeRounds_1 : decode cX3_takeRounds 1 = .ok (.istore_n 2, 1) := by decide +kernel
theorem dX3_takeRounds_2 : decode cX3_takeRounds 2 = .ok (.iload_n 2, 1) := by decide +kernel
theorem dX3_takeRounds_3 : decode cX3_takeRounds 3 = .ok (.aload_n 0, 1) := by decide +kernel
theorem dX3_takeRounds_4 : decode cX3_takeRounds 4 = .ok (.getfield 9, 3) := by decide +kernel
theorem dX3_takeRounds_7 : decode cX3_takeRounds 7 = .ok (.if_icmp .ge 68, 3) := by decide +kernel
theorem dX3_takeRounds_10 : decode cX3_takeRounds 10 = .ok (.aload_n 0, 1) := by decide +kernel
theorem dX3_takeRounds_11 : decode cX3_takeRounds 11 = .ok (.getfield 19, 3) := by decide +kernel
theorem dX3_takeRounds_14 : decode cX3_takeRounds 14 = .ok (.iload_n 2, 1) := by decide +kernel
theorem dX3_takeRounds_15 : decode cX3_takeRounds 15 = .ok (.iload_n 2, 1) := by decide +kernel
theorem dX3_takeRounds_16 : decode cX3_takeRounds 16 = .ok (.invokestatic 66, 3) := by decide +kernel
theorem dX3_takeRounds_19 : decode cX3_takeRounds 19 = .ok (.laload, 1) := by decide +kernel
theorem dX3_takeRounds_20 : decode cX3_takeRounds 20 = .ok (.lstore_n 3, 1) := by decide +kernel
theorem dX3_takeRounds_21 : decode cX3_takeRounds 21 = .ok (.lload_n 3, 1) := by decide +kernel
theorem dX3_takeRounds_22 : decode cX3_takeRounds 22 = .ok (.ldc2_w 58, 3) := by decide +kernel
theorem dX3_takeRounds_25 : decode cX3_takeRounds 25 = .ok (.lcmp, 1) := by decide +kernel
theorem dX3_takeRounds_26 : decode cX3_takeRounds 26 = .ok (.ifCond .eq 43, 3) := by decide +kernel
theorem dX3_takeRounds_29 : decode cX3_takeRounds 29 = .ok (.aload_n 0, 1) := by decide +kernel
theorem dX3_takeRounds_30 : decode cX3_takeRounds 30 = .ok (.getfield 49, 3) := by decide +kernel
theorem dX3_takeRounds_33 : decode cX3_takeRounds 33 = .ok (.ifCond .eq 20, 3) := by decide +kernel
theorem dX3_takeRounds_36 : decode cX3_takeRounds 36 = .ok (.lload_n 3, 1) := by decide +kernel
theorem dX3_takeRounds_37 : decode cX3_takeRounds 37 = .ok (.aload_n 0, 1) := by decide +kernel
theorem dX3_takeRounds_38 : decode cX3_takeRounds 38 = .ok (.getfield 46, 3) := by decide +kernel
theorem dX3_takeRounds_41 : decode cX3_takeRounds 41 = .ok (.lmul, 1) := by decide +kernel
theorem dX3_takeRounds_42 : decode cX3_takeRounds 42 = .ok (.aload_n 0, 1) := by decide +kernel
theorem dX3_takeRounds_43 : decode cX3_takeRounds 43 = .ok (.getfield 42, 3) := by decide +kernel
theorem dX3_takeRounds_46 : decode cX3_takeRounds 46 = .ok (.iload_n 1, 1) := by decide +kernel
theorem dX3_takeRounds_47 : decode cX3_takeRounds 47 = .ok (.i2l, 1) := by decide +kernel
theorem dX3_takeRounds_48 : decode cX3_takeRounds 48 = .ok (.lmul, 1) := by decide +kernel
theorem dX3_takeRounds_49 : decode cX3_takeRounds 49 = .ok (.lcmp, 1) := by decide +kernel
theorem dX3_takeRounds_50 : decode cX3_takeRounds 50 = .ok (.ifCond .le 19, 3) := by decide +kernel
theorem dX3_takeRounds_53 : decode cX3_takeRounds 53 = .ok (.aload_n 0, 1) := by decide +kernel
theorem dX3_takeRounds_54 : decode cX3_takeRounds 54 = .ok (.lload_n 3, 1) := by decide +kernel
theorem dX3_takeRounds_55 : decode cX3_takeRounds 55 = .ok (.putfield 42, 3) := by decide +kernel
theorem dX3_takeRounds_58 : decode cX3_takeRounds 58 = .ok (.aload_n 0, 1) := by decide +kernel
theorem dX3_takeRounds_59 : decode cX3_takeRounds 59 = .ok (.iload_n 1, 1) := by decide +kernel
theorem dX3_takeRounds_60 : decode cX3_takeRounds 60 = .ok (.i2l, 1) := by decide +kernel
theorem dX3_takeRounds_61 : decode cX3_takeRounds 61 = .ok (.putfield 46, 3) := by decide +kernel
theorem dX3_takeRounds_64 : decode cX3_takeRounds 64 = .ok (.aload_n 0, 1) := by decide +kernel
theorem dX3_takeRounds_65 : decode cX3_takeRounds 65 = .ok (.iload_n 1, 1) := by decide +kernel
theorem dX3_takeRounds_66 : decode cX3_takeRounds 66 = .ok (.putfield 49, 3) := by decide +kernel
theorem dX3_takeRounds_69 : decode cX3_takeRounds 69 = .ok (.iinc 2 1, 3) := by decide +kernel
theorem dX3_takeRounds_72 : decode cX3_takeRounds 72 = .ok (.goto (-70), 3) := by decide +kernel
theorem dX3_takeRounds_75 : decode cX3_takeRounds 75 = .ok (.return_, 1) := by decide +kernel
theorem dX3_reducePace_0 : decode cX3_reducePace 0 = .ok (.aload_n 0, 1) := by decide +kernel
theorem dX3_reducePace_1 : decode cX3_reducePace 1 = .ok (.getfield 46, 3) := by decide +kernel
theorem dX3_reducePace_4 : decode cX3_reducePace 4 = .ok (.lstore_n 1, 1) := by decide +kernel
theorem dX3_reducePace_5 : decode cX3_reducePace 5 = .ok (.lload_n 1, 1) := by decide +kernel
theorem dX3_reducePace_6 : decode cX3_reducePace 6 = .ok (.lconst 1, 1) := by decide +kernel
theorem dX3_reducePace_7 : decode cX3_reducePace 7 = .ok (.lcmp, 1) := by decide +kernel
theorem dX3_reducePace_8 : decode cX3_reducePace 8 = .ok (.ifCond .le 53, 3) := by decide +kernel
theorem dX3_reducePace_11 : decode cX3_reducePace 11 = .ok (.aload_n 0, 1) := by decide +kernel
theorem dX3_reducePace_12 : decode cX3_reducePace 12 = .ok (.getfield 42, 3) := by decide +kernel
theorem dX3_reducePace_15 : decode cX3_reducePace 15 = .ok (.lload_n 1, 1) := by decide +kernel
theorem dX3_reducePace_16 : decode cX3_reducePace 16 = .ok (.lrem, 1) := by decide +kernel
theorem dX3_reducePace_17 : decode cX3_reducePace 17 = .ok (.lconst 0, 1) := by decide +kernel
theorem dX3_reducePace_18 : decode cX3_reducePace 18 = .ok (.lcmp, 1) := by decide +kernel
theorem dX3_reducePace_19 : decode cX3_reducePace 19 = .ok (.ifCond .ne 35, 3) := by decide +kernel
theorem dX3_reducePace_22 : decode cX3_reducePace 22 = .ok (.aload_n 0, 1) := by decide +kernel
theorem dX3_reducePace_23 : decode cX3_reducePace 23 = .ok (.getfield 46, 3) := by decide +kernel
theorem dX3_reducePace_26 : decode cX3_reducePace 26 = .ok (.lload_n 1, 1) := by decide +kernel
theorem dX3_reducePace_27 : decode cX3_reducePace 27 = .ok (.lrem, 1) := by decide +kernel
theorem dX3_reducePace_28 : decode cX3_reducePace 28 = .ok (.lconst 0, 1) := by decide +kernel
theorem dX3_reducePace_29 : decode cX3_reducePace 29 = .ok (.lcmp, 1) := by decide +kernel
theorem dX3_reducePace_30 : decode cX3_reducePace 30 = .ok (.ifCond .ne 24, 3) := by decide +kernel
theorem dX3_reducePace_33 : decode cX3_reducePace 33 = .ok (.aload_n 0, 1) := by decide +kernel
theorem dX3_reducePace_34 : decode cX3_reducePace 34 = .ok (.dup, 1) := by decide +kernel
theorem dX3_reducePace_35 : decode cX3_reducePace 35 = .ok (.getfield 42, 3) := by decide +kernel
theorem dX3_reducePace_38 : decode cX3_reducePace 38 = .ok (.lload_n 1, 1) := by decide +kernel
theorem dX3_reducePace_39 : decode cX3_reducePace 39 = .ok (.ldiv, 1) := by decide +kernel
theorem dX3_reducePace_40 : decode cX3_reducePace 40 = .ok (.putfield 42, 3) := by decide +kernel
theorem dX3_reducePace_43 : decode cX3_reducePace 43 = .ok (.aload_n 0, 1) := by decide +kernel
theorem dX3_reducePace_44 : decode cX3_reducePace 44 = .ok (.dup, 1) := by decide +kernel
theorem dX3_reducePace_45 : decode cX3_reducePace 45 = .ok (.getfield 46, 3) := by decide +kernel
theorem dX3_reducePace_48 : decode cX3_reducePace 48 = .ok (.lload_n 1, 1) := by decide +kernel
theorem dX3_reducePace_49 : decode cX3_reducePace 49 = .ok (.ldiv, 1) := by decide +kernel
theorem dX3_reducePace_50 : decode cX3_reducePace 50 = .ok (.putfield 46, 3) := by decide +kernel
theorem dX3_reducePace_53 : decode cX3_reducePace 53 = .ok (.return_, 1) := by decide +kernel
theorem dX3_reducePace_54 : decode cX3_reducePace 54 = .ok (.lload_n 1, 1) := by decide +kernel
theorem dX3_reducePace_55 : decode cX3_reducePace 55 = .ok (.lconst 1, 1) := by decide +kernel
theorem dX3_reducePace_56 : decode cX3_reducePace 56 = .ok (.lsub, 1) := by decide +kernel
theorem dX3_reducePace_57 : decode cX3_reducePace 57 = .ok (.lstore_n 1, 1) := by decide +kernel
theorem dX3_reducePace_58 : decode cX3_reducePace 58 = .ok (.goto (-53), 3) := by decide +kernel
theorem dX3_reducePace_61 : decode cX3_reducePace 61 = .ok (.return_, 1) := by decide +kernel
theorem dX3_shiftByPace_0 : decode cX3_shiftByPace 0 = .ok (.iconst 0, 1) := by decide +kernel
theorem dX3_shiftByPace_1 : decode cX3_shiftByPace 1 = .ok (.istore_n 1, 1) := by decide +kernel
theorem dX3_shiftByPace_2 : decode cX3_shiftByPace 2 = .ok (.iload_n 1, 1) := by decide +kernel
theorem dX3_shiftByPace_3 : decode cX3_shiftByPace 3 = .ok (.bipush 100, 2) := by decide +kernel
theorem dX3_shiftByPace_5 : decode cX3_shiftByPace 5 = .ok (.if_icmp .ge 50, 3) := by decide +kernel
theorem dX3_shiftByPace_8 : decode cX3_shiftByPace 8 = .ok (.aload_n 0, 1) := by decide +kernel
theorem dX3_shiftByPace_9 : decode cX3_shiftByPace 9 = .ok (.getfield 25, 3) := by decide +kernel
theorem dX3_shiftByPace_12 : decode cX3_shiftByPace 12 = .ok (.iload_n 1, 1) := by decide +kernel
theorem dX3_shiftByPace_13 : decode cX3_shiftByPace 13 = .ok (.aload_n 0, 1) := by decide +kernel
theorem dX3_shiftByPace_14 : decode cX3_shiftByPace 14 = .ok (.getfield 15, 3) := by decide +kernel
theorem dX3_shiftByPace_17 : decode cX3_shiftByPace 17 = .ok (.iload_n 1, 1) := by decide +kernel
theorem dX3_shiftByPace_18 : decode cX3_shiftByPace 18 = .ok (.laload, 1) := by decide +kernel
theorem dX3_shiftByPace_19 : decode cX3_shiftByPace 19 = .ok (.ldc2_w 58, 3) := by decide +kernel
theorem dX3_shiftByPace_22 : decode cX3_shiftByPace 22 = .ok (.lcmp, 1) := by decide +kernel
theorem dX3_shiftByPace_23 : decode cX3_shiftByPace 23 = .ok (.ifCond .ne 9, 3) := by decide +kernel
theorem dX3_shiftByPace_26 : decode cX3_shiftByPace 26 = .ok (.ldc2_w 58, 3) := by decide +kernel
theorem dX3_shiftByPace_29 : decode cX3_shiftByPace 29 = .ok (.goto 19, 3) := by decide +kernel
theorem dX3_shiftByPace_32 : decode cX3_shiftByPace 32 = .ok (.aload_n 0, 1) := by decide +kernel
theorem dX3_shiftByPace_33 : decode cX3_shiftByPace 33 = .ok (.getfield 15, 3) := by decide +kernel
theorem dX3_shiftByPace_36 : decode cX3_shiftByPace 36 = .ok (.iload_n 1, 1) := by decide +kernel
theorem dX3_shiftByPace_37 : decode cX3_shiftByPace 37 = .ok (.laload, 1) := by decide +kernel
theorem dX3_shiftByPace_38 : decode cX3_shiftByPace 38 = .ok (.aload_n 0, 1) := by decide +kernel
theorem dX3_shiftByPace_39 : decode cX3_shiftByPace 39 = .ok (.getfield 46, 3) := by decide +kernel
theorem dX3_shiftByPace_42 : decode cX3_shiftByPace 42 = .ok (.lmul, 1) := by decide +kernel
theorem dX3_shiftByPace_43 : decode cX3_shiftByPace 43 = .ok (.aload_n 0, 1) := by decide +kernel
theorem dX3_shiftByPace_44 : decode cX3_shiftByPace 44 = .ok (.getfield 42, 3) := by decide +kernel
theorem dX3_shiftByPace_47 : decode cX3_shiftByPace 47 = .ok (.lsub, 1) := by decide +kernel
theorem dX3_shiftByPace_48 : decode cX3_shiftByPace 48 = .ok (.lastore, 1) := by decide +kernel
theorem dX3_shiftByPace_49 : decode cX3_shiftByPace 49 = .ok (.iinc 1 1, 3) := by decide +kernel
theorem dX3_shiftByPace_52 : decode cX3_shiftByPace 52 = .ok (.goto (-50), 3) := by decide +kernel
theorem dX3_shiftByPace_55 : decode cX3_shiftByPace 55 = .ok (.return_, 1) := by decide +kernel
theorem dX3_traceCritical_0 : decode cX3_traceCritical 0 = .ok (.aload_n 0, 1) := by decide +kernel
theorem dX3_traceCritical_1 : decode cX3_traceCritical 1 = .ok (.invokevirtual 110, 3) := by decide +kernel
theorem dX3_traceCritical_4 : decode cX3_traceCritical 4 = .ok (.iconst 0, 1) := by decide +kernel
theorem dX3_traceCritical_5 : decode cX3_traceCritical 5 = .ok (.istore_n 2, 1) := by decide +kernel
theorem dX3_traceCritical_6 : decode cX3_traceCritical 6 = .ok (.iload_n 2, 1) := by decide +kernel
theorem dX3_traceCritical_7 : decode cX3_traceCritical 7 = .ok (.aload_n 0, 1) := by decide +kernel
theorem dX3_traceCritical_8 : decode cX3_traceCritical 8 = .ok (.getfield 9, 3) := by decide +kernel
theorem dX3_traceCritical_11 : decode cX3_traceCritical 11 = .ok (.if_icmp .ge 43, 3) := by decide +kernel
theorem dX3_traceCritical_14 : decode cX3_traceCritical 14 = .ok (.aload_n 0, 1) := by decide +kernel
theorem dX3_traceCritical_15 : decode cX3_traceCritical 15 = .ok (.iload_n 2, 1) := by decide +kernel
theorem dX3_traceCritical_16 : decode cX3_traceCritical 16 = .ok (.invokevirtual 113, 3) := by decide +kernel
theorem dX3_traceCritical_19 : decode cX3_traceCritical 19 = .ok (.aload_n 0, 1) := by decide +kernel
theorem dX3_traceCritical_20 : decode cX3_traceCritical 20 = .ok (.getfield 34, 3) := by decide +kernel
theorem dX3_traceCritical_23 : decode cX3_traceCritical 23 = .ok (.aload_n 0, 1) := by decide +kernel
theorem dX3_traceCritical_24 : decode cX3_traceCritical 24 = .ok (.getfield 49, 3) := by decide +kernel
theorem dX3_traceCritical_27 : decode cX3_traceCritical 27 = .ok (.iload_n 2, 1) := by decide +kernel
theorem dX3_traceCritical_28 : decode cX3_traceCritical 28 = .ok (.invokestatic 66, 3) := by decide +kernel
theorem dX3_traceCritical_31 : decode cX3_traceCritical 31 = .ok (.laload, 1) := by decide +kernel
theorem dX3_traceCritical_32 : decode cX3_traceCritical 32 = .ok (.lconst 0, 1) := by decide +kernel
theorem dX3_traceCritical_33 : decode cX3_traceCritical 33 = .ok (.lcmp, 1) := by decide +kernel
theorem dX3_traceCritical_34 : decode cX3_traceCritical 34 = .ok (.ifCond .ne 14, 3) := by decide +kernel
theorem dX3_traceCritical_37 : decode cX3_traceCritical 37 = .ok (.aload_n 0, 1) := by decide +kernel
theorem dX3_traceCritical_38 : decode cX3_traceCritical 38 = .ok (.iload_n 2, 1) := by decide +kernel
theorem dX3_traceCritical_39 : decode cX3_traceCritical 39 = .ok (.aload_n 1, 1) := by decide +kernel
theorem dX3_traceCritical_40 : decode cX3_traceCritical 40 = .ok (.invokevirtual 116, 3) := by decide +kernel
theorem dX3_traceCritical_43 : decode cX3_traceCritical 43 = .ok (.aload_n 0, 1) := by decide +kernel
theorem dX3_traceCritical_44 : decode cX3_traceCritical 44 = .ok (.getfield 49, 3) := by decide +kernel
theorem dX3_traceCritical_47 : decode cX3_traceCritical 47 = .ok (.ireturn, 1) := by decide +kernel
theorem dX3_traceCritical_48 : decode cX3_traceCritical 48 = .ok (.iinc 2 1, 3) := by decide +kernel
theorem dX3_traceCritical_51 : decode cX3_traceCritical 51 = .ok (.goto (-45), 3) := by decide +kernel
theorem dX3_traceCritical_54 : decode cX3_traceCritical 54 = .ok (.iconst 0, 1) := by decide +kernel
theorem dX3_traceCritical_55 : decode cX3_traceCritical 55 = .ok (.ireturn, 1) := by decide +kernel
theorem dX3_fillBack_0 : decode cX3_fillBack 0 = .ok (.aload_n 0, 1) := by decide +kernel
theorem dX3_fillBack_1 : decode cX3_fillBack 1 = .ok (.getfield 34, 3) := by decide +kernel
theorem dX3_fillBack_4 : decode cX3_fillBack 4 = .ok (.ldc2_w 58, 3) := by decide +kernel
theorem dX3_fillBack_7 : decode cX3_fillBack 7 = .ok (.invokestatic 60, 3) := by decide +kernel
theorem dX3_fillBack_10 : decode cX3_fillBack 10 = .ok (.aload_n 0, 1) := by decide +kernel
theorem dX3_fillBack_11 : decode cX3_fillBack 11 = .ok (.getfield 34, 3) := by decide +kernel
theorem dX3_fillBack_14 : decode cX3_fillBack 14 = .ok (.iload_n 1, 1) := by decide +kernel
theorem dX3_fillBack_15 : decode cX3_fillBack 15 = .ok (.lconst 0, 1) := by decide +kernel
theorem dX3_fillBack_16 : decode cX3_fillBack 16 = .ok (.lastore, 1) := by decide +kernel
theorem dX3_fillBack_17 : decode cX3_fillBack 17 = .ok (.iconst 1, 1) := by decide +kernel
theorem dX3_fillBack_18 : decode cX3_fillBack 18 = .ok (.istore_n 2, 1) := by decide +kernel
theorem dX3_fillBack_19 : decode cX3_fillBack 19 = .ok (.iload_n 2, 1) := by decide +kernel
theorem dX3_fillBack_20 : decode cX3_fillBack 20 = .ok (.aload_n 0, 1) := by decide +kernel
theorem dX3_fillBack_21 : decode cX3_fillBack 21 = .ok (.getfield 49, 3) := by decide +kernel
theorem dX3_fillBack_24 : decode cX3_fillBack 24 = .ok (.if_icmp .gt 94, 3) := by decide +kernel
theorem dX3_fillBack_27 : decode cX3_fillBack 27 = .ok (.iconst 0, 1) := by decide +kernel
theorem dX3_fillBack_28 : decode cX3_fillBack 28 = .ok (.istore_n 3, 1) := by decide +kernel
theorem dX3_fillBack_29 : decode cX3_fillBack 29 = .ok (.iload_n 3, 1) := by decide +kernel
theorem dX3_fillBack_30 : decode cX3_fillBack 30 = .ok (.aload_n 0, 1) := by decide +kernel
theorem dX3_fillBack_31 : decode cX3_fillBack 31 = .ok (.getfield 9, 3) := by decide +kernel
theorem dX3_fillBack_34 : decode cX3_fillBack 34 = .ok (.if_icmp .ge 78, 3) := by decide +kernel
theorem dX3_fillBack_37 : decode cX3_fillBack 37 = .ok (.ldc2_w 58, 3) := by decide +kernel
theorem dX3_fillBack_40 : decode cX3_fillBack 40 = .ok (.lstore 4, 2) := by decide +kernel
theorem dX3_fillBack_42 : decode cX3_fillBack 42 = .ok (.iconst 0, 1) := by decide +kernel
theorem dX3_fillBack_43 : decode cX3_fillBack 43 = .ok (.istore 6, 2) := by decide +kernel
theorem dX3_fillBack_45 : decode cX3_fillBack 45 = .ok (.iload 6, 2) := by decide +kernel
theorem dX3_fillBack_47 : decode cX3_fillBack 47 = .ok (.aload_n 0, 1) := by decide +kernel
theorem dX3_fillBack_48 : decode cX3_fillBack 48 = .ok (.getfield 9, 3) := by decide +kernel
theorem dX3_fillBack_51 : decode cX3_fillBack 51 = .ok (.if_icmp .ge 43, 3) := by decide +kernel
theorem dX3_fillBack_54 : decode cX3_fillBack 54 = .ok (.lload 4, 2) := by decide +kernel
theorem dX3_fillBack_56 : decode cX3_fillBack 56 = .ok (.aload_n 0, 1) := by decide +kernel
theorem dX3_fillBack_57 : decode cX3_fillBack 57 = .ok (.getfield 25, 3) := by decide +kernel
theorem dX3_fillBack_60 : decode cX3_fillBack 60 = .ok (.iload 6, 2) := by decide +kernel
theorem dX3_fillBack_62 : decode cX3_fillBack 62 = .ok (.iload_n 3, 1) := by decide +kernel
theorem dX3_fillBack_63 : decode cX3_fillBack 63 = .ok (.invokestatic 66, 3) := by decide +kernel
theorem dX3_fillBack_66 : decode cX3_fillBack 66 = .ok (.laload, 1) := by decide +kernel
theorem dX3_fillBack_67 : decode cX3_fillBack 67 = .ok (.aload_n 0, 1) := by decide +kernel
theorem dX3_fillBack_68 : decode cX3_fillBack 68 = .ok (.getfield 34, 3) := by decide +kernel
theorem dX3_fillBack_71 : decode cX3_fillBack 71 = .ok (.iload_n 2, 1) := by decide +kernel
theorem dX3_fillBack_72 : decode cX3_fillBack 72 = .ok (.iconst 1, 1) := by decide +kernel
theorem dX3_fillBack_73 : decode cX3_fillBack 73 = .ok (.isub, 1) := by decide +kernel
theorem dX3_fillBack_74 : decode cX3_fillBack 74 = .ok (.iload 6, 2) := by decide +kernel
theorem dX3_fillBack_76 : decode cX3_fillBack 76 = .ok (.invokestatic 66, 3) := by decide +kernel
theorem dX3_fillBack_79 : decode cX3_fillBack 79 = .ok (.laload, 1) := by decide +kernel
theorem dX3_fillBack_80 : decode cX3_fillBack 80 = .ok (.invokestatic 78, 3) := by decide +kernel
theorem dX3_fillBack_83 : decode cX3_fillBack 83 = .ok (.invokestatic 82, 3) := by decide +kernel
theorem dX3_fillBack_86 : decode cX3_fillBack 86 = .ok (.lstore 4, 2) := by decide +kernel
theorem dX3_fillBack_88 : decode cX3_fillBack 88 = .ok (.iinc 6 1, 3) := by decide +kernel
theorem dX3_fillBack_91 : decode cX3_fillBack 91 = .ok (.goto (-46), 3) := by decide +kernel
theorem dX3_fillBack_94 : decode cX3_fillBack 94 = .ok (.aload_n 0, 1) := by decide +kernel
theorem dX3_fillBack_95 : decode cX3_fillBack 95 = .ok (.getfield 34, 3) := by decide +kernel
theorem dX3_fillBack_98 : decode cX3_fillBack 98 = .ok (.iload_n 2, 1) := by decide +kernel
theorem dX3_fillBack_99 : decode cX3_fillBack 99 = .ok (.iload_n 3, 1) := by decide +kernel
theorem dX3_fillBack_100 : decode cX3_fillBack 100 = .ok (.invokestatic 66, 3) := by decide +kernel
theorem dX3_fillBack_103 : decode cX3_fillBack 103 = .ok (.lload 4, 2) := by decide +kernel
theorem dX3_fillBack_105 : decode cX3_fillBack 105 = .ok (.lastore, 1) := by decide +kernel
theorem dX3_fillBack_106 : decode cX3_fillBack 106 = .ok (.iinc 3 1, 3) := by decide +kernel
theorem dX3_fillBack_109 : decode cX3_fillBack 109 = .ok (.goto (-80), 3) := by decide +kernel
theorem dX3_fillBack_112 : decode cX3_fillBack 112 = .ok (.iinc 2 1, 3) := by decide +kernel
theorem dX3_fillBack_115 : decode cX3_fillBack 115 = .ok (.goto (-96), 3) := by decide +kernel
theorem dX3_fillBack_118 : decode cX3_fillBack 118 = .ok (.return_, 1) := by decide +kernel
theorem dX3_writeRound_0 : decode cX3_writeRound 0 = .ok (.iload_n 1, 1) := by decide +kernel
theorem dX3_writeRound_1 : decode cX3_writeRound 1 = .ok (.istore_n 3, 1) := by decide +kernel
theorem dX3_writeRound_2 : decode cX3_writeRound 2 = .ok (.aload_n 0, 1) := by decide +kernel
theorem dX3_writeRound_3 : decode cX3_writeRound 3 = .ok (.getfield 49, 3) := by decide +kernel
theorem dX3_writeRound_6 : decode cX3_writeRound 6 = .ok (.iconst 1, 1) := by decide +kernel
theorem dX3_writeRound_7 : decode cX3_writeRound 7 = .ok (.isub, 1) := by decide +kernel
theorem dX3_writeRound_8 : decode cX3_writeRound 8 = .ok (.istore 4, 2) := by decide +kernel
theorem dX3_writeRound_10 : decode cX3_writeRound 10 = .ok (.iload 4, 2) := by decide +kernel
theorem dX3_writeRound_12 : decode cX3_writeRound 12 = .ok (.ifCond .lt 45, 3) := by decide +kernel
theorem dX3_writeRound_15 : decode cX3_writeRound 15 = .ok (.iload_n 3, 1) := by decide +kernel
theorem dX3_writeRound_16 : decode cX3_writeRound 16 = .ok (.iconst (-1), 1) := by decide +kernel
theorem dX3_writeRound_17 : decode cX3_writeRound 17 = .ok (.if_icmp .eq 40, 3) := by decide +kernel
theorem dX3_writeRound_20 : decode cX3_writeRound 20 = .ok (.aload_n 0, 1) := by decide +kernel
theorem dX3_writeRound_21 : decode cX3_writeRound 21 = .ok (.getfield 49, 3) := by decide +kernel
theorem dX3_writeRound_24 : decode cX3_writeRound 24 = .ok (.iconst 1, 1) := by decide +kernel
theorem dX3_writeRound_25 : decode cX3_writeRound 25 = .ok (.isub, 1) := by decide +kernel
theorem dX3_writeRound_26 : decode cX3_writeRound 26 = .ok (.iload 4, 2) := by decide +kernel
theorem dX3_writeRound_28 : decode cX3_writeRound 28 = .ok (.isub, 1) := by decide +kernel
theorem dX3_writeRound_29 : decode cX3_writeRound 29 = .ok (.istore 5, 2) := by decide +kernel
theorem dX3_writeRound_31 : decode cX3_writeRound 31 = .ok (.iload 5, 2) := by decide +kernel
theorem dX3_writeRound_33 : decode cX3_writeRound 33 = .ok (.aload_n 2, 1) := by decide +kernel
theorem dX3_writeRound_34 : decode cX3_writeRound 34 = .ok (.arraylength, 1) := by decide +kernel
theorem dX3_writeRound_35 : decode cX3_writeRound 35 = .ok (.if_icmp .ge 8, 3) := by decide +kernel
theorem dX3_writeRound_38 : decode cX3_writeRound 38 = .ok (.aload_n 2, 1) := by decide +kernel
theorem dX3_writeRound_39 : decode cX3_writeRound 39 = .ok (.iload 5, 2) := by decide +kernel
theorem dX3_writeRound_41 : decode cX3_writeRound 41 = .ok (.iload_n 3, 1) := by decide +kernel
theorem dX3_writeRound_42 : decode cX3_writeRound 42 = .ok (.iastore, 1) := by decide +kernel
theorem dX3_writeRound_43 : decode cX3_writeRound 43 = .ok (.aload_n 0, 1) := by decide +kernel
theorem dX3_writeRound_44 : decode cX3_writeRound 44 = .ok (.iload_n 3, 1) := by decide +kernel
theorem dX3_writeRound_45 : decode cX3_writeRound 45 = .ok (.iload 4, 2) := by decide +kernel
theorem dX3_writeRound_47 : decode cX3_writeRound 47 = .ok (.invokevirtual 120, 3) := by decide +kernel
theorem dX3_writeRound_50 : decode cX3_writeRound 50 = .ok (.istore_n 3, 1) := by decide +kernel
theorem dX3_writeRound_51 : decode cX3_writeRound 51 = .ok (.iinc 4 (-1), 3) := by decide +kernel
theorem dX3_writeRound_54 : decode cX3_writeRound 54 = .ok (.goto (-44), 3) := by decide +kernel
theorem dX3_writeRound_57 : decode cX3_writeRound 57 = .ok (.return_, 1) := by decide +kernel
theorem dX3_leastNext_0 : decode cX3_leastNext 0 = .ok (.iconst 0, 1) := by decide +kernel
theorem dX3_leastNext_1 : decode cX3_leastNext 1 = .ok (.istore_n 3, 1) := by decide +kernel
theorem dX3_leastNext_2 : decode cX3_leastNext 2 = .ok (.iload_n 3, 1) := by decide +kernel
theorem dX3_leastNext_3 : decode cX3_leastNext 3 = .ok (.aload_n 0, 1) := by decide +kernel
theorem dX3_leastNext_4 : decode cX3_leastNext 4 = .ok (.getfield 9, 3) := by decide +kernel
theorem dX3_leastNext_7 : decode cX3_leastNext 7 = .ok (.if_icmp .ge 63, 3) := by decide +kernel
theorem dX3_leastNext_10 : decode cX3_leastNext 10 = .ok (.aload_n 0, 1) := by decide +kernel
theorem dX3_leastNext_11 : decode cX3_leastNext 11 = .ok (.getfield 25, 3) := by decide +kernel
theorem dX3_leastNext_14 : decode cX3_leastNext 14 = .ok (.iload_n 3, 1) := by decide +kernel
theorem dX3_leastNext_15 : decode cX3_leastNext 15 = .ok (.iload_n 1, 1) := by decide +kernel
theorem dX3_leastNext_16 : decode cX3_leastNext 16 = .ok (.invokestatic 66, 3) := by decide +kernel
theorem dX3_leastNext_19 : decode cX3_leastNext 19 = .ok (.laload, 1) := by decide +kernel
theorem dX3_leastNext_20 : decode cX3_leastNext 20 = .ok (.aload_n 0, 1) := by decide +kernel
theorem dX3_leastNext_21 : decode cX3_leastNext 21 = .ok (.getfield 34, 3) := by decide +kernel
theorem dX3_leastNext_24 : decode cX3_leastNext 24 = .ok (.iload_n 2, 1) := by decide +kernel
theorem dX3_leastNext_25 : decode cX3_leastNext 25 = .ok (.iload_n 3, 1) := by decide +kernel
theorem dX3_leastNext_26 : decode cX3_leastNext 26 = .ok (.invokestatic 66, 3) := by decide +kernel
theorem dX3_leastNext_29 : decode cX3_leastNext 29 = .ok (.laload, 1) := by decide +kernel
theorem dX3_leastNext_30 : decode cX3_leastNext 30 = .ok (.invokestatic 78, 3) := by decide +kernel
theorem dX3_leastNext_33 : decode cX3_leastNext 33 = .ok (.lstore 4, 2) := by decide +kernel
theorem dX3_leastNext_35 : decode cX3_leastNext 35 = .ok (.lload 4, 2) := by decide +kernel
theorem dX3_leastNext_37 : decode cX3_leastNext 37 = .ok (.ldc2_w 58, 3) := by decide +kernel
theorem dX3_leastNext_40 : decode cX3_leastNext 40 = .ok (.lcmp, 1) := by decide +kernel
theorem dX3_leastNext_41 : decode cX3_leastNext 41 = .ok (.ifCond .eq 23, 3) := by decide +kernel
theorem dX3_leastNext_44 : decode cX3_leastNext 44 = .ok (.lload 4, 2) := by decide +kernel
theorem dX3_leastNext_46 : decode cX3_leastNext 46 = .ok (.aload_n 0, 1) := by decide +kernel
theorem dX3_leastNext_47 : decode cX3_leastNext 47 = .ok (.getfield 34, 3) := by decide +kernel
theorem dX3_leastNext_50 : decode cX3_leastNext 50 = .ok (.iload_n 2, 1) := by decide +kernel
theorem dX3_leastNext_51 : decode cX3_leastNext 51 = .ok (.iconst 1, 1) := by decide +kernel
theorem dX3_leastNext_52 : decode cX3_leastNext 52 = .ok (.iadd, 1) := by decide +kernel
theorem dX3_leastNext_53 : decode cX3_leastNext 53 = .ok (.iload_n 1, 1) := by decide +kernel
theorem dX3_leastNext_54 : decode cX3_leastNext 54 = .ok (.invokestatic 66, 3) := by decide +kernel
theorem dX3_leastNext_57 : decode cX3_leastNext 57 = .ok (.laload, 1) := by decide +kernel
theorem dX3_leastNext_58 : decode cX3_leastNext 58 = .ok (.lcmp, 1) := by decide +kernel
theorem dX3_leastNext_59 : decode cX3_leastNext 59 = .ok (.ifCond .ne 5, 3) := by decide +kernel
theorem dX3_leastNext_62 : decode cX3_leastNext 62 = .ok (.iload_n 3, 1) := by decide +kernel
theorem dX3_leastNext_63 : decode cX3_leastNext 63 = .ok (.ireturn, 1) := by decide +kernel
theorem dX3_leastNext_64 : decode cX3_leastNext 64 = .ok (.iinc 3 1, 3) := by decide +kernel
theorem dX3_leastNext_67 : decode cX3_leastNext 67 = .ok (.goto (-65), 3) := by decide +kernel
theorem dX3_leastNext_70 : decode cX3_leastNext 70 = .ok (.iconst (-1), 1) := by decide +kernel
theorem dX3_leastNext_71 : decode cX3_leastNext 71 = .ok (.ireturn, 1) := by decide +kernel
theorem dX3_findAgain_0 : decode cX3_findAgain 0 = .ok (.aload_n 0, 1) := by decide +kernel
theorem dX3_findAgain_1 : decode cX3_findAgain 1 = .ok (.invokevirtual 110, 3) := by decide +kernel
theorem dX3_findAgain_4 : decode cX3_findAgain 4 = .ok (.aload_n 0, 1) := by decide +kernel
theorem dX3_findAgain_5 : decode cX3_findAgain 5 = .ok (.getfield 39, 3) := by decide +kernel
theorem dX3_findAgain_8 : decode cX3_findAgain 8 = .ok (.arraylength, 1) := by decide +kernel
theorem dX3_findAgain_9 : decode cX3_findAgain 9 = .ok (.ifCond .ne 16, 3) := by decide +kernel
theorem dX3_findAgain_12 : decode cX3_findAgain 12 = .ok (.aload_n 0, 1) := by decide +kernel
theorem dX3_findAgain_13 : decode cX3_findAgain 13 = .ok (.sipush 201, 3) := by decide +kernel
theorem dX3_findAgain_16 : decode cX3_findAgain 16 = .ok (.bipush 100, 2) := by decide +kernel
theorem dX3_findAgain_18 : decode cX3_findAgain 18 = .ok (.multianewarray 37 2, 4) := by decide +kernel
theorem dX3_findAgain_22 : decode cX3_findAgain 22 = .ok (.putfield 39, 3) := by decide +kernel
theorem dX3_findAgain_25 : decode cX3_findAgain 25 = .ok (.aload_n 0, 1) := by decide +kernel
theorem dX3_findAgain_26 : decode cX3_findAgain 26 = .ok (.getfield 39, 3) := by decide +kernel
theorem dX3_findAgain_29 : decode cX3_findAgain 29 = .ok (.iconst 0, 1) := by decide +kernel
theorem dX3_findAgain_30 : decode cX3_findAgain 30 = .ok (.aaload, 1) := by decide +kernel
theorem dX3_findAgain_31 : decode cX3_findAgain 31 = .ok (.ldc2_w 58, 3) := by decide +kernel
theorem dX3_findAgain_34 : decode cX3_findAgain 34 = .ok (.invokestatic 60, 3) := by decide +kernel
theorem dX3_findAgain_37 : decode cX3_findAgain 37 = .ok (.iconst 0, 1) := by decide +kernel
theorem dX3_findAgain_38 : decode cX3_findAgain 38 = .ok (.istore_n 1, 1) := by decide +kernel
theorem dX3_findAgain_39 : decode cX3_findAgain 39 = .ok (.iload_n 1, 1) := by decide +kernel
theorem dX3_findAgain_40 : decode cX3_findAgain 40 = .ok (.aload_n 0, 1) := by decide +kernel
theorem dX3_findAgain_41 : decode cX3_findAgain 41 = .ok (.getfield 9, 3) := by decide +kernel
theorem dX3_findAgain_44 : decode cX3_findAgain 44 = .ok (.if_icmp .ge 22, 3) := by decide +kernel
theorem dX3_findAgain_47 : decode cX3_findAgain 47 = .ok (.aload_n 0, 1) := by decide +kernel
theorem dX3_findAgain_48 : decode cX3_findAgain 48 = .ok (.getfield 39, 3) := by decide +kernel
theorem dX3_findAgain_51 : decode cX3_findAgain 51 = .ok (.iconst 0, 1) := by decide +kernel
theorem dX3_findAgain_52 : decode cX3_findAgain 52 = .ok (.aaload, 1) := by decide +kernel
theorem dX3_findAgain_53 : decode cX3_findAgain 53 = .ok (.iload_n 1, 1) := by decide +kernel
theorem dX3_findAgain_54 : decode cX3_findAgain 54 = .ok (.iload_n 1, 1) := by decide +kernel
theorem dX3_findAgain_55 : decode cX3_findAgain 55 = .ok (.invokestatic 66, 3) := by decide +kernel
theorem dX3_findAgain_58 : decode cX3_findAgain 58 = .ok (.lconst 0, 1) := by decide +kernel
theorem dX3_findAgain_59 : decode cX3_findAgain 59 = .ok (.lastore, 1) := by decide +kernel
theorem dX3_findAgain_60 : decode cX3_findAgain 60 = .ok (.iinc 1 1, 3) := by decide +kernel
theorem dX3_findAgain_63 : decode cX3_findAgain 63 = .ok (.goto (-24), 3) := by decide +kernel
theorem dX3_findAgain_66 : decode cX3_findAgain 66 = .ok (.iconst 1, 1) := by decide +kernel
theorem dX3_findAgain_67 : decode cX3_findAgain 67 = .ok (.istore_n 1, 1) := by decide +kernel
theorem dX3_findAgain_68 : decode cX3_findAgain 68 = .ok (.iload_n 1, 1) := by decide +kernel
theorem dX3_findAgain_69 : decode cX3_findAgain 69 = .ok (.aload_n 0, 1) := by decide +kernel
theorem dX3_findAgain_70 : decode cX3_findAgain 70 = .ok (.getfield 39, 3) := by decide +kernel
theorem dX3_findAgain_73 : decode cX3_findAgain 73 = .ok (.arraylength, 1) := by decide +kernel
theorem dX3_findAgain_74 : decode cX3_findAgain 74 = .ok (.if_icmp .ge 77, 3) := by decide +kernel
theorem dX3_findAgain_77 : decode cX3_findAgain 77 = .ok (.aload_n 0, 1) := by decide +kernel
theorem dX3_findAgain_78 : decode cX3_findAgain 78 = .ok (.aload_n 0, 1) := by decide +kernel
theorem dX3_findAgain_79 : decode cX3_findAgain 79 = .ok (.getfield 25, 3) := by decide +kernel
theorem dX3_findAgain_82 : decode cX3_findAgain 82 = .ok (.aload_n 0, 1) := by decide +kernel
theorem dX3_findAgain_83 : decode cX3_findAgain 83 = .ok (.getfield 39, 3) := by decide +kernel
theorem dX3_findAgain_86 : decode cX3_findAgain 86 = .ok (.iload_n 1, 1) := by decide +kernel
theorem dX3_findAgain_87 : decode cX3_findAgain 87 = .ok (.iconst 1, 1) := by decide +kernel
theorem dX3_findAgain_88 : decode cX3_findAgain 88 = .ok (.isub, 1) := by decide +kernel
theorem dX3_findAgain_89 : decode cX3_findAgain 89 = .ok (.aaload, 1) := by decide +kernel
theorem dX3_findAgain_90 : decode cX3_findAgain 90 = .ok (.aload_n 0, 1) := by decide +kernel
theorem dX3_findAgain_91 : decode cX3_findAgain 91 = .ok (.getfield 39, 3) := by decide +kernel
theorem dX3_findAgain_94 : decode cX3_findAgain 94 = .ok (.iload_n 1, 1) := by decide +kernel
theorem dX3_findAgain_95 : decode cX3_findAgain 95 = .ok (.aaload, 1) := by decide +kernel
theorem dX3_findAgain_96 : decode cX3_findAgain 96 = .ok (.invokevirtual 74, 3) := by decide +kernel
theorem dX3_findAgain_99 : decode cX3_findAgain 99 = .ok (.iconst 0, 1) := by decide +kernel
theorem dX3_findAgain_100 : decode cX3_findAgain 100 = .ok (.istore_n 2, 1) := by decide +kernel
theorem dX3_findAgain_101 : decode cX3_findAgain 101 = .ok (.iload_n 2, 1) := by decide +kernel
theorem dX3_findAgain_102 : decode cX3_findAgain 102 = .ok (.iload_n 1, 1) := by decide +kernel
theorem dX3_findAgain_103 : decode cX3_findAgain 103 = .ok (.if_icmp .ge 42, 3) := by decide +kernel
theorem dX3_findAgain_106 : decode cX3_findAgain 106 = .ok (.aload_n 0, 1) := by decide +kernel
theorem dX3_findAgain_107 : decode cX3_findAgain 107 = .ok (.aload_n 0, 1) := by decide +kernel
theorem dX3_findAgain_108 : decode cX3_findAgain 108 = .ok (.getfield 39, 3) := by decide +kernel
theorem dX3_findAgain_111 : decode cX3_findAgain 111 = .ok (.iload_n 2, 1) := by decide +kernel
theorem dX3_findAgain_112 : decode cX3_findAgain 112 = .ok (.aaload, 1) := by decide +kernel
theorem dX3_findAgain_113 : decode cX3_findAgain 113 = .ok (.aload_n 0, 1) := by decide +kernel
theorem dX3_findAgain_114 : decode cX3_findAgain 114 = .ok (.getfield 39, 3) := by decide +kernel
theorem dX3_findAgain_117 : decode cX3_findAgain 117 = .ok (.iload_n 1, 1) := by decide +kernel
theorem dX3_findAgain_118 : decode cX3_findAgain 118 = .ok (.aaload, 1) := by decide +kernel
theorem dX3_findAgain_119 : decode cX3_findAgain 119 = .ok (.invokevirtual 123, 3) := by decide +kernel
theorem dX3_findAgain_122 : decode cX3_findAgain 122 = .ok (.ifCond .eq 17, 3) := by decide +kernel
theorem dX3_findAgain_125 : decode cX3_findAgain 125 = .ok (.aload_n 0, 1) := by decide +kernel
theorem dX3_findAgain_126 : decode cX3_findAgain 126 = .ok (.iload_n 2, 1) := by decide +kernel
theorem dX3_findAgain_127 : decode cX3_findAgain 127 = .ok (.putfield 52, 3) := by decide +kernel
theorem dX3_findAgain_130 : decode cX3_findAgain 130 = .ok (.aload_n 0, 1) := by decide +kernel
theorem dX3_findAgain_131 : decode cX3_findAgain 131 = .ok (.iload_n 1, 1) := by decide +kernel
theorem dX3_findAgain_132 : decode cX3_findAgain 132 = .ok (.iload_n 2, 1) := by decide +kernel
theorem dX3_findAgain_133 : decode cX3_findAgain 133 = .ok (.isub, 1) := by decide +kernel
theorem dX3_findAgain_134 : decode cX3_findAgain 134 = .ok (.putfield 55, 3) := by decide +kernel
theorem dX3_findAgain_137 : decode cX3_findAgain 137 = .ok (.iconst 1, 1) := by decide +kernel
theorem dX3_findAgain_138 : decode cX3_findAgain 138 = .ok (.ireturn, 1) := by decide +kernel
theorem dX3_findAgain_139 : decode cX3_findAgain 139 = .ok (.iinc 2 1, 3) := by decide +kernel
theorem dX3_findAgain_142 : decode cX3_findAgain 142 = .ok (.goto (-41), 3) := by decide +kernel
theorem dX3_findAgain_145 : decode cX3_findAgain 145 = .ok (.iinc 1 1, 3) := by decide +kernel
theorem dX3_findAgain_148 : decode cX3_findAgain 148 = .ok (.goto (-80), 3) := by decide +kernel
theorem dX3_findAgain_151 : decode cX3_findAgain 151 = .ok (.iconst 0, 1) := by decide +kernel
theorem dX3_findAgain_152 : decode cX3_findAgain 152 = .ok (.ireturn, 1) := by decide +kernel
theorem dX3_areAlike_0 : decode cX3_areAlike 0 = .ok (.iconst 0, 1) := by decide +kernel
theorem dX3_areAlike_1 : decode cX3_areAlike 1 = .ok (.istore_n 3, 1) := by decide +kernel
theorem dX3_areAlike_2 : decode cX3_areAlike 2 = .ok (.iload_n 3, 1) := by decide +kernel
theorem dX3_areAlike_3 : decode cX3_areAlike 3 = .ok (.aload_n 0, 1) := by decide +kernel
theorem dX3_areAlike_4 : decode cX3_areAlike 4 = .ok (.getfield 9, 3) := by decide +kernel
theorem dX3_areAlike_7 : decode cX3_areAlike 7 = .ok (.if_icmp .ge 49, 3) := by decide +kernel
theorem dX3_areAlike_10 : decode cX3_areAlike 10 = .ok (.iconst 0, 1) := by decide +kernel
theorem dX3_areAlike_11 : decode cX3_areAlike 11 = .ok (.istore 4, 2) := by decide +kernel
theorem dX3_areAlike_13 : decode cX3_areAlike 13 = .ok (.iload 4, 2) := by decide +kernel
theorem dX3_areAlike_15 : decode cX3_areAlike 15 = .ok (.aload_n 0, 1) := by decide +kernel
theorem dX3_areAlike_16 : decode cX3_areAlike 16 = .ok (.getfield 9, 3) := by decide +kernel
theorem dX3_areAlike_19 : decode cX3_areAlike 19 = .ok (.if_icmp .ge 31, 3) := by decide +kernel
theorem dX3_areAlike_22 : decode cX3_areAlike 22 = .ok (.aload_n 1, 1) := by decide +kernel
theorem dX3_areAlike_23 : decode cX3_areAlike 23 = .ok (.iload_n 3, 1) := by decide +kernel
theorem dX3_areAlike_24 : decode cX3_areAlike 24 = .ok (.iload 4, 2) := by decide +kernel
theorem dX3_areAlike_26 : decode cX3_areAlike 26 = .ok (.invokestatic 66, 3) := by decide +kernel
theorem dX3_areAlike_29 : decode cX3_areAlike 29 = .ok (.laload, 1) := by decide +kernel
theorem dX3_areAlike_30 : decode cX3_areAlike 30 = .ok (.aload_n 2, 1) := by decide +kernel
theorem dX3_areAlike_31 : decode cX3_areAlike 31 = .ok (.iload_n 3, 1) := by decide +kernel
theorem dX3_areAlike_32 : decode cX3_areAlike 32 = .ok (.iload 4, 2) := by decide +kernel
theorem dX3_areAlike_34 : decode cX3_areAlike 34 = .ok (.invokestatic 66, 3) := by decide +kernel
theorem dX3_areAlike_37 : decode cX3_areAlike 37 = .ok (.laload, 1) := by decide +kernel
theorem dX3_areAlike_38 : decode cX3_areAlike 38 = .ok (.lcmp, 1) := by decide +kernel
theorem dX3_areAlike_39 : decode cX3_areAlike 39 = .ok (.ifCond .eq 5, 3) := by decide +kernel
theorem dX3_areAlike_42 : decode cX3_areAlike 42 = .ok (.iconst 0, 1) := by decide +kernel
theorem dX3_areAlike_43 : decode cX3_areAlike 43 = .ok (.ireturn, 1) := by decide +kernel
theorem dX3_areAlike_44 : decode cX3_areAlike 44 = .ok (.iinc 4 1, 3) := by decide +kernel
theorem dX3_areAlike_47 : decode cX3_areAlike 47 = .ok (.goto (-34), 3) := by decide +kernel
theorem dX3_areAlike_50 : decode cX3_areAlike 50 = .ok (.iinc 3 1, 3) := by decide +kernel
theorem dX3_areAlike_53 : decode cX3_areAlike 53 = .ok (.goto (-51), 3) := by decide +kernel
theorem dX3_areAlike_56 : decode cX3_areAlike 56 = .ok (.iconst 1, 1) := by decide +kernel
theorem dX3_areAlike_57 : decode cX3_areAlike 57 = .ok (.ireturn, 1) := by decide +kernel
theorem dX4_init_0 : decode cX4_init 0 = .ok (.aload_n 0, 1) := by decide +kernel
theorem dX4_init_1 : decode cX4_init 1 = .ok (.invokespecial 3, 3) := by decide +kernel
theorem dX4_init_4 : decode cX4_init 4 = .ok (.aload_n 0, 1) := by decide +kernel
theorem dX4_init_5 : decode cX4_init 5 = .ok (.iconst 0, 1) := by decide +kernel
theorem dX4_init_6 : decode cX4_init 6 = .ok (.newarray .int, 2) := by decide +kernel
theorem dX4_init_8 : decode cX4_init 8 = .ok (.putfield 9, 3) := by decide +kernel
theorem dX4_init_11 : decode cX4_init 11 = .ok (.aload_n 0, 1) := by decide +kernel
theorem dX4_init_12 : decode cX4_init 12 = .ok (.iconst 0, 1) := by decide +kernel
theorem dX4_init_13 : decode cX4_init 13 = .ok (.newarray .int, 2) := by decide +kernel
theorem dX4_init_15 : decode cX4_init 15 = .ok (.putfield 15, 3) := by decide +kernel
theorem dX4_init_18 : decode cX4_init 18 = .ok (.aload_n 0, 1) := by decide +kernel
theorem dX4_init_19 : decode cX4_init 19 = .ok (.iconst 0, 1) := by decide +kernel
theorem dX4_init_20 : decode cX4_init 20 = .ok (.newarray .long, 2) := by decide +kernel
theorem dX4_init_22 : decode cX4_init 22 = .ok (.putfield 18, 3) := by decide +kernel
theorem dX4_init_25 : decode cX4_init 25 = .ok (.aload_n 0, 1) := by decide +kernel
theorem dX4_init_26 : decode cX4_init 26 = .ok (.iconst 0, 1) := by decide +kernel
theorem dX4_init_27 : decode cX4_init 27 = .ok (.putfield 22, 3) := by decide +kernel
theorem dX4_init_30 : decode cX4_init 30 = .ok (.aload_n 0, 1) := by decide +kernel
theorem dX4_init_31 : decode cX4_init 31 = .ok (.iconst 0, 1) := by decide +kernel
theorem dX4_init_32 : decode cX4_init 32 = .ok (.putfield 26, 3) := by decide +kernel
theorem dX4_init_35 : decode cX4_init 35 = .ok (.return_, 1) := by decide +kernel
theorem dX4_start_0 : decode cX4_start 0 = .ok (.aload_n 0, 1) := by decide +kernel
theorem dX4_start_1 : decode cX4_start 1 = .ok (.iload_n 1, 1) := by decide +kernel
theorem dX4_start_2 : decode cX4_start 2 = .ok (.iconst 5, 1) := by decide +kernel
theorem dX4_start_3 : decode cX4_start 3 = .ok (.iadd, 1) := by decide +kernel
theorem dX4_start_4 : decode cX4_start 4 = .ok (.iconst 1, 1) := by decide +kernel
theorem dX4_start_5 : decode cX4_start 5 = .ok (.isub, 1) := by decide +kernel
theorem dX4_start_6 : decode cX4_start 6 = .ok (.iconst 5, 1) := by decide +kernel
theorem dX4_start_7 : decode cX4_start 7 = .ok (.idiv, 1) := by decide +kernel
theorem dX4_start_8 : decode cX4_start 8 = .ok (.putfield 22, 3) := by decide +kernel
theorem dX4_start_11 : decode cX4_start 11 = .ok (.aload_n 0, 1) := by decide +kernel
theorem dX4_start_12 : decode cX4_start 12 = .ok (.iconst 0, 1) := by decide +kernel
theorem dX4_start_13 : decode cX4_start 13 = .ok (.putfield 26, 3) := by decide +kernel
theorem dX4_start_16 : decode cX4_start 16 = .ok (.aload_n 0, 1) := by decide +kernel
theorem dX4_start_17 : decode cX4_start 17 = .ok (.getfield 9, 3) := by decide +kernel
theorem dX4_start_20 : decode cX4_start 20 = .ok (.arraylength, 1) := by decide +kernel
theorem dX4_start_21 : decode cX4_start 21 = .ok (.sipush 4096, 3) := by decide +kernel
theorem dX4_start_24 : decode cX4_start 24 = .ok (.if_icmp .ge 12, 3) := by decide +kernel
theorem dX4_start_27 : decode cX4_start 27 = .ok (.aload_n 0, 1) := by decide +kernel
theorem dX4_start_28 : decode cX4_start 28 = .ok (.sipush 4096, 3) := by decide +kernel
theorem dX4_start_31 : decode cX4_start 31 = .ok (.newarray .int, 2) := by decide +kernel
theorem dX4_start_33 : decode cX4_start 33 = .ok (.putfield 9, 3) := by decide +kernel
theorem dX4_start_36 : decode cX4_start 36 = .ok (.aload_n 0, 1) := by decide +kernel
theorem dX4_start_37 : decode cX4_start 37 = .ok (.getfield 9, 3) := by decide +kernel
theorem dX4_start_40 : decode cX4_start 40 = .ok (.iconst (-1), 1) := by decide +kernel
theorem dX4_start_41 : decode cX4_start 41 = .ok (.invokestatic 29, 3) := by decide +kernel
theorem dX4_start_44 : decode cX4_start 44 = .ok (.return_, 1) := by decide +kernel
theorem dX4_stepOf_0 : decode cX4_stepOf 0 = .ok (.aload_n 0, 1) := by decide +kernel
theorem dX4_stepOf_1 : decode cX4_stepOf 1 = .ok (.getfield 26, 3) := by decide +kernel
theorem dX4_stepOf_4 : decode cX4_stepOf 4 = .ok (.sipush 20000, 3) := by decide +kernel
theorem dX4_stepOf_7 : decode cX4_stepOf 7 = .ok (.if_icmp .le 5, 3) := by decide +kernel
theorem dX4_stepOf_10 : decode cX4_stepOf 10 = .ok (.iconst (-1), 1) := by decide +kernel
theorem dX4_stepOf_11 : decode cX4_stepOf 11 = .ok (.ireturn, 1) := by decide +kernel
theorem dX4_stepOf_12 : decode cX4_stepOf 12 = .ok (.aload_n 0, 1) := by decide +kernel
theorem dX4_stepOf_13 : decode cX4_stepOf 13 = .ok (.invokevirtual 35, 3) := by decide +kernel
theorem dX4_stepOf_16 : decode cX4_stepOf 16 = .ok (.aload_n 0, 1) := by decide +kernel
theorem dX4_stepOf_17 : decode cX4_stepOf 17 = .ok (.aload_n 1, 1) := by decide +kernel
theorem dX4_stepOf_18 : decode cX4_stepOf 18 = .ok (.iload_n 2, 1) := by decide +kernel
theorem dX4_stepOf_19 : decode cX4_stepOf 19 = .ok (.invokevirtual 38, 3) := by decide +kernel
theorem dX4_stepOf_22 : decode cX4_stepOf 22 = .ok (.aload_n 0, 1) := by decide +kernel
theorem dX4_stepOf_23 : decode cX4_stepOf 23 = .ok (.invokevirtual 41, 3) := by decide +kernel
theorem dX4_stepOf_26 : decode cX4_stepOf 26 = .ok (.istore_n 3, 1) := by decide +kernel
theorem dX4_stepOf_27 : decode cX4_stepOf 27 = .ok (.aload_n 0, 1) := by decide +kernel
theorem dX4_stepOf_28 : decode cX4_stepOf 28 = .ok (.getfield 9, 3) := by decide +kernel
theorem dX4_stepOf_31 : decode cX4_stepOf 31 = .ok (.iload_n 3, 1) := by decide +kernel
theorem dX4_stepOf_32 : decode cX4_stepOf 32 = .ok (.iaload, 1) := by decide +kernel
theorem dX4_stepOf_33 : decode cX4_stepOf 33 = .ok (.istore 4, 2) := by decide +kernel
theorem dX4_stepOf_35 : decode cX4_stepOf 35 = .ok (.iconst 0, 1) := by decide +kernel
theorem dX4_stepOf_36 : decode cX4_stepOf 36 = .ok (.istore 5, 2) := by decide +kernel
theorem dX4_stepOf_38 : decode cX4_stepOf 38 = .ok (.iload 5, 2) := by decide +kernel
theorem dX4_stepOf_40 : decode cX4_stepOf 40 = .ok (.aload_n 0, 1) := by decide +kernel
theorem dX4_stepOf_41 : decode cX4_stepOf 41 = .ok (.getfield 26, 3) := by decide +kernel
theorem dX4_stepOf_44 : decode cX4_stepOf 44 = .ok (.if_icmp .ge 44, 3) := by decide +kernel
theorem dX4_stepOf_47 : decode cX4_stepOf 47 = .ok (.iload 4, 2) := by decide +kernel
theorem dX4_stepOf_49 : decode cX4_stepOf 49 = .ok (.ifCond .lt 39, 3) := by decide +kernel
theorem dX4_stepOf_52 : decode cX4_stepOf 52 = .ok (.iload 4, 2) := by decide +kernel
theorem dX4_stepOf_54 : decode cX4_stepOf 54 = .ok (.aload_n 0, 1) := by decide +kernel
theorem dX4_stepOf_55 : decode cX4_stepOf 55 = .ok (.getfield 26, 3) := by decide +kernel
theorem dX4_stepOf_58 : decode cX4_stepOf 58 = .ok (.if_icmp .ge 30, 3) := by decide +kernel
theorem dX4_stepOf_61 : decode cX4_stepOf 61 = .ok (.aload_n 0, 1) := by decide +kernel
theorem dX4_stepOf_62 : decode cX4_stepOf 62 = .ok (.iload 4, 2) := by decide +kernel
theorem dX4_stepOf_64 : decode cX4_stepOf 64 = .ok (.invokevirtual 45, 3) := by decide +kernel
theorem dX4_stepOf_67 : decode cX4_stepOf 67 = .ok (.ifCond .eq 6, 3) := by decide +kernel
theorem dX4_stepOf_70 : decode cX4_stepOf 70 = .ok (.iload 4, 2) := by decide +kernel
theorem dX4_stepOf_72 : decode cX4_stepOf 72 = .ok (.ireturn, 1) := by decide +kernel
theorem dX4_stepOf_73 : decode cX4_stepOf 73 = .ok (.aload_n 0, 1) := by decide +kernel
theorem dX4_stepOf_74 : decode cX4_stepOf 74 = .ok (.getfield 15, 3) := by decide +kernel
theorem dX4_stepOf_77 : decode cX4_stepOf 77 = .ok (.iload 4, 2) := by decide +kernel
theorem dX4_stepOf_79 : decode cX4_stepOf 79 = .ok (.iaload, 1) := by decide +kernel
theorem dX4_stepOf_80 : decode cX4_stepOf 80 = .ok (.istore 4, 2) := by decide +kernel
theorem dX4_stepOf_82 : decode cX4_stepOf 82 = .ok (.iinc 5 1, 3) := by decide +kernel
theorem dX4_stepOf_85 : decode cX4_stepOf 85 = .ok (.goto (-47), 3) := by decide +kernel
theorem dX4_stepOf_88 : decode cX4_stepOf 88 = .ok (.aload_n 0, 1) := by decide +kernel
theorem dX4_stepOf_89 : decode cX4_stepOf 89 = .ok (.getfield 15, 3) := by decide +kernel
theorem dX4_stepOf_92 : decode cX4_stepOf 92 = .ok (.aload_n 0, 1) := by decide +kernel
theorem dX4_stepOf_93 : decode cX4_stepOf 93 = .ok (.getfield 26, 3) := by decide +kernel
theorem dX4_stepOf_96 : decode cX4_stepOf 96 = .ok (.aload_n 0, 1) := by decide +kernel
theorem dX4_stepOf_97 : decode cX4_stepOf 97 = .ok (.getfield 9, 3) := by decide +kernel
theorem dX4_stepOf_100 : decode cX4_stepOf 100 = .ok (.iload_n 3, 1) := by decide +kernel
theorem dX4_stepOf_101 : decode cX4_stepOf 101 = .ok (.iaload, 1) := by decide +kernel
theorem dX4_stepOf_102 : decode cX4_stepOf 102 = .ok (.iastore, 1) := by decide +kernel
theorem dX4_stepOf_103 : decode cX4_stepOf 103 = .ok (.aload_n 0, 1) := by decide +kernel
theorem dX4_stepOf_104 : decode cX4_stepOf 104 = .ok (.getfield 9, 3) := by decide +kernel
theorem dX4_stepOf_107 : decode cX4_stepOf 107 = .ok (.iload_n 3, 1) := by decide +kernel
theorem dX4_stepOf_108 : decode cX4_stepOf 108 = .ok (.aload_n 0, 1) := by decide +kernel
theorem dX4_stepOf_109 : decode cX4_stepOf 109 = .ok (.getfield 26, 3) := by decide +kernel
theorem dX4_stepOf_112 : decode cX4_stepOf 112 = .ok (.iastore, 1) := by decide +kernel
theorem dX4_stepOf_113 : decode cX4_stepOf 113 = .ok (.aload_n 0, 1) := by decide +kernel
theorem dX4_stepOf_114 : decode cX4_stepOf 114 = .ok (.dup, 1) := by decide +kernel
theorem dX4_stepOf_115 : decode cX4_stepOf 115 = .ok (.getfield 26, 3) := by decide +kernel
theorem dX4_stepOf_118 : decode cX4_stepOf 118 = .ok (.iconst 1, 1) := by decide +kernel
theorem dX4_stepOf_119 : decode cX4_stepOf 119 = .ok (.iadd, 1) := by decide +kernel
theorem dX4_stepOf_120 : decode cX4_stepOf 120 = .ok (.putfield 26, 3) := by decide +kernel
theorem dX4_stepOf_123 : decode cX4_stepOf 123 = .ok (.iconst (-1), 1) := by decide +kernel
theorem dX4_stepOf_124 : decode cX4_stepOf 124 = .ok (.ireturn, 1) := by decide +kernel
theorem dX4_makeRoom_0 : decode cX4_makeRoom 0 = .ok (.aload_n 0, 1) := by decide +kernel
theorem dX4_makeRoom_1 : decode cX4_makeRoom 1 = .ok (.getfield 15, 3) := by decide +kernel
theorem dX4_makeRoom_4 : decode cX4_makeRoom 4 = .ok (.arraylength, 1) := by decide +kernel
theorem dX4_makeRoom_5 : decode cX4_makeRoom 5 = .ok (.aload_n 0, 1) := by decide +kernel
theorem dX4_makeRoom_6 : decode cX4_makeRoom 6 = .ok (.getfield 26, 3) := by decide +kernel
theorem dX4_makeRoom_9 : decode cX4_makeRoom 9 = .ok (.if_icmp .gt 29, 3) := by decide +kernel
theorem dX4_makeRoom_12 : decode cX4_makeRoom 12 = .ok (.aload_n 0, 1) := by decide +kernel
theorem dX4_makeRoom_13 : decode cX4_makeRoom 13 = .ok (.aload_n 0, 1) := by decide +kernel
theorem dX4_makeRoom_14 : decode cX4_makeRoom 14 = .ok (.getfield 15, 3) := by decide +kernel
theorem dX4_makeRoom_17 : decode cX4_makeRoom 17 = .ok (.sipush 20001, 3) := by decide +kernel
theorem dX4_makeRoom_20 : decode cX4_makeRoom 20 = .ok (.iconst 2, 1) := by decide +kernel
theorem dX4_makeRoom_21 : decode cX4_makeRoom 21 = .ok (.aload_n 0, 1) := by decide +kernel
theorem dX4_makeRoom_22 : decode cX4_makeRoom 22 = .ok (.getfield 26, 3) := by decide +kernel
theorem dX4_makeRoom_25 : decode cX4_makeRoom 25 = .ok (.imul, 1) := by decide +kernel
theorem dX4_makeRoom_26 : decode cX4_makeRoom 26 = .ok (.bipush 64, 2) := by decide +kernel
theorem dX4_makeRoom_28 : decode cX4_makeRoom 28 = .ok (.iadd, 1) := by decide +kernel
theorem dX4_makeRoom_29 : decode cX4_makeRoom 29 = .ok (.invokestatic 49, 3) := by decide +kernel
theorem dX4_makeRoom_32 : decode cX4_makeRoom 32 = .ok (.invokestatic 55, 3) := by decide +kernel
theorem dX4_makeRoom_35 : decode cX4_makeRoom 35 = .ok (.putfield 15, 3) := by decide +kernel
theorem dX4_makeRoom_38 : decode cX4_makeRoom 38 = .ok (.aload_n 0, 1) := by decide +kernel
theorem dX4_makeRoom_39 : decode cX4_makeRoom 39 = .ok (.getfield 26, 3) := by decide +kernel
theorem dX4_makeRoom_42 : decode cX4_makeRoom 42 = .ok (.iconst 1, 1) := by decide +kernel
theorem dX4_makeRoom_43 : decode cX4_makeRoom 43 = .ok (.iadd, 1) := by decide +kernel
theorem dX4_makeRoom_44 : decode cX4_makeRoom 44 = .ok (.aload_n 0, 1) := by decide +kernel
theorem dX4_makeRoom_45 : decode cX4_makeRoom 45 = .ok (.getfield 22, 3) := by decide +kernel
theorem dX4_makeRoom_48 : decode cX4_makeRoom 48 = .ok (.imul, 1) := by decide +kernel
theorem dX4_makeRoom_49 : decode cX4_makeRoom 49 = .ok (.istore_n 1, 1) := by decide +kernel
theorem dX4_makeRoom_50 : decode cX4_makeRoom 50 = .ok (.aload_n 0, 1) := by decide +kernel
theorem dX4_makeRoom_51 : decode cX4_makeRoom 51 = .ok (.getfield 18, 3) := by decide +kernel
theorem dX4_makeRoom_54 : decode cX4_makeRoom 54 = .ok (.arraylength, 1) := by decide +kernel
theorem dX4_makeRoom_55 : decode cX4_makeRoom 55 = .ok (.iload_n 1, 1) := by decide +kernel
theorem dX4_makeRoom_56 : decode cX4_makeRoom 56 = .ok (.if_icmp .ge 31, 3) := by decide +kernel
theorem dX4_makeRoom_59 : decode cX4_makeRoom 59 = .ok (.aload_n 0, 1) := by decide +kernel
theorem dX4_makeRoom_60 : decode cX4_makeRoom 60 = .ok (.aload_n 0, 1) := by decide +kernel
theorem dX4_makeRoom_61 : decode cX4_makeRoom 61 = .ok (.getfield 18, 3) := by decide +kernel
theorem dX4_makeRoom_64 : decode cX4_makeRoom 64 = .ok (.sipush 20001, 3) := by decide +kernel
theorem dX4_makeRoom_67 : decode cX4_makeRoom 67 = .ok (.aload_n 0, 1) := by decide +kernel
theorem dX4_makeRoom_68 : decode cX4_makeRoom 68 = .ok (.getfield 22, 3) := by decide +kernel
theorem dX4_makeRoom_71 : decode cX4_makeRoom 71 = .ok (.imul, 1) := by decide +kernel
theorem dX4_makeRoom_72 : decode cX4_makeRoom 72 = .ok (.iconst 2, 1) := by decide +kernel
theorem dX4_makeRoom_73 : decode cX4_makeRoom 73 = .ok (.iload_n 1, 1) := by decide +kernel
theorem dX4_makeRoom_74 : decode cX4_makeRoom 74 = .ok (.imul, 1) := by decide +kernel
theorem dX4_makeRoom_75 : decode cX4_makeRoom 75 = .ok (.bipush 64, 2) := by decide +kernel
theorem dX4_makeRoom_77 : decode cX4_makeRoom 77 = .ok (.iadd, 1) := by decide +kernel
theorem dX4_makeRoom_78 : decode cX4_makeRoom 78 = .ok (.invokestatic 49, 3) := by decide +kernel
theorem dX4_makeRoom_81 : decode cX4_makeRoom 81 = .ok (.invokestatic 59, 3) := by decide +kernel
theorem dX4_makeRoom_84 : decode cX4_makeRoom 84 = .ok (.putfield 18, 3) := by decide +kernel
theorem dX4_makeRoom_87 : decode cX4_makeRoom 87 = .ok (.return_, 1) := by decide +kernel
theorem dX4_pack_0 : decode cX4_pack 0 = .ok (.aload_n 0, 1) := by decide +kernel
theorem dX4_pack_1 : decode cX4_pack 1 = .ok (.getfield 26, 3) := by decide +kernel
theorem dX4_pack_4 : decode cX4_pack 4 = .ok (.aload_n 0, 1) := by decide +kernel
theorem dX4_pack_5 : decode cX4_pack 5 = .ok (.getfield 22, 3) := by decide +kernel
theorem dX4_pack_8 : decode cX4_pack 8 = .ok (.imul, 1) := by decide +kernel
theorem dX4_pack_9 : decode cX4_pack 9 = .ok (.istore_n 3, 1) := by decide +kernel
theorem dX4_pack_10 : decode cX4_pack 10 = .ok (.iconst 0, 1) := by decide +kernel
theorem dX4_pack_11 : decode cX4_pack 11 = .ok (.istore 4, 2) := by decide +kernel
theorem dX4_pack_13 : decode cX4_pack 13 = .ok (.iload 4, 2) := by decide +kernel
theorem dX4_pack_15 : decode cX4_pack 15 = .ok (.aload_n 0, 1) := by decide +kernel
theorem dX4_pack_16 : decode cX4_pack 16 = .ok (.getfield 22, 3) := by decide +kernel
theorem dX4_pack_19 : decode cX4_pack 19 = .ok (.if_icmp .ge 67, 3) := by decide +kernel
theorem dX4_pack_22 : decode cX4_pack 22 = .ok (.lconst 0, 1) := by decide +kernel
theorem dX4_pack_23 : decode cX4_pack 23 = .ok (.lstore 5, 2) := by decide +kernel
theorem dX4_pack_25 : decode cX4_pack 25 = .ok (.iload_n 2, 1) := by decide +kernel
theorem dX4_pack_26 : decode cX4_pack 26 = .ok (.iload 4, 2) := by decide +kernel
theorem dX4_pack_28 : decode cX4_pack 28 = .ok (.iconst 1, 1) := by decide +kernel
theorem dX4_pack_29 : decode cX4_pack 29 = .ok (.iadd, 1) := by decide +kernel
theorem dX4_pack_30 : decode cX4_pack 30 = .ok (.iconst 5, 1) := by decide +kernel
theorem dX4_pack_31 : decode cX4_pack 31 = .ok (.imul, 1) := by decide +kernel
theorem dX4_pack_32 : decode cX4_pack 32 = .ok (.invokestatic 49, 3) := by decide +kernel
theorem dX4_pack_35 : decode cX4_pack 35 = .ok (.istore 7, 2) := by decide +kernel
theorem dX4_pack_37 : decode cX4_pack 37 = .ok (.iload 4, 2) := by decide +kernel
theorem dX4_pack_39 : decode cX4_pack 39 = .ok (.iconst 5, 1) := by decide +kernel
theorem dX4_pack_40 : decode cX4_pack 40 = .ok (.imul, 1) := by decide +kernel
theorem dX4_pack_41 : decode cX4_pack 41 = .ok (.istore 8, 2) := by decide +kernel
theorem dX4_pack_43 : decode cX4_pack 43 = .ok (.iload 8, 2) := by decide +kernel
theorem dX4_pack_45 : decode cX4_pack 45 = .ok (.iload 7, 2) := by decide +kernel
theorem dX4_pack_47 : decode cX4_pack 47 = .ok (.if_icmp .ge 22, 3) := by decide +kernel
theorem dX4_pack_50 : decode cX4_pack 50 = .ok (.lload 5, 2) := by decide +kernel
theorem dX4_pack_52 : decode cX4_pack 52 = .ok (.bipush 12, 2) := by decide +kernel
theorem dX4_pack_54 : decode cX4_pack 54 = .ok (.lshl, 1) := by decide +kernel
theorem dX4_pack_55 : decode cX4_pack 55 = .ok (.aload_n 1, 1) := by decide +kernel
theorem dX4_pack_56 : decode cX4_pack 56 = .ok (.iload 8, 2) := by decide +kernel
theorem dX4_pack_58 : decode cX4_pack 58 = .ok (.iaload, 1) := by decide +kernel
theorem dX4_pack_59 : decode cX4_pack 59 = .ok (.i2l, 1) := by decide +kernel
theorem dX4_pack_60 : decode cX4_pack 60 = .ok (.lor, 1) := by decide +kernel
theorem dX4_pack_61 : decode cX4_pack 61 = .ok (.lstore 5, 2) := by decide +kernel
theorem dX4_pack_63 : decode cX4_pack 63 = .ok (.iinc 8 1, 3) := by decide +kernel
theorem dX4_pack_66 : decode cX4_pack 66 = .ok (.goto (-23), 3) := by decide +kernel
theorem dX4_pack_69 : decode cX4_pack 69 = .ok (.aload_n 0, 1) := by decide +kernel
theorem dX4_pack_70 : decode cX4_pack 70 = .ok (.getfield 18, 3) := by decide +kernel
theorem dX4_pack_73 : decode cX4_pack 73 = .ok (.iload_n 3, 1) := by decide +kernel
theorem dX4_pack_74 : decode cX4_pack 74 = .ok (.iload 4, 2) := by decide +kernel
theorem dX4_pack_76 : decode cX4_pack 76 = .ok (.iadd, 1) := by decide +kernel
theorem dX4_pack_77 : decode cX4_pack 77 = .ok (.lload 5, 2) := by decide +kernel
theorem dX4_pack_79 : decode cX4_pack 79 = .ok (.lastore, 1) := by decide +kernel
theorem dX4_pack_80 : decode cX4_pack 80 = .ok (.iinc 4 1, 3) := by decide +kernel
theorem dX4_pack_83 : decode cX4_pack 83 = .ok (.goto (-70), 3) := by decide +kernel
theorem dX4_pack_86 : decode cX4_pack 86 = .ok (.return_, 1) := by decide +kernel
theorem dX4_headOfLast_0 : decode cX4_headOfLast 0 = .ok (.lconst 0, 1) := by decide +kernel
theorem dX4_headOfLast_1 : decode cX4_headOfLast 1 = .ok (.lstore_n 1, 1) := by decide +kernel
theorem dX4_headOfLast_2 : decode cX4_headOfLast 2 = .ok (.aload_n 0, 1) := by decide +kernel
theorem dX4_headOfLast_3 : decode cX4_headOfLast 3 = .ok (.getfield 26, 3) := by decide +kernel
theorem dX4_headOfLast_6 : decode cX4_headOfLast 6 = .ok (.aload_n 0, 1) := by decide +kernel
theorem dX4_headOfLast_7 : decode cX4_headOfLast 7 = .ok (.getfield 22, 3) := by decide +kernel
theorem dX4_headOfLast_10 : decode cX4_headOfLast 10 = .ok (.imul, 1) := by decide +kernel
theorem dX4_headOfLast_11 : decode cX4_headOfLast 11 = .ok (.istore_n 3, 1) := by decide +kernel
theorem dX4_headOfLast_12 : decode cX4_headOfLast 12 = .ok (.iconst 0, 1) := by decide +kernel
theorem dX4_headOfLast_13 : decode cX4_headOfLast 13 = .ok (.istore 4, 2) := by decide +kernel
theorem dX4_headOfLast_15 : decode cX4_headOfLast 15 = .ok (.iload 4, 2) := by decide +kernel
theorem dX4_headOfLast_17 : decode cX4_headOfLast 17 = .ok (.aload_n 0, 1) := by decide +kernel
theorem dX4_headOfLast_18 : decode cX4_headOfLast 18 = .ok (.getfield 22, 3) := by decide +kernel
theorem dX4_headOfLast_21 : decode cX4_headOfLast 21 = .ok (.if_icmp .ge 32, 3) := by decide +kernel
theorem dX4_headOfLast_24 : decode cX4_headOfLast 24 = .ok (.lload_n 1, 1) := by decide +kernel
theorem dX4_headOfLast_25 : decode cX4_headOfLast 25 = .ok (.aload_n 0, 1) := by decide +kernel
theorem dX4_headOfLast_26 : decode cX4_headOfLast 26 = .ok (.getfield 18, 3) := by decide +kernel
theorem dX4_headOfLast_29 : decode cX4_headOfLast 29 = .ok (.iload_n 3, 1) := by decide +kernel
theorem dX4_headOfLast_30 : decode cX4_headOfLast 30 = .ok (.iload 4, 2) := by decide +kernel
theorem dX4_headOfLast_32 : decode cX4_headOfLast 32 = .ok (.iadd, 1) := by decide +kernel
theorem dX4_headOfLast_33 : decode cX4_headOfLast 33 = .ok (.laload, 1) := by decide +kernel
theorem dX4_headOfLast_34 : decode cX4_headOfLast 34 = .ok (.lxor, 1) := by decide +kernel
theorem dX4_headOfLast_35 : decode cX4_headOfLast 35 = .ok (.ldc2_w 62, 3) := by decide +kernel
theorem dX4_headOfLast_38 : decode cX4_headOfLast 38 = .ok (.lmul, 1) := by decide +kernel
theorem dX4_headOfLast_39 : decode cX4_headOfLast 39 = .ok (.lstore_n 1, 1) := by decide +kernel
theorem dX4_headOfLast_40 : decode cX4_headOfLast 40 = .ok (.lload_n 1, 1) := by decide +kernel
theorem dX4_headOfLast_41 : decode cX4_headOfLast 41 = .ok (.lload_n 1, 1) := by decide +kernel
theorem dX4_headOfLast_42 : decode cX4_headOfLast 42 = .ok (.bipush 29, 2) := by decide +kernel
theorem dX4_headOfLast_44 : decode cX4_headOfLast 44 = .ok (.lushr, 1) := by decide +kernel
theorem dX4_headOfLast_45 : decode cX4_headOfLast 45 = .ok (.lxor, 1) := by decide +kernel
theorem dX4_headOfLast_46 : decode cX4_headOfLast 46 = .ok (.lstore_n 1, 1) := by decide +kernel
theorem dX4_headOfLast_47 : decode cX4_headOfLast 47 = .ok (.iinc 4 1, 3) := by decide +kernel
theorem dX4_headOfLast_50 : decode cX4_headOfLast 50 = .ok (.goto (-35), 3) := by decide +kernel
theorem dX4_headOfLast_53 : decode cX4_headOfLast 53 = .ok (.lload_n 1, 1) := by decide +kernel
theorem dX4_headOfLast_54 : decode cX4_headOfLast 54 = .ok (.ldc2_w 62, 3) := by decide +kernel
theorem dX4_headOfLast_57 : decode cX4_headOfLast 57 = .ok (.lmul, 1) := by decide +kernel
theorem dX4_headOfLast_58 : decode cX4_headOfLast 58 = .ok (.bipush 52, 2) := by decide +kernel
theorem dX4_headOfLast_60 : decode cX4_headOfLast 60 = .ok (.lushr, 1) := by decide +kernel
theorem dX4_headOfLast_61 : decode cX4_headOfLast 61 = .ok (.l2i, 1) := by decide +kernel
theorem dX4_headOfLast_62 : decode cX4_headOfLast 62 = .ok (.ireturn, 1) := by decide +kernel
theorem dX4_isLikeLast_0 : decode cX4_isLikeLast 0 = .ok (.iload_n 1, 1) := by decide +kernel
theorem dX4_isLikeLast_1 : decode cX4_isLikeLast 1 = .ok (.aload_n 0, 1) := by decide +kernel
theorem dX4_isLikeLast_2 : decode cX4_isLikeLast 2 = .ok (.getfield 22, 3) := by decide +kernel
theorem dX4_isLikeLast_5 : decode cX4_isLikeLast 5 = .ok (.imul, 1) := by decide +kernel
theorem dX4_isLikeLast_6 : decode cX4_isLikeLast 6 = .ok (.istore_n 2, 1) := by decide +kernel
theorem dX4_isLikeLast_7 : decode cX4_isLikeLast 7 = .ok (.aload_n 0, 1) := by decide +kernel
theorem dX4_isLikeLast_8 : decode cX4_isLikeLast 8 = .ok (.getfield 26, 3) := by decide +kernel
theorem dX4_isLikeLast_11 : decode cX4_isLikeLast 11 = .ok (.aload_n 0, 1) := by decide +kernel
theorem dX4_isLikeLast_12 : decode cX4_isLikeLast 12 = .ok (.getfield 22, 3) := by decide +kernel
theorem dX4_isLikeLast_15 : decode cX4_isLikeLast 15 = .ok (.imul, 1) := by decide +kernel
theorem dX4_isLikeLast_16 : decode cX4_isLikeLast 16 = .ok (.istore_n 3, 1) := by decide +kernel
theorem dX4_isLikeLast_17 : decode cX4_isLikeLast 17 = .ok (.iconst 0, 1) := by decide +kernel
theorem dX4_isLikeLast_18 : decode cX4_isLikeLast 18 = .ok (.istore 4, 2) := by decide +kernel
theorem dX4_isLikeLast_20 : decode cX4_isLikeLast 20 = .ok (.iload 4, 2) := by decide +kernel
theorem dX4_isLikeLast_22 : decode cX4_isLikeLast 22 = .ok (.aload_n 0, 1) := by decide +kernel
theorem dX4_isLikeLast_23 : decode cX4_isLikeLast 23 = .ok (.getfield 22, 3) := by decide +kernel
theorem dX4_isLikeLast_26 : decode cX4_isLikeLast 26 = .ok (.if_icmp .ge 33, 3) := by decide +kernel
theorem dX4_isLikeLast_29 : decode cX4_isLikeLast 29 = .ok (.aload_n 0, 1) := by decide +kernel
theorem dX4_isLikeLast_30 : decode cX4_isLikeLast 30 = .ok (.getfield 18, 3) := by decide +kernel
theorem dX4_isLikeLast_33 : decode cX4_isLikeLast 33 = .ok (.iload_n 2, 1) := by decide +kernel
theorem dX4_isLikeLast_34 : decode cX4_isLikeLast 34 = .ok (.iload 4, 2) := by decide +kernel
theorem dX4_isLikeLast_36 : decode cX4_isLikeLast 36 = .ok (.iadd, 1) := by decide +kernel
theorem dX4_isLikeLast_37 : decode cX4_isLikeLast 37 = .ok (.laload, 1) := by decide +kernel
theorem dX4_isLikeLast_38 : decode cX4_isLikeLast 38 = .ok (.aload_n 0, 1) := by decide +kernel
theorem dX4_isLikeLast_39 : decode cX4_isLikeLast 39 = .ok (.getfield 18, 3) := by decide +kernel
theorem dX4_isLikeLast_42 : decode cX4_isLikeLast 42 = .ok (.iload_n 3, 1) := by decide +kernel
theorem dX4_isLikeLast_43 : decode cX4_isLikeLast 43 = .ok (.iload 4, 2) := by decide +kernel
theorem dX4_isLikeLast_45 : decode cX4_isLikeLast 45 = .ok (.iadd, 1) := by decide +kernel
theorem dX4_isLikeLast_46 : decode cX4_isLikeLast 46 = .ok (.laload, 1) := by decide +kernel
theorem dX4_isLikeLast_47 : decode cX4_isLikeLast 47 = .ok (.lcmp, 1) := by decide +kernel
theorem dX4_isLikeLast_48 : decode cX4_isLikeLast 48 = .ok (.ifCond .eq 5, 3) := by decide +kernel
theorem dX4_isLikeLast_51 : decode cX4_isLikeLast 51 = .ok (.iconst 0, 1) := by decide +kernel
theorem dX4_isLikeLast_52 : decode cX4_isLikeLast 52 = .ok (.ireturn, 1) := by decide +kernel
theorem dX4_isLikeLast_53 : decode cX4_isLikeLast 53 = .ok (.iinc 4 1, 3) := by decide +kernel
theorem dX4_isLikeLast_56 : decode cX4_isLikeLast 56 = .ok (.goto (-36), 3) := by decide +kernel
theorem dX4_isLikeLast_59 : decode cX4_isLikeLast 59 = .ok (.iconst 1, 1) := by decide +kernel
theorem dX4_isLikeLast_60 : decode cX4_isLikeLast 60 = .ok (.ireturn, 1) := by decide +kernel
theorem dX5_init_0 : decode cX5_init 0 = .ok (.aload_n 0, 1) := by decide +kernel
theorem dX5_init_1 : decode cX5_init 1 = .ok (.invokespecial 1, 3) := by decide +kernel
theorem dX5_init_4 : decode cX5_init 4 = .ok (.aload_n 0, 1) := by decide +kernel
theorem dX5_init_5 : decode cX5_init 5 = .ok (.iconst 0, 1) := by decide +kernel
theorem dX5_init_6 : decode cX5_init 6 = .ok (.putfield 9, 3) := by decide +kernel
theorem dX5_init_9 : decode cX5_init 9 = .ok (.aload_n 0, 1) := by decide +kernel
theorem dX5_init_10 : decode cX5_init 10 = .ok (.iconst 4, 1) := by decide +kernel
theorem dX5_init_11 : decode cX5_init 11 = .ok (.anewarray 13, 3) := by decide +kernel
theorem dX5_init_14 : decode cX5_init 14 = .ok (.putfield 15, 3) := by decide +kernel
theorem dX5_init_17 : decode cX5_init 17 = .ok (.aload_n 0, 1) := by decide +kernel
theorem dX5_init_18 : decode cX5_init 18 = .ok (.new 19, 3) := by decide +kernel
theorem dX5_init_21 : decode cX5_init 21 = .ok (.dup, 1) := by decide +kernel
theorem dX5_init_22 : decode cX5_init 22 = .ok (.invokespecial 21, 3) := by decide +kernel
theorem dX5_init_25 : decode cX5_init 25 = .ok (.putfield 22, 3) := by decide +kernel
theorem dX5_init_28 : decode cX5_init 28 = .ok (.aload_n 0, 1) := by decide +kernel
theorem dX5_init_29 : decode cX5_init 29 = .ok (.new 26, 3) := by decide +kernel
theorem dX5_init_32 : decode cX5_init 32 = .ok (.dup, 1) := by decide +kernel
theorem dX5_init_33 : decode cX5_init 33 = .ok (.invokespecial 28, 3) := by decide +kernel
theorem dX5_init_36 : decode cX5_init 36 = .ok (.putfield 29, 3) := by decide +kernel
theorem dX5_init_39 : decode cX5_init 39 = .ok (.aload_n 0, 1) := by decide +kernel
theorem dX5_init_40 : decode cX5_init 40 = .ok (.new 33, 3) := by decide +kernel
theorem dX5_init_43 : decode cX5_init 43 = .ok (.dup, 1) := by decide +kernel
theorem dX5_init_44 : decode cX5_init 44 = .ok (.invokespecial 35, 3) := by decide +kernel
theorem dX5_init_47 : decode cX5_init 47 = .ok (.putfield 36, 3) := by decide +kernel
theorem dX5_init_50 : decode cX5_init 50 = .ok (.aload_n 0, 1) := by decide +kernel
theorem dX5_init_51 : decode cX5_init 51 = .ok (.new 40, 3) := by decide +kernel
theorem dX5_init_54 : decode cX5_init 54 = .ok (.dup, 1) := by decide +kernel
theorem dX5_init_55 : decode cX5_init 55 = .ok (.invokespecial 42, 3) := by decide +kernel
theorem dX5_init_58 : decode cX5_init 58 = .ok (.putfield 43, 3) := by decide +kernel
theorem dX5_init_61 : decode cX5_init 61 = .ok (.aload_n 0, 1) := by decide +kernel
theorem dX5_init_62 : decode cX5_init 62 = .ok (.bipush 24, 2) := by decide +kernel
theorem dX5_init_64 : decode cX5_init 64 = .ok (.newarray .int, 2) := by decide +kernel
theorem dX5_init_66 : decode cX5_init 66 = .ok (.putfield 47, 3) := by decide +kernel
theorem dX5_init_69 : decode cX5_init 69 = .ok (.aload_n 0, 1) := by decide +kernel
theorem dX5_init_70 : decode cX5_init 70 = .ok (.iconst 0, 1) := by decide +kernel
theorem dX5_init_71 : decode cX5_init 71 = .ok (.putfield 51, 3) := by decide +kernel
theorem dX5_init_74 : decode cX5_init 74 = .ok (.aload_n 0, 1) := by decide +kernel
theorem dX5_init_75 : decode cX5_init 75 = .ok (.bipush 10, 2) := by decide +kernel
theorem dX5_init_77 : decode cX5_init 77 = .ok (.newarray .int, 2) := by decide +kernel
theorem dX5_init_79 : decode cX5_init 79 = .ok (.putfield 54, 3) := by decide +kernel
theorem dX5_init_82 : decode cX5_init 82 = .ok (.aload_n 0, 1) := by decide +kernel
theorem dX5_init_83 : decode cX5_init 83 = .ok (.iconst 0, 1) := by decide +kernel
theorem dX5_init_84 : decode cX5_init 84 = .ok (.putfield 57, 3) := by decide +kernel
theorem dX5_init_87 : decode cX5_init 87 = .ok (.iconst 0, 1) := by decide +kernel
theorem dX5_init_88 : decode cX5_init 88 = .ok (.istore_n 1, 1) := by decide +kernel
theorem dX5_init_89 : decode cX5_init 89 = .ok (.iload_n 1, 1) := by decide +kernel
theorem dX5_init_90 : decode cX5_init 90 = .ok (.aload_n 0, 1) := by decide +kernel
theorem dX5_init_91 : decode cX5_init 91 = .ok (.getfield 15, 3) := by decide +kernel
theorem dX5_init_94 : decode cX5_init 94 = .ok (.arraylength, 1) := by decide +kernel
theorem dX5_init_95 : decode cX5_init 95 = .ok (.if_icmp .ge 22, 3) := by decide +kernel
theorem dX5_init_98 : decode cX5_init 98 = .ok (.aload_n 0, 1) := by decide +kernel
theorem dX5_init_99 : decode cX5_init 99 = .ok (.getfield 15, 3) := by decide +kernel
theorem dX5_init_102 : decode cX5_init 102 = .ok (.iload_n 1, 1) := by decide +kernel
theorem dX5_init_103 : decode cX5_init 103 = .ok (.new 13, 3) := by decide +kernel
theorem dX5_init_106 : decode cX5_init 106 = .ok (.dup, 1) := by decide +kernel
theorem dX5_init_107 : decode cX5_init 107 = .ok (.invokespecial 60, 3) := by decide +kernel
theorem dX5_init_110 : decode cX5_init 110 = .ok (.aastore, 1) := by decide +kernel
theorem dX5_init_111 : decode cX5_init 111 = .ok (.iinc 1 1, 3) := by decide +kernel
theorem dX5_init_114 : decode cX5_init 114 = .ok (.goto (-25), 3) := by decide +kernel
theorem dX5_init_117 : decode cX5_init 117 = .ok (.return_, 1) := by decide +kernel
theorem dX5_status_0 : decode cX5_status 0 = .ok (.aload_n 0, 1) := by decide +kernel
theorem dX5_status_1 : decode cX5_status 1 = .ok (.getfield 9, 3) := by decide +kernel
theorem dX5_status_4 : decode cX5_status 4 = .ok (.ireturn, 1) := by decide +kernel
theorem dX5_sheet_0 : decode cX5_sheet 0 = .ok (.aload_n 0, 1) := by decide +kernel
theorem dX5_sheet_1 : decode cX5_sheet 1 = .ok (.iload_n 1, 1) := by decide +kernel
theorem dX5_sheet_2 : decode cX5_sheet 2 = .ok (.invokevirtual 61, 3) := by decide +kernel
theorem dX5_sheet_5 : decode cX5_sheet 5 = .ok (.astore 4, 2) := by decide +kernel
theorem dX5_sheet_7 : decode cX5_sheet 7 = .ok (.aload 4, 2) := by decide +kernel
theorem dX5_sheet_9 : decode cX5_sheet 9 = .ok (.ifnull 12, 3) := by decide +kernel
theorem dX5_sheet_12 : decode cX5_sheet 12 = .ok (.iload_n 2, 1) := by decide +kernel
theorem dX5_sheet_13 : decode cX5_sheet 13 = .ok (.ifCond .lt 8, 3) := by decide +kernel
theorem dX5_sheet_16 : decode cX5_sheet 16 = .ok (.iload_n 2, 1) := by decide +kernel
theorem dX5_sheet_17 : decode cX5_sheet 17 = .ok (.iconst 4, 1) := by decide +kernel
theorem dX5_sheet_18 : decode cX5_sheet 18 = .ok (.if_icmp .lt 9, 3) := by decide +kernel
theorem dX5_sheet_21 : decode cX5_sheet 21 = .ok (.aload_n 0, 1) := by decide +kernel
theorem dX5_sheet_22 : decode cX5_sheet 22 = .ok (.iconst 1, 1) := by decide +kernel
theorem dX5_sheet_23 : decode cX5_sheet 23 = .ok (.invokevirtual 65, 3) := by decide +kernel
theorem dX5_sheet_26 : decode cX5_sheet 26 = .ok (.ireturn, 1) := by decide +kernel
theorem dX5_sheet_27 : decode cX5_sheet 27 = .ok (.iload_n 3, 1) := by decide +kernel
theorem dX5_sheet_28 : decode cX5_sheet 28 = .ok (.bipush 100, 2) := by decide +kernel
theorem dX5_sheet_30 : decode cX5_sheet 30 = .ok (.if_icmp .le 9, 3) := by decide +kernel
theorem dX5_sheet_33 : decode cX5_sheet 33 = .ok (.aload_n 0, 1) := by decide +kernel
theorem dX5_sheet_34 : decode cX5_sheet 34 = .ok (.iconst 2, 1) := by decide +kernel
theorem dX5_sheet_35 : decode cX5_sheet 35 = .ok (.invokevirtual 65, 3) := by decide +kernel
theorem dX5_sheet_38 : decode cX5_sheet 38 = .ok (.ireturn, 1) := by decide +kernel
theorem dX5_sheet_39 : decode cX5_sheet 39 = .ok (.iload_n 3, 1) := by decide +kernel
theorem dX5_sheet_40 : decode cX5_sheet 40 = .ok (.ifCond .ge 10, 3) := by decide +kernel
theorem dX5_sheet_43 : decode cX5_sheet 43 = .ok (.aload_n 0, 1) := by decide +kernel
theorem dX5_sheet_44 : decode cX5_sheet 44 = .ok (.bipush 6, 2) := by decide +kernel
theorem dX5_sheet_46 : decode cX5_sheet 46 = .ok (.invokevirtual 65, 3) := by decide +kernel
theorem dX5_sheet_49 : decode cX5_sheet 49 = .ok (.ireturn, 1) := by decide +kernel
theorem dX5_sheet_50 : decode cX5_sheet 50 = .ok (.aload 4, 2) := by decide +kernel
theorem dX5_sheet_52 : decode cX5_sheet 52 = .ok (.iload_n 2, 1) := by decide +kernel
theorem dX5_sheet_53 : decode cX5_sheet 53 = .ok (.iload_n 3, 1) := by decide +kernel
theorem dX5_sheet_54 : decode cX5_sheet 54 = .ok (.invokevirtual 69, 3) := by decide +kernel
theorem dX5_sheet_57 : decode cX5_sheet 57 = .ok (.aload_n 0, 1) := by decide +kernel
theorem dX5_sheet_58 : decode cX5_sheet 58 = .ok (.invokevirtual 73, 3) := by decide +kernel
theorem dX5_sheet_61 : decode cX5_sheet 61 = .ok (.ireturn, 1) := by decide +kernel
theorem dX5_write_0 : decode cX5_write 0 = .ok (.aload_n 0, 1) := by decide +kernel
theorem dX5_write_1 : decode cX5_write 1 = .ok (.iload_n 1, 1) := by decide +kernel
theorem dX5_write_2 : decode cX5_write 2 = .ok (.invokevirtual 61, 3) := by decide +kernel
theorem dX5_write_5 : decode cX5_write 5 = .ok (.astore 5, 2) := by decide +kernel
theorem dX5_write_7 : decode cX5_write 7 = .ok (.aload 5, 2) := by decide +kernel
theorem dX5_write_9 : decode cX5_write 9 = .ok (.ifnonnull 9, 3) := by decide +kernel
theorem dX5_write_12 : decode cX5_write 12 = .ok (.aload_n 0, 1) := by decide +kernel
theorem dX5_write_13 : decode cX5_write 13 = .ok (.iconst 1, 1) := by decide +kernel
theorem dX5_write_14 : decode cX5_write 14 = .ok (.invokevirtual 65, 3) := by decide +kernel
theorem dX5_write_17 : decode cX5_write 17 = .ok (.ireturn, 1) := by decide +kernel
theorem dX5_write_18 : decode cX5_write 18 = .ok (.aload 5, 2) := by decide +kernel
theorem dX5_write_20 : decode cX5_write 20 = .ok (.invokevirtual 77, 3) := by decide +kernel
theorem dX5_write_23 : decode cX5_write 23 = .ok (.ifCond .eq 9, 3) := by decide +kernel
theorem dX5_write_26 : decode cX5_write 26 = .ok (.aload_n 0, 1) := by decide +kernel
theorem dX5_write_27 : decode cX5_write 27 = .ok (.iconst 3, 1) := by decide +kernel
theorem dX5_write_28 : decode cX5_write 28 = .ok (.invokevirtual 65, 3) := by decide +kernel
theorem dX5_write_31 : decode cX5_write 31 = .ok (.ireturn, 1) := by decide +kernel
theorem dX5_write_32 : decode cX5_write 32 = .ok (.aload 5, 2) := by decide +kernel
theorem dX5_write_34 : decode cX5_write 34 = .ok (.iload_n 2, 1) := by decide +kernel
theorem dX5_write_35 : decode cX5_write 35 = .ok (.iconst 1, 1) := by decide +kernel
theorem dX5_write_36 : decode cX5_write 36 = .ok (.invokevirtual 80, 3) := by decide +kernel
theorem dX5_write_39 : decode cX5_write 39 = .ok (.ifCond .ne 9, 3) := by decide +kernel
theorem dX5_write_42 : decode cX5_write 42 = .ok (.aload_n 0, 1) := by decide +kernel
theorem dX5_write_43 : decode cX5_write 43 = .ok (.iconst 4, 1) := by decide +kernel
theorem dX5_write_44 : decode cX5_write 44 = .ok (.invokevirtual 65, 3) := by decide +kernel
theorem dX5_write_47 : decode cX5_write 47 = .ok (.ireturn, 1) := by decide +kernel
theorem dX5_write_48 : decode cX5_write 48 = .ok (.aload 5, 2) := by decide +kernel
theorem dX5_write_50 : decode cX5_write 50 = .ok (.iload_n 2, 1) := by decide +kernel
theorem dX5_write_51 : decode cX5_write 51 = .ok (.lload_n 3, 1) := by decide +kernel
theorem dX5_write_52 : decode cX5_write 52 = .ok (.invokevirtual 84, 3) := by decide +kernel
theorem dX5_write_55 : decode cX5_write 55 = .ok (.aload_n 0, 1) := by decide +kernel
theorem dX5_write_56 : decode cX5_write 56 = .ok (.invokevirtual 73, 3) := by decide +kernel
theorem dX5_write_59 : decode cX5_write 59 = .ok (.ireturn, 1) := by decide +kernel
theorem dX5_read_0 : decode cX5_read 0 = .ok (.aload_n 0, 1) := by decide +kernel
theorem dX5_read_1 : decode cX5_read 1 = .ok (.iload_n 1, 1) := by decide +kernel
theorem dX5_read_2 : decode cX5_read 2 = .ok (.invokevirtual 61, 3) := by decide +kernel
theorem dX5_read_5 : decode cX5_read 5 = .ok (.astore_n 3, 1) := by decide +kernel
theorem dX5_read_6 : decode cX5_read 6 = .ok (.aload_n 3, 1) := by decide +kernel
theorem dX5_read_7 : decode cX5_read 7 = .ok (.ifnonnull 10, 3) := by decide +kernel
theorem dX5_read_10 : decode cX5_read 10 = .ok (.aload_n 0, 1) := by decide +kernel
theorem dX5_read_11 : decode cX5_read 11 = .ok (.iconst 1, 1) := by decide +kernel
theorem dX5_read_12 : decode cX5_read 12 = .ok (.invokevirtual 88, 3) := by decide +kernel
theorem dX5_read_15 : decode cX5_read 15 = .ok (.i2l, 1) := by decide +kernel
theorem dX5_read_16 : decode cX5_read 16 = .ok (.lreturn, 1) := by decide +kernel
theorem dX5_read_17 : decode cX5_read 17 = .ok (.aload_n 3, 1) := by decide +kernel
theorem dX5_read_18 : decode cX5_read 18 = .ok (.invokevirtual 77, 3) := by decide +kernel
theorem dX5_read_21 : decode cX5_read 21 = .ok (.ifCond .eq 10, 3) := by decide +kernel
theorem dX5_read_24 : decode cX5_read 24 = .ok (.aload_n 0, 1) := by decide +kernel
theorem dX5_read_25 : decode cX5_read 25 = .ok (.iconst 3, 1) := by decide +kernel
theorem dX5_read_26 : decode cX5_read 26 = .ok (.invokevirtual 88, 3) := by decide +kernel
theorem dX5_read_29 : decode cX5_read 29 = .ok (.i2l, 1) := by decide +kernel
theorem dX5_read_30 : decode cX5_read 30 = .ok (.lreturn, 1) := by decide +kernel
theorem dX5_read_31 : decode cX5_read 31 = .ok (.aload_n 3, 1) := by decide +kernel
theorem dX5_read_32 : decode cX5_read 32 = .ok (.iload_n 2, 1) := by decide +kernel
theorem dX5_read_33 : decode cX5_read 33 = .ok (.iconst 1, 1) := by decide +kernel
theorem dX5_read_34 : decode cX5_read 34 = .ok (.invokevirtual 80, 3) := by decide +kernel
theorem dX5_read_37 : decode cX5_read 37 = .ok (.ifCond .ne 10, 3) := by decide +kernel
theorem dX5_read_40 : decode cX5_read 40 = .ok (.aload_n 0, 1) := by decide +kernel
theorem dX5_read_41 : decode cX5_read 41 = .ok (.iconst 4, 1) := by decide +kernel
theorem dX5_read_42 : decode cX5_read 42 = .ok (.invokevirtual 88, 3) := by decide +kernel
theorem dX5_read_45 : decode cX5_read 45 = .ok (.i2l, 1) := by decide +kernel
theorem dX5_read_46 : decode cX5_read 46 = .ok (.lreturn, 1) := by decide +kernel
theorem dX5_read_47 : decode cX5_read 47 = .ok (.aload_n 0, 1) := by decide +kernel
theorem dX5_read_48 : decode cX5_read 48 = .ok (.iconst 0, 1) := by decide +kernel
theorem dX5_read_49 : decode cX5_read 49 = .ok (.putfield 9, 3) := by decide +kernel
theorem dX5_read_52 : decode cX5_read 52 = .ok (.aload_n 3, 1) := by decide +kernel
theorem dX5_read_53 : decode cX5_read 53 = .ok (.iload_n 2, 1) := by decide +kernel
theorem dX5_read_54 : decode cX5_read 54 = .ok (.invokevirtual 92, 3) := by decide +kernel
theorem dX5_read_57 : decode cX5_read 57 = .ok (.lreturn, 1) := by decide +kernel
theorem dX5_pour_0 : decode cX5_pour 0 = .ok (.aload_n 0, 1) := by decide +kernel
theorem dX5_pour_1 : decode cX5_pour 1 = .ok (.iload_n 1, 1) := by decide +kernel
theorem dX5_pour_2 : decode cX5_pour 2 = .ok (.invokevirtual 61, 3) := by decide +kernel
theorem dX5_pour_5 : decode cX5_pour 5 = .ok (.astore 6, 2) := by decide +kernel
theorem dX5_pour_7 : decode cX5_pour 7 = .ok (.aload_n 0, 1) := by decide +kernel
theorem dX5_pour_8 : decode cX5_pour 8 = .ok (.iload_n 3, 1) := by decide +kernel
theorem dX5_pour_9 : decode cX5_pour 9 = .ok (.invokevirtual 61, 3) := by decide +kernel
theorem dX5_pour_12 : decode cX5_pour 12 = .ok (.astore 7, 2) := by decide +kernel
theorem dX5_pour_14 : decode cX5_pour 14 = .ok (.aload 6, 2) := by decide +kernel
theorem dX5_pour_16 : decode cX5_pour 16 = .ok (.ifnull 8, 3) := by decide +kernel
theorem dX5_pour_19 : decode cX5_pour 19 = .ok (.aload 7, 2) := by decide +kernel
theorem dX5_pour_21 : decode cX5_pour 21 = .ok (.ifnonnull 9, 3) := by decide +kernel
theorem dX5_pour_24 : decode cX5_pour 24 = .ok (.aload_n 0, 1) := by decide +kernel
theorem dX5_pour_25 : decode cX5_pour 25 = .ok (.iconst 1, 1) := by decide +kernel
theorem dX5_pour_26 : decode cX5_pour 26 = .ok (.invokevirtual 65, 3) := by decide +kernel
theorem dX5_pour_29 : decode cX5_pour 29 = .ok (.ireturn, 1) := by decide +kernel
theorem dX5_pour_30 : decode cX5_pour 30 = .ok (.aload 6, 2) := by decide +kernel
theorem dX5_pour_32 : decode cX5_pour 32 = .ok (.invokevirtual 77, 3) := by decide +kernel
theorem dX5_pour_35 : decode cX5_pour 35 = .ok (.ifCond .ne 11, 3) := by decide +kernel
theorem dX5_pour_38 : decode cX5_pour 38 = .ok (.aload 7, 2) := by decide +kernel
theorem dX5_pour_40 : decode cX5_pour 40 = .ok (.invokevirtual 77, 3) := by decide +kernel
theorem dX5_pour_43 : decode cX5_pour 43 = .ok (.ifCond .eq 9, 3) := by decide +kernel
theorem dX5_pour_46 : decode cX5_pour 46 = .ok (.aload_n 0, 1) := by decide +kernel
theorem dX5_pour_47 : decode cX5_pour 47 = .ok (.iconst 3, 1) := by decide +kernel
theorem dX5_pour_48 : decode cX5_pour 48 = .ok (.invokevirtual 65, 3) := by decide +kernel
theorem dX5_pour_51 : decode cX5_pour 51 = .ok (.ireturn, 1) := by decide +kernel
theorem dX5_pour_52 : decode cX5_pour 52 = .ok (.aload 6, 2) := by decide +kernel
theorem dX5_pour_54 : decode cX5_pour 54 = .ok (.getfield 96, 3) := by decide +kernel
theorem dX5_pour_57 : decode cX5_pour 57 = .ok (.aload 7, 2) := by decide +kernel
theorem dX5_pour_59 : decode cX5_pour 59 = .ok (.getfield 96, 3) := by decide +kernel
theorem dX5_pour_62 : decode cX5_pour 62 = .ok (.if_icmp .eq 10, 3) := by decide +kernel
theorem dX5_pour_65 : decode cX5_pour 65 = .ok (.aload_n 0, 1) := by decide +kernel
theorem dX5_pour_66 : decode cX5_pour 66 = .ok (.bipush 11, 2) := by decide +kernel
theorem dX5_pour_68 : decode cX5_pour 68 = .ok (.invokevirtual 65, 3) := by decide +kernel
theorem dX5_pour_71 : decode cX5_pour 71 = .ok (.ireturn, 1) := by decide +kernel
theorem dX5_pour_72 : decode cX5_pour 72 = .ok (.iload 5, 2) := by decide +kernel
theorem dX5_pour_74 : decode cX5_pour 74 = .ok (.ifCond .ge 10, 3) := by decide +kernel
theorem dX5_pour_77 : decode cX5_pour 77 = .ok (.aload_n 0, 1) := by decide +kernel
theorem dX5_pour_78 : decode cX5_pour 78 = .ok (.bipush 6, 2) := by decide +kernel
theorem dX5_pour_80 : decode cX5_pour 80 = .ok (.invokevirtual 65, 3) := by decide +kernel
theorem dX5_pour_83 : decode cX5_pour 83 = .ok (.ireturn, 1) := by decide +kernel
theorem dX5_pour_84 : decode cX5_pour 84 = .ok (.aload 6, 2) := by decide +kernel
theorem dX5_pour_86 : decode cX5_pour 86 = .ok (.iload_n 2, 1) := by decide +kernel
theorem dX5_pour_87 : decode cX5_pour 87 = .ok (.iload 5, 2) := by decide +kernel
theorem dX5_pour_89 : decode cX5_pour 89 = .ok (.invokevirtual 80, 3) := by decide +kernel
theorem dX5_pour_92 : decode cX5_pour 92 = .ok (.ifCond .eq 15, 3) := by decide +kernel
theorem dX5_pour_95 : decode cX5_pour 95 = .ok (.aload 7, 2) := by decide +kernel
theorem dX5_pour_97 : decode cX5_pour 97 = .ok (.iload 4, 2) := by decide +kernel
theorem dX5_pour_99 : decode cX5_pour 99 = .ok (.iload 5, 2) := by decide +kernel
theorem dX5_pour_101 : decode cX5_pour 101 = .ok (.invokevirtual 80, 3) := by decide +kernel
theorem dX5_pour_104 : decode cX5_pour 104 = .ok (.ifCond .ne 9, 3) := by decide +kernel
theorem dX5_pour_107 : decode cX5_pour 107 = .ok (.aload_n 0, 1) := by decide +kernel
theorem dX5_pour_108 : decode cX5_pour 108 = .ok (.iconst 4, 1) := by decide +kernel
theorem dX5_pour_109 : decode cX5_pour 109 = .ok (.invokevirtual 65, 3) := by decide +kernel
theorem dX5_pour_112 : decode cX5_pour 112 = .ok (.ireturn, 1) := by decide +kernel
theorem dX5_pour_113 : decode cX5_pour 113 = .ok (.aload 6, 2) := by decide +kernel
theorem dX5_pour_115 : decode cX5_pour 115 = .ok (.getfield 99, 3) := by decide +kernel
theorem dX5_pour_118 : decode cX5_pour 118 = .ok (.iload_n 2, 1) := by decide +kernel
theorem dX5_pour_119 : decode cX5_pour 119 = .ok (.aload 7, 2) := by decide +kernel
theorem dX5_pour_121 : decode cX5_pour 121 = .ok (.getfield 99, 3) := by decide +kernel
theorem dX5_pour_124 : decode cX5_pour 124 = .ok (.iload 4, 2) := by decide +kernel
theorem dX5_pour_126 : decode cX5_pour 126 = .ok (.iload 5, 2) := by decide +kernel
theorem dX5_pour_128 : decode cX5_pour 128 = .ok (.invokestatic 103, 3) := by decide +kernel
theorem dX5_pour_131 : decode cX5_pour 131 = .ok (.aload_n 0, 1) := by decide +kernel
theorem dX5_pour_132 : decode cX5_pour 132 = .ok (.invokevirtual 73, 3) := by decide +kernel
theorem dX5_pour_135 : decode cX5_pour 135 = .ok (.ireturn, 1) := by decide +kernel
theorem dX5_ring_0 : decode cX5_ring 0 = .ok (.iload_n 1, 1) := by decide +kernel
theorem dX5_ring_1 : decode cX5_ring 1 = .ok (.iconst 2, 1) := by decide +kernel
theorem dX5_ring_2 : decode cX5_ring 2 = .ok (.if_icmp .lt 10, 3) := by decide +kernel
theorem dX5_ring_5 : decode cX5_ring 5 = .ok (.iload_n 1, 1) := by decide +kernel
theorem dX5_ring_6 : decode cX5_ring 6 = .ok (.sipush 4096, 3) := by decide +kernel
theorem dX5_ring_9 : decode cX5_ring 9 = .ok (.if_icmp .le 9, 3) := by decide +kernel
theorem dX5_ring_12 : decode cX5_ring 12 = .ok (.aload_n 0, 1) := by decide +kernel
theorem dX5_ring_13 : decode cX5_ring 13 = .ok (.iconst 2, 1) := by decide +kernel
theorem dX5_ring_14 : decode cX5_ring 14 = .ok (.invokevirtual 65, 3) := by decide +kernel
theorem dX5_ring_17 : decode cX5_ring 17 = .ok (.ireturn, 1) := by decide +kernel
theorem dX5_ring_18 : decode cX5_ring 18 = .ok (.aload_n 0, 1) := by decide +kernel
theorem dX5_ring_19 : decode cX5_ring 19 = .ok (.getfield 22, 3) := by decide +kernel
theorem dX5_ring_22 : decode cX5_ring 22 = .ok (.iload_n 1, 1) := by decide +kernel
theorem dX5_ring_23 : decode cX5_ring 23 = .ok (.invokevirtual 109, 3) := by decide +kernel
theorem dX5_ring_26 : decode cX5_ring 26 = .ok (.aload_n 0, 1) := by decide +kernel
theorem dX5_ring_27 : decode cX5_ring 27 = .ok (.invokevirtual 73, 3) := by decide +kernel
theorem dX5_ring_30 : decode cX5_ring 30 = .ok (.ireturn, 1) := by decide +kernel
theorem dX5_beater_0 : decode cX5_beater 0 = .ok (.iload_n 1, 1) := by decide +kernel
theorem dX5_beater_1 : decode cX5_beater 1 = .ok (.invokestatic 113, 3) := by decide +kernel
theorem dX5_beater_4 : decode cX5_beater 4 = .ok (.ifCond .eq 14, 3) := by decide +kernel
theorem dX5_beater_7 : decode cX5_beater 7 = .ok (.aload_n 0, 1) := by decide +kernel
theorem dX5_beater_8 : decode cX5_beater 8 = .ok (.getfield 22, 3) := by decide +kernel
theorem dX5_beater_11 : decode cX5_beater 11 = .ok (.iload_n 2, 1) := by decide +kernel
theorem dX5_beater_12 : decode cX5_beater 12 = .ok (.invokevirtual 116, 3) := by decide +kernel
theorem dX5_beater_15 : decode cX5_beater 15 = .ok (.ifCond .ne 9, 3) := by decide +kernel
theorem dX5_beater_18 : decode cX5_beater 18 = .ok (.aload_n 0, 1) := by decide +kernel
theorem dX5_beater_19 : decode cX5_beater 19 = .ok (.iconst 2, 1) := by decide +kernel
theorem dX5_beater_20 : decode cX5_beater 20 = .ok (.invokevirtual 88, 3) := by decide +kernel
theorem dX5_beater_23 : decode cX5_beater 23 = .ok (.ireturn, 1) := by decide +kernel
theorem dX5_beater_24 : decode cX5_beater 24 = .ok (.aload_n 0, 1) := by decide +kernel
theorem dX5_beater_25 : decode cX5_beater 25 = .ok (.getfield 22, 3) := by decide +kernel
theorem dX5_beater_28 : decode cX5_beater 28 = .ok (.getfield 119, 3) := by decide +kernel
theorem dX5_beater_31 : decode cX5_beater 31 = .ok (.bipush 24, 2) := by decide +kernel
theorem dX5_beater_33 : decode cX5_beater 33 = .ok (.if_icmp .lt 10, 3) := by decide +kernel
theorem dX5_beater_36 : decode cX5_beater 36 = .ok (.aload_n 0, 1) := by decide +kernel
theorem dX5_beater_37 : decode cX5_beater 37 = .ok (.bipush 7, 2) := by decide +kernel
theorem dX5_beater_39 : decode cX5_beater 39 = .ok (.invokevirtual 88, 3) := by decide +kernel
theorem dX5_beater_42 : decode cX5_beater 42 = .ok (.ireturn, 1) := by decide +kernel
theorem dX5_beater_43 : decode cX5_beater 43 = .ok (.aload_n 0, 1) := by decide +kernel
theorem dX5_beater_44 : decode cX5_beater 44 = .ok (.aload_n 0, 1) := by decide +kernel
theorem dX5_beater_45 : decode cX5_beater 45 = .ok (.getfield 22, 3) := by decide +kernel
theorem dX5_beater_48 : decode cX5_beater 48 = .ok (.iload_n 1, 1) := by decide +kernel
theorem dX5_beater_49 : decode cX5_beater 49 = .ok (.iload_n 2, 1) := by decide +kernel
theorem dX5_beater_50 : decode cX5_beater 50 = .ok (.invokevirtual 122, 3) := by decide +kernel
theorem dX5_beater_53 : decode cX5_beater 53 = .ok (.invokevirtual 126, 3) := by decide +kernel
theorem dX5_beater_56 : decode cX5_beater 56 = .ok (.ireturn, 1) := by decide +kernel
theorem dX5_kind_0 : decode cX5_kind 0 = .ok (.aload_n 0, 1) := by decide +kernel
theorem dX5_kind_1 : decode cX5_kind 1 = .ok (.getfield 22, 3) := by decide +kernel
theorem dX5_kind_4 : decode cX5_kind 4 = .ok (.iload_n 1, 1) := by decide +kernel
theorem dX5_kind_5 : decode cX5_kind 5 = .ok (.invokevirtual 129, 3) := by decide +kernel
theorem dX5_kind_8 : decode cX5_kind 8 = .ok (.ifCond .eq 10, 3) := by decide +kernel
theorem dX5_kind_11 : decode cX5_kind 11 = .ok (.iload_n 2, 1) := by decide +kernel
theorem dX5_kind_12 : decode cX5_kind 12 = .ok (.invokestatic 113, 3) := by decide +kernel
theorem dX5_kind_15 : decode cX5_kind 15 = .ok (.ifCond .ne 9, 3) := by decide +kernel
theorem dX5_kind_18 : decode cX5_kind 18 = .ok (.aload_n 0, 1) := by decide +kernel
theorem dX5_kind_19 : decode cX5_kind 19 = .ok (.iconst 2, 1) := by decide +kernel
theorem dX5_kind_20 : decode cX5_kind 20 = .ok (.invokevirtual 65, 3) := by decide +kernel
theorem dX5_kind_23 : decode cX5_kind 23 = .ok (.ireturn, 1) := by decide +kernel
theorem dX5_kind_24 : decode cX5_kind 24 = .ok (.aload_n 0, 1) := by decide +kernel
theorem dX5_kind_25 : decode cX5_kind 25 = .ok (.getfield 22, 3) := by decide +kernel
theorem dX5_kind_28 : decode cX5_kind 28 = .ok (.getfield 132, 3) := by decide +kernel
theorem dX5_kind_31 : decode cX5_kind 31 = .ok (.iload_n 1, 1) := by decide +kernel
theorem dX5_kind_32 : decode cX5_kind 32 = .ok (.iload_n 2, 1) := by decide +kernel
theorem dX5_kind_33 : decode cX5_kind 33 = .ok (.iastore, 1) := by decide +kernel
theorem dX5_kind_34 : decode cX5_kind 34 = .ok (.aload_n 0, 1) := by decide +kernel
theorem dX5_kind_35 : decode cX5_kind 35 = .ok (.invokevirtual 73, 3) := by decide +kernel
theorem dX5_kind_38 : decode cX5_kind 38 = .ok (.ireturn, 1) := by decide +kernel
theorem dX5_turn_0 : decode cX5_turn 0 = .ok (.aload_n 0, 1) := by decide +kernel
theorem dX5_turn_1 : decode cX5_turn 1 = .ok (.getfield 22, 3) := by decide +kernel
theorem dX5_turn_4 : decode cX5_turn 4 = .ok (.iload_n 1, 1) := by decide +kernel
theorem dX5_turn_5 : decode cX5_turn 5 = .ok (.invokevirtual 129, 3) := by decide +kernel
theorem dX5_turn_8 : decode cX5_turn 8 = .ok (.ifCond .eq 14, 3) := by decide +kernel
theorem dX5_turn_11 : decode cX5_turn 11 = .ok (.aload_n 0, 1) := by decide +kernel
theorem dX5_turn_12 : decode cX5_turn 12 = .ok (.getfield 22, 3) := by decide +kernel
theorem dX5_turn_15 : decode cX5_turn 15 = .ok (.iload_n 2, 1) := by decide +kernel
theorem dX5_turn_16 : decode cX5_turn 16 = .ok (.invokevirtual 116, 3) := by decide +kernel
theorem dX5_turn_19 : decode cX5_turn 19 = .ok (.ifCond .ne 9, 3) := by decide +kernel
theorem dX5_turn_22 : decode cX5_turn 22 = .ok (.aload_n 0, 1) := by decide +kernel
theorem dX5_turn_23 : decode cX5_turn 23 = .ok (.iconst 2, 1) := by decide +kernel
theorem dX5_turn_24 : decode cX5_turn 24 = .ok (.invokevirtual 65, 3) := by decide +kernel
theorem dX5_turn_27 : decode cX5_turn 27 = .ok (.ireturn, 1) := by decide +kernel
theorem dX5_turn_28 : decode cX5_turn 28 = .ok (.aload_n 0, 1) := by decide +kernel
theorem dX5_turn_29 : decode cX5_turn 29 = .ok (.getfield 22, 3) := by decide +kernel
theorem dX5_turn_32 : decode cX5_turn 32 = .ok (.getfield 135, 3) := by decide +kernel
theorem dX5_turn_35 : decode cX5_turn 35 = .ok (.iload_n 1, 1) := by decide +kernel
theorem dX5_turn_36 : decode cX5_turn 36 = .ok (.iload_n 2, 1) := by decide +kernel
theorem dX5_turn_37 : decode cX5_turn 37 = .ok (.iastore, 1) := by decide +kernel
theorem dX5_turn_38 : decode cX5_turn 38 = .ok (.aload_n 0, 1) := by decide +kernel
theorem dX5_turn_39 : decode cX5_turn 39 = .ok (.invokevirtual 73, 3) := by decide +kernel
theorem dX5_turn_42 : decode cX5_turn 42 = .ok (.ireturn, 1) := by decide +kernel
theorem dX5_phases_0 : decode cX5_phases 0 = .ok (.aload_n 0, 1) := by decide +kernel
theorem dX5_phases_1 : decode cX5_phases 1 = .ok (.iload_n 1, 1) := by decide +kernel
theorem dX5_phases_2 : decode cX5_phases 2 = .ok (.invokevirtual 61, 3) := by decide +kernel
theorem dX5_phases_5 : decode cX5_phases 5 = .ok (.astore_n 2, 1) := by decide +kernel
theorem dX5_phases_6 : decode cX5_phases 6 = .ok (.aload_n 2, 1) := by decide +kernel
theorem dX5_phases_7 : decode cX5_phases 7 = .ok (.ifnonnull 9, 3) := by decide +kernel
theorem dX5_phases_10 : decode cX5_phases 10 = .ok (.aload_n 0, 1) := by decide +kernel
theorem dX5_phases_11 : decode cX5_phases 11 = .ok (.iconst 1, 1) := by decide +kernel
theorem dX5_phases_12 : decode cX5_phases 12 = .ok (.invokevirtual 65, 3) := by decide +kernel
theorem dX5_phases_15 : decode cX5_phases 15 = .ok (.ireturn, 1) := by decide +kernel
theorem dX5_phases_16 : decode cX5_phases 16 = .ok (.aload_n 2, 1) := by decide +kernel
theorem dX5_phases_17 : decode cX5_phases 17 = .ok (.invokevirtual 77, 3) := by decide +kernel
theorem dX5_phases_20 : decode cX5_phases 20 = .ok (.ifCond .eq 9, 3) := by decide +kernel
theorem dX5_phases_23 : decode cX5_phases 23 = .ok (.aload_n 0, 1) := by decide +kernel
theorem dX5_phases_24 : decode cX5_phases 24 = .ok (.iconst 3, 1) := by decide +kernel
theorem dX5_phases_25 : decode cX5_phases 25 = .ok (.invokevirtual 65, 3) := by decide +kernel
theorem dX5_phases_28 : decode cX5_phases 28 = .ok (.ireturn, 1) := by decide +kernel
theorem dX5_phases_29 : decode cX5_phases 29 = .ok (.aload_n 2, 1) := by decide +kernel
theorem dX5_phases_30 : decode cX5_phases 30 = .ok (.iconst 0, 1) := by decide +kernel
theorem dX5_phases_31 : decode cX5_phases 31 = .ok (.aload_n 0, 1) := by decide +kernel
theorem dX5_phases_32 : decode cX5_phases 32 = .ok (.getfield 22, 3) := by decide +kernel
theorem dX5_phases_35 : decode cX5_phases 35 = .ok (.getfield 119, 3) := by decide +kernel
theorem dX5_phases_38 : decode cX5_phases 38 = .ok (.invokevirtual 80, 3) := by decide +kernel
theorem dX5_phases_41 : decode cX5_phases 41 = .ok (.ifCond .ne 9, 3) := by decide +kernel
theorem dX5_phases_44 : decode cX5_phases 44 = .ok (.aload_n 0, 1) := by decide +kernel
theorem dX5_phases_45 : decode cX5_phases 45 = .ok (.iconst 4, 1) := by decide +kernel
theorem dX5_phases_46 : decode cX5_phases 46 = .ok (.invokevirtual 65, 3) := by decide +kernel
theorem dX5_phases_49 : decode cX5_phases 49 = .ok (.ireturn, 1) := by decide +kernel
theorem dX5_phases_50 : decode cX5_phases 50 = .ok (.aload_n 2, 1) := by decide +kernel
theorem dX5_phases_51 : decode cX5_phases 51 = .ok (.aload_n 0, 1) := by decide +kernel
theorem dX5_phases_52 : decode cX5_phases 52 = .ok (.getfield 22, 3) := by decide +kernel
theorem dX5_phases_55 : decode cX5_phases 55 = .ok (.getfield 119, 3) := by decide +kernel
theorem dX5_phases_58 : decode cX5_phases 58 = .ok (.aload_n 0, 1) := by decide +kernel
theorem dX5_phases_59 : decode cX5_phases 59 = .ok (.getfield 22, 3) := by decide +kernel
theorem dX5_phases_62 : decode cX5_phases 62 = .ok (.getfield 138, 3) := by decide +kernel
theorem dX5_phases_65 : decode cX5_phases 65 = .ok (.iconst 1, 1) := by decide +kernel
theorem dX5_phases_66 : decode cX5_phases 66 = .ok (.isub, 1) := by decide +kernel
theorem dX5_phases_67 : decode cX5_phases 67 = .ok (.i2l, 1) := by decide +kernel
theorem dX5_phases_68 : decode cX5_phases 68 = .ok (.invokevirtual 141, 3) := by decide +kernel
theorem dX5_phases_71 : decode cX5_phases 71 = .ok (.ifCond .ne 9, 3) := by decide +kernel
theorem dX5_phases_74 : decode cX5_phases 74 = .ok (.aload_n 0, 1) := by decide +kernel
theorem dX5_phases_75 : decode cX5_phases 75 = .ok (.iconst 2, 1) := by decide +kernel
theorem dX5_phases_76 : decode cX5_phases 76 = .ok (.invokevirtual 65, 3) := by decide +kernel
theorem dX5_phases_79 : decode cX5_phases 79 = .ok (.ireturn, 1) := by decide +kernel
theorem dX5_phases_80 : decode cX5_phases 80 = .ok (.aload_n 2, 1) := by decide +kernel
theorem dX5_phases_81 : decode cX5_phases 81 = .ok (.aload_n 0, 1) := by decide +kernel
theorem dX5_phases_82 : decode cX5_phases 82 = .ok (.getfield 22, 3) := by decide +kernel
theorem dX5_phases_85 : decode cX5_phases 85 = .ok (.getfield 135, 3) := by decide +kernel
theorem dX5_phases_88 : decode cX5_phases 88 = .ok (.aload_n 0, 1) := by decide +kernel
theorem dX5_phases_89 : decode cX5_phases 89 = .ok (.getfield 22, 3) := by decide +kernel
theorem dX5_phases_92 : decode cX5_phases 92 = .ok (.getfield 119, 3) := by decide +kernel
theorem dX5_phases_95 : decode cX5_phases 95 = .ok (.invokevirtual 145, 3) := by decide +kernel
theorem dX5_phases_98 : decode cX5_phases 98 = .ok (.aload_n 0, 1) := by decide +kernel
theorem dX5_phases_99 : decode cX5_phases 99 = .ok (.invokevirtual 73, 3) := by decide +kernel
theorem dX5_phases_102 : decode cX5_phases 102 = .ok (.ireturn, 1) := by decide +kernel
theorem dX5_road_0 : decode cX5_road 0 = .ok (.aload_n 0, 1) := by decide +kernel
theorem dX5_road_1 : decode cX5_road 1 = .ok (.getfield 22, 3) := by decide +kernel
theorem dX5_road_4 : decode cX5_road 4 = .ok (.iload_n 1, 1) := by decide +kernel
theorem dX5_road_5 : decode cX5_road 5 = .ok (.invokevirtual 129, 3) := by decide +kernel
theorem dX5_road_8 : decode cX5_road 8 = .ok (.ifCond .eq 14, 3) := by decide +kernel
theorem dX5_road_11 : decode cX5_road 11 = .ok (.aload_n 0, 1) := by decide +kernel
theorem dX5_road_12 : decode cX5_road 12 = .ok (.getfield 22, 3) := by decide +kernel
theorem dX5_road_15 : decode cX5_road 15 = .ok (.iload_n 2, 1) := by decide +kernel
theorem dX5_road_16 : decode cX5_road 16 = .ok (.invokevirtual 129, 3) := by decide +kernel
theorem dX5_road_19 : decode cX5_road 19 = .ok (.ifCond .ne 9, 3) := by decide +kernel
theorem dX5_road_22 : decode cX5_road 22 = .ok (.aload_n 0, 1) := by decide +kernel
theorem dX5_road_23 : decode cX5_road 23 = .ok (.iconst 2, 1) := by decide +kernel
theorem dX5_road_24 : decode cX5_road 24 = .ok (.invokevirtual 65, 3) := by decide +kernel
theorem dX5_road_27 : decode cX5_road 27 = .ok (.ireturn, 1) := by decide +kernel
theorem dX5_road_28 : decode cX5_road 28 = .ok (.aload_n 0, 1) := by decide +kernel
theorem dX5_road_29 : decode cX5_road 29 = .ok (.getfield 22, 3) := by decide +kernel
theorem dX5_road_32 : decode cX5_road 32 = .ok (.iload_n 1, 1) := by decide +kernel
theorem dX5_road_33 : decode cX5_road 33 = .ok (.iload_n 2, 1) := by decide +kernel
theorem dX5_road_34 : decode cX5_road 34 = .ok (.iload_n 3, 1) := by decide +kernel
theorem dX5_road_35 : decode cX5_road 35 = .ok (.invokevirtual 149, 3) := by decide +kernel
theorem dX5_road_38 : decode cX5_road 38 = .ok (.aload_n 0, 1) := by decide +kernel
theorem dX5_road_39 : decode cX5_road 39 = .ok (.invokevirtual 73, 3) := by decide +kernel
theorem dX5_road_42 : decode cX5_road 42 = .ok (.ireturn, 1) := by decide +kernel
theorem dX5_roads_0 : decode cX5_roads 0 = .ok (.iload_n 1, 1) := by decide +kernel
theorem dX5_roads_1 : decode cX5_roads 1 = .ok (.ifCond .lt 8, 3) := by decide +kernel
theorem dX5_roads_4 : decode cX5_roads 4 = .ok (.iload_n 1, 1) := by decide +kernel
theorem dX5_roads_5 : decode cX5_roads 5 = .ok (.iconst 3, 1) := by decide +kernel
theorem dX5_roads_6 : decode cX5_roads 6 = .ok (.if_icmp .le 9, 3) := by decide +kernel
theorem dX5_roads_9 : decode cX5_roads 9 = .ok (.aload_n 0, 1) := by decide +kernel
theorem dX5_roads_10 : decode cX5_roads 10 = .ok (.iconst 2, 1) := by decide +kernel
theorem dX5_roads_11 : decode cX5_roads 11 = .ok (.invokevirtual 65, 3) := by decide +kernel
theorem dX5_roads_14 : decode cX5_roads 14 = .ok (.ireturn, 1) := by decide +kernel
theorem dX5_roads_15 : decode cX5_roads 15 = .ok (.aload_n 0, 1) := by decide +kernel
theorem dX5_roads_16 : decode cX5_roads 16 = .ok (.getfield 22, 3) := by decide +kernel
theorem dX5_roads_19 : decode cX5_roads 19 = .ok (.iload_n 1, 1) := by decide +kernel
theorem dX5_roads_20 : decode cX5_roads 20 = .ok (.invokevirtual 153, 3) := by decide +kernel
theorem dX5_roads_23 : decode cX5_roads 23 = .ok (.aload_n 0, 1) := by decide +kernel
theorem dX5_roads_24 : decode cX5_roads 24 = .ok (.invokevirtual 73, 3) := by decide +kernel
theorem dX5_roads_27 : decode cX5_roads 27 = .ok (.ireturn, 1) := by decide +kernel
theorem dX5_push_0 : decode cX5_push 0 = .ok (.aload_n 0, 1) := by decide +kernel
theorem dX5_push_1 : decode cX5_push 1 = .ok (.iload_n 1, 1) := by decide +kernel
theorem dX5_push_2 : decode cX5_push 2 = .ok (.invokevirtual 61, 3) := by decide +kernel
theorem dX5_push_5 : decode cX5_push 5 = .ok (.astore_n 3, 1) := by decide +kernel
theorem dX5_push_6 : decode cX5_push 6 = .ok (.aload_n 3, 1) := by decide +kernel
theorem dX5_push_7 : decode cX5_push 7 = .ok (.ifnonnull 9, 3) := by decide +kernel
theorem dX5_push_10 : decode cX5_push 10 = .ok (.aload_n 0, 1) := by decide +kernel
theorem dX5_push_11 : decode cX5_push 11 = .ok (.iconst 1, 1) := by decide +kernel
theorem dX5_push_12 : decode cX5_push 12 = .ok (.invokevirtual 65, 3) := by decide +kernel
theorem dX5_push_15 : decode cX5_push 15 = .ok (.ireturn, 1) := by decide +kernel
theorem dX5_push_16 : decode cX5_push 16 = .ok (.aload_n 3, 1) := by decide +kernel
theorem dX5_push_17 : decode cX5_push 17 = .ok (.invokevirtual 77, 3) := by decide +kernel
theorem dX5_push_20 : decode cX5_push 20 = .ok (.ifCond .eq 9, 3) := by decide +kernel
theorem dX5_push_23 : decode cX5_push 23 = .ok (.aload_n 0, 1) := by decide +kernel
theorem dX5_push_24 : decode cX5_push 24 = .ok (.iconst 3, 1) := by decide +kernel
theorem dX5_push_25 : decode cX5_push 25 = .ok (.invokevirtual 65, 3) := by decide +kernel
theorem dX5_push_28 : decode cX5_push 28 = .ok (.ireturn, 1) := by decide +kernel
theorem dX5_push_29 : decode cX5_push 29 = .ok (.iload_n 2, 1) := by decide +kernel
theorem dX5_push_30 : decode cX5_push 30 = .ok (.iconst 1, 1) := by decide +kernel
theorem dX5_push_31 : decode cX5_push 31 = .ok (.if_icmp .lt 9, 3) := by decide +kernel
theorem dX5_push_34 : decode cX5_push 34 = .ok (.iload_n 2, 1) := by decide +kernel
theorem dX5_push_35 : decode cX5_push 35 = .ok (.bipush 16, 2) := by decide +kernel
theorem dX5_push_37 : decode cX5_push 37 = .ok (.if_icmp .le 9, 3) := by decide +kernel
theorem dX5_push_40 : decode cX5_push 40 = .ok (.aload_n 0, 1) := by decide +kernel
theorem dX5_push_41 : decode cX5_push 41 = .ok (.iconst 2, 1) := by decide +kernel
theorem dX5_push_42 : decode cX5_push 42 = .ok (.invokevirtual 65, 3) := by decide +kernel
theorem dX5_push_45 : decode cX5_push 45 = .ok (.ireturn, 1) := by decide +kernel
theorem dX5_push_46 : decode cX5_push 46 = .ok (.aload_n 3, 1) := by decide +kernel
theorem dX5_push_47 : decode cX5_push 47 = .ok (.iconst 0, 1) := by decide +kernel
theorem dX5_push_48 : decode cX5_push 48 = .ok (.iload_n 2, 1) := by decide +kernel
theorem dX5_push_49 : decode cX5_push 49 = .ok (.invokevirtual 80, 3) := by decide +kernel
theorem dX5_push_52 : decode cX5_push 52 = .ok (.ifCond .ne 9, 3) := by decide +kernel
theorem dX5_push_55 : decode cX5_push 55 = .ok (.aload_n 0, 1) := by decide +kernel
theorem dX5_push_56 : decode cX5_push 56 = .ok (.iconst 4, 1) := by decide +kernel
theorem dX5_push_57 : decode cX5_push 57 = .ok (.invokevirtual 65, 3) := by decide +kernel
theorem dX5_push_60 : decode cX5_push 60 = .ok (.ireturn, 1) := by decide +kernel
theorem dX5_push_61 : decode cX5_push 61 = .ok (.aload_n 3, 1) := by decide +kernel
theorem dX5_push_62 : decode cX5_push 62 = .ok (.iload_n 2, 1) := by decide +kernel
theorem dX5_push_63 : decode cX5_push 63 = .ok (.ldc2_w 156, 3) := by decide +kernel
theorem dX5_push_66 : decode cX5_push 66 = .ok (.invokevirtual 141, 3) := by decide +kernel
theorem dX5_push_69 : decode cX5_push 69 = .ok (.ifCond .ne 9, 3) := by decide +kernel
theorem dX5_push_72 : decode cX5_push 72 = .ok (.aload_n 0, 1) := by decide +kernel
theorem dX5_push_73 : decode cX5_push 73 = .ok (.iconst 2, 1) := by decide +kernel
theorem dX5_push_74 : decode cX5_push 74 = .ok (.invokevirtual 65, 3) := by decide +kernel
theorem dX5_push_77 : decode cX5_push 77 = .ok (.ireturn, 1) := by decide +kernel
theorem dX5_push_78 : decode cX5_push 78 = .ok (.aload_n 3, 1) := by decide +kernel
theorem dX5_push_79 : decode cX5_push 79 = .ok (.aload_n 0, 1) := by decide +kernel
theorem dX5_push_80 : decode cX5_push 80 = .ok (.getfield 22, 3) := by decide +kernel
theorem dX5_push_83 : decode cX5_push 83 = .ok (.getfield 158, 3) := by decide +kernel
theorem dX5_push_86 : decode cX5_push 86 = .ok (.iload_n 2, 1) := by decide +kernel
theorem dX5_push_87 : decode cX5_push 87 = .ok (.invokevirtual 145, 3) := by decide +kernel
theorem dX5_push_90 : decode cX5_push 90 = .ok (.aload_n 0, 1) := by decide +kernel
theorem dX5_push_91 : decode cX5_push 91 = .ok (.getfield 22, 3) := by decide +kernel
theorem dX5_push_94 : decode cX5_push 94 = .ok (.iload_n 2, 1) := by decide +kernel
theorem dX5_push_95 : decode cX5_push 95 = .ok (.putfield 161, 3) := by decide +kernel
theorem dX5_push_98 : decode cX5_push 98 = .ok (.aload_n 0, 1) := by decide +kernel
theorem dX5_push_99 : decode cX5_push 99 = .ok (.invokevirtual 73, 3) := by decide +kernel
theorem dX5_push_102 : decode cX5_push 102 = .ok (.ireturn, 1) := by decide +kernel
theorem dX5_clear_0 : decode cX5_clear 0 = .ok (.aload_n 0, 1) := by decide +kernel
theorem dX5_clear_1 : decode cX5_clear 1 = .ok (.getfield 22, 3) := by decide +kernel
theorem dX5_clear_4 : decode cX5_clear 4 = .ok (.iconst 0, 1) := by decide +kernel
theorem dX5_clear_5 : decode cX5_clear 5 = .ok (.putfield 164, 3) := by decide +kernel
theorem dX5_clear_8 : decode cX5_clear 8 = .ok (.aload_n 0, 1) := by decide +kernel
theorem dX5_clear_9 : decode cX5_clear 9 = .ok (.getfield 22, 3) := by decide +kernel
theorem dX5_clear_12 : decode cX5_clear 12 = .ok (.getfield 167, 3) := by decide +kernel
theorem dX5_clear_15 : decode cX5_clear 15 = .ok (.iconst 0, 1) := by decide +kernel
theorem dX5_clear_16 : decode cX5_clear 16 = .ok (.invokestatic 170, 3) := by decide +kernel
theorem dX5_clear_19 : decode cX5_clear 19 = .ok (.aload_n 0, 1) := by decide +kernel
theorem dX5_clear_20 : decode cX5_clear 20 = .ok (.invokevirtual 73, 3) := by decide +kernel
theorem dX5_clear_23 : decode cX5_clear 23 = .ok (.ireturn, 1) := by decide +kernel
theorem dX5_go_0 : decode cX5_go 0 = .ok (.iload_n 1, 1) := by decide +kernel
theorem dX5_go_1 : decode cX5_go 1 = .ok (.ifCond .lt 10, 3) := by decide +kernel
theorem dX5_go_4 : decode cX5_go 4 = .ok (.iload_n 1, 1) := by decide +kernel
theorem dX5_go_5 : decode cX5_go 5 = .ok (.sipush 20000, 3) := by decide +kernel
theorem dX5_go_8 : decode cX5_go 8 = .ok (.if_icmp .le 9, 3) := by decide +kernel
theorem dX5_go_11 : decode cX5_go 11 = .ok (.aload_n 0, 1) := by decide +kernel
theorem dX5_go_12 : decode cX5_go 12 = .ok (.iconst 2, 1) := by decide +kernel
theorem dX5_go_13 : decode cX5_go 13 = .ok (.invokevirtual 65, 3) := by decide +kernel
theorem dX5_go_16 : decode cX5_go 16 = .ok (.ireturn, 1) := by decide +kernel
theorem dX5_go_17 : decode cX5_go 17 = .ok (.iconst 0, 1) := by decide +kernel
theorem dX5_go_18 : decode cX5_go 18 = .ok (.istore_n 2, 1) := by decide +kernel
theorem dX5_go_19 : decode cX5_go 19 = .ok (.iload_n 2, 1) := by decide +kernel
theorem dX5_go_20 : decode cX5_go 20 = .ok (.iload_n 1, 1) := by decide +kernel
theorem dX5_go_21 : decode cX5_go 21 = .ok (.if_icmp .ge 30, 3) := by decide +kernel
theorem dX5_go_24 : decode cX5_go 24 = .ok (.aload_n 0, 1) := by decide +kernel
theorem dX5_go_25 : decode cX5_go 25 = .ok (.getfield 22, 3) := by decide +kernel
theorem dX5_go_28 : decode cX5_go 28 = .ok (.aload_n 0, 1) := by decide +kernel
theorem dX5_go_29 : decode cX5_go 29 = .ok (.getfield 22, 3) := by decide +kernel
theorem dX5_go_32 : decode cX5_go 32 = .ok (.getfield 135, 3) := by decide +kernel
theorem dX5_go_35 : decode cX5_go 35 = .ok (.aload_n 0, 1) := by decide +kernel
theorem dX5_go_36 : decode cX5_go 36 = .ok (.getfield 22, 3) := by decide +kernel
theorem dX5_go_39 : decode cX5_go 39 = .ok (.getfield 167, 3) := by decide +kernel
theorem dX5_go_42 : decode cX5_go 42 = .ok (.invokevirtual 175, 3) := by decide +kernel
theorem dX5_go_45 : decode cX5_go 45 = .ok (.iinc 2 1, 3) := by decide +kernel
theorem dX5_go_48 : decode cX5_go 48 = .ok (.goto (-29), 3) := by decide +kernel
theorem dX5_go_51 : decode cX5_go 51 = .ok (.aload_n 0, 1) := by decide +kernel
theorem dX5_go_52 : decode cX5_go 52 = .ok (.getfield 22, 3) := by decide +kernel
theorem dX5_go_55 : decode cX5_go 55 = .ok (.dup, 1) := by decide +kernel
theorem dX5_go_56 : decode cX5_go 56 = .ok (.getfield 164, 3) := by decide +kernel
theorem dX5_go_59 : decode cX5_go 59 = .ok (.iload_n 1, 1) := by decide +kernel
theorem dX5_go_60 : decode cX5_go 60 = .ok (.iadd, 1) := by decide +kernel
theorem dX5_go_61 : decode cX5_go 61 = .ok (.putfield 164, 3) := by decide +kernel
theorem dX5_go_64 : decode cX5_go 64 = .ok (.aload_n 0, 1) := by decide +kernel
theorem dX5_go_65 : decode cX5_go 65 = .ok (.invokevirtual 73, 3) := by decide +kernel
theorem dX5_go_68 : decode cX5_go 68 = .ok (.ireturn, 1) := by decide +kernel
theorem dX5_count_0 : decode cX5_count 0 = .ok (.iload_n 1, 1) := by decide +kernel
theorem dX5_count_1 : decode cX5_count 1 = .ok (.tableswitch 79 0 3 #[31, 43, 55, 67], 31) := by decide +kernel
theorem dX5_count_32 : decode cX5_count 32 = .ok (.aload_n 0, 1) := by decide +kernel
theorem dX5_count_33 : decode cX5_count 33 = .ok (.aload_n 0, 1) := by decide +kernel
theorem dX5_count_34 : decode cX5_count 34 = .ok (.getfield 22, 3) := by decide +kernel
theorem dX5_count_37 : decode cX5_count 37 = .ok (.getfield 164, 3) := by decide +kernel
theorem dX5_count_40 : decode cX5_count 40 = .ok (.invokevirtual 126, 3) := by decide +kernel
theorem dX5_count_43 : decode cX5_count 43 = .ok (.ireturn, 1) := by decide +kernel
theorem dX5_count_44 : decode cX5_count 44 = .ok (.aload_n 0, 1) := by decide +kernel
theorem dX5_count_45 : decode cX5_count 45 = .ok (.aload_n 0, 1) := by decide +kernel
theorem dX5_count_46 : decode cX5_count 46 = .ok (.getfield 22, 3) := by decide +kernel
theorem dX5_count_49 : decode cX5_count 49 = .ok (.getfield 138, 3) := by decide +kernel
theorem dX5_count_52 : decode cX5_count 52 = .ok (.invokevirtual 126, 3) := by decide +kernel
theorem dX5_count_55 : decode cX5_count 55 = .ok (.ireturn, 1) := by decide +kernel
theorem dX5_count_56 : decode cX5_count 56 = .ok (.aload_n 0, 1) := by decide +kernel
theorem dX5_count_57 : decode cX5_count 57 = .ok (.aload_n 0, 1) := by decide +kernel
theorem dX5_count_58 : decode cX5_count 58 = .ok (.getfield 22, 3) := by decide +kernel
theorem dX5_count_61 : decode cX5_count 61 = .ok (.getfield 119, 3) := by decide +kernel
theorem dX5_count_64 : decode cX5_count 64 = .ok (.invokevirtual 126, 3) := by decide +kernel
theorem dX5_count_67 : decode cX5_count 67 = .ok (.ireturn, 1) := by decide +kernel
theorem dX5_count_68 : decode cX5_count 68 = .ok (.aload_n 0, 1) := by decide +kernel
theorem dX5_count_69 : decode cX5_count 69 = .ok (.aload_n 0, 1) := by decide +kernel
theorem dX5_count_70 : decode cX5_count 70 = .ok (.getfield 22, 3) := by decide +kernel
theorem dX5_count_73 : decode cX5_count 73 = .ok (.invokevirtual 179, 3) := by decide +kernel
theorem dX5_count_76 : decode cX5_count 76 = .ok (.invokevirtual 126, 3) := by decide +kernel
theorem dX5_count_79 : decode cX5_count 79 = .ok (.ireturn, 1) := by decide +kernel
theorem dX5_count_80 : decode cX5_count 80 = .ok (.aload_n 0, 1) := by decide +kernel
theorem dX5_count_81 : decode cX5_count 81 = .ok (.iconst 2, 1) := by decide +kernel
theorem dX5_count_82 : decode cX5_count 82 = .ok (.invokevirtual 88, 3) := by decide +kernel
theorem dX5_count_85 : decode cX5_count 85 = .ok (.ireturn, 1) := by decide +kernel
theorem dX5_beats_0 : decode cX5_beats 0 = .ok (.aload_n 0, 1) := by decide +kernel
theorem dX5_beats_1 : decode cX5_beats 1 = .ok (.getfield 22, 3) := by decide +kernel
theorem dX5_beats_4 : decode cX5_beats 4 = .ok (.iload_n 1, 1) := by decide +kernel
theorem dX5_beats_5 : decode cX5_beats 5 = .ok (.invokevirtual 129, 3) := by decide +kernel
theorem dX5_beats_8 : decode cX5_beats 8 = .ok (.ifCond .ne 9, 3) := by decide +kernel
theorem dX5_beats_11 : decode cX5_beats 11 = .ok (.aload_n 0, 1) := by decide +kernel
theorem dX5_beats_12 : decode cX5_beats 12 = .ok (.iconst 2, 1) := by decide +kernel
theorem dX5_beats_13 : decode cX5_beats 13 = .ok (.invokevirtual 88, 3) := by decide +kernel
theorem dX5_beats_16 : decode cX5_beats 16 = .ok (.ireturn, 1) := by decide +kernel
theorem dX5_beats_17 : decode cX5_beats 17 = .ok (.iload_n 2, 1) := by decide +kernel
theorem dX5_beats_18 : decode cX5_beats 18 = .ok (.tableswitch 89 0 3 #[30, 44, 58, 72], 30) := by decide +kernel
theorem dX5_beats_48 : decode cX5_beats 48 = .ok (.aload_n 0, 1) := by decide +kernel
theorem dX5_beats_49 : decode cX5_beats 49 = .ok (.aload_n 0, 1) := by decide +kernel
theorem dX5_beats_50 : decode cX5_beats 50 = .ok (.getfield 22, 3) := by decide +kernel
theorem dX5_beats_53 : decode cX5_beats 53 = .ok (.getfield 135, 3) := by decide +kernel
theorem dX5_beats_56 : decode cX5_beats 56 = .ok (.iload_n 1, 1) := by decide +kernel
theorem dX5_beats_57 : decode cX5_beats 57 = .ok (.iaload, 1) := by decide +kernel
theorem dX5_beats_58 : decode cX5_beats 58 = .ok (.invokevirtual 126, 3) := by decide +kernel
theorem dX5_beats_61 : decode cX5_beats 61 = .ok (.ireturn, 1) := by decide +kernel
theorem dX5_beats_62 : decode cX5_beats 62 = .ok (.aload_n 0, 1) := by decide +kernel
theorem dX5_beats_63 : decode cX5_beats 63 = .ok (.aload_n 0, 1) := by decide +kernel
theorem dX5_beats_64 : decode cX5_beats 64 = .ok (.getfield 22, 3) := by decide +kernel
theorem dX5_beats_67 : decode cX5_beats 67 = .ok (.getfield 167, 3) := by decide +kernel
theorem dX5_beats_70 : decode cX5_beats 70 = .ok (.iload_n 1, 1) := by decide +kernel
theorem dX5_beats_71 : decode cX5_beats 71 = .ok (.iaload, 1) := by decide +kernel
theorem dX5_beats_72 : decode cX5_beats 72 = .ok (.invokevirtual 126, 3) := by decide +kernel
theorem dX5_beats_75 : decode cX5_beats 75 = .ok (.ireturn, 1) := by decide +kernel
theorem dX5_beats_76 : decode cX5_beats 76 = .ok (.aload_n 0, 1) := by decide +kernel
theorem dX5_beats_77 : decode cX5_beats 77 = .ok (.aload_n 0, 1) := by decide +kernel
theorem dX5_beats_78 : decode cX5_beats 78 = .ok (.getfield 22, 3) := by decide +kernel
theorem dX5_beats_81 : decode cX5_beats 81 = .ok (.getfield 132, 3) := by decide +kernel
theorem dX5_beats_84 : decode cX5_beats 84 = .ok (.iload_n 1, 1) := by decide +kernel
theorem dX5_beats_85 : decode cX5_beats 85 = .ok (.iaload, 1) := by decide +kernel
theorem dX5_beats_86 : decode cX5_beats 86 = .ok (.invokevirtual 126, 3) := by decide +kernel
theorem dX5_beats_89 : decode cX5_beats 89 = .ok (.ireturn, 1) := by decide +kernel
theorem dX5_beats_90 : decode cX5_beats 90 = .ok (.aload_n 0, 1) := by decide +kernel
theorem dX5_beats_91 : decode cX5_beats 91 = .ok (.aload_n 0, 1) := by decide +kernel
theorem dX5_beats_92 : decode cX5_beats 92 = .ok (.getfield 22, 3) := by decide +kernel
theorem dX5_beats_95 : decode cX5_beats 95 = .ok (.getfield 183, 3) := by decide +kernel
theorem dX5_beats_98 : decode cX5_beats 98 = .ok (.iload_n 1, 1) := by decide +kernel
theorem dX5_beats_99 : decode cX5_beats 99 = .ok (.iaload, 1) := by decide +kernel
theorem dX5_beats_100 : decode cX5_beats 100 = .ok (.invokestatic 186, 3) := by decide +kernel
theorem dX5_beats_103 : decode cX5_beats 103 = .ok (.invokevirtual 126, 3) := by decide +kernel
theorem dX5_beats_106 : decode cX5_beats 106 = .ok (.ireturn, 1) := by decide +kernel
theorem dX5_beats_107 : decode cX5_beats 107 = .ok (.aload_n 0, 1) := by decide +kernel
theorem dX5_beats_108 : decode cX5_beats 108 = .ok (.iconst 2, 1) := by decide +kernel
theorem dX5_beats_109 : decode cX5_beats 109 = .ok (.invokevirtual 88, 3) := by decide +kernel
theorem dX5_beats_112 : decode cX5_beats 112 = .ok (.ireturn, 1) := by decide +kernel
theorem dX5_step_0 : decode cX5_step 0 = .ok (.aload_n 0, 1) := by decide +kernel
theorem dX5_step_1 : decode cX5_step 1 = .ok (.getfield 22, 3) := by decide +kernel
theorem dX5_step_4 : decode cX5_step 4 = .ok (.iload_n 1, 1) := by decide +kernel
theorem dX5_step_5 : decode cX5_step 5 = .ok (.invokevirtual 191, 3) := by decide +kernel
theorem dX5_step_8 : decode cX5_step 8 = .ok (.ifCond .ne 9, 3) := by decide +kernel
theorem dX5_step_11 : decode cX5_step 11 = .ok (.aload_n 0, 1) := by decide +kernel
theorem dX5_step_12 : decode cX5_step 12 = .ok (.iconst 2, 1) := by decide +kernel
theorem dX5_step_13 : decode cX5_step 13 = .ok (.invokevirtual 88, 3) := by decide +kernel
theorem dX5_step_16 : decode cX5_step 16 = .ok (.ireturn, 1) := by decide +kernel
theorem dX5_step_17 : decode cX5_step 17 = .ok (.aload_n 0, 1) := by decide +kernel
theorem dX5_step_18 : decode cX5_step 18 = .ok (.aload_n 0, 1) := by decide +kernel
theorem dX5_step_19 : decode cX5_step 19 = .ok (.getfield 22, 3) := by decide +kernel
theorem dX5_step_22 : decode cX5_step 22 = .ok (.aload_n 0, 1) := by decide +kernel
theorem dX5_step_23 : decode cX5_step 23 = .ok (.getfield 22, 3) := by decide +kernel
theorem dX5_step_26 : decode cX5_step 26 = .ok (.getfield 135, 3) := by decide +kernel
theorem dX5_step_29 : decode cX5_step 29 = .ok (.iload_n 1, 1) := by decide +kernel
theorem dX5_step_30 : decode cX5_step 30 = .ok (.invokevirtual 194, 3) := by decide +kernel
theorem dX5_step_33 : decode cX5_step 33 = .ok (.ifCond .eq 7, 3) := by decide +kernel
theorem dX5_step_36 : decode cX5_step 36 = .ok (.iconst 1, 1) := by decide +kernel
theorem dX5_step_37 : decode cX5_step 37 = .ok (.goto 4, 3) := by decide +kernel
theorem dX5_step_40 : decode cX5_step 40 = .ok (.iconst 0, 1) := by decide +kernel
theorem dX5_step_41 : decode cX5_step 41 = .ok (.invokevirtual 126, 3) := by decide +kernel
theorem dX5_step_44 : decode cX5_step 44 = .ok (.ireturn, 1) := by decide +kernel
theorem dX5_arc_0 : decode cX5_arc 0 = .ok (.aload_n 0, 1) := by decide +kernel
theorem dX5_arc_1 : decode cX5_arc 1 = .ok (.getfield 22, 3) := by decide +kernel
theorem dX5_arc_4 : decode cX5_arc 4 = .ok (.iload_n 1, 1) := by decide +kernel
theorem dX5_arc_5 : decode cX5_arc 5 = .ok (.invokevirtual 191, 3) := by decide +kernel
theorem dX5_arc_8 : decode cX5_arc 8 = .ok (.ifCond .eq 7, 3) := by decide +kernel
theorem dX5_arc_11 : decode cX5_arc 11 = .ok (.iload_n 1, 1) := by decide +kernel
theorem dX5_arc_12 : decode cX5_arc 12 = .ok (.ifCond .ne 9, 3) := by decide +kernel
theorem dX5_arc_15 : decode cX5_arc 15 = .ok (.aload_n 0, 1) := by decide +kernel
theorem dX5_arc_16 : decode cX5_arc 16 = .ok (.iconst 2, 1) := by decide +kernel
theorem dX5_arc_17 : decode cX5_arc 17 = .ok (.invokevirtual 88, 3) := by decide +kernel
theorem dX5_arc_20 : decode cX5_arc 20 = .ok (.ireturn, 1) := by decide +kernel
theorem dX5_arc_21 : decode cX5_arc 21 = .ok (.aload_n 0, 1) := by decide +kernel
theorem dX5_arc_22 : decode cX5_arc 22 = .ok (.aload_n 0, 1) := by decide +kernel
theorem dX5_arc_23 : decode cX5_arc 23 = .ok (.getfield 22, 3) := by decide +kernel
theorem dX5_arc_26 : decode cX5_arc 26 = .ok (.iload_n 1, 1) := by decide +kernel
theorem dX5_arc_27 : decode cX5_arc 27 = .ok (.invokevirtual 198, 3) := by decide +kernel
theorem dX5_arc_30 : decode cX5_arc 30 = .ok (.invokevirtual 126, 3) := by decide +kernel
theorem dX5_arc_33 : decode cX5_arc 33 = .ok (.ireturn, 1) := by decide +kernel
theorem dX5_round_0 : decode cX5_round 0 = .ok (.iload_n 1, 1) := by decide +kernel
theorem dX5_round_1 : decode cX5_round 1 = .ok (.ifCond .lt 8, 3) := by decide +kernel
theorem dX5_round_4 : decode cX5_round 4 = .ok (.iload_n 1, 1) := by decide +kernel
theorem dX5_round_5 : decode cX5_round 5 = .ok (.iconst 1, 1) := by decide +kernel
theorem dX5_round_6 : decode cX5_round 6 = .ok (.if_icmp .le 9, 3) := by decide +kernel
theorem dX5_round_9 : decode cX5_round 9 = .ok (.aload_n 0, 1) := by decide +kernel
theorem dX5_round_10 : decode cX5_round 10 = .ok (.iconst 2, 1) := by decide +kernel
theorem dX5_round_11 : decode cX5_round 11 = .ok (.invokevirtual 88, 3) := by decide +kernel
theorem dX5_round_14 : decode cX5_round 14 = .ok (.ireturn, 1) := by decide +kernel
theorem dX5_round_15 : decode cX5_round 15 = .ok (.aload_n 0, 1) := by decide +kernel
theorem dX5_round_16 : decode cX5_round 16 = .ok (.getfield 22, 3) := by decide +kernel
theorem dX5_round_19 : decode cX5_round 19 = .ok (.getfield 119, 3) := by decide +kernel
theorem dX5_round_22 : decode cX5_round 22 = .ok (.ifCond .ne 10, 3) := by decide +kernel
theorem dX5_round_25 : decode cX5_round 25 = .ok (.aload_n 0, 1) := by decide +kernel
theorem dX5_round_26 : decode cX5_round 26 = .ok (.bipush 8, 2) := by decide +kernel
theorem dX5_round_28 : decode cX5_round 28 = .ok (.invokevirtual 88, 3) := by decide +kernel
theorem dX5_round_31 : decode cX5_round 31 = .ok (.ireturn, 1) := by decide +kernel
theorem dX5_round_32 : decode cX5_round 32 = .ok (.aload_n 0, 1) := by decide +kernel
theorem dX5_round_33 : decode cX5_round 33 = .ok (.getfield 22, 3) := by decide +kernel
theorem dX5_round_36 : decode cX5_round 36 = .ok (.invokevirtual 201, 3) := by decide +kernel
theorem dX5_round_39 : decode cX5_round 39 = .ok (.aload_n 0, 1) := by decide +kernel
theorem dX5_round_40 : decode cX5_round 40 = .ok (.getfield 29, 3) := by decide +kernel
theorem dX5_round_43 : decode cX5_round 43 = .ok (.aload_n 0, 1) := by decide +kernel
theorem dX5_round_44 : decode cX5_round 44 = .ok (.getfield 22, 3) := by decide +kernel
theorem dX5_round_47 : decode cX5_round 47 = .ok (.getfield 119, 3) := by decide +kernel
theorem dX5_round_50 : decode cX5_round 50 = .ok (.invokevirtual 204, 3) := by decide +kernel
theorem dX5_round_53 : decode cX5_round 53 = .ok (.iconst 0, 1) := by decide +kernel
theorem dX5_round_54 : decode cX5_round 54 = .ok (.istore_n 2, 1) := by decide +kernel
theorem dX5_round_55 : decode cX5_round 55 = .ok (.iload_n 2, 1) := by decide +kernel
theorem dX5_round_56 : decode cX5_round 56 = .ok (.sipush 20000, 3) := by decide +kernel
theorem dX5_round_59 : decode cX5_round 59 = .ok (.if_icmp .gt 59, 3) := by decide +kernel
theorem dX5_round_62 : decode cX5_round 62 = .ok (.aload_n 0, 1) := by decide +kernel
theorem dX5_round_63 : decode cX5_round 63 = .ok (.getfield 29, 3) := by decide +kernel
theorem dX5_round_66 : decode cX5_round 66 = .ok (.aload_n 0, 1) := by decide +kernel
theorem dX5_round_67 : decode cX5_round 67 = .ok (.getfield 22, 3) := by decide +kernel
theorem dX5_round_70 : decode cX5_round 70 = .ok (.getfield 207, 3) := by decide +kernel
theorem dX5_round_73 : decode cX5_round 73 = .ok (.aload_n 0, 1) := by decide +kernel
theorem dX5_round_74 : decode cX5_round 74 = .ok (.getfield 22, 3) := by decide +kernel
theorem dX5_round_77 : decode cX5_round 77 = .ok (.getfield 119, 3) := by decide +kernel
theorem dX5_round_80 : decode cX5_round 80 = .ok (.invokevirtual 210, 3) := by decide +kernel
theorem dX5_round_83 : decode cX5_round 83 = .ok (.istore_n 3, 1) := by decide +kernel
theorem dX5_round_84 : decode cX5_round 84 = .ok (.iload_n 3, 1) := by decide +kernel
theorem dX5_round_85 : decode cX5_round 85 = .ok (.iconst (-1), 1) := by decide +kernel
theorem dX5_round_86 : decode cX5_round 86 = .ok (.if_icmp .eq 19, 3) := by decide +kernel
theorem dX5_round_89 : decode cX5_round 89 = .ok (.aload_n 0, 1) := by decide +kernel
theorem dX5_round_90 : decode cX5_round 90 = .ok (.iload_n 1, 1) := by decide +kernel
theorem dX5_round_91 : decode cX5_round 91 = .ok (.ifCond .ne 7, 3) := by decide +kernel
theorem dX5_round_94 : decode cX5_round 94 = .ok (.iload_n 3, 1) := by decide +kernel
theorem dX5_round_95 : decode cX5_round 95 = .ok (.goto 6, 3) := by decide +kernel
theorem dX5_round_98 : decode cX5_round 98 = .ok (.iload_n 2, 1) := by decide +kernel
theorem dX5_round_99 : decode cX5_round 99 = .ok (.iload_n 3, 1) := by decide +kernel
theorem dX5_round_100 : decode cX5_round 100 = .ok (.isub, 1) := by decide +kernel
theorem dX5_round_101 : decode cX5_round 101 = .ok (.invokevirtual 126, 3) := by decide +kernel
theorem dX5_round_104 : decode cX5_round 104 = .ok (.ireturn, 1) := by decide +kernel
theorem dX5_round_105 : decode cX5_round 105 = .ok (.aload_n 0, 1) := by decide +kernel
theorem dX5_round_106 : decode cX5_round 106 = .ok (.getfield 22, 3) := by decide +kernel
theorem dX5_round_109 : decode cX5_round 109 = .ok (.invokevirtual 214, 3) := by decide +kernel
theorem dX5_round_112 : decode cX5_round 112 = .ok (.iinc 2 1, 3) := by decide +kernel
theorem dX5_round_115 : decode cX5_round 115 = .ok (.goto (-60), 3) := by decide +kernel
theorem dX5_round_118 : decode cX5_round 118 = .ok (.aload_n 0, 1) := by decide +kernel
theorem dX5_round_119 : decode cX5_round 119 = .ok (.bipush 10, 2) := by decide +kernel
theorem dX5_round_121 : decode cX5_round 121 = .ok (.invokevirtual 88, 3) := by decide +kernel
theorem dX5_round_124 : decode cX5_round 124 = .ok (.ireturn, 1) := by decide +kernel
theorem dX5_meet_0 : decode cX5_meet 0 = .ok (.aload_n 0, 1) := by decide +kernel
theorem dX5_meet_1 : decode cX5_meet 1 = .ok (.getfield 22, 3) := by decide +kernel
theorem dX5_meet_4 : decode cX5_meet 4 = .ok (.iload_n 1, 1) := by decide +kernel
theorem dX5_meet_5 : decode cX5_meet 5 = .ok (.invokevirtual 191, 3) := by decide +kernel
theorem dX5_meet_8 : decode cX5_meet 8 = .ok (.ifCond .ne 9, 3) := by decide +kernel
theorem dX5_meet_11 : decode cX5_meet 11 = .ok (.aload_n 0, 1) := by decide +kernel
theorem dX5_meet_12 : decode cX5_meet 12 = .ok (.iconst 2, 1) := by decide +kernel
theorem dX5_meet_13 : decode cX5_meet 13 = .ok (.invokevirtual 88, 3) := by decide +kernel
theorem dX5_meet_16 : decode cX5_meet 16 = .ok (.ireturn, 1) := by decide +kernel
theorem dX5_meet_17 : decode cX5_meet 17 = .ok (.aload_n 0, 1) := by decide +kernel
theorem dX5_meet_18 : decode cX5_meet 18 = .ok (.getfield 22, 3) := by decide +kernel
theorem dX5_meet_21 : decode cX5_meet 21 = .ok (.invokevirtual 201, 3) := by decide +kernel
theorem dX5_meet_24 : decode cX5_meet 24 = .ok (.aload_n 0, 1) := by decide +kernel
theorem dX5_meet_25 : decode cX5_meet 25 = .ok (.getfield 29, 3) := by decide +kernel
theorem dX5_meet_28 : decode cX5_meet 28 = .ok (.aload_n 0, 1) := by decide +kernel
theorem dX5_meet_29 : decode cX5_meet 29 = .ok (.getfield 22, 3) := by decide +kernel
theorem dX5_meet_32 : decode cX5_meet 32 = .ok (.getfield 119, 3) := by decide +kernel
theorem dX5_meet_35 : decode cX5_meet 35 = .ok (.invokevirtual 204, 3) := by decide +kernel
theorem dX5_meet_38 : decode cX5_meet 38 = .ok (.iconst 0, 1) := by decide +kernel
theorem dX5_meet_39 : decode cX5_meet 39 = .ok (.istore_n 2, 1) := by decide +kernel
theorem dX5_meet_40 : decode cX5_meet 40 = .ok (.iload_n 2, 1) := by decide +kernel
theorem dX5_meet_41 : decode cX5_meet 41 = .ok (.sipush 20000, 3) := by decide +kernel
theorem dX5_meet_44 : decode cX5_meet 44 = .ok (.if_icmp .gt 72, 3) := by decide +kernel
theorem dX5_meet_47 : decode cX5_meet 47 = .ok (.aload_n 0, 1) := by decide +kernel
theorem dX5_meet_48 : decode cX5_meet 48 = .ok (.getfield 22, 3) := by decide +kernel
theorem dX5_meet_51 : decode cX5_meet 51 = .ok (.aload_n 0, 1) := by decide +kernel
theorem dX5_meet_52 : decode cX5_meet 52 = .ok (.getfield 22, 3) := by decide +kernel
theorem dX5_meet_55 : decode cX5_meet 55 = .ok (.getfield 207, 3) := by decide +kernel
theorem dX5_meet_58 : decode cX5_meet 58 = .ok (.iload_n 1, 1) := by decide +kernel
theorem dX5_meet_59 : decode cX5_meet 59 = .ok (.invokevirtual 194, 3) := by decide +kernel
theorem dX5_meet_62 : decode cX5_meet 62 = .ok (.ifCond .eq 9, 3) := by decide +kernel
theorem dX5_meet_65 : decode cX5_meet 65 = .ok (.aload_n 0, 1) := by decide +kernel
theorem dX5_meet_66 : decode cX5_meet 66 = .ok (.iload_n 2, 1) := by decide +kernel
theorem dX5_meet_67 : decode cX5_meet 67 = .ok (.invokevirtual 126, 3) := by decide +kernel
theorem dX5_meet_70 : decode cX5_meet 70 = .ok (.ireturn, 1) := by decide +kernel
theorem dX5_meet_71 : decode cX5_meet 71 = .ok (.aload_n 0, 1) := by decide +kernel
theorem dX5_meet_72 : decode cX5_meet 72 = .ok (.getfield 29, 3) := by decide +kernel
theorem dX5_meet_75 : decode cX5_meet 75 = .ok (.aload_n 0, 1) := by decide +kernel
theorem dX5_meet_76 : decode cX5_meet 76 = .ok (.getfield 22, 3) := by decide +kernel
theorem dX5_meet_79 : decode cX5_meet 79 = .ok (.getfield 207, 3) := by decide +kernel
theorem dX5_meet_82 : decode cX5_meet 82 = .ok (.aload_n 0, 1) := by decide +kernel
theorem dX5_meet_83 : decode cX5_meet 83 = .ok (.getfield 22, 3) := by decide +kernel
theorem dX5_meet_86 : decode cX5_meet 86 = .ok (.getfield 119, 3) := by decide +kernel
theorem dX5_meet_89 : decode cX5_meet 89 = .ok (.invokevirtual 210, 3) := by decide +kernel
theorem dX5_meet_92 : decode cX5_meet 92 = .ok (.iconst (-1), 1) := by decide +kernel
theorem dX5_meet_93 : decode cX5_meet 93 = .ok (.if_icmp .eq 10, 3) := by decide +kernel
theorem dX5_meet_96 : decode cX5_meet 96 = .ok (.aload_n 0, 1) := by decide +kernel
theorem dX5_meet_97 : decode cX5_meet 97 = .ok (.bipush 8, 2) := by decide +kernel
theorem dX5_meet_99 : decode cX5_meet 99 = .ok (.invokevirtual 88, 3) := by decide +kernel
theorem dX5_meet_102 : decode cX5_meet 102 = .ok (.ireturn, 1) := by decide +kernel
theorem dX5_meet_103 : decode cX5_meet 103 = .ok (.aload_n 0, 1) := by decide +kernel
theorem dX5_meet_104 : decode cX5_meet 104 = .ok (.getfield 22, 3) := by decide +kernel
theorem dX5_meet_107 : decode cX5_meet 107 = .ok (.invokevirtual 214, 3) := by decide +kernel
theorem dX5_meet_110 : decode cX5_meet 110 = .ok (.iinc 2 1, 3) := by decide +kernel
theorem dX5_meet_113 : decode cX5_meet 113 = .ok (.goto (-73), 3) := by decide +kernel
theorem dX5_meet_116 : decode cX5_meet 116 = .ok (.aload_n 0, 1) := by decide +kernel
theorem dX5_meet_117 : decode cX5_meet 117 = .ok (.bipush 10, 2) := by decide +kernel
theorem dX5_meet_119 : decode cX5_meet 119 = .ok (.invokevirtual 88, 3) := by decide +kernel
theorem dX5_meet_122 : decode cX5_meet 122 = .ok (.ireturn, 1) := by decide +kernel
theorem dX5_ends_0 : decode cX5_ends 0 = .ok (.aload_n 0, 1) := by decide +kernel
theorem dX5_ends_1 : decode cX5_ends 1 = .ok (.getfield 22, 3) := by decide +kernel
theorem dX5_ends_4 : decode cX5_ends 4 = .ok (.invokevirtual 217, 3) := by decide +kernel
theorem dX5_ends_7 : decode cX5_ends 7 = .ok (.istore_n 1, 1) := by decide +kernel
theorem dX5_ends_8 : decode cX5_ends 8 = .ok (.iload_n 1, 1) := by decide +kernel
theorem dX5_ends_9 : decode cX5_ends 9 = .ok (.ifCond .ne 9, 3) := by decide +kernel
theorem dX5_ends_12 : decode cX5_ends 12 = .ok (.aload_n 0, 1) := by decide +kernel
theorem dX5_ends_13 : decode cX5_ends 13 = .ok (.iconst 5, 1) := by decide +kernel
theorem dX5_ends_14 : decode cX5_ends 14 = .ok (.invokevirtual 88, 3) := by decide +kernel
theorem dX5_ends_17 : decode cX5_ends 17 = .ok (.ireturn, 1) := by decide +kernel
theorem dX5_ends_18 : decode cX5_ends 18 = .ok (.aload_n 0, 1) := by decide +kernel
theorem dX5_ends_19 : decode cX5_ends 19 = .ok (.getfield 36, 3) := by decide +kernel
theorem dX5_ends_22 : decode cX5_ends 22 = .ok (.aload_n 0, 1) := by decide +kernel
theorem dX5_ends_23 : decode cX5_ends 23 = .ok (.getfield 22, 3) := by decide +kernel
theorem dX5_ends_26 : decode cX5_ends 26 = .ok (.iload_n 1, 1) := by decide +kernel
theorem dX5_ends_27 : decode cX5_ends 27 = .ok (.invokevirtual 220, 3) := by decide +kernel
theorem dX5_ends_30 : decode cX5_ends 30 = .ok (.aload_n 0, 1) := by decide +kernel
theorem dX5_ends_31 : decode cX5_ends 31 = .ok (.getfield 36, 3) := by decide +kernel
theorem dX5_ends_34 : decode cX5_ends 34 = .ok (.iload_n 1, 1) := by decide +kernel
theorem dX5_ends_35 : decode cX5_ends 35 = .ok (.invokevirtual 224, 3) := by decide +kernel
theorem dX5_ends_38 : decode cX5_ends 38 = .ok (.aload_n 0, 1) := by decide +kernel
theorem dX5_ends_39 : decode cX5_ends 39 = .ok (.aload_n 0, 1) := by decide +kernel
theorem dX5_ends_40 : decode cX5_ends 40 = .ok (.getfield 36, 3) := by decide +kernel
theorem dX5_ends_43 : decode cX5_ends 43 = .ok (.getfield 227, 3) := by decide +kernel
theorem dX5_ends_46 : decode cX5_ends 46 = .ok (.invokevirtual 126, 3) := by decide +kernel
theorem dX5_ends_49 : decode cX5_ends 49 = .ok (.ireturn, 1) := by decide +kernel
theorem dX5_end_0 : decode cX5_end 0 = .ok (.iload_n 2, 1) := by decide +kernel
theorem dX5_end_1 : decode cX5_end 1 = .ok (.ifCond .lt 8, 3) := by decide +kernel
theorem dX5_end_4 : decode cX5_end 4 = .ok (.iload_n 2, 1) := by decide +kernel
theorem dX5_end_5 : decode cX5_end 5 = .ok (.iconst 2, 1) := by decide +kernel
theorem dX5_end_6 : decode cX5_end 6 = .ok (.if_icmp .le 9, 3) := by decide +kernel
theorem dX5_end_9 : decode cX5_end 9 = .ok (.aload_n 0, 1) := by decide +kernel
theorem dX5_end_10 : decode cX5_end 10 = .ok (.iconst 2, 1) := by decide +kernel
theorem dX5_end_11 : decode cX5_end 11 = .ok (.invokevirtual 88, 3) := by decide +kernel
theorem dX5_end_14 : decode cX5_end 14 = .ok (.ireturn, 1) := by decide +kernel
theorem dX5_end_15 : decode cX5_end 15 = .ok (.iload_n 1, 1) := by decide +kernel
theorem dX5_end_16 : decode cX5_end 16 = .ok (.ifCond .lt 14, 3) := by decide +kernel
theorem dX5_end_19 : decode cX5_end 19 = .ok (.iload_n 1, 1) := by decide +kernel
theorem dX5_end_20 : decode cX5_end 20 = .ok (.aload_n 0, 1) := by decide +kernel
theorem dX5_end_21 : decode cX5_end 21 = .ok (.getfield 36, 3) := by decide +kernel
theorem dX5_end_24 : decode cX5_end 24 = .ok (.getfield 227, 3) := by decide +kernel
theorem dX5_end_27 : decode cX5_end 27 = .ok (.if_icmp .lt 10, 3) := by decide +kernel
theorem dX5_end_30 : decode cX5_end 30 = .ok (.aload_n 0, 1) := by decide +kernel
theorem dX5_end_31 : decode cX5_end 31 = .ok (.bipush 8, 2) := by decide +kernel
theorem dX5_end_33 : decode cX5_end 33 = .ok (.invokevirtual 88, 3) := by decide +kernel
theorem dX5_end_36 : decode cX5_end 36 = .ok (.ireturn, 1) := by decide +kernel
theorem dX5_end_37 : decode cX5_end 37 = .ok (.aload_n 0, 1) := by decide +kernel
theorem dX5_end_38 : decode cX5_end 38 = .ok (.aload_n 0, 1) := by decide +kernel
theorem dX5_end_39 : decode cX5_end 39 = .ok (.getfield 36, 3) := by decide +kernel
theorem dX5_end_42 : decode cX5_end 42 = .ok (.iload_n 1, 1) := by decide +kernel
theorem dX5_end_43 : decode cX5_end 43 = .ok (.iload_n 2, 1) := by decide +kernel
theorem dX5_end_44 : decode cX5_end 44 = .ok (.invokevirtual 228, 3) := by decide +kernel
theorem dX5_end_47 : decode cX5_end 47 = .ok (.invokevirtual 126, 3) := by decide +kernel
theorem dX5_end_50 : decode cX5_end 50 = .ok (.ireturn, 1) := by decide +kernel
theorem dX5_sure_0 : decode cX5_sure 0 = .ok (.aload_n 0, 1) := by decide +kernel
theorem dX5_sure_1 : decode cX5_sure 1 = .ok (.getfield 22, 3) := by decide +kernel
theorem dX5_sure_4 : decode cX5_sure 4 = .ok (.iload_n 1, 1) := by decide +kernel
theorem dX5_sure_5 : decode cX5_sure 5 = .ok (.invokevirtual 191, 3) := by decide +kernel
theorem dX5_sure_8 : decode cX5_sure 8 = .ok (.ifCond .ne 9, 3) := by decide +kernel
theorem dX5_sure_11 : decode cX5_sure 11 = .ok (.aload_n 0, 1) := by decide +kernel
theorem dX5_sure_12 : decode cX5_sure 12 = .ok (.iconst 2, 1) := by decide +kernel
theorem dX5_sure_13 : decode cX5_sure 13 = .ok (.invokevirtual 88, 3) := by decide +kernel
theorem dX5_sure_16 : decode cX5_sure 16 = .ok (.ireturn, 1) := by decide +kernel
theorem dX5_sure_17 : decode cX5_sure 17 = .ok (.aload_n 0, 1) := by decide +kernel
theorem dX5_sure_18 : decode cX5_sure 18 = .ok (.getfield 22, 3) := by decide +kernel
theorem dX5_sure_21 : decode cX5_sure 21 = .ok (.invokevirtual 217, 3) := by decide +kernel
theorem dX5_sure_24 : decode cX5_sure 24 = .ok (.istore_n 2, 1) := by decide +kernel
theorem dX5_sure_25 : decode cX5_sure 25 = .ok (.iload_n 2, 1) := by decide +kernel
theorem dX5_sure_26 : decode cX5_sure 26 = .ok (.ifCond .ne 9, 3) := by decide +kernel
theorem dX5_sure_29 : decode cX5_sure 29 = .ok (.aload_n 0, 1) := by decide +kernel
theorem dX5_sure_30 : decode cX5_sure 30 = .ok (.iconst 5, 1) := by decide +kernel
theorem dX5_sure_31 : decode cX5_sure 31 = .ok (.invokevirtual 88, 3) := by decide +kernel
theorem dX5_sure_34 : decode cX5_sure 34 = .ok (.ireturn, 1) := by decide +kernel
theorem dX5_sure_35 : decode cX5_sure 35 = .ok (.aload_n 0, 1) := by decide +kernel
theorem dX5_sure_36 : decode cX5_sure 36 = .ok (.getfield 36, 3) := by decide +kernel
theorem dX5_sure_39 : decode cX5_sure 39 = .ok (.aload_n 0, 1) := by decide +kernel
theorem dX5_sure_40 : decode cX5_sure 40 = .ok (.getfield 22, 3) := by decide +kernel
theorem dX5_sure_43 : decode cX5_sure 43 = .ok (.iload_n 2, 1) := by decide +kernel
theorem dX5_sure_44 : decode cX5_sure 44 = .ok (.invokevirtual 220, 3) := by decide +kernel
theorem dX5_sure_47 : decode cX5_sure 47 = .ok (.aload_n 0, 1) := by decide +kernel
theorem dX5_sure_48 : decode cX5_sure 48 = .ok (.aload_n 0, 1) := by decide +kernel
theorem dX5_sure_49 : decode cX5_sure 49 = .ok (.getfield 36, 3) := by decide +kernel
theorem dX5_sure_52 : decode cX5_sure 52 = .ok (.aload_n 0, 1) := by decide +kernel
theorem dX5_sure_53 : decode cX5_sure 53 = .ok (.getfield 22, 3) := by decide +kernel
theorem dX5_sure_56 : decode cX5_sure 56 = .ok (.iload_n 2, 1) := by decide +kernel
theorem dX5_sure_57 : decode cX5_sure 57 = .ok (.iload_n 1, 1) := by decide +kernel
theorem dX5_sure_58 : decode cX5_sure 58 = .ok (.invokevirtual 231, 3) := by decide +kernel
theorem dX5_sure_61 : decode cX5_sure 61 = .ok (.invokevirtual 126, 3) := by decide +kernel
theorem dX5_sure_64 : decode cX5_sure 64 = .ok (.ireturn, 1) := by decide +kernel
theorem dX5_lead_0 : decode cX5_lead 0 = .ok (.aload_n 0, 1) := by decide +kernel
theorem dX5_lead_1 : decode cX5_lead 1 = .ok (.getfield 22, 3) := by decide +kernel
theorem dX5_lead_4 : decode cX5_lead 4 = .ok (.getfield 119, 3) := by decide +kernel
theorem dX5_lead_7 : decode cX5_lead 7 = .ok (.ifCond .ne 10, 3) := by decide +kernel
theorem dX5_lead_10 : decode cX5_lead 10 = .ok (.aload_n 0, 1) := by decide +kernel
theorem dX5_lead_11 : decode cX5_lead 11 = .ok (.bipush 8, 2) := by decide +kernel
theorem dX5_lead_13 : decode cX5_lead 13 = .ok (.invokevirtual 88, 3) := by decide +kernel
theorem dX5_lead_16 : decode cX5_lead 16 = .ok (.ireturn, 1) := by decide +kernel
theorem dX5_lead_17 : decode cX5_lead 17 = .ok (.aload_n 0, 1) := by decide +kernel
theorem dX5_lead_18 : decode cX5_lead 18 = .ok (.aload_n 0, 1) := by decide +kernel
theorem dX5_lead_19 : decode cX5_lead 19 = .ok (.getfield 22, 3) := by decide +kernel
theorem dX5_lead_22 : decode cX5_lead 22 = .ok (.aload_n 0, 1) := by decide +kernel
theorem dX5_lead_23 : decode cX5_lead 23 = .ok (.getfield 47, 3) := by decide +kernel
theorem dX5_lead_26 : decode cX5_lead 26 = .ok (.invokevirtual 235, 3) := by decide +kernel
theorem dX5_lead_29 : decode cX5_lead 29 = .ok (.putfield 51, 3) := by decide +kernel
theorem dX5_lead_32 : decode cX5_lead 32 = .ok (.aload_n 0, 1) := by decide +kernel
theorem dX5_lead_33 : decode cX5_lead 33 = .ok (.aload_n 0, 1) := by decide +kernel
theorem dX5_lead_34 : decode cX5_lead 34 = .ok (.getfield 51, 3) := by decide +kernel
theorem dX5_lead_37 : decode cX5_lead 37 = .ok (.invokevirtual 126, 3) := by decide +kernel
theorem dX5_lead_40 : decode cX5_lead 40 = .ok (.ireturn, 1) := by decide +kernel
theorem dX5_leader_0 : decode cX5_leader 0 = .ok (.iload_n 1, 1) := by decide +kernel
theorem dX5_leader_1 : decode cX5_leader 1 = .ok (.ifCond .lt 11, 3) := by decide +kernel
theorem dX5_leader_4 : decode cX5_leader 4 = .ok (.iload_n 1, 1) := by decide +kernel
theorem dX5_leader_5 : decode cX5_leader 5 = .ok (.aload_n 0, 1) := by decide +kernel
theorem dX5_leader_6 : decode cX5_leader 6 = .ok (.getfield 51, 3) := by decide +kernel
theorem dX5_leader_9 : decode cX5_leader 9 = .ok (.if_icmp .lt 10, 3) := by decide +kernel
theorem dX5_leader_12 : decode cX5_leader 12 = .ok (.aload_n 0, 1) := by decide +kernel
theorem dX5_leader_13 : decode cX5_leader 13 = .ok (.bipush 8, 2) := by decide +kernel
theorem dX5_leader_15 : decode cX5_leader 15 = .ok (.invokevirtual 88, 3) := by decide +kernel
theorem dX5_leader_18 : decode cX5_leader 18 = .ok (.ireturn, 1) := by decide +kernel
theorem dX5_leader_19 : decode cX5_leader 19 = .ok (.aload_n 0, 1) := by decide +kernel
theorem dX5_leader_20 : decode cX5_leader 20 = .ok (.aload_n 0, 1) := by decide +kernel
theorem dX5_leader_21 : decode cX5_leader 21 = .ok (.getfield 47, 3) := by decide +kernel
theorem dX5_leader_24 : decode cX5_leader 24 = .ok (.iload_n 1, 1) := by decide +kernel
theorem dX5_leader_25 : decode cX5_leader 25 = .ok (.iaload, 1) := by decide +kernel
theorem dX5_leader_26 : decode cX5_leader 26 = .ok (.invokevirtual 126, 3) := by decide +kernel
theorem dX5_leader_29 : decode cX5_leader 29 = .ok (.ireturn, 1) := by decide +kernel
theorem dX5_table_0 : decode cX5_table 0 = .ok (.iload_n 1, 1) := by decide +kernel
theorem dX5_table_1 : decode cX5_table 1 = .ok (.ifCond .lt 9, 3) := by decide +kernel
theorem dX5_table_4 : decode cX5_table 4 = .ok (.iload_n 1, 1) := by decide +kernel
theorem dX5_table_5 : decode cX5_table 5 = .ok (.bipush 10, 2) := by decide +kernel
theorem dX5_table_7 : decode cX5_table 7 = .ok (.if_icmp .le 9, 3) := by decide +kernel
theorem dX5_table_10 : decode cX5_table 10 = .ok (.aload_n 0, 1) := by decide +kernel
theorem dX5_table_11 : decode cX5_table 11 = .ok (.iconst 2, 1) := by decide +kernel
theorem dX5_table_12 : decode cX5_table 12 = .ok (.invokevirtual 65, 3) := by decide +kernel
theorem dX5_table_15 : decode cX5_table 15 = .ok (.ireturn, 1) := by decide +kernel
theorem dX5_table_16 : decode cX5_table 16 = .ok (.aload_n 0, 1) := by decide +kernel
theorem dX5_table_17 : decode cX5_table 17 = .ok (.getfield 43, 3) := by decide +kernel
theorem dX5_table_20 : decode cX5_table 20 = .ok (.iload_n 1, 1) := by decide +kernel
theorem dX5_table_21 : decode cX5_table 21 = .ok (.invokevirtual 239, 3) := by decide +kernel
theorem dX5_table_24 : decode cX5_table 24 = .ok (.aload_n 0, 1) := by decide +kernel
theorem dX5_table_25 : decode cX5_table 25 = .ok (.invokevirtual 73, 3) := by decide +kernel
theorem dX5_table_28 : decode cX5_table 28 = .ok (.ireturn, 1) := by decide +kernel
theorem dX5_span_0 : decode cX5_span 0 = .ok (.aload_n 0, 1) := by decide +kernel
theorem dX5_span_1 : decode cX5_span 1 = .ok (.getfield 43, 3) := by decide +kernel
theorem dX5_span_4 : decode cX5_span 4 = .ok (.iload_n 1, 1) := by decide +kernel
theorem dX5_span_5 : decode cX5_span 5 = .ok (.iload_n 2, 1) := by decide +kernel
theorem dX5_span_6 : decode cX5_span 6 = .ok (.invokevirtual 240, 3) := by decide +kernel
theorem dX5_span_9 : decode cX5_span 9 = .ok (.ifCond .eq 15, 3) := by decide +kernel
theorem dX5_span_12 : decode cX5_span 12 = .ok (.iload_n 3, 1) := by decide +kernel
theorem dX5_span_13 : decode cX5_span 13 = .ok (.ldc 242, 2) := by decide +kernel
theorem dX5_span_15 : decode cX5_span 15 = .ok (.if_icmp .lt 9, 3) := by decide +kernel
theorem dX5_span_18 : decode cX5_span 18 = .ok (.iload_n 3, 1) := by decide +kernel
theorem dX5_span_19 : decode cX5_span 19 = .ok (.ldc 243, 2) := by decide +kernel
theorem dX5_span_21 : decode cX5_span 21 = .ok (.if_icmp .le 9, 3) := by decide +kernel
theorem dX5_span_24 : decode cX5_span 24 = .ok (.aload_n 0, 1) := by decide +kernel
theorem dX5_span_25 : decode cX5_span 25 = .ok (.iconst 2, 1) := by decide +kernel
theorem dX5_span_26 : decode cX5_span 26 = .ok (.invokevirtual 65, 3) := by decide +kernel
theorem dX5_span_29 : decode cX5_span 29 = .ok (.ireturn, 1) := by decide +kernel
theorem dX5_span_30 : decode cX5_span 30 = .ok (.aload_n 0, 1) := by decide +kernel
theorem dX5_span_31 : decode cX5_span 31 = .ok (.getfield 43, 3) := by decide +kernel
theorem dX5_span_34 : decode cX5_span 34 = .ok (.iload_n 1, 1) := by decide +kernel
theorem dX5_span_35 : decode cX5_span 35 = .ok (.iload_n 2, 1) := by decide +kernel
theorem dX5_span_36 : decode cX5_span 36 = .ok (.iload_n 3, 1) := by decide +kernel
theorem dX5_span_37 : decode cX5_span 37 = .ok (.i2l, 1) := by decide +kernel
theorem dX5_span_38 : decode cX5_span 38 = .ok (.invokevirtual 244, 3) := by decide +kernel
theorem dX5_span_41 : decode cX5_span 41 = .ok (.aload_n 0, 1) := by decide +kernel
theorem dX5_span_42 : decode cX5_span 42 = .ok (.invokevirtual 73, 3) := by decide +kernel
theorem dX5_span_45 : decode cX5_span 45 = .ok (.ireturn, 1) := by decide +kernel
theorem dX5_cut_0 : decode cX5_cut 0 = .ok (.aload_n 0, 1) := by decide +kernel
theorem dX5_cut_1 : decode cX5_cut 1 = .ok (.getfield 43, 3) := by decide +kernel
theorem dX5_cut_4 : decode cX5_cut 4 = .ok (.iload_n 1, 1) := by decide +kernel
theorem dX5_cut_5 : decode cX5_cut 5 = .ok (.iload_n 2, 1) := by decide +kernel
theorem dX5_cut_6 : decode cX5_cut 6 = .ok (.invokevirtual 240, 3) := by decide +kernel
theorem dX5_cut_9 : decode cX5_cut 9 = .ok (.ifCond .ne 9, 3) := by decide +kernel
theorem dX5_cut_12 : decode cX5_cut 12 = .ok (.aload_n 0, 1) := by decide +kernel
theorem dX5_cut_13 : decode cX5_cut 13 = .ok (.iconst 2, 1) := by decide +kernel
theorem dX5_cut_14 : decode cX5_cut 14 = .ok (.invokevirtual 65, 3) := by decide +kernel
theorem dX5_cut_17 : decode cX5_cut 17 = .ok (.ireturn, 1) := by decide +kernel
theorem dX5_cut_18 : decode cX5_cut 18 = .ok (.aload_n 0, 1) := by decide +kernel
theorem dX5_cut_19 : decode cX5_cut 19 = .ok (.getfield 43, 3) := by decide +kernel
theorem dX5_cut_22 : decode cX5_cut 22 = .ok (.iload_n 1, 1) := by decide +kernel
theorem dX5_cut_23 : decode cX5_cut 23 = .ok (.iload_n 2, 1) := by decide +kernel
theorem dX5_cut_24 : decode cX5_cut 24 = .ok (.invokevirtual 247, 3) := by decide +kernel
theorem dX5_cut_27 : decode cX5_cut 27 = .ok (.ifCond .ne 10, 3) := by decide +kernel
theorem dX5_cut_30 : decode cX5_cut 30 = .ok (.aload_n 0, 1) := by decide +kernel
theorem dX5_cut_31 : decode cX5_cut 31 = .ok (.bipush 8, 2) := by decide +kernel
theorem dX5_cut_33 : decode cX5_cut 33 = .ok (.invokevirtual 65, 3) := by decide +kernel
theorem dX5_cut_36 : decode cX5_cut 36 = .ok (.ireturn, 1) := by decide +kernel
theorem dX5_cut_37 : decode cX5_cut 37 = .ok (.aload_n 0, 1) := by decide +kernel
theorem dX5_cut_38 : decode cX5_cut 38 = .ok (.invokevirtual 73, 3) := by decide +kernel
theorem dX5_cut_41 : decode cX5_cut 41 = .ok (.ireturn, 1) := by decide +kernel
theorem dX5_pace_0 : decode cX5_pace 0 = .ok (.iload_n 1, 1) := by decide +kernel
theorem dX5_pace_1 : decode cX5_pace 1 = .ok (.ifCond .lt 8, 3) := by decide +kernel
theorem dX5_pace_4 : decode cX5_pace 4 = .ok (.iload_n 1, 1) := by decide +kernel
theorem dX5_pace_5 : decode cX5_pace 5 = .ok (.iconst 1, 1) := by decide +kernel
theorem dX5_pace_6 : decode cX5_pace 6 = .ok (.if_icmp .le 10, 3) := by decide +kernel
theorem dX5_pace_9 : decode cX5_pace 9 = .ok (.aload_n 0, 1) := by decide +kernel
theorem dX5_pace_10 : decode cX5_pace 10 = .ok (.iconst 2, 1) := by decide +kernel
theorem dX5_pace_11 : decode cX5_pace 11 = .ok (.invokevirtual 88, 3) := by decide +kernel
theorem dX5_pace_14 : decode cX5_pace 14 = .ok (.i2l, 1) := by decide +kernel
theorem dX5_pace_15 : decode cX5_pace 15 = .ok (.lreturn, 1) := by decide +kernel
theorem dX5_pace_16 : decode cX5_pace 16 = .ok (.aload_n 0, 1) := by decide +kernel
theorem dX5_pace_17 : decode cX5_pace 17 = .ok (.getfield 43, 3) := by decide +kernel
theorem dX5_pace_20 : decode cX5_pace 20 = .ok (.invokevirtual 250, 3) := by decide +kernel
theorem dX5_pace_23 : decode cX5_pace 23 = .ok (.ifCond .ne 11, 3) := by decide +kernel
theorem dX5_pace_26 : decode cX5_pace 26 = .ok (.aload_n 0, 1) := by decide +kernel
theorem dX5_pace_27 : decode cX5_pace 27 = .ok (.bipush 8, 2) := by decide +kernel
theorem dX5_pace_29 : decode cX5_pace 29 = .ok (.invokevirtual 88, 3) := by decide +kernel
theorem dX5_pace_32 : decode cX5_pace 32 = .ok (.i2l, 1) := by decide +kernel
theorem dX5_pace_33 : decode cX5_pace 33 = .ok (.lreturn, 1) := by decide +kernel
theorem dX5_pace_34 : decode cX5_pace 34 = .ok (.aload_n 0, 1) := by decide +kernel
theorem dX5_pace_35 : decode cX5_pace 35 = .ok (.iconst 0, 1) := by decide +kernel
theorem dX5_pace_36 : decode cX5_pace 36 = .ok (.putfield 9, 3) := by decide +kernel
theorem dX5_pace_39 : decode cX5_pace 39 = .ok (.iload_n 1, 1) := by decide +kernel
theorem dX5_pace_40 : decode cX5_pace 40 = .ok (.ifCond .ne 13, 3) := by decide +kernel
theorem dX5_pace_43 : decode cX5_pace 43 = .ok (.aload_n 0, 1) := by decide +kernel
theorem dX5_pace_44 : decode cX5_pace 44 = .ok (.getfield 43, 3) := by decide +kernel
theorem dX5_pace_47 : decode cX5_pace 47 = .ok (.getfield 253, 3) := by decide +kernel
theorem dX5_pace_50 : decode cX5_pace 50 = .ok (.goto 10, 3) := by decide +kernel
theorem dX5_pace_53 : decode cX5_pace 53 = .ok (.aload_n 0, 1) := by decide +kernel
theorem dX5_pace_54 : decode cX5_pace 54 = .ok (.getfield 43, 3) := by decide +kernel
theorem dX5_pace_57 : decode cX5_pace 57 = .ok (.getfield 257, 3) := by decide +kernel
theorem dX5_pace_60 : decode cX5_pace 60 = .ok (.lreturn, 1) := by decide +kernel
theorem dX5_critical_0 : decode cX5_critical 0 = .ok (.aload_n 0, 1) := by decide +kernel
theorem dX5_critical_1 : decode cX5_critical 1 = .ok (.getfield 43, 3) := by decide +kernel
theorem dX5_critical_4 : decode cX5_critical 4 = .ok (.invokevirtual 250, 3) := by decide +kernel
theorem dX5_critical_7 : decode cX5_critical 7 = .ok (.ifCond .ne 10, 3) := by decide +kernel
theorem dX5_critical_10 : decode cX5_critical 10 = .ok (.aload_n 0, 1) := by decide +kernel
theorem dX5_critical_11 : decode cX5_critical 11 = .ok (.bipush 8, 2) := by decide +kernel
theorem dX5_critical_13 : decode cX5_critical 13 = .ok (.invokevirtual 88, 3) := by decide +kernel
theorem dX5_critical_16 : decode cX5_critical 16 = .ok (.ireturn, 1) := by decide +kernel
theorem dX5_critical_17 : decode cX5_critical 17 = .ok (.aload_n 0, 1) := by decide +kernel
theorem dX5_critical_18 : decode cX5_critical 18 = .ok (.aload_n 0, 1) := by decide +kernel
theorem dX5_critical_19 : decode cX5_critical 19 = .ok (.getfield 43, 3) := by decide +kernel
theorem dX5_critical_22 : decode cX5_critical 22 = .ok (.aload_n 0, 1) := by decide +kernel
theorem dX5_critical_23 : decode cX5_critical 23 = .ok (.getfield 54, 3) := by decide +kernel
theorem dX5_critical_26 : decode cX5_critical 26 = .ok (.invokevirtual 260, 3) := by decide +kernel
theorem dX5_critical_29 : decode cX5_critical 29 = .ok (.putfield 57, 3) := by decide +kernel
theorem dX5_critical_32 : decode cX5_critical 32 = .ok (.aload_n 0, 1) := by decide +kernel
theorem dX5_critical_33 : decode cX5_critical 33 = .ok (.aload_n 0, 1) := by decide +kernel
theorem dX5_critical_34 : decode cX5_critical 34 = .ok (.getfield 57, 3) := by decide +kernel
theorem dX5_critical_37 : decode cX5_critical 37 = .ok (.invokevirtual 126, 3) := by decide +kernel
theorem dX5_critical_40 : decode cX5_critical 40 = .ok (.ireturn, 1) := by decide +kernel
theorem dX5_sums_0 : decode cX5_sums 0 = .ok (.lload_n 1, 1) := by decide +kernel
theorem dX5_sums_1 : decode cX5_sums 1 = .ok (.lconst 0, 1) := by decide +kernel
theorem dX5_sums_2 : decode cX5_sums 2 = .ok (.lcmp, 1) := by decide +kernel
theorem dX5_sums_3 : decode cX5_sums 3 = .ok (.ifCond .lt 24, 3) := by decide +kernel
theorem dX5_sums_6 : decode cX5_sums 6 = .ok (.lload_n 1, 1) := by decide +kernel
theorem dX5_sums_7 : decode cX5_sums 7 = .ok (.ldc2_w 263, 3) := by decide +kernel
theorem dX5_sums_10 : decode cX5_sums 10 = .ok (.lcmp, 1) := by decide +kernel
theorem dX5_sums_11 : decode cX5_sums 11 = .ok (.ifCond .gt 16, 3) := by decide +kernel
theorem dX5_sums_14 : decode cX5_sums 14 = .ok (.aload_n 0, 1) := by decide +kernel
theorem dX5_sums_15 : decode cX5_sums 15 = .ok (.getfield 43, 3) := by decide +kernel
theorem dX5_sums_18 : decode cX5_sums 18 = .ok (.iload_n 3, 1) := by decide +kernel
theorem dX5_sums_19 : decode cX5_sums 19 = .ok (.iload 4, 2) := by decide +kernel
theorem dX5_sums_21 : decode cX5_sums 21 = .ok (.invokevirtual 240, 3) := by decide +kernel
theorem dX5_sums_24 : decode cX5_sums 24 = .ok (.ifCond .ne 10, 3) := by decide +kernel
theorem dX5_sums_27 : decode cX5_sums 27 = .ok (.aload_n 0, 1) := by decide +kernel
theorem dX5_sums_28 : decode cX5_sums 28 = .ok (.iconst 2, 1) := by decide +kernel
theorem dX5_sums_29 : decode cX5_sums 29 = .ok (.invokevirtual 88, 3) := by decide +kernel
theorem dX5_sums_32 : decode cX5_sums 32 = .ok (.i2l, 1) := by decide +kernel
theorem dX5_sums_33 : decode cX5_sums 33 = .ok (.lreturn, 1) := by decide +kernel
theorem dX5_sums_34 : decode cX5_sums 34 = .ok (.aload_n 0, 1) := by decide +kernel
theorem dX5_sums_35 : decode cX5_sums 35 = .ok (.aload_n 0, 1) := by decide +kernel
theorem dX5_sums_36 : decode cX5_sums 36 = .ok (.getfield 43, 3) := by decide +kernel
theorem dX5_sums_39 : decode cX5_sums 39 = .ok (.lload_n 1, 1) := by decide +kernel
theorem dX5_sums_40 : decode cX5_sums 40 = .ok (.iload_n 3, 1) := by decide +kernel
theorem dX5_sums_41 : decode cX5_sums 41 = .ok (.iload 4, 2) := by decide +kernel
theorem dX5_sums_43 : decode cX5_sums 43 = .ok (.invokevirtual 265, 3) := by decide +kernel
theorem dX5_sums_46 : decode cX5_sums 46 = .ok (.invokevirtual 269, 3) := by decide +kernel
theorem dX5_sums_49 : decode cX5_sums 49 = .ok (.lreturn, 1) := by decide +kernel
theorem dX5_longest_0 : decode cX5_longest 0 = .ok (.aload_n 0, 1) := by decide +kernel
theorem dX5_longest_1 : decode cX5_longest 1 = .ok (.getfield 43, 3) := by decide +kernel
theorem dX5_longest_4 : decode cX5_longest 4 = .ok (.iload_n 1, 1) := by decide +kernel
end
section
theorem dX5_longest_5 : decode cX5_longest 5 = .ok (.iload_n 2, 1) := by decide +kernel
theorem dX5_longest_6 : decode cX5_longest 6 = .ok (.invokevirtual 240, 3) := by decide +kernel
theorem dX5_longest_9 : decode cX5_longest 9 = .ok (.ifCond .ne 10, 3) := by decide +kernel
theorem dX5_longest_12 : decode cX5_longest 12 = .ok (.aload_n 0, 1) := by decide +kernel
theorem dX5_longest_13 : decode cX5_longest 13 = .ok (.iconst 2, 1) := by decide +kernel
theorem dX5_longest_14 : decode cX5_longest 14 = .ok (.invokevirtual 88, 3) := by decide +kernel
theorem dX5_longest_17 : decode cX5_longest 17 = .ok (.i2l, 1) := by decide +kernel
theorem dX5_longest_18 : decode cX5_longest 18 = .ok (.lreturn, 1) := by decide +kernel
theorem dX5_longest_19 : decode cX5_longest 19 = .ok (.aload_n 0, 1) := by decide +kernel
theorem dX5_longest_20 : decode cX5_longest 20 = .ok (.getfield 43, 3) := by decide +kernel
theorem dX5_longest_23 : decode cX5_longest 23 = .ok (.iload_n 1, 1) := by decide +kernel
theorem dX5_longest_24 : decode cX5_longest 24 = .ok (.iload_n 2, 1) := by decide +kernel
theorem dX5_longest_25 : decode cX5_longest 25 = .ok (.invokevirtual 273, 3) := by decide +kernel
theorem dX5_longest_28 : decode cX5_longest 28 = .ok (.lstore_n 3, 1) := by decide +kernel
theorem dX5_longest_29 : decode cX5_longest 29 = .ok (.lload_n 3, 1) := by decide +kernel
theorem dX5_longest_30 : decode cX5_longest 30 = .ok (.ldc2_w 277, 3) := by decide +kernel
theorem dX5_longest_33 : decode cX5_longest 33 = .ok (.lcmp, 1) := by decide +kernel
theorem dX5_longest_34 : decode cX5_longest 34 = .ok (.ifCond .eq 33, 3) := by decide +kernel
theorem dX5_longest_37 : decode cX5_longest 37 = .ok (.aload_n 0, 1) := by decide +kernel
theorem dX5_longest_38 : decode cX5_longest 38 = .ok (.getfield 43, 3) := by decide +kernel
theorem dX5_longest_41 : decode cX5_longest 41 = .ok (.invokevirtual 250, 3) := by decide +kernel
theorem dX5_longest_44 : decode cX5_longest 44 = .ok (.ifCond .eq 23, 3) := by decide +kernel
theorem dX5_longest_47 : decode cX5_longest 47 = .ok (.aload_n 0, 1) := by decide +kernel
theorem dX5_longest_48 : decode cX5_longest 48 = .ok (.getfield 43, 3) := by decide +kernel
theorem dX5_longest_51 : decode cX5_longest 51 = .ok (.getfield 253, 3) := by decide +kernel
theorem dX5_longest_54 : decode cX5_longest 54 = .ok (.lconst 0, 1) := by decide +kernel
theorem dX5_longest_55 : decode cX5_longest 55 = .ok (.lcmp, 1) := by decide +kernel
theorem dX5_longest_56 : decode cX5_longest 56 = .ok (.ifCond .le 11, 3) := by decide +kernel
theorem dX5_longest_59 : decode cX5_longest 59 = .ok (.aload_n 0, 1) := by decide +kernel
theorem dX5_longest_60 : decode cX5_longest 60 = .ok (.bipush 9, 2) := by decide +kernel
theorem dX5_longest_62 : decode cX5_longest 62 = .ok (.invokevirtual 88, 3) := by decide +kernel
theorem dX5_longest_65 : decode cX5_longest 65 = .ok (.i2l, 1) := by decide +kernel
theorem dX5_longest_66 : decode cX5_longest 66 = .ok (.lreturn, 1) := by decide +kernel
theorem dX5_longest_67 : decode cX5_longest 67 = .ok (.aload_n 0, 1) := by decide +kernel
theorem dX5_longest_68 : decode cX5_longest 68 = .ok (.lload_n 3, 1) := by decide +kernel
theorem dX5_longest_69 : decode cX5_longest 69 = .ok (.invokevirtual 269, 3) := by decide +kernel
theorem dX5_longest_72 : decode cX5_longest 72 = .ok (.lreturn, 1) := by decide +kernel
theorem dX5_again_0 : decode cX5_again 0 = .ok (.iload_n 1, 1) := by decide +kernel
theorem dX5_again_1 : decode cX5_again 1 = .ok (.ifCond .lt 8, 3) := by decide +kernel
theorem dX5_again_4 : decode cX5_again 4 = .ok (.iload_n 1, 1) := by decide +kernel
theorem dX5_again_5 : decode cX5_again 5 = .ok (.iconst 1, 1) := by decide +kernel
theorem dX5_again_6 : decode cX5_again 6 = .ok (.if_icmp .le 9, 3) := by decide +kernel
theorem dX5_again_9 : decode cX5_again 9 = .ok (.aload_n 0, 1) := by decide +kernel
theorem dX5_again_10 : decode cX5_again 10 = .ok (.iconst 2, 1) := by decide +kernel
theorem dX5_again_11 : decode cX5_again 11 = .ok (.invokevirtual 88, 3) := by decide +kernel
theorem dX5_again_14 : decode cX5_again 14 = .ok (.ireturn, 1) := by decide +kernel
theorem dX5_again_15 : decode cX5_again 15 = .ok (.aload_n 0, 1) := by decide +kernel
theorem dX5_again_16 : decode cX5_again 16 = .ok (.getfield 43, 3) := by decide +kernel
theorem dX5_again_19 : decode cX5_again 19 = .ok (.invokevirtual 250, 3) := by decide +kernel
theorem dX5_again_22 : decode cX5_again 22 = .ok (.ifCond .ne 10, 3) := by decide +kernel
theorem dX5_again_25 : decode cX5_again 25 = .ok (.aload_n 0, 1) := by decide +kernel
theorem dX5_again_26 : decode cX5_again 26 = .ok (.bipush 8, 2) := by decide +kernel
theorem dX5_again_28 : decode cX5_again 28 = .ok (.invokevirtual 88, 3) := by decide +kernel
theorem dX5_again_31 : decode cX5_again 31 = .ok (.ireturn, 1) := by decide +kernel
theorem dX5_again_32 : decode cX5_again 32 = .ok (.aload_n 0, 1) := by decide +kernel
theorem dX5_again_33 : decode cX5_again 33 = .ok (.getfield 43, 3) := by decide +kernel
theorem dX5_again_36 : decode cX5_again 36 = .ok (.invokevirtual 279, 3) := by decide +kernel
theorem dX5_again_39 : decode cX5_again 39 = .ok (.ifCond .ne 10, 3) := by decide +kernel
theorem dX5_again_42 : decode cX5_again 42 = .ok (.aload_n 0, 1) := by decide +kernel
theorem dX5_again_43 : decode cX5_again 43 = .ok (.bipush 10, 2) := by decide +kernel
theorem dX5_again_45 : decode cX5_again 45 = .ok (.invokevirtual 88, 3) := by decide +kernel
theorem dX5_again_48 : decode cX5_again 48 = .ok (.ireturn, 1) := by decide +kernel
theorem dX5_again_49 : decode cX5_again 49 = .ok (.aload_n 0, 1) := by decide +kernel
theorem dX5_again_50 : decode cX5_again 50 = .ok (.iload_n 1, 1) := by decide +kernel
theorem dX5_again_51 : decode cX5_again 51 = .ok (.ifCond .ne 13, 3) := by decide +kernel
theorem dX5_again_54 : decode cX5_again 54 = .ok (.aload_n 0, 1) := by decide +kernel
theorem dX5_again_55 : decode cX5_again 55 = .ok (.getfield 43, 3) := by decide +kernel
theorem dX5_again_58 : decode cX5_again 58 = .ok (.getfield 282, 3) := by decide +kernel
theorem dX5_again_61 : decode cX5_again 61 = .ok (.goto 10, 3) := by decide +kernel
theorem dX5_again_64 : decode cX5_again 64 = .ok (.aload_n 0, 1) := by decide +kernel
theorem dX5_again_65 : decode cX5_again 65 = .ok (.getfield 43, 3) := by decide +kernel
theorem dX5_again_68 : decode cX5_again 68 = .ok (.getfield 285, 3) := by decide +kernel
theorem dX5_again_71 : decode cX5_again 71 = .ok (.invokevirtual 126, 3) := by decide +kernel
theorem dX5_again_74 : decode cX5_again 74 = .ok (.ireturn, 1) := by decide +kernel
theorem dX5_out_0 : decode cX5_out 0 = .ok (.iload_n 1, 1) := by decide +kernel
theorem dX5_out_1 : decode cX5_out 1 = .ok (.ifCond .lt 11, 3) := by decide +kernel
theorem dX5_out_4 : decode cX5_out 4 = .ok (.iload_n 1, 1) := by decide +kernel
theorem dX5_out_5 : decode cX5_out 5 = .ok (.aload_n 0, 1) := by decide +kernel
theorem dX5_out_6 : decode cX5_out 6 = .ok (.getfield 57, 3) := by decide +kernel
theorem dX5_out_9 : decode cX5_out 9 = .ok (.if_icmp .lt 14, 3) := by decide +kernel
theorem dX5_out_12 : decode cX5_out 12 = .ok (.new 288, 3) := by decide +kernel
theorem dX5_out_15 : decode cX5_out 15 = .ok (.dup, 1) := by decide +kernel
theorem dX5_out_16 : decode cX5_out 16 = .ok (.ldc_w 290, 3) := by decide +kernel
theorem dX5_out_19 : decode cX5_out 19 = .ok (.invokespecial 292, 3) := by decide +kernel
theorem dX5_out_22 : decode cX5_out 22 = .ok (.athrow, 1) := by decide +kernel
theorem dX5_out_23 : decode cX5_out 23 = .ok (.aload_n 0, 1) := by decide +kernel
theorem dX5_out_24 : decode cX5_out 24 = .ok (.getfield 54, 3) := by decide +kernel
theorem dX5_out_27 : decode cX5_out 27 = .ok (.iload_n 1, 1) := by decide +kernel
theorem dX5_out_28 : decode cX5_out 28 = .ok (.iaload, 1) := by decide +kernel
theorem dX5_out_29 : decode cX5_out 29 = .ok (.ireturn, 1) := by decide +kernel
theorem dX5_accept_0 : decode cX5_accept 0 = .ok (.aload_n 0, 1) := by decide +kernel
theorem dX5_accept_1 : decode cX5_accept 1 = .ok (.iconst 0, 1) := by decide +kernel
theorem dX5_accept_2 : decode cX5_accept 2 = .ok (.putfield 9, 3) := by decide +kernel
theorem dX5_accept_5 : decode cX5_accept 5 = .ok (.iconst 1, 1) := by decide +kernel
theorem dX5_accept_6 : decode cX5_accept 6 = .ok (.ireturn, 1) := by decide +kernel
theorem dX5_refuse_0 : decode cX5_refuse 0 = .ok (.aload_n 0, 1) := by decide +kernel
theorem dX5_refuse_1 : decode cX5_refuse 1 = .ok (.iload_n 1, 1) := by decide +kernel
theorem dX5_refuse_2 : decode cX5_refuse 2 = .ok (.putfield 9, 3) := by decide +kernel
theorem dX5_refuse_5 : decode cX5_refuse 5 = .ok (.iconst 0, 1) := by decide +kernel
theorem dX5_refuse_6 : decode cX5_refuse 6 = .ok (.ireturn, 1) := by decide +kernel
theorem dX5_answer_0 : decode cX5_answer 0 = .ok (.aload_n 0, 1) := by decide +kernel
theorem dX5_answer_1 : decode cX5_answer 1 = .ok (.iconst 0, 1) := by decide +kernel
theorem dX5_answer_2 : decode cX5_answer 2 = .ok (.putfield 9, 3) := by decide +kernel
theorem dX5_answer_5 : decode cX5_answer 5 = .ok (.iload_n 1, 1) := by decide +kernel
theorem dX5_answer_6 : decode cX5_answer 6 = .ok (.ireturn, 1) := by decide +kernel
theorem dX5_lack_0 : decode cX5_lack 0 = .ok (.aload_n 0, 1) := by decide +kernel
theorem dX5_lack_1 : decode cX5_lack 1 = .ok (.iload_n 1, 1) := by decide +kernel
theorem dX5_lack_2 : decode cX5_lack 2 = .ok (.putfield 9, 3) := by decide +kernel
theorem dX5_lack_5 : decode cX5_lack 5 = .ok (.iconst (-1), 1) := by decide +kernel
theorem dX5_lack_6 : decode cX5_lack 6 = .ok (.ireturn, 1) := by decide +kernel
theorem dX5_sumOrNone_0 : decode cX5_sumOrNone 0 = .ok (.aload_n 0, 1) := by decide +kernel
theorem dX5_sumOrNone_1 : decode cX5_sumOrNone 1 = .ok (.lload_n 1, 1) := by decide +kernel
theorem dX5_sumOrNone_2 : decode cX5_sumOrNone 2 = .ok (.ldc2_w 277, 3) := by decide +kernel
theorem dX5_sumOrNone_5 : decode cX5_sumOrNone 5 = .ok (.lcmp, 1) := by decide +kernel
theorem dX5_sumOrNone_6 : decode cX5_sumOrNone 6 = .ok (.ifCond .ne 8, 3) := by decide +kernel
theorem dX5_sumOrNone_9 : decode cX5_sumOrNone 9 = .ok (.bipush 8, 2) := by decide +kernel
theorem dX5_sumOrNone_11 : decode cX5_sumOrNone 11 = .ok (.goto 4, 3) := by decide +kernel
theorem dX5_sumOrNone_14 : decode cX5_sumOrNone 14 = .ok (.iconst 0, 1) := by decide +kernel
theorem dX5_sumOrNone_15 : decode cX5_sumOrNone 15 = .ok (.putfield 9, 3) := by decide +kernel
theorem dX5_sumOrNone_18 : decode cX5_sumOrNone 18 = .ok (.lload_n 1, 1) := by decide +kernel
theorem dX5_sumOrNone_19 : decode cX5_sumOrNone 19 = .ok (.ldc2_w 277, 3) := by decide +kernel
theorem dX5_sumOrNone_22 : decode cX5_sumOrNone 22 = .ok (.lcmp, 1) := by decide +kernel
theorem dX5_sumOrNone_23 : decode cX5_sumOrNone 23 = .ok (.ifCond .ne 9, 3) := by decide +kernel
theorem dX5_sumOrNone_26 : decode cX5_sumOrNone 26 = .ok (.ldc2_w 295, 3) := by decide +kernel
theorem dX5_sumOrNone_29 : decode cX5_sumOrNone 29 = .ok (.goto 4, 3) := by decide +kernel
theorem dX5_sumOrNone_32 : decode cX5_sumOrNone 32 = .ok (.lload_n 1, 1) := by decide +kernel
theorem dX5_sumOrNone_33 : decode cX5_sumOrNone 33 = .ok (.lreturn, 1) := by decide +kernel
theorem dX5_sheetAt_0 : decode cX5_sheetAt 0 = .ok (.iload_n 1, 1) := by decide +kernel
theorem dX5_sheetAt_1 : decode cX5_sheetAt 1 = .ok (.ifCond .lt 21, 3) := by decide +kernel
theorem dX5_sheetAt_4 : decode cX5_sheetAt 4 = .ok (.iload_n 1, 1) := by decide +kernel
theorem dX5_sheetAt_5 : decode cX5_sheetAt 5 = .ok (.aload_n 0, 1) := by decide +kernel
theorem dX5_sheetAt_6 : decode cX5_sheetAt 6 = .ok (.getfield 15, 3) := by decide +kernel
theorem dX5_sheetAt_9 : decode cX5_sheetAt 9 = .ok (.arraylength, 1) := by decide +kernel
theorem dX5_sheetAt_10 : decode cX5_sheetAt 10 = .ok (.if_icmp .ge 12, 3) := by decide +kernel
theorem dX5_sheetAt_13 : decode cX5_sheetAt 13 = .ok (.aload_n 0, 1) := by decide +kernel
theorem dX5_sheetAt_14 : decode cX5_sheetAt 14 = .ok (.getfield 15, 3) := by decide +kernel
theorem dX5_sheetAt_17 : decode cX5_sheetAt 17 = .ok (.iload_n 1, 1) := by decide +kernel
theorem dX5_sheetAt_18 : decode cX5_sheetAt 18 = .ok (.aaload, 1) := by decide +kernel
theorem dX5_sheetAt_19 : decode cX5_sheetAt 19 = .ok (.goto 4, 3) := by decide +kernel
theorem dX5_sheetAt_22 : decode cX5_sheetAt 22 = .ok (.aconst_null, 1) := by decide +kernel
theorem dX5_sheetAt_23 : decode cX5_sheetAt 23 = .ok (.areturn, 1) := by decide +kernel
theorem dX5_isKind_0 : decode cX5_isKind 0 = .ok (.iload_n 0, 1) := by decide +kernel
theorem dX5_isKind_1 : decode cX5_isKind 1 = .ok (.ifCond .lt 12, 3) := by decide +kernel
theorem dX5_isKind_4 : decode cX5_isKind 4 = .ok (.iload_n 0, 1) := by decide +kernel
theorem dX5_isKind_5 : decode cX5_isKind 5 = .ok (.iconst 4, 1) := by decide +kernel
theorem dX5_isKind_6 : decode cX5_isKind 6 = .ok (.if_icmp .ge 7, 3) := by decide +kernel
theorem dX5_isKind_9 : decode cX5_isKind 9 = .ok (.iconst 1, 1) := by decide +kernel
theorem dX5_isKind_10 : decode cX5_isKind 10 = .ok (.goto 4, 3) := by decide +kernel
theorem dX5_isKind_13 : decode cX5_isKind 13 = .ok (.iconst 0, 1) := by decide +kernel
theorem dX5_isKind_14 : decode cX5_isKind 14 = .ok (.ireturn, 1) := by decide +kernel
end
section
theorem dX6_init_0 : decode cX6_init 0 = .ok (.aload_n 0, 1) := by decide +kernel
theorem dX6_init_1 : decode cX6_init 1 = .ok (.invokespecial 3, 3) := by decide +kernel
theorem dX6_init_4 : decode cX6_init 4 = .ok (.aload_n 0, 1) := by decide +kernel
theorem dX6_init_5 : decode cX6_init 5 = .ok (.iconst 4, 1) := by decide +kernel
theorem dX6_init_6 : decode cX6_init 6 = .ok (.newarray .int, 2) := by decide +kernel
theorem dX6_init_8 : decode cX6_init 8 = .ok (.putfield 9, 3) := by decide +kernel
theorem dX6_init_11 : decode cX6_init 11 = .ok (.aload_n 0, 1) := by decide +kernel
theorem dX6_init_12 : decode cX6_init 12 = .ok (.iconst 4, 1) := by decide +kernel
theorem dX6_init_13 : decode cX6_init 13 = .ok (.newarray .int, 2) := by decide +kernel
theorem dX6_init_15 : decode cX6_init 15 = .ok (.putfield 15, 3) := by decide +kernel
theorem dX6_init_18 : decode cX6_init 18 = .ok (.aload_n 0, 1) := by decide +kernel
theorem dX6_init_19 : decode cX6_init 19 = .ok (.sipush 400, 3) := by decide +kernel
theorem dX6_init_22 : decode cX6_init 22 = .ok (.newarray .long, 2) := by decide +kernel
theorem dX6_init_24 : decode cX6_init 24 = .ok (.putfield 18, 3) := by decide +kernel
theorem dX6_init_27 : decode cX6_init 27 = .ok (.aload_n 0, 1) := by decide +kernel
theorem dX6_init_28 : decode cX6_init 28 = .ok (.bipush 12, 2) := by decide +kernel
theorem dX6_init_30 : decode cX6_init 30 = .ok (.putfield 22, 3) := by decide +kernel
theorem dX6_init_33 : decode cX6_init 33 = .ok (.aload_n 0, 1) := by decide +kernel
theorem dX6_init_34 : decode cX6_init 34 = .ok (.iconst 1, 1) := by decide +kernel
theorem dX6_init_35 : decode cX6_init 35 = .ok (.putfield 26, 3) := by decide +kernel
theorem dX6_init_38 : decode cX6_init 38 = .ok (.aload_n 0, 1) := by decide +kernel
theorem dX6_init_39 : decode cX6_init 39 = .ok (.bipush 24, 2) := by decide +kernel
theorem dX6_init_41 : decode cX6_init 41 = .ok (.newarray .int, 2) := by decide +kernel
theorem dX6_init_43 : decode cX6_init 43 = .ok (.putfield 29, 3) := by decide +kernel
theorem dX6_init_46 : decode cX6_init 46 = .ok (.aload_n 0, 1) := by decide +kernel
theorem dX6_init_47 : decode cX6_init 47 = .ok (.bipush 24, 2) := by decide +kernel
theorem dX6_init_49 : decode cX6_init 49 = .ok (.newarray .int, 2) := by decide +kernel
theorem dX6_init_51 : decode cX6_init 51 = .ok (.putfield 32, 3) := by decide +kernel
theorem dX6_init_54 : decode cX6_init 54 = .ok (.aload_n 0, 1) := by decide +kernel
theorem dX6_init_55 : decode cX6_init 55 = .ok (.bipush 16, 2) := by decide +kernel
theorem dX6_init_57 : decode cX6_init 57 = .ok (.newarray .int, 2) := by decide +kernel
theorem dX6_init_59 : decode cX6_init 59 = .ok (.putfield 35, 3) := by decide +kernel
theorem dX6_init_62 : decode cX6_init 62 = .ok (.aload_n 0, 1) := by decide +kernel
theorem dX6_init_63 : decode cX6_init 63 = .ok (.bipush 24, 2) := by decide +kernel
theorem dX6_init_65 : decode cX6_init 65 = .ok (.newarray .long, 2) := by decide +kernel
theorem dX6_init_67 : decode cX6_init 67 = .ok (.putfield 38, 3) := by decide +kernel
theorem dX6_init_70 : decode cX6_init 70 = .ok (.aload_n 0, 1) := by decide +kernel
theorem dX6_init_71 : decode cX6_init 71 = .ok (.sipush 576, 3) := by decide +kernel
theorem dX6_init_74 : decode cX6_init 74 = .ok (.newarray .boolean, 2) := by decide +kernel
theorem dX6_init_76 : decode cX6_init 76 = .ok (.putfield 41, 3) := by decide +kernel
theorem dX6_init_79 : decode cX6_init 79 = .ok (.aload_n 0, 1) := by decide +kernel
theorem dX6_init_80 : decode cX6_init 80 = .ok (.bipush 24, 2) := by decide +kernel
theorem dX6_init_82 : decode cX6_init 82 = .ok (.newarray .int, 2) := by decide +kernel
theorem dX6_init_84 : decode cX6_init 84 = .ok (.putfield 45, 3) := by decide +kernel
theorem dX6_init_87 : decode cX6_init 87 = .ok (.aload_n 0, 1) := by decide +kernel
theorem dX6_init_88 : decode cX6_init 88 = .ok (.bipush 24, 2) := by decide +kernel
theorem dX6_init_90 : decode cX6_init 90 = .ok (.newarray .int, 2) := by decide +kernel
theorem dX6_init_92 : decode cX6_init 92 = .ok (.putfield 48, 3) := by decide +kernel
theorem dX6_init_95 : decode cX6_init 95 = .ok (.aload_n 0, 1) := by decide +kernel
theorem dX6_init_96 : decode cX6_init 96 = .ok (.bipush 24, 2) := by decide +kernel
theorem dX6_init_98 : decode cX6_init 98 = .ok (.newarray .boolean, 2) := by decide +kernel
theorem dX6_init_100 : decode cX6_init 100 = .ok (.putfield 51, 3) := by decide +kernel
theorem dX6_init_103 : decode cX6_init 103 = .ok (.aload_n 0, 1) := by decide +kernel
theorem dX6_init_104 : decode cX6_init 104 = .ok (.bipush 24, 2) := by decide +kernel
theorem dX6_init_106 : decode cX6_init 106 = .ok (.newarray .boolean, 2) := by decide +kernel
theorem dX6_init_108 : decode cX6_init 108 = .ok (.putfield 54, 3) := by decide +kernel
theorem dX6_init_111 : decode cX6_init 111 = .ok (.aload_n 0, 1) := by decide +kernel
theorem dX6_init_112 : decode cX6_init 112 = .ok (.bipush 24, 2) := by decide +kernel
theorem dX6_init_114 : decode cX6_init 114 = .ok (.newarray .int, 2) := by decide +kernel
theorem dX6_init_116 : decode cX6_init 116 = .ok (.putfield 57, 3) := by decide +kernel
theorem dX6_init_119 : decode cX6_init 119 = .ok (.aload_n 0, 1) := by decide +kernel
theorem dX6_init_120 : decode cX6_init 120 = .ok (.bipush 24, 2) := by decide +kernel
theorem dX6_init_122 : decode cX6_init 122 = .ok (.newarray .int, 2) := by decide +kernel
theorem dX6_init_124 : decode cX6_init 124 = .ok (.putfield 60, 3) := by decide +kernel
theorem dX6_init_127 : decode cX6_init 127 = .ok (.aload_n 0, 1) := by decide +kernel
theorem dX6_init_128 : decode cX6_init 128 = .ok (.bipush 24, 2) := by decide +kernel
theorem dX6_init_130 : decode cX6_init 130 = .ok (.newarray .int, 2) := by decide +kernel
theorem dX6_init_132 : decode cX6_init 132 = .ok (.putfield 63, 3) := by decide +kernel
theorem dX6_init_135 : decode cX6_init 135 = .ok (.aload_n 0, 1) := by decide +kernel
theorem dX6_init_136 : decode cX6_init 136 = .ok (.bipush 24, 2) := by decide +kernel
theorem dX6_init_138 : decode cX6_init 138 = .ok (.newarray .int, 2) := by decide +kernel
theorem dX6_init_140 : decode cX6_init 140 = .ok (.putfield 66, 3) := by decide +kernel
theorem dX6_init_143 : decode cX6_init 143 = .ok (.aload_n 0, 1) := by decide +kernel
theorem dX6_init_144 : decode cX6_init 144 = .ok (.sipush 20736, 3) := by decide +kernel
theorem dX6_init_147 : decode cX6_init 147 = .ok (.newarray .int, 2) := by decide +kernel
theorem dX6_init_149 : decode cX6_init 149 = .ok (.putfield 69, 3) := by decide +kernel
theorem dX6_init_152 : decode cX6_init 152 = .ok (.aload_n 0, 1) := by decide +kernel
theorem dX6_init_153 : decode cX6_init 153 = .ok (.sipush 20736, 3) := by decide +kernel
theorem dX6_init_156 : decode cX6_init 156 = .ok (.newarray .int, 2) := by decide +kernel
theorem dX6_init_158 : decode cX6_init 158 = .ok (.putfield 72, 3) := by decide +kernel
theorem dX6_init_161 : decode cX6_init 161 = .ok (.aload_n 0, 1) := by decide +kernel
theorem dX6_init_162 : decode cX6_init 162 = .ok (.sipush 20736, 3) := by decide +kernel
theorem dX6_init_165 : decode cX6_init 165 = .ok (.newarray .int, 2) := by decide +kernel
theorem dX6_init_167 : decode cX6_init 167 = .ok (.putfield 75, 3) := by decide +kernel
theorem dX6_init_170 : decode cX6_init 170 = .ok (.aload_n 0, 1) := by decide +kernel
theorem dX6_init_171 : decode cX6_init 171 = .ok (.sipush 20736, 3) := by decide +kernel
theorem dX6_init_174 : decode cX6_init 174 = .ok (.newarray .int, 2) := by decide +kernel
theorem dX6_init_176 : decode cX6_init 176 = .ok (.putfield 78, 3) := by decide +kernel
theorem dX6_init_179 : decode cX6_init 179 = .ok (.aload_n 0, 1) := by decide +kernel
theorem dX6_init_180 : decode cX6_init 180 = .ok (.sipush 20736, 3) := by decide +kernel
theorem dX6_init_183 : decode cX6_init 183 = .ok (.newarray .int, 2) := by decide +kernel
theorem dX6_init_185 : decode cX6_init 185 = .ok (.putfield 81, 3) := by decide +kernel
theorem dX6_init_188 : decode cX6_init 188 = .ok (.aload_n 0, 1) := by decide +kernel
theorem dX6_init_189 : decode cX6_init 189 = .ok (.bipush 24, 2) := by decide +kernel
theorem dX6_init_191 : decode cX6_init 191 = .ok (.newarray .int, 2) := by decide +kernel
theorem dX6_init_193 : decode cX6_init 193 = .ok (.putfield 84, 3) := by decide +kernel
theorem dX6_init_196 : decode cX6_init 196 = .ok (.aload_n 0, 1) := by decide +kernel
theorem dX6_init_197 : decode cX6_init 197 = .ok (.bipush 100, 2) := by decide +kernel
theorem dX6_init_199 : decode cX6_init 199 = .ok (.newarray .long, 2) := by decide +kernel
theorem dX6_init_201 : decode cX6_init 201 = .ok (.putfield 87, 3) := by decide +kernel
theorem dX6_init_204 : decode cX6_init 204 = .ok (.aload_n 0, 1) := by decide +kernel
theorem dX6_init_205 : decode cX6_init 205 = .ok (.bipush 100, 2) := by decide +kernel
theorem dX6_init_207 : decode cX6_init 207 = .ok (.newarray .long, 2) := by decide +kernel
theorem dX6_init_209 : decode cX6_init 209 = .ok (.putfield 90, 3) := by decide +kernel
theorem dX6_init_212 : decode cX6_init 212 = .ok (.aload_n 0, 1) := by decide +kernel
theorem dX6_init_213 : decode cX6_init 213 = .ok (.bipush 100, 2) := by decide +kernel
theorem dX6_init_215 : decode cX6_init 215 = .ok (.newarray .long, 2) := by decide +kernel
theorem dX6_init_217 : decode cX6_init 217 = .ok (.putfield 93, 3) := by decide +kernel
theorem dX6_init_220 : decode cX6_init 220 = .ok (.aload_n 0, 1) := by decide +kernel
theorem dX6_init_221 : decode cX6_init 221 = .ok (.bipush 100, 2) := by decide +kernel
theorem dX6_init_223 : decode cX6_init 223 = .ok (.newarray .long, 2) := by decide +kernel
theorem dX6_init_225 : decode cX6_init 225 = .ok (.putfield 96, 3) := by decide +kernel
theorem dX6_init_228 : decode cX6_init 228 = .ok (.aload_n 0, 1) := by decide +kernel
theorem dX6_init_229 : decode cX6_init 229 = .ok (.sipush 20100, 3) := by decide +kernel
theorem dX6_init_232 : decode cX6_init 232 = .ok (.newarray .long, 2) := by decide +kernel
theorem dX6_init_234 : decode cX6_init 234 = .ok (.putfield 99, 3) := by decide +kernel
theorem dX6_init_237 : decode cX6_init 237 = .ok (.aload_n 0, 1) := by decide +kernel
theorem dX6_init_238 : decode cX6_init 238 = .ok (.bipush 10, 2) := by decide +kernel
theorem dX6_init_240 : decode cX6_init 240 = .ok (.newarray .byte, 2) := by decide +kernel
theorem dX6_init_242 : decode cX6_init 242 = .ok (.putfield 102, 3) := by decide +kernel
theorem dX6_init_245 : decode cX6_init 245 = .ok (.aload_n 0, 1) := by decide +kernel
theorem dX6_init_246 : decode cX6_init 246 = .ok (.sipush 20736, 3) := by decide +kernel
theorem dX6_init_249 : decode cX6_init 249 = .ok (.newarray .int, 2) := by decide +kernel
theorem dX6_init_251 : decode cX6_init 251 = .ok (.putfield 106, 3) := by decide +kernel
theorem dX6_init_254 : decode cX6_init 254 = .ok (.aload_n 0, 1) := by decide +kernel
theorem dX6_init_255 : decode cX6_init 255 = .ok (.sipush 20736, 3) := by decide +kernel
theorem dX6_init_258 : decode cX6_init 258 = .ok (.newarray .int, 2) := by decide +kernel
theorem dX6_init_260 : decode cX6_init 260 = .ok (.putfield 109, 3) := by decide +kernel
theorem dX6_init_263 : decode cX6_init 263 = .ok (.aload_n 0, 1) := by decide +kernel
theorem dX6_init_264 : decode cX6_init 264 = .ok (.bipush 24, 2) := by decide +kernel
theorem dX6_init_266 : decode cX6_init 266 = .ok (.newarray .int, 2) := by decide +kernel
theorem dX6_init_268 : decode cX6_init 268 = .ok (.putfield 112, 3) := by decide +kernel
theorem dX6_init_271 : decode cX6_init 271 = .ok (.iconst 0, 1) := by decide +kernel
theorem dX6_init_272 : decode cX6_init 272 = .ok (.istore_n 1, 1) := by decide +kernel
theorem dX6_init_273 : decode cX6_init 273 = .ok (.iload_n 1, 1) := by decide +kernel
theorem dX6_init_274 : decode cX6_init 274 = .ok (.iconst 4, 1) := by decide +kernel
theorem dX6_init_275 : decode cX6_init 275 = .ok (.if_icmp .ge 16, 3) := by decide +kernel
theorem dX6_init_278 : decode cX6_init 278 = .ok (.aload_n 0, 1) := by decide +kernel
theorem dX6_init_279 : decode cX6_init 279 = .ok (.getfield 15, 3) := by decide +kernel
theorem dX6_init_282 : decode cX6_init 282 = .ok (.iload_n 1, 1) := by decide +kernel
theorem dX6_init_283 : decode cX6_init 283 = .ok (.iconst (-1), 1) := by decide +kernel
theorem dX6_init_284 : decode cX6_init 284 = .ok (.iastore, 1) := by decide +kernel
theorem dX6_init_285 : decode cX6_init 285 = .ok (.iinc 1 1, 3) := by decide +kernel
theorem dX6_init_288 : decode cX6_init 288 = .ok (.goto (-15), 3) := by decide +kernel
theorem dX6_init_291 : decode cX6_init 291 = .ok (.aload_n 0, 1) := by decide +kernel
theorem dX6_init_292 : decode cX6_init 292 = .ok (.getfield 35, 3) := by decide +kernel
theorem dX6_init_295 : decode cX6_init 295 = .ok (.iconst 0, 1) := by decide +kernel
theorem dX6_init_296 : decode cX6_init 296 = .ok (.iconst 1, 1) := by decide +kernel
theorem dX6_init_297 : decode cX6_init 297 = .ok (.iastore, 1) := by decide +kernel
theorem dX6_init_298 : decode cX6_init 298 = .ok (.iconst 0, 1) := by decide +kernel
theorem dX6_init_299 : decode cX6_init 299 = .ok (.istore_n 1, 1) := by decide +kernel
theorem dX6_init_300 : decode cX6_init 300 = .ok (.iload_n 1, 1) := by decide +kernel
theorem dX6_init_301 : decode cX6_init 301 = .ok (.bipush 100, 2) := by decide +kernel
theorem dX6_init_303 : decode cX6_init 303 = .ok (.if_icmp .ge 18, 3) := by decide +kernel
theorem dX6_init_306 : decode cX6_init 306 = .ok (.aload_n 0, 1) := by decide +kernel
theorem dX6_init_307 : decode cX6_init 307 = .ok (.getfield 87, 3) := by decide +kernel
theorem dX6_init_310 : decode cX6_init 310 = .ok (.iload_n 1, 1) := by decide +kernel
theorem dX6_init_311 : decode cX6_init 311 = .ok (.ldc2_w 115, 3) := by decide +kernel
theorem dX6_init_314 : decode cX6_init 314 = .ok (.lastore, 1) := by decide +kernel
theorem dX6_init_315 : decode cX6_init 315 = .ok (.iinc 1 1, 3) := by decide +kernel
theorem dX6_init_318 : decode cX6_init 318 = .ok (.goto (-18), 3) := by decide +kernel
theorem dX6_init_321 : decode cX6_init 321 = .ok (.return_, 1) := by decide +kernel
theorem dX6_status_0 : decode cX6_status 0 = .ok (.aload_n 0, 1) := by decide +kernel
theorem dX6_status_1 : decode cX6_status 1 = .ok (.iconst 0, 1) := by decide +kernel
theorem dX6_status_2 : decode cX6_status 2 = .ok (.putfield 117, 3) := by decide +kernel
theorem dX6_status_5 : decode cX6_status 5 = .ok (.aload_n 0, 1) := by decide +kernel
theorem dX6_status_6 : decode cX6_status 6 = .ok (.getfield 120, 3) := by decide +kernel
theorem dX6_status_9 : decode cX6_status 9 = .ok (.ireturn, 1) := by decide +kernel
theorem dX6_refuse_0 : decode cX6_refuse 0 = .ok (.aload_n 0, 1) := by decide +kernel
theorem dX6_refuse_1 : decode cX6_refuse 1 = .ok (.iload_n 1, 1) := by decide +kernel
theorem dX6_refuse_2 : decode cX6_refuse 2 = .ok (.putfield 120, 3) := by decide +kernel
theorem dX6_refuse_5 : decode cX6_refuse 5 = .ok (.iconst (-1), 1) := by decide +kernel
theorem dX6_refuse_6 : decode cX6_refuse 6 = .ok (.ireturn, 1) := by decide +kernel
theorem dX6_no_0 : decode cX6_no 0 = .ok (.aload_n 0, 1) := by decide +kernel
theorem dX6_no_1 : decode cX6_no 1 = .ok (.iload_n 1, 1) := by decide +kernel
theorem dX6_no_2 : decode cX6_no 2 = .ok (.putfield 120, 3) := by decide +kernel
theorem dX6_no_5 : decode cX6_no 5 = .ok (.iconst 0, 1) := by decide +kernel
theorem dX6_no_6 : decode cX6_no 6 = .ok (.ireturn, 1) := by decide +kernel
theorem dX6_cut_0 : decode cX6_cut 0 = .ok (.iload_n 0, 1) := by decide +kernel
theorem dX6_cut_1 : decode cX6_cut 1 = .ok (.ifCond .ne 10, 3) := by decide +kernel
theorem dX6_cut_4 : decode cX6_cut 4 = .ok (.lload_n 1, 1) := by decide +kernel
theorem dX6_cut_5 : decode cX6_cut 5 = .ok (.l2i, 1) := by decide +kernel
theorem dX6_cut_6 : decode cX6_cut 6 = .ok (.i2b, 1) := by decide +kernel
theorem dX6_cut_7 : decode cX6_cut 7 = .ok (.i2l, 1) := by decide +kernel
theorem dX6_cut_8 : decode cX6_cut 8 = .ok (.goto 27, 3) := by decide +kernel
theorem dX6_cut_11 : decode cX6_cut 11 = .ok (.iload_n 0, 1) := by decide +kernel
theorem dX6_cut_12 : decode cX6_cut 12 = .ok (.iconst 1, 1) := by decide +kernel
theorem dX6_cut_13 : decode cX6_cut 13 = .ok (.if_icmp .ne 10, 3) := by decide +kernel
theorem dX6_cut_16 : decode cX6_cut 16 = .ok (.lload_n 1, 1) := by decide +kernel
theorem dX6_cut_17 : decode cX6_cut 17 = .ok (.l2i, 1) := by decide +kernel
theorem dX6_cut_18 : decode cX6_cut 18 = .ok (.i2s, 1) := by decide +kernel
theorem dX6_cut_19 : decode cX6_cut 19 = .ok (.i2l, 1) := by decide +kernel
theorem dX6_cut_20 : decode cX6_cut 20 = .ok (.goto 15, 3) := by decide +kernel
theorem dX6_cut_23 : decode cX6_cut 23 = .ok (.iload_n 0, 1) := by decide +kernel
theorem dX6_cut_24 : decode cX6_cut 24 = .ok (.iconst 2, 1) := by decide +kernel
theorem dX6_cut_25 : decode cX6_cut 25 = .ok (.if_icmp .ne 9, 3) := by decide +kernel
theorem dX6_cut_28 : decode cX6_cut 28 = .ok (.lload_n 1, 1) := by decide +kernel
theorem dX6_cut_29 : decode cX6_cut 29 = .ok (.l2i, 1) := by decide +kernel
theorem dX6_cut_30 : decode cX6_cut 30 = .ok (.i2l, 1) := by decide +kernel
theorem dX6_cut_31 : decode cX6_cut 31 = .ok (.goto 4, 3) := by decide +kernel
theorem dX6_cut_34 : decode cX6_cut 34 = .ok (.lload_n 1, 1) := by decide +kernel
theorem dX6_cut_35 : decode cX6_cut 35 = .ok (.lreturn, 1) := by decide +kernel
theorem dX6_sheet_0 : decode cX6_sheet 0 = .ok (.aload_n 0, 1) := by decide +kernel
theorem dX6_sheet_1 : decode cX6_sheet 1 = .ok (.iconst 0, 1) := by decide +kernel
theorem dX6_sheet_2 : decode cX6_sheet 2 = .ok (.putfield 117, 3) := by decide +kernel
theorem dX6_sheet_5 : decode cX6_sheet 5 = .ok (.aload_n 0, 1) := by decide +kernel
theorem dX6_sheet_6 : decode cX6_sheet 6 = .ok (.iconst 0, 1) := by decide +kernel
theorem dX6_sheet_7 : decode cX6_sheet 7 = .ok (.putfield 120, 3) := by decide +kernel
theorem dX6_sheet_10 : decode cX6_sheet 10 = .ok (.iload_n 1, 1) := by decide +kernel
theorem dX6_sheet_11 : decode cX6_sheet 11 = .ok (.ifCond .lt 17, 3) := by decide +kernel
theorem dX6_sheet_14 : decode cX6_sheet 14 = .ok (.iload_n 1, 1) := by decide +kernel
theorem dX6_sheet_15 : decode cX6_sheet 15 = .ok (.iconst 4, 1) := by decide +kernel
theorem dX6_sheet_16 : decode cX6_sheet 16 = .ok (.if_icmp .ge 12, 3) := by decide +kernel
theorem dX6_sheet_19 : decode cX6_sheet 19 = .ok (.iload_n 2, 1) := by decide +kernel
theorem dX6_sheet_20 : decode cX6_sheet 20 = .ok (.ifCond .lt 8, 3) := by decide +kernel
theorem dX6_sheet_23 : decode cX6_sheet 23 = .ok (.iload_n 2, 1) := by decide +kernel
theorem dX6_sheet_24 : decode cX6_sheet 24 = .ok (.iconst 3, 1) := by decide +kernel
theorem dX6_sheet_25 : decode cX6_sheet 25 = .ok (.if_icmp .le 9, 3) := by decide +kernel
theorem dX6_sheet_28 : decode cX6_sheet 28 = .ok (.aload_n 0, 1) := by decide +kernel
theorem dX6_sheet_29 : decode cX6_sheet 29 = .ok (.iconst 1, 1) := by decide +kernel
theorem dX6_sheet_30 : decode cX6_sheet 30 = .ok (.invokevirtual 123, 3) := by decide +kernel
theorem dX6_sheet_33 : decode cX6_sheet 33 = .ok (.ireturn, 1) := by decide +kernel
theorem dX6_sheet_34 : decode cX6_sheet 34 = .ok (.iload_n 3, 1) := by decide +kernel
theorem dX6_sheet_35 : decode cX6_sheet 35 = .ok (.bipush 100, 2) := by decide +kernel
theorem dX6_sheet_37 : decode cX6_sheet 37 = .ok (.if_icmp .le 9, 3) := by decide +kernel
theorem dX6_sheet_40 : decode cX6_sheet 40 = .ok (.aload_n 0, 1) := by decide +kernel
theorem dX6_sheet_41 : decode cX6_sheet 41 = .ok (.iconst 2, 1) := by decide +kernel
theorem dX6_sheet_42 : decode cX6_sheet 42 = .ok (.invokevirtual 123, 3) := by decide +kernel
theorem dX6_sheet_45 : decode cX6_sheet 45 = .ok (.ireturn, 1) := by decide +kernel
theorem dX6_sheet_46 : decode cX6_sheet 46 = .ok (.iload_n 3, 1) := by decide +kernel
theorem dX6_sheet_47 : decode cX6_sheet 47 = .ok (.ifCond .ge 10, 3) := by decide +kernel
theorem dX6_sheet_50 : decode cX6_sheet 50 = .ok (.aload_n 0, 1) := by decide +kernel
theorem dX6_sheet_51 : decode cX6_sheet 51 = .ok (.bipush 6, 2) := by decide +kernel
theorem dX6_sheet_53 : decode cX6_sheet 53 = .ok (.invokevirtual 123, 3) := by decide +kernel
theorem dX6_sheet_56 : decode cX6_sheet 56 = .ok (.ireturn, 1) := by decide +kernel
theorem dX6_sheet_57 : decode cX6_sheet 57 = .ok (.aload_n 0, 1) := by decide +kernel
theorem dX6_sheet_58 : decode cX6_sheet 58 = .ok (.getfield 9, 3) := by decide +kernel
theorem dX6_sheet_61 : decode cX6_sheet 61 = .ok (.iload_n 1, 1) := by decide +kernel
theorem dX6_sheet_62 : decode cX6_sheet 62 = .ok (.iload_n 2, 1) := by decide +kernel
theorem dX6_sheet_63 : decode cX6_sheet 63 = .ok (.iastore, 1) := by decide +kernel
theorem dX6_sheet_64 : decode cX6_sheet 64 = .ok (.aload_n 0, 1) := by decide +kernel
theorem dX6_sheet_65 : decode cX6_sheet 65 = .ok (.getfield 15, 3) := by decide +kernel
theorem dX6_sheet_68 : decode cX6_sheet 68 = .ok (.iload_n 1, 1) := by decide +kernel
theorem dX6_sheet_69 : decode cX6_sheet 69 = .ok (.iload_n 3, 1) := by decide +kernel
theorem dX6_sheet_70 : decode cX6_sheet 70 = .ok (.iastore, 1) := by decide +kernel
theorem dX6_sheet_71 : decode cX6_sheet 71 = .ok (.iconst 0, 1) := by decide +kernel
theorem dX6_sheet_72 : decode cX6_sheet 72 = .ok (.istore 4, 2) := by decide +kernel
theorem dX6_sheet_74 : decode cX6_sheet 74 = .ok (.iload 4, 2) := by decide +kernel
theorem dX6_sheet_76 : decode cX6_sheet 76 = .ok (.iload_n 3, 1) := by decide +kernel
theorem dX6_sheet_77 : decode cX6_sheet 77 = .ok (.if_icmp .ge 22, 3) := by decide +kernel
theorem dX6_sheet_80 : decode cX6_sheet 80 = .ok (.aload_n 0, 1) := by decide +kernel
theorem dX6_sheet_81 : decode cX6_sheet 81 = .ok (.getfield 18, 3) := by decide +kernel
theorem dX6_sheet_84 : decode cX6_sheet 84 = .ok (.bipush 100, 2) := by decide +kernel
theorem dX6_sheet_86 : decode cX6_sheet 86 = .ok (.iload_n 1, 1) := by decide +kernel
theorem dX6_sheet_87 : decode cX6_sheet 87 = .ok (.imul, 1) := by decide +kernel
theorem dX6_sheet_88 : decode cX6_sheet 88 = .ok (.iload 4, 2) := by decide +kernel
theorem dX6_sheet_90 : decode cX6_sheet 90 = .ok (.iadd, 1) := by decide +kernel
theorem dX6_sheet_91 : decode cX6_sheet 91 = .ok (.lconst 0, 1) := by decide +kernel
theorem dX6_sheet_92 : decode cX6_sheet 92 = .ok (.lastore, 1) := by decide +kernel
theorem dX6_sheet_93 : decode cX6_sheet 93 = .ok (.iinc 4 1, 3) := by decide +kernel
theorem dX6_sheet_96 : decode cX6_sheet 96 = .ok (.goto (-22), 3) := by decide +kernel
theorem dX6_sheet_99 : decode cX6_sheet 99 = .ok (.iconst 1, 1) := by decide +kernel
theorem dX6_sheet_100 : decode cX6_sheet 100 = .ok (.ireturn, 1) := by decide +kernel
theorem dX6_sheeted_0 : decode cX6_sheeted 0 = .ok (.iload_n 1, 1) := by decide +kernel
theorem dX6_sheeted_1 : decode cX6_sheeted 1 = .ok (.ifCond .lt 8, 3) := by decide +kernel
theorem dX6_sheeted_4 : decode cX6_sheeted 4 = .ok (.iload_n 1, 1) := by decide +kernel
theorem dX6_sheeted_5 : decode cX6_sheeted 5 = .ok (.iconst 4, 1) := by decide +kernel
theorem dX6_sheeted_6 : decode cX6_sheeted 6 = .ok (.if_icmp .lt 7, 3) := by decide +kernel
theorem dX6_sheeted_9 : decode cX6_sheeted 9 = .ok (.iconst 1, 1) := by decide +kernel
theorem dX6_sheeted_10 : decode cX6_sheeted 10 = .ok (.goto 17, 3) := by decide +kernel
theorem dX6_sheeted_13 : decode cX6_sheeted 13 = .ok (.aload_n 0, 1) := by decide +kernel
theorem dX6_sheeted_14 : decode cX6_sheeted 14 = .ok (.getfield 15, 3) := by decide +kernel
theorem dX6_sheeted_17 : decode cX6_sheeted 17 = .ok (.iload_n 1, 1) := by decide +kernel
theorem dX6_sheeted_18 : decode cX6_sheeted 18 = .ok (.iaload, 1) := by decide +kernel
theorem dX6_sheeted_19 : decode cX6_sheeted 19 = .ok (.ifCond .ge 7, 3) := by decide +kernel
theorem dX6_sheeted_22 : decode cX6_sheeted 22 = .ok (.iconst 3, 1) := by decide +kernel
theorem dX6_sheeted_23 : decode cX6_sheeted 23 = .ok (.goto 4, 3) := by decide +kernel
theorem dX6_sheeted_26 : decode cX6_sheeted 26 = .ok (.iconst 0, 1) := by decide +kernel
theorem dX6_sheeted_27 : decode cX6_sheeted 27 = .ok (.ireturn, 1) := by decide +kernel
theorem dX6_placed_0 : decode cX6_placed 0 = .ok (.aload_n 0, 1) := by decide +kernel
theorem dX6_placed_1 : decode cX6_placed 1 = .ok (.iload_n 1, 1) := by decide +kernel
theorem dX6_placed_2 : decode cX6_placed 2 = .ok (.invokevirtual 127, 3) := by decide +kernel
theorem dX6_placed_5 : decode cX6_placed 5 = .ok (.istore_n 3, 1) := by decide +kernel
theorem dX6_placed_6 : decode cX6_placed 6 = .ok (.iload_n 3, 1) := by decide +kernel
theorem dX6_placed_7 : decode cX6_placed 7 = .ok (.ifCond .le 7, 3) := by decide +kernel
theorem dX6_placed_10 : decode cX6_placed 10 = .ok (.iload_n 3, 1) := by decide +kernel
theorem dX6_placed_11 : decode cX6_placed 11 = .ok (.goto 22, 3) := by decide +kernel
theorem dX6_placed_14 : decode cX6_placed 14 = .ok (.iload_n 2, 1) := by decide +kernel
theorem dX6_placed_15 : decode cX6_placed 15 = .ok (.ifCond .lt 13, 3) := by decide +kernel
theorem dX6_placed_18 : decode cX6_placed 18 = .ok (.iload_n 2, 1) := by decide +kernel
theorem dX6_placed_19 : decode cX6_placed 19 = .ok (.aload_n 0, 1) := by decide +kernel
theorem dX6_placed_20 : decode cX6_placed 20 = .ok (.getfield 15, 3) := by decide +kernel
theorem dX6_placed_23 : decode cX6_placed 23 = .ok (.iload_n 1, 1) := by decide +kernel
theorem dX6_placed_24 : decode cX6_placed 24 = .ok (.iaload, 1) := by decide +kernel
theorem dX6_placed_25 : decode cX6_placed 25 = .ok (.if_icmp .lt 7, 3) := by decide +kernel
theorem dX6_placed_28 : decode cX6_placed 28 = .ok (.iconst 4, 1) := by decide +kernel
theorem dX6_placed_29 : decode cX6_placed 29 = .ok (.goto 4, 3) := by decide +kernel
theorem dX6_placed_32 : decode cX6_placed 32 = .ok (.iconst 0, 1) := by decide +kernel
theorem dX6_placed_33 : decode cX6_placed 33 = .ok (.ireturn, 1) := by decide +kernel
theorem dX6_write_0 : decode cX6_write 0 = .ok (.aload_n 0, 1) := by decide +kernel
theorem dX6_write_1 : decode cX6_write 1 = .ok (.iconst 0, 1) := by decide +kernel
theorem dX6_write_2 : decode cX6_write 2 = .ok (.putfield 117, 3) := by decide +kernel
theorem dX6_write_5 : decode cX6_write 5 = .ok (.aload_n 0, 1) := by decide +kernel
theorem dX6_write_6 : decode cX6_write 6 = .ok (.aload_n 0, 1) := by decide +kernel
theorem dX6_write_7 : decode cX6_write 7 = .ok (.iload_n 1, 1) := by decide +kernel
theorem dX6_write_8 : decode cX6_write 8 = .ok (.iload_n 2, 1) := by decide +kernel
theorem dX6_write_9 : decode cX6_write 9 = .ok (.invokevirtual 131, 3) := by decide +kernel
theorem dX6_write_12 : decode cX6_write 12 = .ok (.putfield 120, 3) := by decide +kernel
theorem dX6_write_15 : decode cX6_write 15 = .ok (.aload_n 0, 1) := by decide +kernel
theorem dX6_write_16 : decode cX6_write 16 = .ok (.getfield 120, 3) := by decide +kernel
theorem dX6_write_19 : decode cX6_write 19 = .ok (.ifCond .le 5, 3) := by decide +kernel
theorem dX6_write_22 : decode cX6_write 22 = .ok (.iconst 0, 1) := by decide +kernel
theorem dX6_write_23 : decode cX6_write 23 = .ok (.ireturn, 1) := by decide +kernel
theorem dX6_write_24 : decode cX6_write 24 = .ok (.aload_n 0, 1) := by decide +kernel
theorem dX6_write_25 : decode cX6_write 25 = .ok (.getfield 18, 3) := by decide +kernel
theorem dX6_write_28 : decode cX6_write 28 = .ok (.bipush 100, 2) := by decide +kernel
theorem dX6_write_30 : decode cX6_write 30 = .ok (.iload_n 1, 1) := by decide +kernel
theorem dX6_write_31 : decode cX6_write 31 = .ok (.imul, 1) := by decide +kernel
theorem dX6_write_32 : decode cX6_write 32 = .ok (.iload_n 2, 1) := by decide +kernel
theorem dX6_write_33 : decode cX6_write 33 = .ok (.iadd, 1) := by decide +kernel
theorem dX6_write_34 : decode cX6_write 34 = .ok (.aload_n 0, 1) := by decide +kernel
theorem dX6_write_35 : decode cX6_write 35 = .ok (.getfield 9, 3) := by decide +kernel
theorem dX6_write_38 : decode cX6_write 38 = .ok (.iload_n 1, 1) := by decide +kernel
theorem dX6_write_39 : decode cX6_write 39 = .ok (.iaload, 1) := by decide +kernel
theorem dX6_write_40 : decode cX6_write 40 = .ok (.lload_n 3, 1) := by decide +kernel
theorem dX6_write_41 : decode cX6_write 41 = .ok (.invokestatic 135, 3) := by decide +kernel
theorem dX6_write_44 : decode cX6_write 44 = .ok (.lastore, 1) := by decide +kernel
theorem dX6_write_45 : decode cX6_write 45 = .ok (.iconst 1, 1) := by decide +kernel
theorem dX6_write_46 : decode cX6_write 46 = .ok (.ireturn, 1) := by decide +kernel
theorem dX6_read_0 : decode cX6_read 0 = .ok (.aload_n 0, 1) := by decide +kernel
theorem dX6_read_1 : decode cX6_read 1 = .ok (.iconst 0, 1) := by decide +kernel
theorem dX6_read_2 : decode cX6_read 2 = .ok (.putfield 117, 3) := by decide +kernel
theorem dX6_read_5 : decode cX6_read 5 = .ok (.aload_n 0, 1) := by decide +kernel
theorem dX6_read_6 : decode cX6_read 6 = .ok (.aload_n 0, 1) := by decide +kernel
theorem dX6_read_7 : decode cX6_read 7 = .ok (.iload_n 1, 1) := by decide +kernel
theorem dX6_read_8 : decode cX6_read 8 = .ok (.iload_n 2, 1) := by decide +kernel
theorem dX6_read_9 : decode cX6_read 9 = .ok (.invokevirtual 131, 3) := by decide +kernel
theorem dX6_read_12 : decode cX6_read 12 = .ok (.putfield 120, 3) := by decide +kernel
theorem dX6_read_15 : decode cX6_read 15 = .ok (.aload_n 0, 1) := by decide +kernel
theorem dX6_read_16 : decode cX6_read 16 = .ok (.getfield 120, 3) := by decide +kernel
theorem dX6_read_19 : decode cX6_read 19 = .ok (.ifCond .le 9, 3) := by decide +kernel
theorem dX6_read_22 : decode cX6_read 22 = .ok (.ldc2_w 139, 3) := by decide +kernel
theorem dX6_read_25 : decode cX6_read 25 = .ok (.goto 14, 3) := by decide +kernel
theorem dX6_read_28 : decode cX6_read 28 = .ok (.aload_n 0, 1) := by decide +kernel
theorem dX6_read_29 : decode cX6_read 29 = .ok (.getfield 18, 3) := by decide +kernel
theorem dX6_read_32 : decode cX6_read 32 = .ok (.bipush 100, 2) := by decide +kernel
theorem dX6_read_34 : decode cX6_read 34 = .ok (.iload_n 1, 1) := by decide +kernel
theorem dX6_read_35 : decode cX6_read 35 = .ok (.imul, 1) := by decide +kernel
theorem dX6_read_36 : decode cX6_read 36 = .ok (.iload_n 2, 1) := by decide +kernel
theorem dX6_read_37 : decode cX6_read 37 = .ok (.iadd, 1) := by decide +kernel
theorem dX6_read_38 : decode cX6_read 38 = .ok (.laload, 1) := by decide +kernel
theorem dX6_read_39 : decode cX6_read 39 = .ok (.lreturn, 1) := by decide +kernel
theorem dX6_pour_0 : decode cX6_pour 0 = .ok (.aload_n 0, 1) := by decide +kernel
theorem dX6_pour_1 : decode cX6_pour 1 = .ok (.iconst 0, 1) := by decide +kernel
theorem dX6_pour_2 : decode cX6_pour 2 = .ok (.putfield 117, 3) := by decide +kernel
theorem dX6_pour_5 : decode cX6_pour 5 = .ok (.aload_n 0, 1) := by decide +kernel
theorem dX6_pour_6 : decode cX6_pour 6 = .ok (.iconst 0, 1) := by decide +kernel
theorem dX6_pour_7 : decode cX6_pour 7 = .ok (.putfield 120, 3) := by decide +kernel
theorem dX6_pour_10 : decode cX6_pour 10 = .ok (.iload_n 1, 1) := by decide +kernel
theorem dX6_pour_11 : decode cX6_pour 11 = .ok (.ifCond .lt 17, 3) := by decide +kernel
theorem dX6_pour_14 : decode cX6_pour 14 = .ok (.iload_n 1, 1) := by decide +kernel
theorem dX6_pour_15 : decode cX6_pour 15 = .ok (.iconst 4, 1) := by decide +kernel
theorem dX6_pour_16 : decode cX6_pour 16 = .ok (.if_icmp .ge 12, 3) := by decide +kernel
theorem dX6_pour_19 : decode cX6_pour 19 = .ok (.iload_n 3, 1) := by decide +kernel
theorem dX6_pour_20 : decode cX6_pour 20 = .ok (.ifCond .lt 8, 3) := by decide +kernel
theorem dX6_pour_23 : decode cX6_pour 23 = .ok (.iload_n 3, 1) := by decide +kernel
theorem dX6_pour_24 : decode cX6_pour 24 = .ok (.iconst 4, 1) := by decide +kernel
theorem dX6_pour_25 : decode cX6_pour 25 = .ok (.if_icmp .lt 9, 3) := by decide +kernel
theorem dX6_pour_28 : decode cX6_pour 28 = .ok (.aload_n 0, 1) := by decide +kernel
theorem dX6_pour_29 : decode cX6_pour 29 = .ok (.iconst 1, 1) := by decide +kernel
theorem dX6_pour_30 : decode cX6_pour 30 = .ok (.invokevirtual 123, 3) := by decide +kernel
theorem dX6_pour_33 : decode cX6_pour 33 = .ok (.ireturn, 1) := by decide +kernel
theorem dX6_pour_34 : decode cX6_pour 34 = .ok (.aload_n 0, 1) := by decide +kernel
theorem dX6_pour_35 : decode cX6_pour 35 = .ok (.getfield 15, 3) := by decide +kernel
theorem dX6_pour_38 : decode cX6_pour 38 = .ok (.iload_n 1, 1) := by decide +kernel
theorem dX6_pour_39 : decode cX6_pour 39 = .ok (.iaload, 1) := by decide +kernel
theorem dX6_pour_40 : decode cX6_pour 40 = .ok (.ifCond .lt 12, 3) := by decide +kernel
theorem dX6_pour_43 : decode cX6_pour 43 = .ok (.aload_n 0, 1) := by decide +kernel
theorem dX6_pour_44 : decode cX6_pour 44 = .ok (.getfield 15, 3) := by decide +kernel
theorem dX6_pour_47 : decode cX6_pour 47 = .ok (.iload_n 3, 1) := by decide +kernel
theorem dX6_pour_48 : decode cX6_pour 48 = .ok (.iaload, 1) := by decide +kernel
theorem dX6_pour_49 : decode cX6_pour 49 = .ok (.ifCond .ge 9, 3) := by decide +kernel
theorem dX6_pour_52 : decode cX6_pour 52 = .ok (.aload_n 0, 1) := by decide +kernel
theorem dX6_pour_53 : decode cX6_pour 53 = .ok (.iconst 3, 1) := by decide +kernel
theorem dX6_pour_54 : decode cX6_pour 54 = .ok (.invokevirtual 123, 3) := by decide +kernel
theorem dX6_pour_57 : decode cX6_pour 57 = .ok (.ireturn, 1) := by decide +kernel
theorem dX6_pour_58 : decode cX6_pour 58 = .ok (.aload_n 0, 1) := by decide +kernel
theorem dX6_pour_59 : decode cX6_pour 59 = .ok (.getfield 9, 3) := by decide +kernel
theorem dX6_pour_62 : decode cX6_pour 62 = .ok (.iload_n 1, 1) := by decide +kernel
theorem dX6_pour_63 : decode cX6_pour 63 = .ok (.iaload, 1) := by decide +kernel
theorem dX6_pour_64 : decode cX6_pour 64 = .ok (.aload_n 0, 1) := by decide +kernel
theorem dX6_pour_65 : decode cX6_pour 65 = .ok (.getfield 9, 3) := by decide +kernel
theorem dX6_pour_68 : decode cX6_pour 68 = .ok (.iload_n 3, 1) := by decide +kernel
theorem dX6_pour_69 : decode cX6_pour 69 = .ok (.iaload, 1) := by decide +kernel
theorem dX6_pour_70 : decode cX6_pour 70 = .ok (.if_icmp .eq 10, 3) := by decide +kernel
theorem dX6_pour_73 : decode cX6_pour 73 = .ok (.aload_n 0, 1) := by decide +kernel
theorem dX6_pour_74 : decode cX6_pour 74 = .ok (.bipush 11, 2) := by decide +kernel
theorem dX6_pour_76 : decode cX6_pour 76 = .ok (.invokevirtual 123, 3) := by decide +kernel
theorem dX6_pour_79 : decode cX6_pour 79 = .ok (.ireturn, 1) := by decide +kernel
theorem dX6_pour_80 : decode cX6_pour 80 = .ok (.iload 5, 2) := by decide +kernel
theorem dX6_pour_82 : decode cX6_pour 82 = .ok (.ifCond .ge 10, 3) := by decide +kernel
theorem dX6_pour_85 : decode cX6_pour 85 = .ok (.aload_n 0, 1) := by decide +kernel
theorem dX6_pour_86 : decode cX6_pour 86 = .ok (.bipush 6, 2) := by decide +kernel
theorem dX6_pour_88 : decode cX6_pour 88 = .ok (.invokevirtual 123, 3) := by decide +kernel
theorem dX6_pour_91 : decode cX6_pour 91 = .ok (.ireturn, 1) := by decide +kernel
theorem dX6_pour_92 : decode cX6_pour 92 = .ok (.iload_n 2, 1) := by decide +kernel
theorem dX6_pour_93 : decode cX6_pour 93 = .ok (.ifCond .lt 43, 3) := by decide +kernel
theorem dX6_pour_96 : decode cX6_pour 96 = .ok (.iload 4, 2) := by decide +kernel
theorem dX6_pour_98 : decode cX6_pour 98 = .ok (.ifCond .lt 38, 3) := by decide +kernel
theorem dX6_pour_101 : decode cX6_pour 101 = .ok (.iload_n 2, 1) := by decide +kernel
theorem dX6_pour_102 : decode cX6_pour 102 = .ok (.i2l, 1) := by decide +kernel
theorem dX6_pour_103 : decode cX6_pour 103 = .ok (.iload 5, 2) := by decide +kernel
theorem dX6_pour_105 : decode cX6_pour 105 = .ok (.i2l, 1) := by decide +kernel
theorem dX6_pour_106 : decode cX6_pour 106 = .ok (.ladd, 1) := by decide +kernel
theorem dX6_pour_107 : decode cX6_pour 107 = .ok (.aload_n 0, 1) := by decide +kernel
theorem dX6_pour_108 : decode cX6_pour 108 = .ok (.getfield 15, 3) := by decide +kernel
theorem dX6_pour_111 : decode cX6_pour 111 = .ok (.iload_n 1, 1) := by decide +kernel
theorem dX6_pour_112 : decode cX6_pour 112 = .ok (.iaload, 1) := by decide +kernel
theorem dX6_pour_113 : decode cX6_pour 113 = .ok (.i2l, 1) := by decide +kernel
theorem dX6_pour_114 : decode cX6_pour 114 = .ok (.lcmp, 1) := by decide +kernel
theorem dX6_pour_115 : decode cX6_pour 115 = .ok (.ifCond .gt 21, 3) := by decide +kernel
theorem dX6_pour_118 : decode cX6_pour 118 = .ok (.iload 4, 2) := by decide +kernel
theorem dX6_pour_120 : decode cX6_pour 120 = .ok (.i2l, 1) := by decide +kernel
theorem dX6_pour_121 : decode cX6_pour 121 = .ok (.iload 5, 2) := by decide +kernel
theorem dX6_pour_123 : decode cX6_pour 123 = .ok (.i2l, 1) := by decide +kernel
theorem dX6_pour_124 : decode cX6_pour 124 = .ok (.ladd, 1) := by decide +kernel
theorem dX6_pour_125 : decode cX6_pour 125 = .ok (.aload_n 0, 1) := by decide +kernel
theorem dX6_pour_126 : decode cX6_pour 126 = .ok (.getfield 15, 3) := by decide +kernel
theorem dX6_pour_129 : decode cX6_pour 129 = .ok (.iload_n 3, 1) := by decide +kernel
theorem dX6_pour_130 : decode cX6_pour 130 = .ok (.iaload, 1) := by decide +kernel
theorem dX6_pour_131 : decode cX6_pour 131 = .ok (.i2l, 1) := by decide +kernel
theorem dX6_pour_132 : decode cX6_pour 132 = .ok (.lcmp, 1) := by decide +kernel
theorem dX6_pour_133 : decode cX6_pour 133 = .ok (.ifCond .le 9, 3) := by decide +kernel
theorem dX6_pour_136 : decode cX6_pour 136 = .ok (.aload_n 0, 1) := by decide +kernel
theorem dX6_pour_137 : decode cX6_pour 137 = .ok (.iconst 4, 1) := by decide +kernel
theorem dX6_pour_138 : decode cX6_pour 138 = .ok (.invokevirtual 123, 3) := by decide +kernel
theorem dX6_pour_141 : decode cX6_pour 141 = .ok (.ireturn, 1) := by decide +kernel
theorem dX6_pour_142 : decode cX6_pour 142 = .ok (.iload_n 2, 1) := by decide +kernel
theorem dX6_pour_143 : decode cX6_pour 143 = .ok (.iload 4, 2) := by decide +kernel
theorem dX6_pour_145 : decode cX6_pour 145 = .ok (.if_icmp .ge 7, 3) := by decide +kernel
theorem dX6_pour_148 : decode cX6_pour 148 = .ok (.iconst 1, 1) := by decide +kernel
theorem dX6_pour_149 : decode cX6_pour 149 = .ok (.goto 4, 3) := by decide +kernel
theorem dX6_pour_152 : decode cX6_pour 152 = .ok (.iconst 0, 1) := by decide +kernel
theorem dX6_pour_153 : decode cX6_pour 153 = .ok (.istore 6, 2) := by decide +kernel
theorem dX6_pour_155 : decode cX6_pour 155 = .ok (.iconst 0, 1) := by decide +kernel
theorem dX6_pour_156 : decode cX6_pour 156 = .ok (.istore 7, 2) := by decide +kernel
theorem dX6_pour_158 : decode cX6_pour 158 = .ok (.iload 7, 2) := by decide +kernel
theorem dX6_pour_160 : decode cX6_pour 160 = .ok (.iload 5, 2) := by decide +kernel
theorem dX6_pour_162 : decode cX6_pour 162 = .ok (.if_icmp .ge 57, 3) := by decide +kernel
theorem dX6_pour_165 : decode cX6_pour 165 = .ok (.iload 6, 2) := by decide +kernel
theorem dX6_pour_167 : decode cX6_pour 167 = .ok (.ifCond .eq 13, 3) := by decide +kernel
theorem dX6_pour_170 : decode cX6_pour 170 = .ok (.iload 5, 2) := by decide +kernel
theorem dX6_pour_172 : decode cX6_pour 172 = .ok (.iconst 1, 1) := by decide +kernel
theorem dX6_pour_173 : decode cX6_pour 173 = .ok (.isub, 1) := by decide +kernel
theorem dX6_pour_174 : decode cX6_pour 174 = .ok (.iload 7, 2) := by decide +kernel
theorem dX6_pour_176 : decode cX6_pour 176 = .ok (.isub, 1) := by decide +kernel
theorem dX6_pour_177 : decode cX6_pour 177 = .ok (.goto 5, 3) := by decide +kernel
theorem dX6_pour_180 : decode cX6_pour 180 = .ok (.iload 7, 2) := by decide +kernel
theorem dX6_pour_182 : decode cX6_pour 182 = .ok (.istore 8, 2) := by decide +kernel
theorem dX6_pour_184 : decode cX6_pour 184 = .ok (.aload_n 0, 1) := by decide +kernel
theorem dX6_pour_185 : decode cX6_pour 185 = .ok (.getfield 18, 3) := by decide +kernel
theorem dX6_pour_188 : decode cX6_pour 188 = .ok (.bipush 100, 2) := by decide +kernel
theorem dX6_pour_190 : decode cX6_pour 190 = .ok (.iload_n 3, 1) := by decide +kernel
theorem dX6_pour_191 : decode cX6_pour 191 = .ok (.imul, 1) := by decide +kernel
theorem dX6_pour_192 : decode cX6_pour 192 = .ok (.iload 4, 2) := by decide +kernel
theorem dX6_pour_194 : decode cX6_pour 194 = .ok (.iadd, 1) := by decide +kernel
theorem dX6_pour_195 : decode cX6_pour 195 = .ok (.iload 8, 2) := by decide +kernel
theorem dX6_pour_197 : decode cX6_pour 197 = .ok (.iadd, 1) := by decide +kernel
theorem dX6_pour_198 : decode cX6_pour 198 = .ok (.aload_n 0, 1) := by decide +kernel
theorem dX6_pour_199 : decode cX6_pour 199 = .ok (.getfield 18, 3) := by decide +kernel
theorem dX6_pour_202 : decode cX6_pour 202 = .ok (.bipush 100, 2) := by decide +kernel
theorem dX6_pour_204 : decode cX6_pour 204 = .ok (.iload_n 1, 1) := by decide +kernel
theorem dX6_pour_205 : decode cX6_pour 205 = .ok (.imul, 1) := by decide +kernel
theorem dX6_pour_206 : decode cX6_pour 206 = .ok (.iload_n 2, 1) := by decide +kernel
theorem dX6_pour_207 : decode cX6_pour 207 = .ok (.iadd, 1) := by decide +kernel
theorem dX6_pour_208 : decode cX6_pour 208 = .ok (.iload 8, 2) := by decide +kernel
theorem dX6_pour_210 : decode cX6_pour 210 = .ok (.iadd, 1) := by decide +kernel
theorem dX6_pour_211 : decode cX6_pour 211 = .ok (.laload, 1) := by decide +kernel
theorem dX6_pour_212 : decode cX6_pour 212 = .ok (.lastore, 1) := by decide +kernel
theorem dX6_pour_213 : decode cX6_pour 213 = .ok (.iinc 7 1, 3) := by decide +kernel
theorem dX6_pour_216 : decode cX6_pour 216 = .ok (.goto (-58), 3) := by decide +kernel
theorem dX6_pour_219 : decode cX6_pour 219 = .ok (.iconst 1, 1) := by decide +kernel
theorem dX6_pour_220 : decode cX6_pour 220 = .ok (.ireturn, 1) := by decide +kernel
theorem dX6_ring_0 : decode cX6_ring 0 = .ok (.aload_n 0, 1) := by decide +kernel
theorem dX6_ring_1 : decode cX6_ring 1 = .ok (.iconst 0, 1) := by decide +kernel
theorem dX6_ring_2 : decode cX6_ring 2 = .ok (.putfield 117, 3) := by decide +kernel
theorem dX6_ring_5 : decode cX6_ring 5 = .ok (.aload_n 0, 1) := by decide +kernel
theorem dX6_ring_6 : decode cX6_ring 6 = .ok (.iconst 0, 1) := by decide +kernel
theorem dX6_ring_7 : decode cX6_ring 7 = .ok (.putfield 120, 3) := by decide +kernel
theorem dX6_ring_10 : decode cX6_ring 10 = .ok (.iload_n 1, 1) := by decide +kernel
theorem dX6_ring_11 : decode cX6_ring 11 = .ok (.iconst 2, 1) := by decide +kernel
theorem dX6_ring_12 : decode cX6_ring 12 = .ok (.if_icmp .lt 10, 3) := by decide +kernel
theorem dX6_ring_15 : decode cX6_ring 15 = .ok (.iload_n 1, 1) := by decide +kernel
theorem dX6_ring_16 : decode cX6_ring 16 = .ok (.sipush 4096, 3) := by decide +kernel
theorem dX6_ring_19 : decode cX6_ring 19 = .ok (.if_icmp .le 9, 3) := by decide +kernel
theorem dX6_ring_22 : decode cX6_ring 22 = .ok (.aload_n 0, 1) := by decide +kernel
theorem dX6_ring_23 : decode cX6_ring 23 = .ok (.iconst 2, 1) := by decide +kernel
theorem dX6_ring_24 : decode cX6_ring 24 = .ok (.invokevirtual 123, 3) := by decide +kernel
theorem dX6_ring_27 : decode cX6_ring 27 = .ok (.ireturn, 1) := by decide +kernel
theorem dX6_ring_28 : decode cX6_ring 28 = .ok (.aload_n 0, 1) := by decide +kernel
theorem dX6_ring_29 : decode cX6_ring 29 = .ok (.iload_n 1, 1) := by decide +kernel
theorem dX6_ring_30 : decode cX6_ring 30 = .ok (.putfield 22, 3) := by decide +kernel
theorem dX6_ring_33 : decode cX6_ring 33 = .ok (.aload_n 0, 1) := by decide +kernel
theorem dX6_ring_34 : decode cX6_ring 34 = .ok (.iconst 0, 1) := by decide +kernel
theorem dX6_ring_35 : decode cX6_ring 35 = .ok (.putfield 141, 3) := by decide +kernel
theorem dX6_ring_38 : decode cX6_ring 38 = .ok (.iconst 0, 1) := by decide +kernel
theorem dX6_ring_39 : decode cX6_ring 39 = .ok (.istore_n 2, 1) := by decide +kernel
theorem dX6_ring_40 : decode cX6_ring 40 = .ok (.iload_n 2, 1) := by decide +kernel
theorem dX6_ring_41 : decode cX6_ring 41 = .ok (.sipush 576, 3) := by decide +kernel
theorem dX6_ring_44 : decode cX6_ring 44 = .ok (.if_icmp .ge 16, 3) := by decide +kernel
theorem dX6_ring_47 : decode cX6_ring 47 = .ok (.aload_n 0, 1) := by decide +kernel
theorem dX6_ring_48 : decode cX6_ring 48 = .ok (.getfield 41, 3) := by decide +kernel
theorem dX6_ring_51 : decode cX6_ring 51 = .ok (.iload_n 2, 1) := by decide +kernel
theorem dX6_ring_52 : decode cX6_ring 52 = .ok (.iconst 0, 1) := by decide +kernel
theorem dX6_ring_53 : decode cX6_ring 53 = .ok (.bastore, 1) := by decide +kernel
theorem dX6_ring_54 : decode cX6_ring 54 = .ok (.iinc 2 1, 3) := by decide +kernel
theorem dX6_ring_57 : decode cX6_ring 57 = .ok (.goto (-17), 3) := by decide +kernel
theorem dX6_ring_60 : decode cX6_ring 60 = .ok (.iconst 1, 1) := by decide +kernel
theorem dX6_ring_61 : decode cX6_ring 61 = .ok (.ireturn, 1) := by decide +kernel
theorem dX6_clears_0 : decode cX6_clears 0 = .ok (.aload_n 0, 1) := by decide +kernel
theorem dX6_clears_1 : decode cX6_clears 1 = .ok (.iconst 0, 1) := by decide +kernel
theorem dX6_clears_2 : decode cX6_clears 2 = .ok (.putfield 144, 3) := by decide +kernel
theorem dX6_clears_5 : decode cX6_clears 5 = .ok (.iconst 0, 1) := by decide +kernel
theorem dX6_clears_6 : decode cX6_clears 6 = .ok (.istore_n 1, 1) := by decide +kernel
theorem dX6_clears_7 : decode cX6_clears 7 = .ok (.iload_n 1, 1) := by decide +kernel
theorem dX6_clears_8 : decode cX6_clears 8 = .ok (.bipush 24, 2) := by decide +kernel
theorem dX6_clears_10 : decode cX6_clears 10 = .ok (.if_icmp .ge 16, 3) := by decide +kernel
theorem dX6_clears_13 : decode cX6_clears 13 = .ok (.aload_n 0, 1) := by decide +kernel
theorem dX6_clears_14 : decode cX6_clears 14 = .ok (.getfield 38, 3) := by decide +kernel
theorem dX6_clears_17 : decode cX6_clears 17 = .ok (.iload_n 1, 1) := by decide +kernel
theorem dX6_clears_18 : decode cX6_clears 18 = .ok (.lconst 0, 1) := by decide +kernel
theorem dX6_clears_19 : decode cX6_clears 19 = .ok (.lastore, 1) := by decide +kernel
theorem dX6_clears_20 : decode cX6_clears 20 = .ok (.iinc 1 1, 3) := by decide +kernel
theorem dX6_clears_23 : decode cX6_clears 23 = .ok (.goto (-16), 3) := by decide +kernel
theorem dX6_clears_26 : decode cX6_clears 26 = .ok (.return_, 1) := by decide +kernel
theorem dX6_isBeater_0 : decode cX6_isBeater 0 = .ok (.iload_n 1, 1) := by decide +kernel
theorem dX6_isBeater_1 : decode cX6_isBeater 1 = .ok (.ifCond .lt 15, 3) := by decide +kernel
theorem dX6_isBeater_4 : decode cX6_isBeater 4 = .ok (.iload_n 1, 1) := by decide +kernel
theorem dX6_isBeater_5 : decode cX6_isBeater 5 = .ok (.aload_n 0, 1) := by decide +kernel
theorem dX6_isBeater_6 : decode cX6_isBeater 6 = .ok (.getfield 141, 3) := by decide +kernel
theorem dX6_isBeater_9 : decode cX6_isBeater 9 = .ok (.if_icmp .ge 7, 3) := by decide +kernel
theorem dX6_isBeater_12 : decode cX6_isBeater 12 = .ok (.iconst 1, 1) := by decide +kernel
theorem dX6_isBeater_13 : decode cX6_isBeater 13 = .ok (.goto 4, 3) := by decide +kernel
theorem dX6_isBeater_16 : decode cX6_isBeater 16 = .ok (.iconst 0, 1) := by decide +kernel
theorem dX6_isBeater_17 : decode cX6_isBeater 17 = .ok (.ireturn, 1) := by decide +kernel
theorem dX6_isPhase_0 : decode cX6_isPhase 0 = .ok (.lload_n 1, 1) := by decide +kernel
theorem dX6_isPhase_1 : decode cX6_isPhase 1 = .ok (.lconst 0, 1) := by decide +kernel
theorem dX6_isPhase_2 : decode cX6_isPhase 2 = .ok (.lcmp, 1) := by decide +kernel
theorem dX6_isPhase_3 : decode cX6_isPhase 3 = .ok (.ifCond .lt 17, 3) := by decide +kernel
theorem dX6_isPhase_6 : decode cX6_isPhase 6 = .ok (.lload_n 1, 1) := by decide +kernel
theorem dX6_isPhase_7 : decode cX6_isPhase 7 = .ok (.aload_n 0, 1) := by decide +kernel
theorem dX6_isPhase_8 : decode cX6_isPhase 8 = .ok (.getfield 22, 3) := by decide +kernel
theorem dX6_isPhase_11 : decode cX6_isPhase 11 = .ok (.i2l, 1) := by decide +kernel
theorem dX6_isPhase_12 : decode cX6_isPhase 12 = .ok (.lcmp, 1) := by decide +kernel
theorem dX6_isPhase_13 : decode cX6_isPhase 13 = .ok (.ifCond .ge 7, 3) := by decide +kernel
theorem dX6_isPhase_16 : decode cX6_isPhase 16 = .ok (.iconst 1, 1) := by decide +kernel
theorem dX6_isPhase_17 : decode cX6_isPhase 17 = .ok (.goto 4, 3) := by decide +kernel
theorem dX6_isPhase_20 : decode cX6_isPhase 20 = .ok (.iconst 0, 1) := by decide +kernel
theorem dX6_isPhase_21 : decode cX6_isPhase 21 = .ok (.ireturn, 1) := by decide +kernel
theorem dX6_beater_0 : decode cX6_beater 0 = .ok (.aload_n 0, 1) := by decide +kernel
theorem dX6_beater_1 : decode cX6_beater 1 = .ok (.iconst 0, 1) := by decide +kernel
theorem dX6_beater_2 : decode cX6_beater 2 = .ok (.putfield 117, 3) := by decide +kernel
theorem dX6_beater_5 : decode cX6_beater 5 = .ok (.aload_n 0, 1) := by decide +kernel
theorem dX6_beater_6 : decode cX6_beater 6 = .ok (.iconst 0, 1) := by decide +kernel
theorem dX6_beater_7 : decode cX6_beater 7 = .ok (.putfield 120, 3) := by decide +kernel
theorem dX6_beater_10 : decode cX6_beater 10 = .ok (.iload_n 1, 1) := by decide +kernel
theorem dX6_beater_11 : decode cX6_beater 11 = .ok (.ifCond .lt 17, 3) := by decide +kernel
theorem dX6_beater_14 : decode cX6_beater 14 = .ok (.iload_n 1, 1) := by decide +kernel
theorem dX6_beater_15 : decode cX6_beater 15 = .ok (.iconst 3, 1) := by decide +kernel
theorem dX6_beater_16 : decode cX6_beater 16 = .ok (.if_icmp .gt 12, 3) := by decide +kernel
theorem dX6_beater_19 : decode cX6_beater 19 = .ok (.aload_n 0, 1) := by decide +kernel
theorem dX6_beater_20 : decode cX6_beater 20 = .ok (.iload_n 2, 1) := by decide +kernel
theorem dX6_beater_21 : decode cX6_beater 21 = .ok (.i2l, 1) := by decide +kernel
theorem dX6_beater_22 : decode cX6_beater 22 = .ok (.invokevirtual 147, 3) := by decide +kernel
theorem dX6_beater_25 : decode cX6_beater 25 = .ok (.ifCond .ne 9, 3) := by decide +kernel
theorem dX6_beater_28 : decode cX6_beater 28 = .ok (.aload_n 0, 1) := by decide +kernel
theorem dX6_beater_29 : decode cX6_beater 29 = .ok (.iconst 2, 1) := by decide +kernel
theorem dX6_beater_30 : decode cX6_beater 30 = .ok (.invokevirtual 151, 3) := by decide +kernel
theorem dX6_beater_33 : decode cX6_beater 33 = .ok (.ireturn, 1) := by decide +kernel
theorem dX6_beater_34 : decode cX6_beater 34 = .ok (.aload_n 0, 1) := by decide +kernel
theorem dX6_beater_35 : decode cX6_beater 35 = .ok (.getfield 141, 3) := by decide +kernel
theorem dX6_beater_38 : decode cX6_beater 38 = .ok (.bipush 24, 2) := by decide +kernel
theorem dX6_beater_40 : decode cX6_beater 40 = .ok (.if_icmp .ne 10, 3) := by decide +kernel
theorem dX6_beater_43 : decode cX6_beater 43 = .ok (.aload_n 0, 1) := by decide +kernel
theorem dX6_beater_44 : decode cX6_beater 44 = .ok (.bipush 7, 2) := by decide +kernel
theorem dX6_beater_46 : decode cX6_beater 46 = .ok (.invokevirtual 151, 3) := by decide +kernel
theorem dX6_beater_49 : decode cX6_beater 49 = .ok (.ireturn, 1) := by decide +kernel
theorem dX6_beater_50 : decode cX6_beater 50 = .ok (.aload_n 0, 1) := by decide +kernel
theorem dX6_beater_51 : decode cX6_beater 51 = .ok (.getfield 29, 3) := by decide +kernel
theorem dX6_beater_54 : decode cX6_beater 54 = .ok (.aload_n 0, 1) := by decide +kernel
theorem dX6_beater_55 : decode cX6_beater 55 = .ok (.getfield 141, 3) := by decide +kernel
theorem dX6_beater_58 : decode cX6_beater 58 = .ok (.iload_n 1, 1) := by decide +kernel
theorem dX6_beater_59 : decode cX6_beater 59 = .ok (.iastore, 1) := by decide +kernel
theorem dX6_beater_60 : decode cX6_beater 60 = .ok (.aload_n 0, 1) := by decide +kernel
theorem dX6_beater_61 : decode cX6_beater 61 = .ok (.getfield 32, 3) := by decide +kernel
theorem dX6_beater_64 : decode cX6_beater 64 = .ok (.aload_n 0, 1) := by decide +kernel
theorem dX6_beater_65 : decode cX6_beater 65 = .ok (.getfield 141, 3) := by decide +kernel
theorem dX6_beater_68 : decode cX6_beater 68 = .ok (.iload_n 2, 1) := by decide +kernel
theorem dX6_beater_69 : decode cX6_beater 69 = .ok (.iastore, 1) := by decide +kernel
theorem dX6_beater_70 : decode cX6_beater 70 = .ok (.aload_n 0, 1) := by decide +kernel
theorem dX6_beater_71 : decode cX6_beater 71 = .ok (.getfield 38, 3) := by decide +kernel
theorem dX6_beater_74 : decode cX6_beater 74 = .ok (.aload_n 0, 1) := by decide +kernel
theorem dX6_beater_75 : decode cX6_beater 75 = .ok (.getfield 141, 3) := by decide +kernel
theorem dX6_beater_78 : decode cX6_beater 78 = .ok (.lconst 0, 1) := by decide +kernel
theorem dX6_beater_79 : decode cX6_beater 79 = .ok (.lastore, 1) := by decide +kernel
theorem dX6_beater_80 : decode cX6_beater 80 = .ok (.aload_n 0, 1) := by decide +kernel
theorem dX6_beater_81 : decode cX6_beater 81 = .ok (.dup, 1) := by decide +kernel
theorem dX6_beater_82 : decode cX6_beater 82 = .ok (.getfield 141, 3) := by decide +kernel
theorem dX6_beater_85 : decode cX6_beater 85 = .ok (.iconst 1, 1) := by decide +kernel
theorem dX6_beater_86 : decode cX6_beater 86 = .ok (.iadd, 1) := by decide +kernel
theorem dX6_beater_87 : decode cX6_beater 87 = .ok (.putfield 141, 3) := by decide +kernel
theorem dX6_beater_90 : decode cX6_beater 90 = .ok (.aload_n 0, 1) := by decide +kernel
theorem dX6_beater_91 : decode cX6_beater 91 = .ok (.getfield 141, 3) := by decide +kernel
theorem dX6_beater_94 : decode cX6_beater 94 = .ok (.iconst 1, 1) := by decide +kernel
theorem dX6_beater_95 : decode cX6_beater 95 = .ok (.isub, 1) := by decide +kernel
theorem dX6_beater_96 : decode cX6_beater 96 = .ok (.ireturn, 1) := by decide +kernel
theorem dX6_kind_0 : decode cX6_kind 0 = .ok (.aload_n 0, 1) := by decide +kernel
theorem dX6_kind_1 : decode cX6_kind 1 = .ok (.iconst 0, 1) := by decide +kernel
theorem dX6_kind_2 : decode cX6_kind 2 = .ok (.putfield 117, 3) := by decide +kernel
theorem dX6_kind_5 : decode cX6_kind 5 = .ok (.aload_n 0, 1) := by decide +kernel
theorem dX6_kind_6 : decode cX6_kind 6 = .ok (.iconst 0, 1) := by decide +kernel
theorem dX6_kind_7 : decode cX6_kind 7 = .ok (.putfield 120, 3) := by decide +kernel
theorem dX6_kind_10 : decode cX6_kind 10 = .ok (.aload_n 0, 1) := by decide +kernel
theorem dX6_kind_11 : decode cX6_kind 11 = .ok (.iload_n 1, 1) := by decide +kernel
theorem dX6_kind_12 : decode cX6_kind 12 = .ok (.invokevirtual 154, 3) := by decide +kernel
theorem dX6_kind_15 : decode cX6_kind 15 = .ok (.ifCond .eq 12, 3) := by decide +kernel
theorem dX6_kind_18 : decode cX6_kind 18 = .ok (.iload_n 2, 1) := by decide +kernel
theorem dX6_kind_19 : decode cX6_kind 19 = .ok (.ifCond .lt 8, 3) := by decide +kernel
theorem dX6_kind_22 : decode cX6_kind 22 = .ok (.iload_n 2, 1) := by decide +kernel
theorem dX6_kind_23 : decode cX6_kind 23 = .ok (.iconst 3, 1) := by decide +kernel
theorem dX6_kind_24 : decode cX6_kind 24 = .ok (.if_icmp .le 9, 3) := by decide +kernel
theorem dX6_kind_27 : decode cX6_kind 27 = .ok (.aload_n 0, 1) := by decide +kernel
theorem dX6_kind_28 : decode cX6_kind 28 = .ok (.iconst 2, 1) := by decide +kernel
theorem dX6_kind_29 : decode cX6_kind 29 = .ok (.invokevirtual 123, 3) := by decide +kernel
theorem dX6_kind_32 : decode cX6_kind 32 = .ok (.ireturn, 1) := by decide +kernel
theorem dX6_kind_33 : decode cX6_kind 33 = .ok (.aload_n 0, 1) := by decide +kernel
theorem dX6_kind_34 : decode cX6_kind 34 = .ok (.getfield 29, 3) := by decide +kernel
theorem dX6_kind_37 : decode cX6_kind 37 = .ok (.iload_n 1, 1) := by decide +kernel
theorem dX6_kind_38 : decode cX6_kind 38 = .ok (.iload_n 2, 1) := by decide +kernel
theorem dX6_kind_39 : decode cX6_kind 39 = .ok (.iastore, 1) := by decide +kernel
theorem dX6_kind_40 : decode cX6_kind 40 = .ok (.iconst 1, 1) := by decide +kernel
theorem dX6_kind_41 : decode cX6_kind 41 = .ok (.ireturn, 1) := by decide +kernel
theorem dX6_turn_0 : decode cX6_turn 0 = .ok (.aload_n 0, 1) := by decide +kernel
theorem dX6_turn_1 : decode cX6_turn 1 = .ok (.iconst 0, 1) := by decide +kernel
theorem dX6_turn_2 : decode cX6_turn 2 = .ok (.putfield 117, 3) := by decide +kernel
theorem dX6_turn_5 : decode cX6_turn 5 = .ok (.aload_n 0, 1) := by decide +kernel
theorem dX6_turn_6 : decode cX6_turn 6 = .ok (.iconst 0, 1) := by decide +kernel
theorem dX6_turn_7 : decode cX6_turn 7 = .ok (.putfield 120, 3) := by decide +kernel
theorem dX6_turn_10 : decode cX6_turn 10 = .ok (.aload_n 0, 1) := by decide +kernel
theorem dX6_turn_11 : decode cX6_turn 11 = .ok (.iload_n 1, 1) := by decide +kernel
theorem dX6_turn_12 : decode cX6_turn 12 = .ok (.invokevirtual 154, 3) := by decide +kernel
theorem dX6_turn_15 : decode cX6_turn 15 = .ok (.ifCond .eq 12, 3) := by decide +kernel
theorem dX6_turn_18 : decode cX6_turn 18 = .ok (.aload_n 0, 1) := by decide +kernel
theorem dX6_turn_19 : decode cX6_turn 19 = .ok (.iload_n 2, 1) := by decide +kernel
theorem dX6_turn_20 : decode cX6_turn 20 = .ok (.i2l, 1) := by decide +kernel
theorem dX6_turn_21 : decode cX6_turn 21 = .ok (.invokevirtual 147, 3) := by decide +kernel
theorem dX6_turn_24 : decode cX6_turn 24 = .ok (.ifCond .ne 9, 3) := by decide +kernel
theorem dX6_turn_27 : decode cX6_turn 27 = .ok (.aload_n 0, 1) := by decide +kernel
theorem dX6_turn_28 : decode cX6_turn 28 = .ok (.iconst 2, 1) := by decide +kernel
theorem dX6_turn_29 : decode cX6_turn 29 = .ok (.invokevirtual 123, 3) := by decide +kernel
theorem dX6_turn_32 : decode cX6_turn 32 = .ok (.ireturn, 1) := by decide +kernel
theorem dX6_turn_33 : decode cX6_turn 33 = .ok (.aload_n 0, 1) := by decide +kernel
theorem dX6_turn_34 : decode cX6_turn 34 = .ok (.getfield 32, 3) := by decide +kernel
theorem dX6_turn_37 : decode cX6_turn 37 = .ok (.iload_n 1, 1) := by decide +kernel
theorem dX6_turn_38 : decode cX6_turn 38 = .ok (.iload_n 2, 1) := by decide +kernel
theorem dX6_turn_39 : decode cX6_turn 39 = .ok (.iastore, 1) := by decide +kernel
theorem dX6_turn_40 : decode cX6_turn 40 = .ok (.iconst 1, 1) := by decide +kernel
theorem dX6_turn_41 : decode cX6_turn 41 = .ok (.ireturn, 1) := by decide +kernel
theorem dX6_phases_0 : decode cX6_phases 0 = .ok (.aload_n 0, 1) := by decide +kernel
theorem dX6_phases_1 : decode cX6_phases 1 = .ok (.iconst 0, 1) := by decide +kernel
theorem dX6_phases_2 : decode cX6_phases 2 = .ok (.putfield 117, 3) := by decide +kernel
theorem dX6_phases_5 : decode cX6_phases 5 = .ok (.aload_n 0, 1) := by decide +kernel
theorem dX6_phases_6 : decode cX6_phases 6 = .ok (.aload_n 0, 1) := by decide +kernel
theorem dX6_phases_7 : decode cX6_phases 7 = .ok (.iload_n 1, 1) := by decide +kernel
theorem dX6_phases_8 : decode cX6_phases 8 = .ok (.invokevirtual 127, 3) := by decide +kernel
theorem dX6_phases_11 : decode cX6_phases 11 = .ok (.putfield 120, 3) := by decide +kernel
theorem dX6_phases_14 : decode cX6_phases 14 = .ok (.aload_n 0, 1) := by decide +kernel
theorem dX6_phases_15 : decode cX6_phases 15 = .ok (.getfield 120, 3) := by decide +kernel
theorem dX6_phases_18 : decode cX6_phases 18 = .ok (.ifCond .le 5, 3) := by decide +kernel
theorem dX6_phases_21 : decode cX6_phases 21 = .ok (.iconst 0, 1) := by decide +kernel
theorem dX6_phases_22 : decode cX6_phases 22 = .ok (.ireturn, 1) := by decide +kernel
theorem dX6_phases_23 : decode cX6_phases 23 = .ok (.aload_n 0, 1) := by decide +kernel
theorem dX6_phases_24 : decode cX6_phases 24 = .ok (.getfield 15, 3) := by decide +kernel
theorem dX6_phases_27 : decode cX6_phases 27 = .ok (.iload_n 1, 1) := by decide +kernel
theorem dX6_phases_28 : decode cX6_phases 28 = .ok (.iaload, 1) := by decide +kernel
theorem dX6_phases_29 : decode cX6_phases 29 = .ok (.aload_n 0, 1) := by decide +kernel
theorem dX6_phases_30 : decode cX6_phases 30 = .ok (.getfield 141, 3) := by decide +kernel
theorem dX6_phases_33 : decode cX6_phases 33 = .ok (.if_icmp .ge 9, 3) := by decide +kernel
theorem dX6_phases_36 : decode cX6_phases 36 = .ok (.aload_n 0, 1) := by decide +kernel
theorem dX6_phases_37 : decode cX6_phases 37 = .ok (.iconst 4, 1) := by decide +kernel
theorem dX6_phases_38 : decode cX6_phases 38 = .ok (.invokevirtual 123, 3) := by decide +kernel
theorem dX6_phases_41 : decode cX6_phases 41 = .ok (.ireturn, 1) := by decide +kernel
theorem dX6_phases_42 : decode cX6_phases 42 = .ok (.iconst 0, 1) := by decide +kernel
theorem dX6_phases_43 : decode cX6_phases 43 = .ok (.istore_n 2, 1) := by decide +kernel
theorem dX6_phases_44 : decode cX6_phases 44 = .ok (.iload_n 2, 1) := by decide +kernel
theorem dX6_phases_45 : decode cX6_phases 45 = .ok (.aload_n 0, 1) := by decide +kernel
theorem dX6_phases_46 : decode cX6_phases 46 = .ok (.getfield 141, 3) := by decide +kernel
theorem dX6_phases_49 : decode cX6_phases 49 = .ok (.if_icmp .ge 33, 3) := by decide +kernel
theorem dX6_phases_52 : decode cX6_phases 52 = .ok (.aload_n 0, 1) := by decide +kernel
theorem dX6_phases_53 : decode cX6_phases 53 = .ok (.aload_n 0, 1) := by decide +kernel
theorem dX6_phases_54 : decode cX6_phases 54 = .ok (.getfield 18, 3) := by decide +kernel
theorem dX6_phases_57 : decode cX6_phases 57 = .ok (.bipush 100, 2) := by decide +kernel
theorem dX6_phases_59 : decode cX6_phases 59 = .ok (.iload_n 1, 1) := by decide +kernel
theorem dX6_phases_60 : decode cX6_phases 60 = .ok (.imul, 1) := by decide +kernel
theorem dX6_phases_61 : decode cX6_phases 61 = .ok (.iload_n 2, 1) := by decide +kernel
theorem dX6_phases_62 : decode cX6_phases 62 = .ok (.iadd, 1) := by decide +kernel
theorem dX6_phases_63 : decode cX6_phases 63 = .ok (.laload, 1) := by decide +kernel
theorem dX6_phases_64 : decode cX6_phases 64 = .ok (.invokevirtual 147, 3) := by decide +kernel
theorem dX6_phases_67 : decode cX6_phases 67 = .ok (.ifCond .ne 9, 3) := by decide +kernel
theorem dX6_phases_70 : decode cX6_phases 70 = .ok (.aload_n 0, 1) := by decide +kernel
theorem dX6_phases_71 : decode cX6_phases 71 = .ok (.iconst 2, 1) := by decide +kernel
theorem dX6_phases_72 : decode cX6_phases 72 = .ok (.invokevirtual 123, 3) := by decide +kernel
theorem dX6_phases_75 : decode cX6_phases 75 = .ok (.ireturn, 1) := by decide +kernel
theorem dX6_phases_76 : decode cX6_phases 76 = .ok (.iinc 2 1, 3) := by decide +kernel
theorem dX6_phases_79 : decode cX6_phases 79 = .ok (.goto (-35), 3) := by decide +kernel
theorem dX6_phases_82 : decode cX6_phases 82 = .ok (.iconst 0, 1) := by decide +kernel
theorem dX6_phases_83 : decode cX6_phases 83 = .ok (.istore_n 2, 1) := by decide +kernel
theorem dX6_phases_84 : decode cX6_phases 84 = .ok (.iload_n 2, 1) := by decide +kernel
theorem dX6_phases_85 : decode cX6_phases 85 = .ok (.aload_n 0, 1) := by decide +kernel
theorem dX6_phases_86 : decode cX6_phases 86 = .ok (.getfield 141, 3) := by decide +kernel
theorem dX6_phases_89 : decode cX6_phases 89 = .ok (.if_icmp .ge 27, 3) := by decide +kernel
theorem dX6_phases_92 : decode cX6_phases 92 = .ok (.aload_n 0, 1) := by decide +kernel
theorem dX6_phases_93 : decode cX6_phases 93 = .ok (.getfield 32, 3) := by decide +kernel
theorem dX6_phases_96 : decode cX6_phases 96 = .ok (.iload_n 2, 1) := by decide +kernel
theorem dX6_phases_97 : decode cX6_phases 97 = .ok (.aload_n 0, 1) := by decide +kernel
theorem dX6_phases_98 : decode cX6_phases 98 = .ok (.getfield 18, 3) := by decide +kernel
theorem dX6_phases_101 : decode cX6_phases 101 = .ok (.bipush 100, 2) := by decide +kernel
theorem dX6_phases_103 : decode cX6_phases 103 = .ok (.iload_n 1, 1) := by decide +kernel
theorem dX6_phases_104 : decode cX6_phases 104 = .ok (.imul, 1) := by decide +kernel
theorem dX6_phases_105 : decode cX6_phases 105 = .ok (.iload_n 2, 1) := by decide +kernel
theorem dX6_phases_106 : decode cX6_phases 106 = .ok (.iadd, 1) := by decide +kernel
theorem dX6_phases_107 : decode cX6_phases 107 = .ok (.laload, 1) := by decide +kernel
theorem dX6_phases_108 : decode cX6_phases 108 = .ok (.l2i, 1) := by decide +kernel
theorem dX6_phases_109 : decode cX6_phases 109 = .ok (.iastore, 1) := by decide +kernel
theorem dX6_phases_110 : decode cX6_phases 110 = .ok (.iinc 2 1, 3) := by decide +kernel
theorem dX6_phases_113 : decode cX6_phases 113 = .ok (.goto (-29), 3) := by decide +kernel
theorem dX6_phases_116 : decode cX6_phases 116 = .ok (.iconst 1, 1) := by decide +kernel
theorem dX6_phases_117 : decode cX6_phases 117 = .ok (.ireturn, 1) := by decide +kernel
theorem dX6_road_0 : decode cX6_road 0 = .ok (.aload_n 0, 1) := by decide +kernel
theorem dX6_road_1 : decode cX6_road 1 = .ok (.iconst 0, 1) := by decide +kernel
theorem dX6_road_2 : decode cX6_road 2 = .ok (.putfield 117, 3) := by decide +kernel
theorem dX6_road_5 : decode cX6_road 5 = .ok (.aload_n 0, 1) := by decide +kernel
theorem dX6_road_6 : decode cX6_road 6 = .ok (.iconst 0, 1) := by decide +kernel
theorem dX6_road_7 : decode cX6_road 7 = .ok (.putfield 120, 3) := by decide +kernel
theorem dX6_road_10 : decode cX6_road 10 = .ok (.aload_n 0, 1) := by decide +kernel
theorem dX6_road_11 : decode cX6_road 11 = .ok (.iload_n 1, 1) := by decide +kernel
theorem dX6_road_12 : decode cX6_road 12 = .ok (.invokevirtual 154, 3) := by decide +kernel
theorem dX6_road_15 : decode cX6_road 15 = .ok (.ifCond .eq 11, 3) := by decide +kernel
theorem dX6_road_18 : decode cX6_road 18 = .ok (.aload_n 0, 1) := by decide +kernel
theorem dX6_road_19 : decode cX6_road 19 = .ok (.iload_n 2, 1) := by decide +kernel
theorem dX6_road_20 : decode cX6_road 20 = .ok (.invokevirtual 154, 3) := by decide +kernel
theorem dX6_road_23 : decode cX6_road 23 = .ok (.ifCond .ne 9, 3) := by decide +kernel
theorem dX6_road_26 : decode cX6_road 26 = .ok (.aload_n 0, 1) := by decide +kernel
theorem dX6_road_27 : decode cX6_road 27 = .ok (.iconst 2, 1) := by decide +kernel
theorem dX6_road_28 : decode cX6_road 28 = .ok (.invokevirtual 123, 3) := by decide +kernel
theorem dX6_road_31 : decode cX6_road 31 = .ok (.ireturn, 1) := by decide +kernel
theorem dX6_road_32 : decode cX6_road 32 = .ok (.aload_n 0, 1) := by decide +kernel
theorem dX6_road_33 : decode cX6_road 33 = .ok (.getfield 41, 3) := by decide +kernel
theorem dX6_road_36 : decode cX6_road 36 = .ok (.bipush 24, 2) := by decide +kernel
theorem dX6_road_38 : decode cX6_road 38 = .ok (.iload_n 1, 1) := by decide +kernel
theorem dX6_road_39 : decode cX6_road 39 = .ok (.imul, 1) := by decide +kernel
theorem dX6_road_40 : decode cX6_road 40 = .ok (.iload_n 2, 1) := by decide +kernel
theorem dX6_road_41 : decode cX6_road 41 = .ok (.iadd, 1) := by decide +kernel
theorem dX6_road_42 : decode cX6_road 42 = .ok (.iload_n 3, 1) := by decide +kernel
theorem dX6_road_43 : decode cX6_road 43 = .ok (.bastore, 1) := by decide +kernel
theorem dX6_road_44 : decode cX6_road 44 = .ok (.iconst 1, 1) := by decide +kernel
theorem dX6_road_45 : decode cX6_road 45 = .ok (.ireturn, 1) := by decide +kernel
theorem dX6_roads_0 : decode cX6_roads 0 = .ok (.aload_n 0, 1) := by decide +kernel
theorem dX6_roads_1 : decode cX6_roads 1 = .ok (.iconst 0, 1) := by decide +kernel
theorem dX6_roads_2 : decode cX6_roads 2 = .ok (.putfield 117, 3) := by decide +kernel
theorem dX6_roads_5 : decode cX6_roads 5 = .ok (.aload_n 0, 1) := by decide +kernel
theorem dX6_roads_6 : decode cX6_roads 6 = .ok (.iconst 0, 1) := by decide +kernel
theorem dX6_roads_7 : decode cX6_roads 7 = .ok (.putfield 120, 3) := by decide +kernel
theorem dX6_roads_10 : decode cX6_roads 10 = .ok (.iload_n 1, 1) := by decide +kernel
theorem dX6_roads_11 : decode cX6_roads 11 = .ok (.ifCond .lt 8, 3) := by decide +kernel
theorem dX6_roads_14 : decode cX6_roads 14 = .ok (.iload_n 1, 1) := by decide +kernel
theorem dX6_roads_15 : decode cX6_roads 15 = .ok (.iconst 3, 1) := by decide +kernel
theorem dX6_roads_16 : decode cX6_roads 16 = .ok (.if_icmp .le 9, 3) := by decide +kernel
theorem dX6_roads_19 : decode cX6_roads 19 = .ok (.aload_n 0, 1) := by decide +kernel
theorem dX6_roads_20 : decode cX6_roads 20 = .ok (.iconst 2, 1) := by decide +kernel
theorem dX6_roads_21 : decode cX6_roads 21 = .ok (.invokevirtual 123, 3) := by decide +kernel
theorem dX6_roads_24 : decode cX6_roads 24 = .ok (.ireturn, 1) := by decide +kernel
theorem dX6_roads_25 : decode cX6_roads 25 = .ok (.iconst 0, 1) := by decide +kernel
theorem dX6_roads_26 : decode cX6_roads 26 = .ok (.istore_n 2, 1) := by decide +kernel
theorem dX6_roads_27 : decode cX6_roads 27 = .ok (.iload_n 2, 1) := by decide +kernel
theorem dX6_roads_28 : decode cX6_roads 28 = .ok (.aload_n 0, 1) := by decide +kernel
theorem dX6_roads_29 : decode cX6_roads 29 = .ok (.getfield 141, 3) := by decide +kernel
theorem dX6_roads_32 : decode cX6_roads 32 = .ok (.if_icmp .ge 132, 3) := by decide +kernel
theorem dX6_roads_35 : decode cX6_roads 35 = .ok (.iconst 0, 1) := by decide +kernel
theorem dX6_roads_36 : decode cX6_roads 36 = .ok (.istore_n 3, 1) := by decide +kernel
theorem dX6_roads_37 : decode cX6_roads 37 = .ok (.iload_n 3, 1) := by decide +kernel
theorem dX6_roads_38 : decode cX6_roads 38 = .ok (.aload_n 0, 1) := by decide +kernel
theorem dX6_roads_39 : decode cX6_roads 39 = .ok (.getfield 141, 3) := by decide +kernel
theorem dX6_roads_42 : decode cX6_roads 42 = .ok (.if_icmp .ge 116, 3) := by decide +kernel
theorem dX6_roads_45 : decode cX6_roads 45 = .ok (.iload_n 3, 1) := by decide +kernel
theorem dX6_roads_46 : decode cX6_roads 46 = .ok (.iload_n 2, 1) := by decide +kernel
theorem dX6_roads_47 : decode cX6_roads 47 = .ok (.aload_n 0, 1) := by decide +kernel
theorem dX6_roads_48 : decode cX6_roads 48 = .ok (.getfield 141, 3) := by decide +kernel
theorem dX6_roads_51 : decode cX6_roads 51 = .ok (.iadd, 1) := by decide +kernel
theorem dX6_roads_52 : decode cX6_roads 52 = .ok (.iconst 1, 1) := by decide +kernel
theorem dX6_roads_53 : decode cX6_roads 53 = .ok (.isub, 1) := by decide +kernel
theorem dX6_roads_54 : decode cX6_roads 54 = .ok (.aload_n 0, 1) := by decide +kernel
theorem dX6_roads_55 : decode cX6_roads 55 = .ok (.getfield 141, 3) := by decide +kernel
theorem dX6_roads_58 : decode cX6_roads 58 = .ok (.irem, 1) := by decide +kernel
theorem dX6_roads_59 : decode cX6_roads 59 = .ok (.if_icmp .ne 7, 3) := by decide +kernel
theorem dX6_roads_62 : decode cX6_roads 62 = .ok (.iconst 1, 1) := by decide +kernel
theorem dX6_roads_63 : decode cX6_roads 63 = .ok (.goto 4, 3) := by decide +kernel
theorem dX6_roads_66 : decode cX6_roads 66 = .ok (.iconst 0, 1) := by decide +kernel
theorem dX6_roads_67 : decode cX6_roads 67 = .ok (.istore 4, 2) := by decide +kernel
theorem dX6_roads_69 : decode cX6_roads 69 = .ok (.iload_n 2, 1) := by decide +kernel
theorem dX6_roads_70 : decode cX6_roads 70 = .ok (.iload_n 3, 1) := by decide +kernel
theorem dX6_roads_71 : decode cX6_roads 71 = .ok (.aload_n 0, 1) := by decide +kernel
theorem dX6_roads_72 : decode cX6_roads 72 = .ok (.getfield 141, 3) := by decide +kernel
theorem dX6_roads_75 : decode cX6_roads 75 = .ok (.iadd, 1) := by decide +kernel
theorem dX6_roads_76 : decode cX6_roads 76 = .ok (.iconst 1, 1) := by decide +kernel
theorem dX6_roads_77 : decode cX6_roads 77 = .ok (.isub, 1) := by decide +kernel
theorem dX6_roads_78 : decode cX6_roads 78 = .ok (.aload_n 0, 1) := by decide +kernel
theorem dX6_roads_79 : decode cX6_roads 79 = .ok (.getfield 141, 3) := by decide +kernel
theorem dX6_roads_82 : decode cX6_roads 82 = .ok (.irem, 1) := by decide +kernel
theorem dX6_roads_83 : decode cX6_roads 83 = .ok (.if_icmp .ne 7, 3) := by decide +kernel
theorem dX6_roads_86 : decode cX6_roads 86 = .ok (.iconst 1, 1) := by decide +kernel
theorem dX6_roads_87 : decode cX6_roads 87 = .ok (.goto 4, 3) := by decide +kernel
theorem dX6_roads_90 : decode cX6_roads 90 = .ok (.iconst 0, 1) := by decide +kernel
theorem dX6_roads_91 : decode cX6_roads 91 = .ok (.istore 5, 2) := by decide +kernel
theorem dX6_roads_93 : decode cX6_roads 93 = .ok (.aload_n 0, 1) := by decide +kernel
theorem dX6_roads_94 : decode cX6_roads 94 = .ok (.getfield 41, 3) := by decide +kernel
theorem dX6_roads_97 : decode cX6_roads 97 = .ok (.bipush 24, 2) := by decide +kernel
theorem dX6_roads_99 : decode cX6_roads 99 = .ok (.iload_n 2, 1) := by decide +kernel
theorem dX6_roads_100 : decode cX6_roads 100 = .ok (.imul, 1) := by decide +kernel
theorem dX6_roads_101 : decode cX6_roads 101 = .ok (.iload_n 3, 1) := by decide +kernel
theorem dX6_roads_102 : decode cX6_roads 102 = .ok (.iadd, 1) := by decide +kernel
theorem dX6_roads_103 : decode cX6_roads 103 = .ok (.iload_n 1, 1) := by decide +kernel
theorem dX6_roads_104 : decode cX6_roads 104 = .ok (.iconst 1, 1) := by decide +kernel
theorem dX6_roads_105 : decode cX6_roads 105 = .ok (.if_icmp .ne 16, 3) := by decide +kernel
theorem dX6_roads_108 : decode cX6_roads 108 = .ok (.iload_n 2, 1) := by decide +kernel
theorem dX6_roads_109 : decode cX6_roads 109 = .ok (.iload_n 3, 1) := by decide +kernel
theorem dX6_roads_110 : decode cX6_roads 110 = .ok (.if_icmp .eq 7, 3) := by decide +kernel
theorem dX6_roads_113 : decode cX6_roads 113 = .ok (.iconst 1, 1) := by decide +kernel
theorem dX6_roads_114 : decode cX6_roads 114 = .ok (.goto 37, 3) := by decide +kernel
theorem dX6_roads_117 : decode cX6_roads 117 = .ok (.iconst 0, 1) := by decide +kernel
theorem dX6_roads_118 : decode cX6_roads 118 = .ok (.goto 33, 3) := by decide +kernel
theorem dX6_roads_121 : decode cX6_roads 121 = .ok (.iload_n 1, 1) := by decide +kernel
theorem dX6_roads_122 : decode cX6_roads 122 = .ok (.iconst 2, 1) := by decide +kernel
theorem dX6_roads_123 : decode cX6_roads 123 = .ok (.if_icmp .ne 8, 3) := by decide +kernel
theorem dX6_roads_126 : decode cX6_roads 126 = .ok (.iload 4, 2) := by decide +kernel
theorem dX6_roads_128 : decode cX6_roads 128 = .ok (.goto 23, 3) := by decide +kernel
theorem dX6_roads_131 : decode cX6_roads 131 = .ok (.iload_n 1, 1) := by decide +kernel
theorem dX6_roads_132 : decode cX6_roads 132 = .ok (.iconst 3, 1) := by decide +kernel
theorem dX6_roads_133 : decode cX6_roads 133 = .ok (.if_icmp .ne 17, 3) := by decide +kernel
theorem dX6_roads_136 : decode cX6_roads 136 = .ok (.iload 4, 2) := by decide +kernel
theorem dX6_roads_138 : decode cX6_roads 138 = .ok (.ifCond .ne 8, 3) := by decide +kernel
theorem dX6_roads_141 : decode cX6_roads 141 = .ok (.iload 5, 2) := by decide +kernel
theorem dX6_roads_143 : decode cX6_roads 143 = .ok (.ifCond .eq 7, 3) := by decide +kernel
theorem dX6_roads_146 : decode cX6_roads 146 = .ok (.iconst 1, 1) := by decide +kernel
theorem dX6_roads_147 : decode cX6_roads 147 = .ok (.goto 4, 3) := by decide +kernel
theorem dX6_roads_150 : decode cX6_roads 150 = .ok (.iconst 0, 1) := by decide +kernel
theorem dX6_roads_151 : decode cX6_roads 151 = .ok (.bastore, 1) := by decide +kernel
theorem dX6_roads_152 : decode cX6_roads 152 = .ok (.iinc 3 1, 3) := by decide +kernel
theorem dX6_roads_155 : decode cX6_roads 155 = .ok (.goto (-118), 3) := by decide +kernel
theorem dX6_roads_158 : decode cX6_roads 158 = .ok (.iinc 2 1, 3) := by decide +kernel
theorem dX6_roads_161 : decode cX6_roads 161 = .ok (.goto (-134), 3) := by decide +kernel
theorem dX6_roads_164 : decode cX6_roads 164 = .ok (.iconst 1, 1) := by decide +kernel
theorem dX6_roads_165 : decode cX6_roads 165 = .ok (.ireturn, 1) := by decide +kernel
theorem dX6_push_0 : decode cX6_push 0 = .ok (.aload_n 0, 1) := by decide +kernel
theorem dX6_push_1 : decode cX6_push 1 = .ok (.iconst 0, 1) := by decide +kernel
theorem dX6_push_2 : decode cX6_push 2 = .ok (.putfield 117, 3) := by decide +kernel
theorem dX6_push_5 : decode cX6_push 5 = .ok (.aload_n 0, 1) := by decide +kernel
theorem dX6_push_6 : decode cX6_push 6 = .ok (.aload_n 0, 1) := by decide +kernel
theorem dX6_push_7 : decode cX6_push 7 = .ok (.iload_n 1, 1) := by decide +kernel
theorem dX6_push_8 : decode cX6_push 8 = .ok (.invokevirtual 127, 3) := by decide +kernel
theorem dX6_push_11 : decode cX6_push 11 = .ok (.putfield 120, 3) := by decide +kernel
theorem dX6_push_14 : decode cX6_push 14 = .ok (.aload_n 0, 1) := by decide +kernel
theorem dX6_push_15 : decode cX6_push 15 = .ok (.getfield 120, 3) := by decide +kernel
theorem dX6_push_18 : decode cX6_push 18 = .ok (.ifCond .le 5, 3) := by decide +kernel
theorem dX6_push_21 : decode cX6_push 21 = .ok (.iconst 0, 1) := by decide +kernel
theorem dX6_push_22 : decode cX6_push 22 = .ok (.ireturn, 1) := by decide +kernel
theorem dX6_push_23 : decode cX6_push 23 = .ok (.iload_n 2, 1) := by decide +kernel
theorem dX6_push_24 : decode cX6_push 24 = .ok (.iconst 1, 1) := by decide +kernel
theorem dX6_push_25 : decode cX6_push 25 = .ok (.if_icmp .lt 9, 3) := by decide +kernel
theorem dX6_push_28 : decode cX6_push 28 = .ok (.iload_n 2, 1) := by decide +kernel
theorem dX6_push_29 : decode cX6_push 29 = .ok (.bipush 16, 2) := by decide +kernel
theorem dX6_push_31 : decode cX6_push 31 = .ok (.if_icmp .le 9, 3) := by decide +kernel
theorem dX6_push_34 : decode cX6_push 34 = .ok (.aload_n 0, 1) := by decide +kernel
theorem dX6_push_35 : decode cX6_push 35 = .ok (.iconst 2, 1) := by decide +kernel
theorem dX6_push_36 : decode cX6_push 36 = .ok (.invokevirtual 123, 3) := by decide +kernel
theorem dX6_push_39 : decode cX6_push 39 = .ok (.ireturn, 1) := by decide +kernel
theorem dX6_push_40 : decode cX6_push 40 = .ok (.iload_n 2, 1) := by decide +kernel
theorem dX6_push_41 : decode cX6_push 41 = .ok (.aload_n 0, 1) := by decide +kernel
theorem dX6_push_42 : decode cX6_push 42 = .ok (.getfield 15, 3) := by decide +kernel
theorem dX6_push_45 : decode cX6_push 45 = .ok (.iload_n 1, 1) := by decide +kernel
theorem dX6_push_46 : decode cX6_push 46 = .ok (.iaload, 1) := by decide +kernel
theorem dX6_push_47 : decode cX6_push 47 = .ok (.if_icmp .le 9, 3) := by decide +kernel
theorem dX6_push_50 : decode cX6_push 50 = .ok (.aload_n 0, 1) := by decide +kernel
theorem dX6_push_51 : decode cX6_push 51 = .ok (.iconst 4, 1) := by decide +kernel
theorem dX6_push_52 : decode cX6_push 52 = .ok (.invokevirtual 123, 3) := by decide +kernel
theorem dX6_push_55 : decode cX6_push 55 = .ok (.ireturn, 1) := by decide +kernel
theorem dX6_push_56 : decode cX6_push 56 = .ok (.iconst 0, 1) := by decide +kernel
theorem dX6_push_57 : decode cX6_push 57 = .ok (.istore_n 3, 1) := by decide +kernel
theorem dX6_push_58 : decode cX6_push 58 = .ok (.iload_n 3, 1) := by decide +kernel
theorem dX6_push_59 : decode cX6_push 59 = .ok (.iload_n 2, 1) := by decide +kernel
theorem dX6_push_60 : decode cX6_push 60 = .ok (.if_icmp .ge 49, 3) := by decide +kernel
theorem dX6_push_63 : decode cX6_push 63 = .ok (.aload_n 0, 1) := by decide +kernel
theorem dX6_push_64 : decode cX6_push 64 = .ok (.getfield 18, 3) := by decide +kernel
theorem dX6_push_67 : decode cX6_push 67 = .ok (.bipush 100, 2) := by decide +kernel
theorem dX6_push_69 : decode cX6_push 69 = .ok (.iload_n 1, 1) := by decide +kernel
theorem dX6_push_70 : decode cX6_push 70 = .ok (.imul, 1) := by decide +kernel
theorem dX6_push_71 : decode cX6_push 71 = .ok (.iload_n 3, 1) := by decide +kernel
theorem dX6_push_72 : decode cX6_push 72 = .ok (.iadd, 1) := by decide +kernel
theorem dX6_push_73 : decode cX6_push 73 = .ok (.laload, 1) := by decide +kernel
theorem dX6_push_74 : decode cX6_push 74 = .ok (.lconst 0, 1) := by decide +kernel
theorem dX6_push_75 : decode cX6_push 75 = .ok (.lcmp, 1) := by decide +kernel
theorem dX6_push_76 : decode cX6_push 76 = .ok (.ifCond .lt 21, 3) := by decide +kernel
theorem dX6_push_79 : decode cX6_push 79 = .ok (.aload_n 0, 1) := by decide +kernel
theorem dX6_push_80 : decode cX6_push 80 = .ok (.getfield 18, 3) := by decide +kernel
theorem dX6_push_83 : decode cX6_push 83 = .ok (.bipush 100, 2) := by decide +kernel
theorem dX6_push_85 : decode cX6_push 85 = .ok (.iload_n 1, 1) := by decide +kernel
theorem dX6_push_86 : decode cX6_push 86 = .ok (.imul, 1) := by decide +kernel
theorem dX6_push_87 : decode cX6_push 87 = .ok (.iload_n 3, 1) := by decide +kernel
theorem dX6_push_88 : decode cX6_push 88 = .ok (.iadd, 1) := by decide +kernel
theorem dX6_push_89 : decode cX6_push 89 = .ok (.laload, 1) := by decide +kernel
theorem dX6_push_90 : decode cX6_push 90 = .ok (.ldc2_w 157, 3) := by decide +kernel
theorem dX6_push_93 : decode cX6_push 93 = .ok (.lcmp, 1) := by decide +kernel
theorem dX6_push_94 : decode cX6_push 94 = .ok (.ifCond .le 9, 3) := by decide +kernel
theorem dX6_push_97 : decode cX6_push 97 = .ok (.aload_n 0, 1) := by decide +kernel
theorem dX6_push_98 : decode cX6_push 98 = .ok (.iconst 2, 1) := by decide +kernel
theorem dX6_push_99 : decode cX6_push 99 = .ok (.invokevirtual 123, 3) := by decide +kernel
theorem dX6_push_102 : decode cX6_push 102 = .ok (.ireturn, 1) := by decide +kernel
theorem dX6_push_103 : decode cX6_push 103 = .ok (.iinc 3 1, 3) := by decide +kernel
theorem dX6_push_106 : decode cX6_push 106 = .ok (.goto (-48), 3) := by decide +kernel
theorem dX6_push_109 : decode cX6_push 109 = .ok (.aload_n 0, 1) := by decide +kernel
theorem dX6_push_110 : decode cX6_push 110 = .ok (.iload_n 2, 1) := by decide +kernel
theorem dX6_push_111 : decode cX6_push 111 = .ok (.putfield 26, 3) := by decide +kernel
theorem dX6_push_114 : decode cX6_push 114 = .ok (.iconst 0, 1) := by decide +kernel
theorem dX6_push_115 : decode cX6_push 115 = .ok (.istore_n 3, 1) := by decide +kernel
theorem dX6_push_116 : decode cX6_push 116 = .ok (.iload_n 3, 1) := by decide +kernel
theorem dX6_push_117 : decode cX6_push 117 = .ok (.iload_n 2, 1) := by decide +kernel
theorem dX6_push_118 : decode cX6_push 118 = .ok (.if_icmp .ge 27, 3) := by decide +kernel
theorem dX6_push_121 : decode cX6_push 121 = .ok (.aload_n 0, 1) := by decide +kernel
theorem dX6_push_122 : decode cX6_push 122 = .ok (.getfield 35, 3) := by decide +kernel
theorem dX6_push_125 : decode cX6_push 125 = .ok (.iload_n 3, 1) := by decide +kernel
theorem dX6_push_126 : decode cX6_push 126 = .ok (.aload_n 0, 1) := by decide +kernel
theorem dX6_push_127 : decode cX6_push 127 = .ok (.getfield 18, 3) := by decide +kernel
theorem dX6_push_130 : decode cX6_push 130 = .ok (.bipush 100, 2) := by decide +kernel
theorem dX6_push_132 : decode cX6_push 132 = .ok (.iload_n 1, 1) := by decide +kernel
theorem dX6_push_133 : decode cX6_push 133 = .ok (.imul, 1) := by decide +kernel
theorem dX6_push_134 : decode cX6_push 134 = .ok (.iload_n 3, 1) := by decide +kernel
theorem dX6_push_135 : decode cX6_push 135 = .ok (.iadd, 1) := by decide +kernel
theorem dX6_push_136 : decode cX6_push 136 = .ok (.laload, 1) := by decide +kernel
theorem dX6_push_137 : decode cX6_push 137 = .ok (.l2i, 1) := by decide +kernel
theorem dX6_push_138 : decode cX6_push 138 = .ok (.iastore, 1) := by decide +kernel
theorem dX6_push_139 : decode cX6_push 139 = .ok (.iinc 3 1, 3) := by decide +kernel
theorem dX6_push_142 : decode cX6_push 142 = .ok (.goto (-26), 3) := by decide +kernel
theorem dX6_push_145 : decode cX6_push 145 = .ok (.iconst 1, 1) := by decide +kernel
theorem dX6_push_146 : decode cX6_push 146 = .ok (.ireturn, 1) := by decide +kernel
theorem dX6_clear_0 : decode cX6_clear 0 = .ok (.aload_n 0, 1) := by decide +kernel
theorem dX6_clear_1 : decode cX6_clear 1 = .ok (.iconst 0, 1) := by decide +kernel
theorem dX6_clear_2 : decode cX6_clear 2 = .ok (.putfield 117, 3) := by decide +kernel
theorem dX6_clear_5 : decode cX6_clear 5 = .ok (.aload_n 0, 1) := by decide +kernel
theorem dX6_clear_6 : decode cX6_clear 6 = .ok (.iconst 0, 1) := by decide +kernel
theorem dX6_clear_7 : decode cX6_clear 7 = .ok (.putfield 120, 3) := by decide +kernel
theorem dX6_clear_10 : decode cX6_clear 10 = .ok (.aload_n 0, 1) := by decide +kernel
theorem dX6_clear_11 : decode cX6_clear 11 = .ok (.invokevirtual 159, 3) := by decide +kernel
theorem dX6_clear_14 : decode cX6_clear 14 = .ok (.iconst 1, 1) := by decide +kernel
theorem dX6_clear_15 : decode cX6_clear 15 = .ok (.ireturn, 1) := by decide +kernel
theorem dX6_pulled_0 : decode cX6_pulled 0 = .ok (.lconst 0, 1) := by decide +kernel
theorem dX6_pulled_1 : decode cX6_pulled 1 = .ok (.lstore_n 3, 1) := by decide +kernel
theorem dX6_pulled_2 : decode cX6_pulled 2 = .ok (.iconst 0, 1) := by decide +kernel
theorem dX6_pulled_3 : decode cX6_pulled 3 = .ok (.istore 5, 2) := by decide +kernel
theorem dX6_pulled_5 : decode cX6_pulled 5 = .ok (.iconst 0, 1) := by decide +kernel
theorem dX6_pulled_6 : decode cX6_pulled 6 = .ok (.istore 6, 2) := by decide +kernel
theorem dX6_pulled_8 : decode cX6_pulled 8 = .ok (.iload 6, 2) := by decide +kernel
theorem dX6_pulled_10 : decode cX6_pulled 10 = .ok (.aload_n 0, 1) := by decide +kernel
theorem dX6_pulled_11 : decode cX6_pulled 11 = .ok (.getfield 141, 3) := by decide +kernel
theorem dX6_pulled_14 : decode cX6_pulled 14 = .ok (.if_icmp .ge 82, 3) := by decide +kernel
theorem dX6_pulled_17 : decode cX6_pulled 17 = .ok (.iload 6, 2) := by decide +kernel
theorem dX6_pulled_19 : decode cX6_pulled 19 = .ok (.iload_n 2, 1) := by decide +kernel
theorem dX6_pulled_20 : decode cX6_pulled 20 = .ok (.if_icmp .eq 70, 3) := by decide +kernel
theorem dX6_pulled_23 : decode cX6_pulled 23 = .ok (.aload_n 0, 1) := by decide +kernel
theorem dX6_pulled_24 : decode cX6_pulled 24 = .ok (.getfield 41, 3) := by decide +kernel
theorem dX6_pulled_27 : decode cX6_pulled 27 = .ok (.bipush 24, 2) := by decide +kernel
theorem dX6_pulled_29 : decode cX6_pulled 29 = .ok (.iload_n 2, 1) := by decide +kernel
theorem dX6_pulled_30 : decode cX6_pulled 30 = .ok (.imul, 1) := by decide +kernel
theorem dX6_pulled_31 : decode cX6_pulled 31 = .ok (.iload 6, 2) := by decide +kernel
theorem dX6_pulled_33 : decode cX6_pulled 33 = .ok (.iadd, 1) := by decide +kernel
theorem dX6_pulled_34 : decode cX6_pulled 34 = .ok (.baload, 1) := by decide +kernel
theorem dX6_pulled_35 : decode cX6_pulled 35 = .ok (.ifCond .ne 6, 3) := by decide +kernel
theorem dX6_pulled_38 : decode cX6_pulled 38 = .ok (.goto 52, 3) := by decide +kernel
theorem dX6_pulled_41 : decode cX6_pulled 41 = .ok (.aload_n 1, 1) := by decide +kernel
theorem dX6_pulled_42 : decode cX6_pulled 42 = .ok (.iload 6, 2) := by decide +kernel
theorem dX6_pulled_44 : decode cX6_pulled 44 = .ok (.iaload, 1) := by decide +kernel
theorem dX6_pulled_45 : decode cX6_pulled 45 = .ok (.aload_n 1, 1) := by decide +kernel
theorem dX6_pulled_46 : decode cX6_pulled 46 = .ok (.iload_n 2, 1) := by decide +kernel
theorem dX6_pulled_47 : decode cX6_pulled 47 = .ok (.iaload, 1) := by decide +kernel
theorem dX6_pulled_48 : decode cX6_pulled 48 = .ok (.isub, 1) := by decide +kernel
theorem dX6_pulled_49 : decode cX6_pulled 49 = .ok (.aload_n 0, 1) := by decide +kernel
theorem dX6_pulled_50 : decode cX6_pulled 50 = .ok (.getfield 22, 3) := by decide +kernel
theorem dX6_pulled_53 : decode cX6_pulled 53 = .ok (.iadd, 1) := by decide +kernel
theorem dX6_pulled_54 : decode cX6_pulled 54 = .ok (.aload_n 0, 1) := by decide +kernel
theorem dX6_pulled_55 : decode cX6_pulled 55 = .ok (.getfield 22, 3) := by decide +kernel
theorem dX6_pulled_58 : decode cX6_pulled 58 = .ok (.irem, 1) := by decide +kernel
theorem dX6_pulled_59 : decode cX6_pulled 59 = .ok (.istore 7, 2) := by decide +kernel
theorem dX6_pulled_61 : decode cX6_pulled 61 = .ok (.iconst 2, 1) := by decide +kernel
theorem dX6_pulled_62 : decode cX6_pulled 62 = .ok (.iload 7, 2) := by decide +kernel
theorem dX6_pulled_64 : decode cX6_pulled 64 = .ok (.imul, 1) := by decide +kernel
theorem dX6_pulled_65 : decode cX6_pulled 65 = .ok (.aload_n 0, 1) := by decide +kernel
theorem dX6_pulled_66 : decode cX6_pulled 66 = .ok (.getfield 22, 3) := by decide +kernel
theorem dX6_pulled_69 : decode cX6_pulled 69 = .ok (.if_icmp .le 12, 3) := by decide +kernel
theorem dX6_pulled_72 : decode cX6_pulled 72 = .ok (.iload 7, 2) := by decide +kernel
theorem dX6_pulled_74 : decode cX6_pulled 74 = .ok (.aload_n 0, 1) := by decide +kernel
theorem dX6_pulled_75 : decode cX6_pulled 75 = .ok (.getfield 22, 3) := by decide +kernel
theorem dX6_pulled_78 : decode cX6_pulled 78 = .ok (.isub, 1) := by decide +kernel
theorem dX6_pulled_79 : decode cX6_pulled 79 = .ok (.istore 7, 2) := by decide +kernel
theorem dX6_pulled_81 : decode cX6_pulled 81 = .ok (.lload_n 3, 1) := by decide +kernel
theorem dX6_pulled_82 : decode cX6_pulled 82 = .ok (.iload 7, 2) := by decide +kernel
theorem dX6_pulled_84 : decode cX6_pulled 84 = .ok (.i2l, 1) := by decide +kernel
theorem dX6_pulled_85 : decode cX6_pulled 85 = .ok (.ladd, 1) := by decide +kernel
theorem dX6_pulled_86 : decode cX6_pulled 86 = .ok (.lstore_n 3, 1) := by decide +kernel
theorem dX6_pulled_87 : decode cX6_pulled 87 = .ok (.iinc 5 1, 3) := by decide +kernel
theorem dX6_pulled_90 : decode cX6_pulled 90 = .ok (.iinc 6 1, 3) := by decide +kernel
theorem dX6_pulled_93 : decode cX6_pulled 93 = .ok (.goto (-85), 3) := by decide +kernel
theorem dX6_pulled_96 : decode cX6_pulled 96 = .ok (.lload_n 3, 1) := by decide +kernel
theorem dX6_pulled_97 : decode cX6_pulled 97 = .ok (.iload 5, 2) := by decide +kernel
theorem dX6_pulled_99 : decode cX6_pulled 99 = .ok (.iconst 1, 1) := by decide +kernel
theorem dX6_pulled_100 : decode cX6_pulled 100 = .ok (.iadd, 1) := by decide +kernel
theorem dX6_pulled_101 : decode cX6_pulled 101 = .ok (.i2l, 1) := by decide +kernel
theorem dX6_pulled_102 : decode cX6_pulled 102 = .ok (.ldiv, 1) := by decide +kernel
theorem dX6_pulled_103 : decode cX6_pulled 103 = .ok (.l2i, 1) := by decide +kernel
theorem dX6_pulled_104 : decode cX6_pulled 104 = .ok (.istore 6, 2) := by decide +kernel
theorem dX6_pulled_106 : decode cX6_pulled 106 = .ok (.aload_n 1, 1) := by decide +kernel
theorem dX6_pulled_107 : decode cX6_pulled 107 = .ok (.iload_n 2, 1) := by decide +kernel
theorem dX6_pulled_108 : decode cX6_pulled 108 = .ok (.iaload, 1) := by decide +kernel
theorem dX6_pulled_109 : decode cX6_pulled 109 = .ok (.iconst 1, 1) := by decide +kernel
theorem dX6_pulled_110 : decode cX6_pulled 110 = .ok (.iadd, 1) := by decide +kernel
theorem dX6_pulled_111 : decode cX6_pulled 111 = .ok (.iload 6, 2) := by decide +kernel
theorem dX6_pulled_113 : decode cX6_pulled 113 = .ok (.iadd, 1) := by decide +kernel
theorem dX6_pulled_114 : decode cX6_pulled 114 = .ok (.aload_n 0, 1) := by decide +kernel
theorem dX6_pulled_115 : decode cX6_pulled 115 = .ok (.getfield 22, 3) := by decide +kernel
theorem dX6_pulled_118 : decode cX6_pulled 118 = .ok (.irem, 1) := by decide +kernel
theorem dX6_pulled_119 : decode cX6_pulled 119 = .ok (.aload_n 0, 1) := by decide +kernel
theorem dX6_pulled_120 : decode cX6_pulled 120 = .ok (.getfield 22, 3) := by decide +kernel
theorem dX6_pulled_123 : decode cX6_pulled 123 = .ok (.iadd, 1) := by decide +kernel
theorem dX6_pulled_124 : decode cX6_pulled 124 = .ok (.aload_n 0, 1) := by decide +kernel
theorem dX6_pulled_125 : decode cX6_pulled 125 = .ok (.getfield 22, 3) := by decide +kernel
theorem dX6_pulled_128 : decode cX6_pulled 128 = .ok (.irem, 1) := by decide +kernel
theorem dX6_pulled_129 : decode cX6_pulled 129 = .ok (.ireturn, 1) := by decide +kernel
theorem dX6_tick_0 : decode cX6_tick 0 = .ok (.iconst 0, 1) := by decide +kernel
theorem dX6_tick_1 : decode cX6_tick 1 = .ok (.istore_n 2, 1) := by decide +kernel
theorem dX6_tick_2 : decode cX6_tick 2 = .ok (.iload_n 2, 1) := by decide +kernel
theorem dX6_tick_3 : decode cX6_tick 3 = .ok (.aload_n 0, 1) := by decide +kernel
theorem dX6_tick_4 : decode cX6_tick 4 = .ok (.getfield 141, 3) := by decide +kernel
theorem dX6_tick_7 : decode cX6_tick 7 = .ok (.if_icmp .ge 76, 3) := by decide +kernel
theorem dX6_tick_10 : decode cX6_tick 10 = .ok (.aload_n 0, 1) := by decide +kernel
theorem dX6_tick_11 : decode cX6_tick 11 = .ok (.getfield 51, 3) := by decide +kernel
theorem dX6_tick_14 : decode cX6_tick 14 = .ok (.iload_n 2, 1) := by decide +kernel
theorem dX6_tick_15 : decode cX6_tick 15 = .ok (.iconst 0, 1) := by decide +kernel
theorem dX6_tick_16 : decode cX6_tick 16 = .ok (.bastore, 1) := by decide +kernel
theorem dX6_tick_17 : decode cX6_tick 17 = .ok (.aload_n 0, 1) := by decide +kernel
theorem dX6_tick_18 : decode cX6_tick 18 = .ok (.getfield 54, 3) := by decide +kernel
theorem dX6_tick_21 : decode cX6_tick 21 = .ok (.iload_n 2, 1) := by decide +kernel
theorem dX6_tick_22 : decode cX6_tick 22 = .ok (.iconst 0, 1) := by decide +kernel
theorem dX6_tick_23 : decode cX6_tick 23 = .ok (.bastore, 1) := by decide +kernel
theorem dX6_tick_24 : decode cX6_tick 24 = .ok (.aload_n 0, 1) := by decide +kernel
theorem dX6_tick_25 : decode cX6_tick 25 = .ok (.getfield 45, 3) := by decide +kernel
theorem dX6_tick_28 : decode cX6_tick 28 = .ok (.iload_n 2, 1) := by decide +kernel
theorem dX6_tick_29 : decode cX6_tick 29 = .ok (.aload_n 0, 1) := by decide +kernel
theorem dX6_tick_30 : decode cX6_tick 30 = .ok (.getfield 29, 3) := by decide +kernel
theorem dX6_tick_33 : decode cX6_tick 33 = .ok (.iload_n 2, 1) := by decide +kernel
theorem dX6_tick_34 : decode cX6_tick 34 = .ok (.iaload, 1) := by decide +kernel
theorem dX6_tick_35 : decode cX6_tick 35 = .ok (.iconst 1, 1) := by decide +kernel
theorem dX6_tick_36 : decode cX6_tick 36 = .ok (.if_icmp .ne 12, 3) := by decide +kernel
theorem dX6_tick_39 : decode cX6_tick 39 = .ok (.aload_n 0, 1) := by decide +kernel
theorem dX6_tick_40 : decode cX6_tick 40 = .ok (.aload_n 1, 1) := by decide +kernel
theorem dX6_tick_41 : decode cX6_tick 41 = .ok (.iload_n 2, 1) := by decide +kernel
theorem dX6_tick_42 : decode cX6_tick 42 = .ok (.invokevirtual 162, 3) := by decide +kernel
theorem dX6_tick_45 : decode cX6_tick 45 = .ok (.goto 31, 3) := by decide +kernel
theorem dX6_tick_48 : decode cX6_tick 48 = .ok (.aload_n 0, 1) := by decide +kernel
theorem dX6_tick_49 : decode cX6_tick 49 = .ok (.getfield 29, 3) := by decide +kernel
theorem dX6_tick_52 : decode cX6_tick 52 = .ok (.iload_n 2, 1) := by decide +kernel
theorem dX6_tick_53 : decode cX6_tick 53 = .ok (.iaload, 1) := by decide +kernel
theorem dX6_tick_54 : decode cX6_tick 54 = .ok (.iconst 2, 1) := by decide +kernel
theorem dX6_tick_55 : decode cX6_tick 55 = .ok (.if_icmp .ne 11, 3) := by decide +kernel
theorem dX6_tick_58 : decode cX6_tick 58 = .ok (.aload_n 1, 1) := by decide +kernel
theorem dX6_tick_59 : decode cX6_tick 59 = .ok (.iload_n 2, 1) := by decide +kernel
theorem dX6_tick_60 : decode cX6_tick 60 = .ok (.iaload, 1) := by decide +kernel
theorem dX6_tick_61 : decode cX6_tick 61 = .ok (.iconst 1, 1) := by decide +kernel
theorem dX6_tick_62 : decode cX6_tick 62 = .ok (.iadd, 1) := by decide +kernel
theorem dX6_tick_63 : decode cX6_tick 63 = .ok (.goto 13, 3) := by decide +kernel
theorem dX6_tick_66 : decode cX6_tick 66 = .ok (.aload_n 1, 1) := by decide +kernel
theorem dX6_tick_67 : decode cX6_tick 67 = .ok (.iload_n 2, 1) := by decide +kernel
theorem dX6_tick_68 : decode cX6_tick 68 = .ok (.iaload, 1) := by decide +kernel
theorem dX6_tick_69 : decode cX6_tick 69 = .ok (.iconst 1, 1) := by decide +kernel
theorem dX6_tick_70 : decode cX6_tick 70 = .ok (.iadd, 1) := by decide +kernel
theorem dX6_tick_71 : decode cX6_tick 71 = .ok (.aload_n 0, 1) := by decide +kernel
theorem dX6_tick_72 : decode cX6_tick 72 = .ok (.getfield 22, 3) := by decide +kernel
theorem dX6_tick_75 : decode cX6_tick 75 = .ok (.irem, 1) := by decide +kernel
theorem dX6_tick_76 : decode cX6_tick 76 = .ok (.iastore, 1) := by decide +kernel
theorem dX6_tick_77 : decode cX6_tick 77 = .ok (.iinc 2 1, 3) := by decide +kernel
theorem dX6_tick_80 : decode cX6_tick 80 = .ok (.goto (-78), 3) := by decide +kernel
theorem dX6_tick_83 : decode cX6_tick 83 = .ok (.iconst 0, 1) := by decide +kernel
theorem dX6_tick_84 : decode cX6_tick 84 = .ok (.istore_n 2, 1) := by decide +kernel
theorem dX6_tick_85 : decode cX6_tick 85 = .ok (.iconst 0, 1) := by decide +kernel
theorem dX6_tick_86 : decode cX6_tick 86 = .ok (.istore_n 3, 1) := by decide +kernel
theorem dX6_tick_87 : decode cX6_tick 87 = .ok (.iload_n 3, 1) := by decide +kernel
theorem dX6_tick_88 : decode cX6_tick 88 = .ok (.aload_n 0, 1) := by decide +kernel
theorem dX6_tick_89 : decode cX6_tick 89 = .ok (.getfield 141, 3) := by decide +kernel
theorem dX6_tick_92 : decode cX6_tick 92 = .ok (.if_icmp .ge 52, 3) := by decide +kernel
theorem dX6_tick_95 : decode cX6_tick 95 = .ok (.aload_n 0, 1) := by decide +kernel
theorem dX6_tick_96 : decode cX6_tick 96 = .ok (.getfield 29, 3) := by decide +kernel
theorem dX6_tick_99 : decode cX6_tick 99 = .ok (.iload_n 3, 1) := by decide +kernel
theorem dX6_tick_100 : decode cX6_tick 100 = .ok (.iaload, 1) := by decide +kernel
theorem dX6_tick_101 : decode cX6_tick 101 = .ok (.iconst 2, 1) := by decide +kernel
theorem dX6_tick_102 : decode cX6_tick 102 = .ok (.if_icmp .ne 36, 3) := by decide +kernel
theorem dX6_tick_105 : decode cX6_tick 105 = .ok (.aload_n 0, 1) := by decide +kernel
theorem dX6_tick_106 : decode cX6_tick 106 = .ok (.getfield 45, 3) := by decide +kernel
theorem dX6_tick_109 : decode cX6_tick 109 = .ok (.iload_n 3, 1) := by decide +kernel
theorem dX6_tick_110 : decode cX6_tick 110 = .ok (.iaload, 1) := by decide +kernel
theorem dX6_tick_111 : decode cX6_tick 111 = .ok (.aload_n 0, 1) := by decide +kernel
theorem dX6_tick_112 : decode cX6_tick 112 = .ok (.getfield 22, 3) := by decide +kernel
theorem dX6_tick_115 : decode cX6_tick 115 = .ok (.if_icmp .ge 6, 3) := by decide +kernel
theorem dX6_tick_118 : decode cX6_tick 118 = .ok (.goto 20, 3) := by decide +kernel
theorem dX6_tick_121 : decode cX6_tick 121 = .ok (.aload_n 0, 1) := by decide +kernel
theorem dX6_tick_122 : decode cX6_tick 122 = .ok (.getfield 48, 3) := by decide +kernel
theorem dX6_tick_125 : decode cX6_tick 125 = .ok (.iload_n 2, 1) := by decide +kernel
theorem dX6_tick_126 : decode cX6_tick 126 = .ok (.iload_n 3, 1) := by decide +kernel
theorem dX6_tick_127 : decode cX6_tick 127 = .ok (.iastore, 1) := by decide +kernel
theorem dX6_tick_128 : decode cX6_tick 128 = .ok (.aload_n 0, 1) := by decide +kernel
theorem dX6_tick_129 : decode cX6_tick 129 = .ok (.getfield 51, 3) := by decide +kernel
theorem dX6_tick_132 : decode cX6_tick 132 = .ok (.iload_n 3, 1) := by decide +kernel
theorem dX6_tick_133 : decode cX6_tick 133 = .ok (.iconst 1, 1) := by decide +kernel
theorem dX6_tick_134 : decode cX6_tick 134 = .ok (.bastore, 1) := by decide +kernel
theorem dX6_tick_135 : decode cX6_tick 135 = .ok (.iinc 2 1, 3) := by decide +kernel
theorem dX6_tick_138 : decode cX6_tick 138 = .ok (.iinc 3 1, 3) := by decide +kernel
theorem dX6_tick_141 : decode cX6_tick 141 = .ok (.goto (-54), 3) := by decide +kernel
theorem dX6_tick_144 : decode cX6_tick 144 = .ok (.iconst 0, 1) := by decide +kernel
theorem dX6_tick_145 : decode cX6_tick 145 = .ok (.istore_n 3, 1) := by decide +kernel
theorem dX6_tick_146 : decode cX6_tick 146 = .ok (.iload_n 3, 1) := by decide +kernel
theorem dX6_tick_147 : decode cX6_tick 147 = .ok (.iload_n 2, 1) := by decide +kernel
theorem dX6_tick_148 : decode cX6_tick 148 = .ok (.if_icmp .ge 163, 3) := by decide +kernel
theorem dX6_tick_151 : decode cX6_tick 151 = .ok (.aload_n 0, 1) := by decide +kernel
theorem dX6_tick_152 : decode cX6_tick 152 = .ok (.getfield 48, 3) := by decide +kernel
theorem dX6_tick_155 : decode cX6_tick 155 = .ok (.iload_n 3, 1) := by decide +kernel
theorem dX6_tick_156 : decode cX6_tick 156 = .ok (.iaload, 1) := by decide +kernel
theorem dX6_tick_157 : decode cX6_tick 157 = .ok (.istore 4, 2) := by decide +kernel
theorem dX6_tick_159 : decode cX6_tick 159 = .ok (.aload_n 0, 1) := by decide +kernel
theorem dX6_tick_160 : decode cX6_tick 160 = .ok (.getfield 45, 3) := by decide +kernel
theorem dX6_tick_163 : decode cX6_tick 163 = .ok (.iload 4, 2) := by decide +kernel
theorem dX6_tick_165 : decode cX6_tick 165 = .ok (.iconst 0, 1) := by decide +kernel
theorem dX6_tick_166 : decode cX6_tick 166 = .ok (.iastore, 1) := by decide +kernel
theorem dX6_tick_167 : decode cX6_tick 167 = .ok (.aload_n 0, 1) := by decide +kernel
theorem dX6_tick_168 : decode cX6_tick 168 = .ok (.getfield 54, 3) := by decide +kernel
theorem dX6_tick_171 : decode cX6_tick 171 = .ok (.iload 4, 2) := by decide +kernel
theorem dX6_tick_173 : decode cX6_tick 173 = .ok (.iconst 1, 1) := by decide +kernel
theorem dX6_tick_174 : decode cX6_tick 174 = .ok (.bastore, 1) := by decide +kernel
theorem dX6_tick_175 : decode cX6_tick 175 = .ok (.iconst 0, 1) := by decide +kernel
theorem dX6_tick_176 : decode cX6_tick 176 = .ok (.istore 5, 2) := by decide +kernel
theorem dX6_tick_178 : decode cX6_tick 178 = .ok (.iload 5, 2) := by decide +kernel
theorem dX6_tick_180 : decode cX6_tick 180 = .ok (.aload_n 0, 1) := by decide +kernel
theorem dX6_tick_181 : decode cX6_tick 181 = .ok (.getfield 141, 3) := by decide +kernel
theorem dX6_tick_184 : decode cX6_tick 184 = .ok (.if_icmp .ge 121, 3) := by decide +kernel
theorem dX6_tick_187 : decode cX6_tick 187 = .ok (.aload_n 0, 1) := by decide +kernel
theorem dX6_tick_188 : decode cX6_tick 188 = .ok (.getfield 29, 3) := by decide +kernel
theorem dX6_tick_191 : decode cX6_tick 191 = .ok (.iload 5, 2) := by decide +kernel
theorem dX6_tick_193 : decode cX6_tick 193 = .ok (.iaload, 1) := by decide +kernel
theorem dX6_tick_194 : decode cX6_tick 194 = .ok (.iconst 2, 1) := by decide +kernel
theorem dX6_tick_195 : decode cX6_tick 195 = .ok (.if_icmp .ne 104, 3) := by decide +kernel
theorem dX6_tick_198 : decode cX6_tick 198 = .ok (.aload_n 0, 1) := by decide +kernel
theorem dX6_tick_199 : decode cX6_tick 199 = .ok (.getfield 51, 3) := by decide +kernel
theorem dX6_tick_202 : decode cX6_tick 202 = .ok (.iload 5, 2) := by decide +kernel
theorem dX6_tick_204 : decode cX6_tick 204 = .ok (.baload, 1) := by decide +kernel
theorem dX6_tick_205 : decode cX6_tick 205 = .ok (.ifCond .ne 94, 3) := by decide +kernel
theorem dX6_tick_208 : decode cX6_tick 208 = .ok (.aload_n 0, 1) := by decide +kernel
theorem dX6_tick_209 : decode cX6_tick 209 = .ok (.getfield 41, 3) := by decide +kernel
theorem dX6_tick_212 : decode cX6_tick 212 = .ok (.bipush 24, 2) := by decide +kernel
theorem dX6_tick_214 : decode cX6_tick 214 = .ok (.iload 5, 2) := by decide +kernel
theorem dX6_tick_216 : decode cX6_tick 216 = .ok (.imul, 1) := by decide +kernel
theorem dX6_tick_217 : decode cX6_tick 217 = .ok (.iload 4, 2) := by decide +kernel
theorem dX6_tick_219 : decode cX6_tick 219 = .ok (.iadd, 1) := by decide +kernel
theorem dX6_tick_220 : decode cX6_tick 220 = .ok (.baload, 1) := by decide +kernel
theorem dX6_tick_221 : decode cX6_tick 221 = .ok (.ifCond .ne 6, 3) := by decide +kernel
theorem dX6_tick_224 : decode cX6_tick 224 = .ok (.goto 75, 3) := by decide +kernel
theorem dX6_tick_227 : decode cX6_tick 227 = .ok (.aload_n 0, 1) := by decide +kernel
theorem dX6_tick_228 : decode cX6_tick 228 = .ok (.getfield 45, 3) := by decide +kernel
theorem dX6_tick_231 : decode cX6_tick 231 = .ok (.iload 5, 2) := by decide +kernel
theorem dX6_tick_233 : decode cX6_tick 233 = .ok (.dup2, 1) := by decide +kernel
theorem dX6_tick_234 : decode cX6_tick 234 = .ok (.iaload, 1) := by decide +kernel
theorem dX6_tick_235 : decode cX6_tick 235 = .ok (.aload_n 0, 1) := by decide +kernel
theorem dX6_tick_236 : decode cX6_tick 236 = .ok (.getfield 35, 3) := by decide +kernel
theorem dX6_tick_239 : decode cX6_tick 239 = .ok (.aload_n 0, 1) := by decide +kernel
theorem dX6_tick_240 : decode cX6_tick 240 = .ok (.getfield 45, 3) := by decide +kernel
theorem dX6_tick_243 : decode cX6_tick 243 = .ok (.iload 5, 2) := by decide +kernel
theorem dX6_tick_245 : decode cX6_tick 245 = .ok (.iaload, 1) := by decide +kernel
theorem dX6_tick_246 : decode cX6_tick 246 = .ok (.i2l, 1) := by decide +kernel
theorem dX6_tick_247 : decode cX6_tick 247 = .ok (.aload_n 0, 1) := by decide +kernel
theorem dX6_tick_248 : decode cX6_tick 248 = .ok (.getfield 26, 3) := by decide +kernel
theorem dX6_tick_251 : decode cX6_tick 251 = .ok (.i2l, 1) := by decide +kernel
theorem dX6_tick_252 : decode cX6_tick 252 = .ok (.lmul, 1) := by decide +kernel
theorem dX6_tick_253 : decode cX6_tick 253 = .ok (.aload_n 0, 1) := by decide +kernel
theorem dX6_tick_254 : decode cX6_tick 254 = .ok (.getfield 22, 3) := by decide +kernel
theorem dX6_tick_257 : decode cX6_tick 257 = .ok (.i2l, 1) := by decide +kernel
theorem dX6_tick_258 : decode cX6_tick 258 = .ok (.ldiv, 1) := by decide +kernel
theorem dX6_tick_259 : decode cX6_tick 259 = .ok (.l2i, 1) := by decide +kernel
theorem dX6_tick_260 : decode cX6_tick 260 = .ok (.iaload, 1) := by decide +kernel
theorem dX6_tick_261 : decode cX6_tick 261 = .ok (.iadd, 1) := by decide +kernel
theorem dX6_tick_262 : decode cX6_tick 262 = .ok (.iastore, 1) := by decide +kernel
theorem dX6_tick_263 : decode cX6_tick 263 = .ok (.aload_n 0, 1) := by decide +kernel
theorem dX6_tick_264 : decode cX6_tick 264 = .ok (.getfield 45, 3) := by decide +kernel
theorem dX6_tick_267 : decode cX6_tick 267 = .ok (.iload 5, 2) := by decide +kernel
theorem dX6_tick_269 : decode cX6_tick 269 = .ok (.iaload, 1) := by decide +kernel
theorem dX6_tick_270 : decode cX6_tick 270 = .ok (.aload_n 0, 1) := by decide +kernel
theorem dX6_tick_271 : decode cX6_tick 271 = .ok (.getfield 22, 3) := by decide +kernel
theorem dX6_tick_274 : decode cX6_tick 274 = .ok (.if_icmp .ge 6, 3) := by decide +kernel
theorem dX6_tick_277 : decode cX6_tick 277 = .ok (.goto 22, 3) := by decide +kernel
theorem dX6_tick_280 : decode cX6_tick 280 = .ok (.aload_n 0, 1) := by decide +kernel
theorem dX6_tick_281 : decode cX6_tick 281 = .ok (.getfield 48, 3) := by decide +kernel
theorem dX6_tick_284 : decode cX6_tick 284 = .ok (.iload_n 2, 1) := by decide +kernel
theorem dX6_tick_285 : decode cX6_tick 285 = .ok (.iload 5, 2) := by decide +kernel
theorem dX6_tick_287 : decode cX6_tick 287 = .ok (.iastore, 1) := by decide +kernel
theorem dX6_tick_288 : decode cX6_tick 288 = .ok (.aload_n 0, 1) := by decide +kernel
theorem dX6_tick_289 : decode cX6_tick 289 = .ok (.getfield 51, 3) := by decide +kernel
theorem dX6_tick_292 : decode cX6_tick 292 = .ok (.iload 5, 2) := by decide +kernel
theorem dX6_tick_294 : decode cX6_tick 294 = .ok (.iconst 1, 1) := by decide +kernel
theorem dX6_tick_295 : decode cX6_tick 295 = .ok (.bastore, 1) := by decide +kernel
theorem dX6_tick_296 : decode cX6_tick 296 = .ok (.iinc 2 1, 3) := by decide +kernel
theorem dX6_tick_299 : decode cX6_tick 299 = .ok (.iinc 5 1, 3) := by decide +kernel
theorem dX6_tick_302 : decode cX6_tick 302 = .ok (.goto (-124), 3) := by decide +kernel
theorem dX6_tick_305 : decode cX6_tick 305 = .ok (.iinc 3 1, 3) := by decide +kernel
theorem dX6_tick_308 : decode cX6_tick 308 = .ok (.goto (-162), 3) := by decide +kernel
theorem dX6_tick_311 : decode cX6_tick 311 = .ok (.iconst 0, 1) := by decide +kernel
theorem dX6_tick_312 : decode cX6_tick 312 = .ok (.istore_n 3, 1) := by decide +kernel
theorem dX6_tick_313 : decode cX6_tick 313 = .ok (.iload_n 3, 1) := by decide +kernel
theorem dX6_tick_314 : decode cX6_tick 314 = .ok (.aload_n 0, 1) := by decide +kernel
theorem dX6_tick_315 : decode cX6_tick 315 = .ok (.getfield 141, 3) := by decide +kernel
theorem dX6_tick_318 : decode cX6_tick 318 = .ok (.if_icmp .ge 18, 3) := by decide +kernel
theorem dX6_tick_321 : decode cX6_tick 321 = .ok (.aload_n 1, 1) := by decide +kernel
theorem dX6_tick_322 : decode cX6_tick 322 = .ok (.iload_n 3, 1) := by decide +kernel
theorem dX6_tick_323 : decode cX6_tick 323 = .ok (.aload_n 0, 1) := by decide +kernel
theorem dX6_tick_324 : decode cX6_tick 324 = .ok (.getfield 45, 3) := by decide +kernel
theorem dX6_tick_327 : decode cX6_tick 327 = .ok (.iload_n 3, 1) := by decide +kernel
theorem dX6_tick_328 : decode cX6_tick 328 = .ok (.iaload, 1) := by decide +kernel
theorem dX6_tick_329 : decode cX6_tick 329 = .ok (.iastore, 1) := by decide +kernel
theorem dX6_tick_330 : decode cX6_tick 330 = .ok (.iinc 3 1, 3) := by decide +kernel
theorem dX6_tick_333 : decode cX6_tick 333 = .ok (.goto (-20), 3) := by decide +kernel
theorem dX6_tick_336 : decode cX6_tick 336 = .ok (.return_, 1) := by decide +kernel
theorem dX6_go_0 : decode cX6_go 0 = .ok (.aload_n 0, 1) := by decide +kernel
theorem dX6_go_1 : decode cX6_go 1 = .ok (.iconst 0, 1) := by decide +kernel
theorem dX6_go_2 : decode cX6_go 2 = .ok (.putfield 117, 3) := by decide +kernel
theorem dX6_go_5 : decode cX6_go 5 = .ok (.aload_n 0, 1) := by decide +kernel
theorem dX6_go_6 : decode cX6_go 6 = .ok (.iconst 0, 1) := by decide +kernel
theorem dX6_go_7 : decode cX6_go 7 = .ok (.putfield 120, 3) := by decide +kernel
theorem dX6_go_10 : decode cX6_go 10 = .ok (.iload_n 1, 1) := by decide +kernel
theorem dX6_go_11 : decode cX6_go 11 = .ok (.ifCond .lt 10, 3) := by decide +kernel
theorem dX6_go_14 : decode cX6_go 14 = .ok (.iload_n 1, 1) := by decide +kernel
theorem dX6_go_15 : decode cX6_go 15 = .ok (.sipush 20000, 3) := by decide +kernel
theorem dX6_go_18 : decode cX6_go 18 = .ok (.if_icmp .le 9, 3) := by decide +kernel
theorem dX6_go_21 : decode cX6_go 21 = .ok (.aload_n 0, 1) := by decide +kernel
theorem dX6_go_22 : decode cX6_go 22 = .ok (.iconst 2, 1) := by decide +kernel
theorem dX6_go_23 : decode cX6_go 23 = .ok (.invokevirtual 123, 3) := by decide +kernel
theorem dX6_go_26 : decode cX6_go 26 = .ok (.ireturn, 1) := by decide +kernel
theorem dX6_go_27 : decode cX6_go 27 = .ok (.iconst 0, 1) := by decide +kernel
theorem dX6_go_28 : decode cX6_go 28 = .ok (.istore_n 2, 1) := by decide +kernel
theorem dX6_go_29 : decode cX6_go 29 = .ok (.iload_n 2, 1) := by decide +kernel
theorem dX6_go_30 : decode cX6_go 30 = .ok (.iload_n 1, 1) := by decide +kernel
theorem dX6_go_31 : decode cX6_go 31 = .ok (.if_icmp .ge 56, 3) := by decide +kernel
theorem dX6_go_34 : decode cX6_go 34 = .ok (.aload_n 0, 1) := by decide +kernel
theorem dX6_go_35 : decode cX6_go 35 = .ok (.aload_n 0, 1) := by decide +kernel
theorem dX6_go_36 : decode cX6_go 36 = .ok (.getfield 32, 3) := by decide +kernel
theorem dX6_go_39 : decode cX6_go 39 = .ok (.invokevirtual 166, 3) := by decide +kernel
theorem dX6_go_42 : decode cX6_go 42 = .ok (.iconst 0, 1) := by decide +kernel
theorem dX6_go_43 : decode cX6_go 43 = .ok (.istore_n 3, 1) := by decide +kernel
theorem dX6_go_44 : decode cX6_go 44 = .ok (.iload_n 3, 1) := by decide +kernel
theorem dX6_go_45 : decode cX6_go 45 = .ok (.aload_n 0, 1) := by decide +kernel
theorem dX6_go_46 : decode cX6_go 46 = .ok (.getfield 141, 3) := by decide +kernel
theorem dX6_go_49 : decode cX6_go 49 = .ok (.if_icmp .ge 32, 3) := by decide +kernel
theorem dX6_go_52 : decode cX6_go 52 = .ok (.aload_n 0, 1) := by decide +kernel
theorem dX6_go_53 : decode cX6_go 53 = .ok (.getfield 38, 3) := by decide +kernel
theorem dX6_go_56 : decode cX6_go 56 = .ok (.iload_n 3, 1) := by decide +kernel
theorem dX6_go_57 : decode cX6_go 57 = .ok (.dup2, 1) := by decide +kernel
theorem dX6_go_58 : decode cX6_go 58 = .ok (.laload, 1) := by decide +kernel
theorem dX6_go_59 : decode cX6_go 59 = .ok (.aload_n 0, 1) := by decide +kernel
theorem dX6_go_60 : decode cX6_go 60 = .ok (.getfield 54, 3) := by decide +kernel
theorem dX6_go_63 : decode cX6_go 63 = .ok (.iload_n 3, 1) := by decide +kernel
theorem dX6_go_64 : decode cX6_go 64 = .ok (.baload, 1) := by decide +kernel
theorem dX6_go_65 : decode cX6_go 65 = .ok (.ifCond .eq 7, 3) := by decide +kernel
theorem dX6_go_68 : decode cX6_go 68 = .ok (.lconst 1, 1) := by decide +kernel
theorem dX6_go_69 : decode cX6_go 69 = .ok (.goto 4, 3) := by decide +kernel
theorem dX6_go_72 : decode cX6_go 72 = .ok (.lconst 0, 1) := by decide +kernel
theorem dX6_go_73 : decode cX6_go 73 = .ok (.ladd, 1) := by decide +kernel
theorem dX6_go_74 : decode cX6_go 74 = .ok (.lastore, 1) := by decide +kernel
theorem dX6_go_75 : decode cX6_go 75 = .ok (.iinc 3 1, 3) := by decide +kernel
theorem dX6_go_78 : decode cX6_go 78 = .ok (.goto (-34), 3) := by decide +kernel
theorem dX6_go_81 : decode cX6_go 81 = .ok (.iinc 2 1, 3) := by decide +kernel
theorem dX6_go_84 : decode cX6_go 84 = .ok (.goto (-55), 3) := by decide +kernel
theorem dX6_go_87 : decode cX6_go 87 = .ok (.aload_n 0, 1) := by decide +kernel
theorem dX6_go_88 : decode cX6_go 88 = .ok (.dup, 1) := by decide +kernel
theorem dX6_go_89 : decode cX6_go 89 = .ok (.getfield 144, 3) := by decide +kernel
theorem dX6_go_92 : decode cX6_go 92 = .ok (.iload_n 1, 1) := by decide +kernel
theorem dX6_go_93 : decode cX6_go 93 = .ok (.iadd, 1) := by decide +kernel
theorem dX6_go_94 : decode cX6_go 94 = .ok (.putfield 144, 3) := by decide +kernel
theorem dX6_go_97 : decode cX6_go 97 = .ok (.iconst 1, 1) := by decide +kernel
theorem dX6_go_98 : decode cX6_go 98 = .ok (.ireturn, 1) := by decide +kernel
theorem dX6_count_0 : decode cX6_count 0 = .ok (.aload_n 0, 1) := by decide +kernel
theorem dX6_count_1 : decode cX6_count 1 = .ok (.iconst 0, 1) := by decide +kernel
theorem dX6_count_2 : decode cX6_count 2 = .ok (.putfield 117, 3) := by decide +kernel
theorem dX6_count_5 : decode cX6_count 5 = .ok (.aload_n 0, 1) := by decide +kernel
theorem dX6_count_6 : decode cX6_count 6 = .ok (.iconst 0, 1) := by decide +kernel
theorem dX6_count_7 : decode cX6_count 7 = .ok (.putfield 120, 3) := by decide +kernel
theorem dX6_count_10 : decode cX6_count 10 = .ok (.iload_n 1, 1) := by decide +kernel
theorem dX6_count_11 : decode cX6_count 11 = .ok (.ifCond .lt 8, 3) := by decide +kernel
theorem dX6_count_14 : decode cX6_count 14 = .ok (.iload_n 1, 1) := by decide +kernel
theorem dX6_count_15 : decode cX6_count 15 = .ok (.iconst 3, 1) := by decide +kernel
theorem dX6_count_16 : decode cX6_count 16 = .ok (.if_icmp .le 9, 3) := by decide +kernel
theorem dX6_count_19 : decode cX6_count 19 = .ok (.aload_n 0, 1) := by decide +kernel
theorem dX6_count_20 : decode cX6_count 20 = .ok (.iconst 2, 1) := by decide +kernel
theorem dX6_count_21 : decode cX6_count 21 = .ok (.invokevirtual 151, 3) := by decide +kernel
theorem dX6_count_24 : decode cX6_count 24 = .ok (.ireturn, 1) := by decide +kernel
theorem dX6_count_25 : decode cX6_count 25 = .ok (.iconst 0, 1) := by decide +kernel
theorem dX6_count_26 : decode cX6_count 26 = .ok (.istore_n 2, 1) := by decide +kernel
theorem dX6_count_27 : decode cX6_count 27 = .ok (.iconst 0, 1) := by decide +kernel
theorem dX6_count_28 : decode cX6_count 28 = .ok (.istore_n 3, 1) := by decide +kernel
theorem dX6_count_29 : decode cX6_count 29 = .ok (.iload_n 3, 1) := by decide +kernel
theorem dX6_count_30 : decode cX6_count 30 = .ok (.aload_n 0, 1) := by decide +kernel
theorem dX6_count_31 : decode cX6_count 31 = .ok (.getfield 141, 3) := by decide +kernel
theorem dX6_count_34 : decode cX6_count 34 = .ok (.if_icmp .ge 17, 3) := by decide +kernel
theorem dX6_count_37 : decode cX6_count 37 = .ok (.iload_n 2, 1) := by decide +kernel
theorem dX6_count_38 : decode cX6_count 38 = .ok (.aload_n 0, 1) := by decide +kernel
theorem dX6_count_39 : decode cX6_count 39 = .ok (.iload_n 3, 1) := by decide +kernel
theorem dX6_count_40 : decode cX6_count 40 = .ok (.invokevirtual 170, 3) := by decide +kernel
theorem dX6_count_43 : decode cX6_count 43 = .ok (.iadd, 1) := by decide +kernel
theorem dX6_count_44 : decode cX6_count 44 = .ok (.istore_n 2, 1) := by decide +kernel
theorem dX6_count_45 : decode cX6_count 45 = .ok (.iinc 3 1, 3) := by decide +kernel
theorem dX6_count_48 : decode cX6_count 48 = .ok (.goto (-19), 3) := by decide +kernel
theorem dX6_count_51 : decode cX6_count 51 = .ok (.iload_n 1, 1) := by decide +kernel
theorem dX6_count_52 : decode cX6_count 52 = .ok (.ifCond .ne 10, 3) := by decide +kernel
theorem dX6_count_55 : decode cX6_count 55 = .ok (.aload_n 0, 1) := by decide +kernel
theorem dX6_count_56 : decode cX6_count 56 = .ok (.getfield 144, 3) := by decide +kernel
theorem dX6_count_59 : decode cX6_count 59 = .ok (.goto 28, 3) := by decide +kernel
theorem dX6_count_62 : decode cX6_count 62 = .ok (.iload_n 1, 1) := by decide +kernel
theorem dX6_count_63 : decode cX6_count 63 = .ok (.iconst 1, 1) := by decide +kernel
theorem dX6_count_64 : decode cX6_count 64 = .ok (.if_icmp .ne 10, 3) := by decide +kernel
theorem dX6_count_67 : decode cX6_count 67 = .ok (.aload_n 0, 1) := by decide +kernel
theorem dX6_count_68 : decode cX6_count 68 = .ok (.getfield 22, 3) := by decide +kernel
theorem dX6_count_71 : decode cX6_count 71 = .ok (.goto 16, 3) := by decide +kernel
theorem dX6_count_74 : decode cX6_count 74 = .ok (.iload_n 1, 1) := by decide +kernel
theorem dX6_count_75 : decode cX6_count 75 = .ok (.iconst 2, 1) := by decide +kernel
theorem dX6_count_76 : decode cX6_count 76 = .ok (.if_icmp .ne 10, 3) := by decide +kernel
theorem dX6_count_79 : decode cX6_count 79 = .ok (.aload_n 0, 1) := by decide +kernel
theorem dX6_count_80 : decode cX6_count 80 = .ok (.getfield 141, 3) := by decide +kernel
theorem dX6_count_83 : decode cX6_count 83 = .ok (.goto 4, 3) := by decide +kernel
theorem dX6_count_86 : decode cX6_count 86 = .ok (.iload_n 2, 1) := by decide +kernel
theorem dX6_count_87 : decode cX6_count 87 = .ok (.ireturn, 1) := by decide +kernel
theorem dX6_seenBy_0 : decode cX6_seenBy 0 = .ok (.iconst 0, 1) := by decide +kernel
theorem dX6_seenBy_1 : decode cX6_seenBy 1 = .ok (.istore_n 2, 1) := by decide +kernel
theorem dX6_seenBy_2 : decode cX6_seenBy 2 = .ok (.iconst 0, 1) := by decide +kernel
theorem dX6_seenBy_3 : decode cX6_seenBy 3 = .ok (.istore_n 3, 1) := by decide +kernel
theorem dX6_seenBy_4 : decode cX6_seenBy 4 = .ok (.iload_n 3, 1) := by decide +kernel
theorem dX6_seenBy_5 : decode cX6_seenBy 5 = .ok (.aload_n 0, 1) := by decide +kernel
theorem dX6_seenBy_6 : decode cX6_seenBy 6 = .ok (.getfield 141, 3) := by decide +kernel
theorem dX6_seenBy_9 : decode cX6_seenBy 9 = .ok (.if_icmp .ge 31, 3) := by decide +kernel
theorem dX6_seenBy_12 : decode cX6_seenBy 12 = .ok (.iload_n 2, 1) := by decide +kernel
theorem dX6_seenBy_13 : decode cX6_seenBy 13 = .ok (.aload_n 0, 1) := by decide +kernel
theorem dX6_seenBy_14 : decode cX6_seenBy 14 = .ok (.getfield 41, 3) := by decide +kernel
theorem dX6_seenBy_17 : decode cX6_seenBy 17 = .ok (.bipush 24, 2) := by decide +kernel
theorem dX6_seenBy_19 : decode cX6_seenBy 19 = .ok (.iload_n 1, 1) := by decide +kernel
theorem dX6_seenBy_20 : decode cX6_seenBy 20 = .ok (.imul, 1) := by decide +kernel
theorem dX6_seenBy_21 : decode cX6_seenBy 21 = .ok (.iload_n 3, 1) := by decide +kernel
theorem dX6_seenBy_22 : decode cX6_seenBy 22 = .ok (.iadd, 1) := by decide +kernel
theorem dX6_seenBy_23 : decode cX6_seenBy 23 = .ok (.baload, 1) := by decide +kernel
theorem dX6_seenBy_24 : decode cX6_seenBy 24 = .ok (.ifCond .eq 7, 3) := by decide +kernel
theorem dX6_seenBy_27 : decode cX6_seenBy 27 = .ok (.iconst 1, 1) := by decide +kernel
theorem dX6_seenBy_28 : decode cX6_seenBy 28 = .ok (.goto 4, 3) := by decide +kernel
theorem dX6_seenBy_31 : decode cX6_seenBy 31 = .ok (.iconst 0, 1) := by decide +kernel
theorem dX6_seenBy_32 : decode cX6_seenBy 32 = .ok (.iadd, 1) := by decide +kernel
theorem dX6_seenBy_33 : decode cX6_seenBy 33 = .ok (.istore_n 2, 1) := by decide +kernel
theorem dX6_seenBy_34 : decode cX6_seenBy 34 = .ok (.iinc 3 1, 3) := by decide +kernel
theorem dX6_seenBy_37 : decode cX6_seenBy 37 = .ok (.goto (-33), 3) := by decide +kernel
theorem dX6_seenBy_40 : decode cX6_seenBy 40 = .ok (.iload_n 2, 1) := by decide +kernel
theorem dX6_seenBy_41 : decode cX6_seenBy 41 = .ok (.ireturn, 1) := by decide +kernel
theorem dX6_beats_0 : decode cX6_beats 0 = .ok (.aload_n 0, 1) := by decide +kernel
theorem dX6_beats_1 : decode cX6_beats 1 = .ok (.iconst 0, 1) := by decide +kernel
theorem dX6_beats_2 : decode cX6_beats 2 = .ok (.putfield 117, 3) := by decide +kernel
theorem dX6_beats_5 : decode cX6_beats 5 = .ok (.aload_n 0, 1) := by decide +kernel
theorem dX6_beats_6 : decode cX6_beats 6 = .ok (.iconst 0, 1) := by decide +kernel
theorem dX6_beats_7 : decode cX6_beats 7 = .ok (.putfield 120, 3) := by decide +kernel
theorem dX6_beats_10 : decode cX6_beats 10 = .ok (.aload_n 0, 1) := by decide +kernel
theorem dX6_beats_11 : decode cX6_beats 11 = .ok (.iload_n 1, 1) := by decide +kernel
theorem dX6_beats_12 : decode cX6_beats 12 = .ok (.invokevirtual 154, 3) := by decide +kernel
theorem dX6_beats_15 : decode cX6_beats 15 = .ok (.ifCond .eq 12, 3) := by decide +kernel
theorem dX6_beats_18 : decode cX6_beats 18 = .ok (.iload_n 2, 1) := by decide +kernel
theorem dX6_beats_19 : decode cX6_beats 19 = .ok (.ifCond .lt 8, 3) := by decide +kernel
theorem dX6_beats_22 : decode cX6_beats 22 = .ok (.iload_n 2, 1) := by decide +kernel
theorem dX6_beats_23 : decode cX6_beats 23 = .ok (.iconst 3, 1) := by decide +kernel
theorem dX6_beats_24 : decode cX6_beats 24 = .ok (.if_icmp .le 9, 3) := by decide +kernel
theorem dX6_beats_27 : decode cX6_beats 27 = .ok (.aload_n 0, 1) := by decide +kernel
theorem dX6_beats_28 : decode cX6_beats 28 = .ok (.iconst 2, 1) := by decide +kernel
theorem dX6_beats_29 : decode cX6_beats 29 = .ok (.invokevirtual 151, 3) := by decide +kernel
theorem dX6_beats_32 : decode cX6_beats 32 = .ok (.ireturn, 1) := by decide +kernel
theorem dX6_beats_33 : decode cX6_beats 33 = .ok (.iload_n 2, 1) := by decide +kernel
theorem dX6_beats_34 : decode cX6_beats 34 = .ok (.ifCond .ne 12, 3) := by decide +kernel
theorem dX6_beats_37 : decode cX6_beats 37 = .ok (.aload_n 0, 1) := by decide +kernel
theorem dX6_beats_38 : decode cX6_beats 38 = .ok (.getfield 32, 3) := by decide +kernel
theorem dX6_beats_41 : decode cX6_beats 41 = .ok (.iload_n 1, 1) := by decide +kernel
theorem dX6_beats_42 : decode cX6_beats 42 = .ok (.iaload, 1) := by decide +kernel
theorem dX6_beats_43 : decode cX6_beats 43 = .ok (.goto 37, 3) := by decide +kernel
theorem dX6_beats_46 : decode cX6_beats 46 = .ok (.iload_n 2, 1) := by decide +kernel
theorem dX6_beats_47 : decode cX6_beats 47 = .ok (.iconst 1, 1) := by decide +kernel
theorem dX6_beats_48 : decode cX6_beats 48 = .ok (.if_icmp .ne 13, 3) := by decide +kernel
theorem dX6_beats_51 : decode cX6_beats 51 = .ok (.aload_n 0, 1) := by decide +kernel
theorem dX6_beats_52 : decode cX6_beats 52 = .ok (.getfield 38, 3) := by decide +kernel
theorem dX6_beats_55 : decode cX6_beats 55 = .ok (.iload_n 1, 1) := by decide +kernel
theorem dX6_beats_56 : decode cX6_beats 56 = .ok (.laload, 1) := by decide +kernel
theorem dX6_beats_57 : decode cX6_beats 57 = .ok (.l2i, 1) := by decide +kernel
theorem dX6_beats_58 : decode cX6_beats 58 = .ok (.goto 22, 3) := by decide +kernel
theorem dX6_beats_61 : decode cX6_beats 61 = .ok (.iload_n 2, 1) := by decide +kernel
theorem dX6_beats_62 : decode cX6_beats 62 = .ok (.iconst 2, 1) := by decide +kernel
theorem dX6_beats_63 : decode cX6_beats 63 = .ok (.if_icmp .ne 12, 3) := by decide +kernel
theorem dX6_beats_66 : decode cX6_beats 66 = .ok (.aload_n 0, 1) := by decide +kernel
theorem dX6_beats_67 : decode cX6_beats 67 = .ok (.getfield 29, 3) := by decide +kernel
theorem dX6_beats_70 : decode cX6_beats 70 = .ok (.iload_n 1, 1) := by decide +kernel
theorem dX6_beats_71 : decode cX6_beats 71 = .ok (.iaload, 1) := by decide +kernel
theorem dX6_beats_72 : decode cX6_beats 72 = .ok (.goto 8, 3) := by decide +kernel
theorem dX6_beats_75 : decode cX6_beats 75 = .ok (.aload_n 0, 1) := by decide +kernel
theorem dX6_beats_76 : decode cX6_beats 76 = .ok (.iload_n 1, 1) := by decide +kernel
theorem dX6_beats_77 : decode cX6_beats 77 = .ok (.invokevirtual 170, 3) := by decide +kernel
theorem dX6_beats_80 : decode cX6_beats 80 = .ok (.ireturn, 1) := by decide +kernel
theorem dX6_isSet_0 : decode cX6_isSet 0 = .ok (.iload_n 1, 1) := by decide +kernel
theorem dX6_isSet_1 : decode cX6_isSet 1 = .ok (.ifCond .lt 17, 3) := by decide +kernel
theorem dX6_isSet_4 : decode cX6_isSet 4 = .ok (.iload_n 1, 1) := by decide +kernel
theorem dX6_isSet_5 : decode cX6_isSet 5 = .ok (.iconst 1, 1) := by decide +kernel
theorem dX6_isSet_6 : decode cX6_isSet 6 = .ok (.aload_n 0, 1) := by decide +kernel
theorem dX6_isSet_7 : decode cX6_isSet 7 = .ok (.getfield 141, 3) := by decide +kernel
theorem dX6_isSet_10 : decode cX6_isSet 10 = .ok (.ishl, 1) := by decide +kernel
theorem dX6_isSet_11 : decode cX6_isSet 11 = .ok (.if_icmp .ge 7, 3) := by decide +kernel
theorem dX6_isSet_14 : decode cX6_isSet 14 = .ok (.iconst 1, 1) := by decide +kernel
theorem dX6_isSet_15 : decode cX6_isSet 15 = .ok (.goto 4, 3) := by decide +kernel
theorem dX6_isSet_18 : decode cX6_isSet 18 = .ok (.iconst 0, 1) := by decide +kernel
theorem dX6_isSet_19 : decode cX6_isSet 19 = .ok (.ireturn, 1) := by decide +kernel
theorem dX6_isInStep_0 : decode cX6_isInStep 0 = .ok (.iconst (-1), 1) := by decide +kernel
theorem dX6_isInStep_1 : decode cX6_isInStep 1 = .ok (.istore_n 3, 1) := by decide +kernel
theorem dX6_isInStep_2 : decode cX6_isInStep 2 = .ok (.iconst 0, 1) := by decide +kernel
theorem dX6_isInStep_3 : decode cX6_isInStep 3 = .ok (.istore 4, 2) := by decide +kernel
theorem dX6_isInStep_5 : decode cX6_isInStep 5 = .ok (.iload 4, 2) := by decide +kernel
theorem dX6_isInStep_7 : decode cX6_isInStep 7 = .ok (.aload_n 0, 1) := by decide +kernel
theorem dX6_isInStep_8 : decode cX6_isInStep 8 = .ok (.getfield 141, 3) := by decide +kernel
theorem dX6_isInStep_11 : decode cX6_isInStep 11 = .ok (.if_icmp .ge 40, 3) := by decide +kernel
theorem dX6_isInStep_14 : decode cX6_isInStep 14 = .ok (.iload_n 2, 1) := by decide +kernel
theorem dX6_isInStep_15 : decode cX6_isInStep 15 = .ok (.iload 4, 2) := by decide +kernel
theorem dX6_isInStep_17 : decode cX6_isInStep 17 = .ok (.ishr, 1) := by decide +kernel
theorem dX6_isInStep_18 : decode cX6_isInStep 18 = .ok (.iconst 1, 1) := by decide +kernel
theorem dX6_isInStep_19 : decode cX6_isInStep 19 = .ok (.iand, 1) := by decide +kernel
theorem dX6_isInStep_20 : decode cX6_isInStep 20 = .ok (.ifCond .ne 6, 3) := by decide +kernel
theorem dX6_isInStep_23 : decode cX6_isInStep 23 = .ok (.goto 22, 3) := by decide +kernel
theorem dX6_isInStep_26 : decode cX6_isInStep 26 = .ok (.iload_n 3, 1) := by decide +kernel
theorem dX6_isInStep_27 : decode cX6_isInStep 27 = .ok (.ifCond .lt 13, 3) := by decide +kernel
theorem dX6_isInStep_30 : decode cX6_isInStep 30 = .ok (.aload_n 1, 1) := by decide +kernel
theorem dX6_isInStep_31 : decode cX6_isInStep 31 = .ok (.iload 4, 2) := by decide +kernel
theorem dX6_isInStep_33 : decode cX6_isInStep 33 = .ok (.iaload, 1) := by decide +kernel
theorem dX6_isInStep_34 : decode cX6_isInStep 34 = .ok (.iload_n 3, 1) := by decide +kernel
theorem dX6_isInStep_35 : decode cX6_isInStep 35 = .ok (.if_icmp .eq 5, 3) := by decide +kernel
theorem dX6_isInStep_38 : decode cX6_isInStep 38 = .ok (.iconst 0, 1) := by decide +kernel
theorem dX6_isInStep_39 : decode cX6_isInStep 39 = .ok (.ireturn, 1) := by decide +kernel
theorem dX6_isInStep_40 : decode cX6_isInStep 40 = .ok (.aload_n 1, 1) := by decide +kernel
theorem dX6_isInStep_41 : decode cX6_isInStep 41 = .ok (.iload 4, 2) := by decide +kernel
theorem dX6_isInStep_43 : decode cX6_isInStep 43 = .ok (.iaload, 1) := by decide +kernel
theorem dX6_isInStep_44 : decode cX6_isInStep 44 = .ok (.istore_n 3, 1) := by decide +kernel
theorem dX6_isInStep_45 : decode cX6_isInStep 45 = .ok (.iinc 4 1, 3) := by decide +kernel
theorem dX6_isInStep_48 : decode cX6_isInStep 48 = .ok (.goto (-43), 3) := by decide +kernel
theorem dX6_isInStep_51 : decode cX6_isInStep 51 = .ok (.iconst 1, 1) := by decide +kernel
theorem dX6_isInStep_52 : decode cX6_isInStep 52 = .ok (.ireturn, 1) := by decide +kernel
theorem dX6_step_0 : decode cX6_step 0 = .ok (.aload_n 0, 1) := by decide +kernel
theorem dX6_step_1 : decode cX6_step 1 = .ok (.iconst 0, 1) := by decide +kernel
theorem dX6_step_2 : decode cX6_step 2 = .ok (.putfield 117, 3) := by decide +kernel
theorem dX6_step_5 : decode cX6_step 5 = .ok (.aload_n 0, 1) := by decide +kernel
theorem dX6_step_6 : decode cX6_step 6 = .ok (.iconst 0, 1) := by decide +kernel
theorem dX6_step_7 : decode cX6_step 7 = .ok (.putfield 120, 3) := by decide +kernel
theorem dX6_step_10 : decode cX6_step 10 = .ok (.aload_n 0, 1) := by decide +kernel
theorem dX6_step_11 : decode cX6_step 11 = .ok (.iload_n 1, 1) := by decide +kernel
theorem dX6_step_12 : decode cX6_step 12 = .ok (.invokevirtual 173, 3) := by decide +kernel
theorem dX6_step_15 : decode cX6_step 15 = .ok (.ifCond .ne 9, 3) := by decide +kernel
theorem dX6_step_18 : decode cX6_step 18 = .ok (.aload_n 0, 1) := by decide +kernel
theorem dX6_step_19 : decode cX6_step 19 = .ok (.iconst 2, 1) := by decide +kernel
theorem dX6_step_20 : decode cX6_step 20 = .ok (.invokevirtual 151, 3) := by decide +kernel
theorem dX6_step_23 : decode cX6_step 23 = .ok (.ireturn, 1) := by decide +kernel
theorem dX6_step_24 : decode cX6_step 24 = .ok (.aload_n 0, 1) := by decide +kernel
theorem dX6_step_25 : decode cX6_step 25 = .ok (.aload_n 0, 1) := by decide +kernel
theorem dX6_step_26 : decode cX6_step 26 = .ok (.getfield 32, 3) := by decide +kernel
theorem dX6_step_29 : decode cX6_step 29 = .ok (.iload_n 1, 1) := by decide +kernel
theorem dX6_step_30 : decode cX6_step 30 = .ok (.invokevirtual 176, 3) := by decide +kernel
theorem dX6_step_33 : decode cX6_step 33 = .ok (.ifCond .eq 7, 3) := by decide +kernel
theorem dX6_step_36 : decode cX6_step 36 = .ok (.iconst 1, 1) := by decide +kernel
theorem dX6_step_37 : decode cX6_step 37 = .ok (.goto 4, 3) := by decide +kernel
theorem dX6_step_40 : decode cX6_step 40 = .ok (.iconst 0, 1) := by decide +kernel
theorem dX6_step_41 : decode cX6_step 41 = .ok (.ireturn, 1) := by decide +kernel
theorem dX6_arc_0 : decode cX6_arc 0 = .ok (.aload_n 0, 1) := by decide +kernel
theorem dX6_arc_1 : decode cX6_arc 1 = .ok (.iconst 0, 1) := by decide +kernel
theorem dX6_arc_2 : decode cX6_arc 2 = .ok (.putfield 117, 3) := by decide +kernel
theorem dX6_arc_5 : decode cX6_arc 5 = .ok (.aload_n 0, 1) := by decide +kernel
theorem dX6_arc_6 : decode cX6_arc 6 = .ok (.iconst 0, 1) := by decide +kernel
theorem dX6_arc_7 : decode cX6_arc 7 = .ok (.putfield 120, 3) := by decide +kernel
theorem dX6_arc_10 : decode cX6_arc 10 = .ok (.aload_n 0, 1) := by decide +kernel
theorem dX6_arc_11 : decode cX6_arc 11 = .ok (.iload_n 1, 1) := by decide +kernel
theorem dX6_arc_12 : decode cX6_arc 12 = .ok (.invokevirtual 173, 3) := by decide +kernel
theorem dX6_arc_15 : decode cX6_arc 15 = .ok (.ifCond .eq 7, 3) := by decide +kernel
theorem dX6_arc_18 : decode cX6_arc 18 = .ok (.iload_n 1, 1) := by decide +kernel
theorem dX6_arc_19 : decode cX6_arc 19 = .ok (.ifCond .ne 9, 3) := by decide +kernel
theorem dX6_arc_22 : decode cX6_arc 22 = .ok (.aload_n 0, 1) := by decide +kernel
theorem dX6_arc_23 : decode cX6_arc 23 = .ok (.iconst 2, 1) := by decide +kernel
theorem dX6_arc_24 : decode cX6_arc 24 = .ok (.invokevirtual 151, 3) := by decide +kernel
theorem dX6_arc_27 : decode cX6_arc 27 = .ok (.ireturn, 1) := by decide +kernel
theorem dX6_arc_28 : decode cX6_arc 28 = .ok (.aload_n 0, 1) := by decide +kernel
theorem dX6_arc_29 : decode cX6_arc 29 = .ok (.getfield 22, 3) := by decide +kernel
theorem dX6_arc_32 : decode cX6_arc 32 = .ok (.istore_n 2, 1) := by decide +kernel
theorem dX6_arc_33 : decode cX6_arc 33 = .ok (.iconst 0, 1) := by decide +kernel
theorem dX6_arc_34 : decode cX6_arc 34 = .ok (.istore_n 3, 1) := by decide +kernel
theorem dX6_arc_35 : decode cX6_arc 35 = .ok (.iload_n 3, 1) := by decide +kernel
theorem dX6_arc_36 : decode cX6_arc 36 = .ok (.aload_n 0, 1) := by decide +kernel
theorem dX6_arc_37 : decode cX6_arc 37 = .ok (.getfield 141, 3) := by decide +kernel
theorem dX6_arc_40 : decode cX6_arc 40 = .ok (.if_icmp .ge 89, 3) := by decide +kernel
theorem dX6_arc_43 : decode cX6_arc 43 = .ok (.iload_n 1, 1) := by decide +kernel
theorem dX6_arc_44 : decode cX6_arc 44 = .ok (.iload_n 3, 1) := by decide +kernel
theorem dX6_arc_45 : decode cX6_arc 45 = .ok (.ishr, 1) := by decide +kernel
theorem dX6_arc_46 : decode cX6_arc 46 = .ok (.iconst 1, 1) := by decide +kernel
theorem dX6_arc_47 : decode cX6_arc 47 = .ok (.iand, 1) := by decide +kernel
theorem dX6_arc_48 : decode cX6_arc 48 = .ok (.ifCond .ne 6, 3) := by decide +kernel
theorem dX6_arc_51 : decode cX6_arc 51 = .ok (.goto 72, 3) := by decide +kernel
theorem dX6_arc_54 : decode cX6_arc 54 = .ok (.iconst 0, 1) := by decide +kernel
theorem dX6_arc_55 : decode cX6_arc 55 = .ok (.istore 4, 2) := by decide +kernel
theorem dX6_arc_57 : decode cX6_arc 57 = .ok (.iconst 0, 1) := by decide +kernel
theorem dX6_arc_58 : decode cX6_arc 58 = .ok (.istore 5, 2) := by decide +kernel
theorem dX6_arc_60 : decode cX6_arc 60 = .ok (.iload 5, 2) := by decide +kernel
theorem dX6_arc_62 : decode cX6_arc 62 = .ok (.aload_n 0, 1) := by decide +kernel
theorem dX6_arc_63 : decode cX6_arc 63 = .ok (.getfield 141, 3) := by decide +kernel
theorem dX6_arc_66 : decode cX6_arc 66 = .ok (.if_icmp .ge 50, 3) := by decide +kernel
theorem dX6_arc_69 : decode cX6_arc 69 = .ok (.iload_n 1, 1) := by decide +kernel
theorem dX6_arc_70 : decode cX6_arc 70 = .ok (.iload 5, 2) := by decide +kernel
theorem dX6_arc_72 : decode cX6_arc 72 = .ok (.ishr, 1) := by decide +kernel
theorem dX6_arc_73 : decode cX6_arc 73 = .ok (.iconst 1, 1) := by decide +kernel
theorem dX6_arc_74 : decode cX6_arc 74 = .ok (.iand, 1) := by decide +kernel
theorem dX6_arc_75 : decode cX6_arc 75 = .ok (.iconst 1, 1) := by decide +kernel
theorem dX6_arc_76 : decode cX6_arc 76 = .ok (.if_icmp .ne 34, 3) := by decide +kernel
theorem dX6_arc_79 : decode cX6_arc 79 = .ok (.iload 4, 2) := by decide +kernel
theorem dX6_arc_81 : decode cX6_arc 81 = .ok (.aload_n 0, 1) := by decide +kernel
theorem dX6_arc_82 : decode cX6_arc 82 = .ok (.getfield 32, 3) := by decide +kernel
theorem dX6_arc_85 : decode cX6_arc 85 = .ok (.iload 5, 2) := by decide +kernel
theorem dX6_arc_87 : decode cX6_arc 87 = .ok (.iaload, 1) := by decide +kernel
theorem dX6_arc_88 : decode cX6_arc 88 = .ok (.aload_n 0, 1) := by decide +kernel
theorem dX6_arc_89 : decode cX6_arc 89 = .ok (.getfield 32, 3) := by decide +kernel
theorem dX6_arc_92 : decode cX6_arc 92 = .ok (.iload_n 3, 1) := by decide +kernel
theorem dX6_arc_93 : decode cX6_arc 93 = .ok (.iaload, 1) := by decide +kernel
theorem dX6_arc_94 : decode cX6_arc 94 = .ok (.isub, 1) := by decide +kernel
theorem dX6_arc_95 : decode cX6_arc 95 = .ok (.aload_n 0, 1) := by decide +kernel
theorem dX6_arc_96 : decode cX6_arc 96 = .ok (.getfield 22, 3) := by decide +kernel
theorem dX6_arc_99 : decode cX6_arc 99 = .ok (.iadd, 1) := by decide +kernel
theorem dX6_arc_100 : decode cX6_arc 100 = .ok (.aload_n 0, 1) := by decide +kernel
theorem dX6_arc_101 : decode cX6_arc 101 = .ok (.getfield 22, 3) := by decide +kernel
theorem dX6_arc_104 : decode cX6_arc 104 = .ok (.irem, 1) := by decide +kernel
theorem dX6_arc_105 : decode cX6_arc 105 = .ok (.invokestatic 180, 3) := by decide +kernel
theorem dX6_arc_108 : decode cX6_arc 108 = .ok (.istore 4, 2) := by decide +kernel
theorem dX6_arc_110 : decode cX6_arc 110 = .ok (.iinc 5 1, 3) := by decide +kernel
theorem dX6_arc_113 : decode cX6_arc 113 = .ok (.goto (-53), 3) := by decide +kernel
theorem dX6_arc_116 : decode cX6_arc 116 = .ok (.iload_n 2, 1) := by decide +kernel
theorem dX6_arc_117 : decode cX6_arc 117 = .ok (.iload 4, 2) := by decide +kernel
theorem dX6_arc_119 : decode cX6_arc 119 = .ok (.invokestatic 185, 3) := by decide +kernel
theorem dX6_arc_122 : decode cX6_arc 122 = .ok (.istore_n 2, 1) := by decide +kernel
theorem dX6_arc_123 : decode cX6_arc 123 = .ok (.iinc 3 1, 3) := by decide +kernel
theorem dX6_arc_126 : decode cX6_arc 126 = .ok (.goto (-91), 3) := by decide +kernel
theorem dX6_arc_129 : decode cX6_arc 129 = .ok (.iload_n 2, 1) := by decide +kernel
theorem dX6_arc_130 : decode cX6_arc 130 = .ok (.ireturn, 1) := by decide +kernel
theorem dX6_begin_0 : decode cX6_begin 0 = .ok (.iconst 0, 1) := by decide +kernel
theorem dX6_begin_1 : decode cX6_begin 1 = .ok (.istore_n 2, 1) := by decide +kernel
theorem dX6_begin_2 : decode cX6_begin 2 = .ok (.iload_n 2, 1) := by decide +kernel
theorem dX6_begin_3 : decode cX6_begin 3 = .ok (.aload_n 0, 1) := by decide +kernel
theorem dX6_begin_4 : decode cX6_begin 4 = .ok (.getfield 141, 3) := by decide +kernel
theorem dX6_begin_7 : decode cX6_begin 7 = .ok (.if_icmp .ge 18, 3) := by decide +kernel
theorem dX6_begin_10 : decode cX6_begin 10 = .ok (.aload_n 1, 1) := by decide +kernel
theorem dX6_begin_11 : decode cX6_begin 11 = .ok (.iload_n 2, 1) := by decide +kernel
theorem dX6_begin_12 : decode cX6_begin 12 = .ok (.aload_n 0, 1) := by decide +kernel
theorem dX6_begin_13 : decode cX6_begin 13 = .ok (.getfield 32, 3) := by decide +kernel
theorem dX6_begin_16 : decode cX6_begin 16 = .ok (.iload_n 2, 1) := by decide +kernel
theorem dX6_begin_17 : decode cX6_begin 17 = .ok (.iaload, 1) := by decide +kernel
theorem dX6_begin_18 : decode cX6_begin 18 = .ok (.iastore, 1) := by decide +kernel
theorem dX6_begin_19 : decode cX6_begin 19 = .ok (.iinc 2 1, 3) := by decide +kernel
theorem dX6_begin_22 : decode cX6_begin 22 = .ok (.goto (-20), 3) := by decide +kernel
theorem dX6_begin_25 : decode cX6_begin 25 = .ok (.return_, 1) := by decide +kernel
theorem dX6_isLike_0 : decode cX6_isLike 0 = .ok (.iconst 0, 1) := by decide +kernel
theorem dX6_isLike_1 : decode cX6_isLike 1 = .ok (.istore_n 3, 1) := by decide +kernel
theorem dX6_isLike_2 : decode cX6_isLike 2 = .ok (.iload_n 3, 1) := by decide +kernel
theorem dX6_isLike_3 : decode cX6_isLike 3 = .ok (.aload_n 0, 1) := by decide +kernel
theorem dX6_isLike_4 : decode cX6_isLike 4 = .ok (.getfield 141, 3) := by decide +kernel
theorem dX6_isLike_7 : decode cX6_isLike 7 = .ok (.if_icmp .ge 20, 3) := by decide +kernel
theorem dX6_isLike_10 : decode cX6_isLike 10 = .ok (.aload_n 1, 1) := by decide +kernel
theorem dX6_isLike_11 : decode cX6_isLike 11 = .ok (.iload_n 3, 1) := by decide +kernel
theorem dX6_isLike_12 : decode cX6_isLike 12 = .ok (.iaload, 1) := by decide +kernel
theorem dX6_isLike_13 : decode cX6_isLike 13 = .ok (.aload_n 2, 1) := by decide +kernel
theorem dX6_isLike_14 : decode cX6_isLike 14 = .ok (.iload_n 3, 1) := by decide +kernel
theorem dX6_isLike_15 : decode cX6_isLike 15 = .ok (.iaload, 1) := by decide +kernel
theorem dX6_isLike_16 : decode cX6_isLike 16 = .ok (.if_icmp .eq 5, 3) := by decide +kernel
theorem dX6_isLike_19 : decode cX6_isLike 19 = .ok (.iconst 0, 1) := by decide +kernel
theorem dX6_isLike_20 : decode cX6_isLike 20 = .ok (.ireturn, 1) := by decide +kernel
theorem dX6_isLike_21 : decode cX6_isLike 21 = .ok (.iinc 3 1, 3) := by decide +kernel
theorem dX6_isLike_24 : decode cX6_isLike 24 = .ok (.goto (-22), 3) := by decide +kernel
theorem dX6_isLike_27 : decode cX6_isLike 27 = .ok (.iconst 1, 1) := by decide +kernel
theorem dX6_isLike_28 : decode cX6_isLike 28 = .ok (.ireturn, 1) := by decide +kernel
theorem dX6_rounds_0 : decode cX6_rounds 0 = .ok (.aload_n 0, 1) := by decide +kernel
theorem dX6_rounds_1 : decode cX6_rounds 1 = .ok (.aload_n 0, 1) := by decide +kernel
theorem dX6_rounds_2 : decode cX6_rounds 2 = .ok (.getfield 63, 3) := by decide +kernel
theorem dX6_rounds_5 : decode cX6_rounds 5 = .ok (.invokevirtual 188, 3) := by decide +kernel
theorem dX6_rounds_8 : decode cX6_rounds 8 = .ok (.aload_n 0, 1) := by decide +kernel
theorem dX6_rounds_9 : decode cX6_rounds 9 = .ok (.aload_n 0, 1) := by decide +kernel
theorem dX6_rounds_10 : decode cX6_rounds 10 = .ok (.getfield 60, 3) := by decide +kernel
theorem dX6_rounds_13 : decode cX6_rounds 13 = .ok (.invokevirtual 188, 3) := by decide +kernel
theorem dX6_rounds_16 : decode cX6_rounds 16 = .ok (.aload_n 0, 1) := by decide +kernel
theorem dX6_rounds_17 : decode cX6_rounds 17 = .ok (.aload_n 0, 1) := by decide +kernel
theorem dX6_rounds_18 : decode cX6_rounds 18 = .ok (.getfield 60, 3) := by decide +kernel
theorem dX6_rounds_21 : decode cX6_rounds 21 = .ok (.invokevirtual 166, 3) := by decide +kernel
theorem dX6_rounds_24 : decode cX6_rounds 24 = .ok (.iconst 1, 1) := by decide +kernel
theorem dX6_rounds_25 : decode cX6_rounds 25 = .ok (.istore_n 1, 1) := by decide +kernel
theorem dX6_rounds_26 : decode cX6_rounds 26 = .ok (.aload_n 0, 1) := by decide +kernel
theorem dX6_rounds_27 : decode cX6_rounds 27 = .ok (.iconst 1, 1) := by decide +kernel
theorem dX6_rounds_28 : decode cX6_rounds 28 = .ok (.putfield 191, 3) := by decide +kernel
theorem dX6_rounds_31 : decode cX6_rounds 31 = .ok (.iconst 1, 1) := by decide +kernel
theorem dX6_rounds_32 : decode cX6_rounds 32 = .ok (.istore_n 2, 1) := by decide +kernel
theorem dX6_rounds_33 : decode cX6_rounds 33 = .ok (.aload_n 0, 1) := by decide +kernel
theorem dX6_rounds_34 : decode cX6_rounds 34 = .ok (.aload_n 0, 1) := by decide +kernel
theorem dX6_rounds_35 : decode cX6_rounds 35 = .ok (.getfield 63, 3) := by decide +kernel
theorem dX6_rounds_38 : decode cX6_rounds 38 = .ok (.aload_n 0, 1) := by decide +kernel
theorem dX6_rounds_39 : decode cX6_rounds 39 = .ok (.getfield 60, 3) := by decide +kernel
theorem dX6_rounds_42 : decode cX6_rounds 42 = .ok (.invokevirtual 194, 3) := by decide +kernel
theorem dX6_rounds_45 : decode cX6_rounds 45 = .ok (.ifCond .ne 77, 3) := by decide +kernel
theorem dX6_rounds_48 : decode cX6_rounds 48 = .ok (.iload_n 1, 1) := by decide +kernel
theorem dX6_rounds_49 : decode cX6_rounds 49 = .ok (.aload_n 0, 1) := by decide +kernel
theorem dX6_rounds_50 : decode cX6_rounds 50 = .ok (.getfield 191, 3) := by decide +kernel
theorem dX6_rounds_53 : decode cX6_rounds 53 = .ok (.if_icmp .ne 40, 3) := by decide +kernel
theorem dX6_rounds_56 : decode cX6_rounds 56 = .ok (.iconst 0, 1) := by decide +kernel
theorem dX6_rounds_57 : decode cX6_rounds 57 = .ok (.istore_n 3, 1) := by decide +kernel
theorem dX6_rounds_58 : decode cX6_rounds 58 = .ok (.iload_n 3, 1) := by decide +kernel
theorem dX6_rounds_59 : decode cX6_rounds 59 = .ok (.aload_n 0, 1) := by decide +kernel
theorem dX6_rounds_60 : decode cX6_rounds 60 = .ok (.getfield 141, 3) := by decide +kernel
theorem dX6_rounds_63 : decode cX6_rounds 63 = .ok (.if_icmp .ge 21, 3) := by decide +kernel
theorem dX6_rounds_66 : decode cX6_rounds 66 = .ok (.aload_n 0, 1) := by decide +kernel
theorem dX6_rounds_67 : decode cX6_rounds 67 = .ok (.getfield 63, 3) := by decide +kernel
theorem dX6_rounds_70 : decode cX6_rounds 70 = .ok (.iload_n 3, 1) := by decide +kernel
theorem dX6_rounds_71 : decode cX6_rounds 71 = .ok (.aload_n 0, 1) := by decide +kernel
theorem dX6_rounds_72 : decode cX6_rounds 72 = .ok (.getfield 60, 3) := by decide +kernel
theorem dX6_rounds_75 : decode cX6_rounds 75 = .ok (.iload_n 3, 1) := by decide +kernel
theorem dX6_rounds_76 : decode cX6_rounds 76 = .ok (.iaload, 1) := by decide +kernel
theorem dX6_rounds_77 : decode cX6_rounds 77 = .ok (.iastore, 1) := by decide +kernel
theorem dX6_rounds_78 : decode cX6_rounds 78 = .ok (.iinc 3 1, 3) := by decide +kernel
theorem dX6_rounds_81 : decode cX6_rounds 81 = .ok (.goto (-23), 3) := by decide +kernel
theorem dX6_rounds_84 : decode cX6_rounds 84 = .ok (.iload_n 1, 1) := by decide +kernel
theorem dX6_rounds_85 : decode cX6_rounds 85 = .ok (.iconst 2, 1) := by decide +kernel
theorem dX6_rounds_86 : decode cX6_rounds 86 = .ok (.imul, 1) := by decide +kernel
theorem dX6_rounds_87 : decode cX6_rounds 87 = .ok (.istore_n 1, 1) := by decide +kernel
theorem dX6_rounds_88 : decode cX6_rounds 88 = .ok (.aload_n 0, 1) := by decide +kernel
theorem dX6_rounds_89 : decode cX6_rounds 89 = .ok (.iconst 0, 1) := by decide +kernel
theorem dX6_rounds_90 : decode cX6_rounds 90 = .ok (.putfield 191, 3) := by decide +kernel
theorem dX6_rounds_93 : decode cX6_rounds 93 = .ok (.aload_n 0, 1) := by decide +kernel
theorem dX6_rounds_94 : decode cX6_rounds 94 = .ok (.aload_n 0, 1) := by decide +kernel
theorem dX6_rounds_95 : decode cX6_rounds 95 = .ok (.getfield 60, 3) := by decide +kernel
theorem dX6_rounds_98 : decode cX6_rounds 98 = .ok (.invokevirtual 166, 3) := by decide +kernel
theorem dX6_rounds_101 : decode cX6_rounds 101 = .ok (.aload_n 0, 1) := by decide +kernel
theorem dX6_rounds_102 : decode cX6_rounds 102 = .ok (.dup, 1) := by decide +kernel
theorem dX6_rounds_103 : decode cX6_rounds 103 = .ok (.getfield 191, 3) := by decide +kernel
theorem dX6_rounds_106 : decode cX6_rounds 106 = .ok (.iconst 1, 1) := by decide +kernel
theorem dX6_rounds_107 : decode cX6_rounds 107 = .ok (.iadd, 1) := by decide +kernel
theorem dX6_rounds_108 : decode cX6_rounds 108 = .ok (.putfield 191, 3) := by decide +kernel
theorem dX6_rounds_111 : decode cX6_rounds 111 = .ok (.iinc 2 1, 3) := by decide +kernel
theorem dX6_rounds_114 : decode cX6_rounds 114 = .ok (.iload_n 2, 1) := by decide +kernel
theorem dX6_rounds_115 : decode cX6_rounds 115 = .ok (.ldc 198, 2) := by decide +kernel
theorem dX6_rounds_117 : decode cX6_rounds 117 = .ok (.if_icmp .le (-84), 3) := by decide +kernel
theorem dX6_rounds_120 : decode cX6_rounds 120 = .ok (.iconst 0, 1) := by decide +kernel
theorem dX6_rounds_121 : decode cX6_rounds 121 = .ok (.ireturn, 1) := by decide +kernel
theorem dX6_rounds_122 : decode cX6_rounds 122 = .ok (.aload_n 0, 1) := by decide +kernel
theorem dX6_rounds_123 : decode cX6_rounds 123 = .ok (.getfield 191, 3) := by decide +kernel
theorem dX6_rounds_126 : decode cX6_rounds 126 = .ok (.sipush 20000, 3) := by decide +kernel
theorem dX6_rounds_129 : decode cX6_rounds 129 = .ok (.if_icmp .le 5, 3) := by decide +kernel
theorem dX6_rounds_132 : decode cX6_rounds 132 = .ok (.iconst 0, 1) := by decide +kernel
theorem dX6_rounds_133 : decode cX6_rounds 133 = .ok (.ireturn, 1) := by decide +kernel
theorem dX6_rounds_134 : decode cX6_rounds 134 = .ok (.aload_n 0, 1) := by decide +kernel
theorem dX6_rounds_135 : decode cX6_rounds 135 = .ok (.aload_n 0, 1) := by decide +kernel
theorem dX6_rounds_136 : decode cX6_rounds 136 = .ok (.getfield 63, 3) := by decide +kernel
theorem dX6_rounds_139 : decode cX6_rounds 139 = .ok (.invokevirtual 188, 3) := by decide +kernel
theorem dX6_rounds_142 : decode cX6_rounds 142 = .ok (.aload_n 0, 1) := by decide +kernel
theorem dX6_rounds_143 : decode cX6_rounds 143 = .ok (.aload_n 0, 1) := by decide +kernel
theorem dX6_rounds_144 : decode cX6_rounds 144 = .ok (.getfield 60, 3) := by decide +kernel
theorem dX6_rounds_147 : decode cX6_rounds 147 = .ok (.invokevirtual 188, 3) := by decide +kernel
theorem dX6_rounds_150 : decode cX6_rounds 150 = .ok (.iconst 0, 1) := by decide +kernel
theorem dX6_rounds_151 : decode cX6_rounds 151 = .ok (.istore_n 3, 1) := by decide +kernel
theorem dX6_rounds_152 : decode cX6_rounds 152 = .ok (.iload_n 3, 1) := by decide +kernel
theorem dX6_rounds_153 : decode cX6_rounds 153 = .ok (.aload_n 0, 1) := by decide +kernel
theorem dX6_rounds_154 : decode cX6_rounds 154 = .ok (.getfield 191, 3) := by decide +kernel
theorem dX6_rounds_157 : decode cX6_rounds 157 = .ok (.if_icmp .ge 17, 3) := by decide +kernel
theorem dX6_rounds_160 : decode cX6_rounds 160 = .ok (.aload_n 0, 1) := by decide +kernel
theorem dX6_rounds_161 : decode cX6_rounds 161 = .ok (.aload_n 0, 1) := by decide +kernel
theorem dX6_rounds_162 : decode cX6_rounds 162 = .ok (.getfield 60, 3) := by decide +kernel
theorem dX6_rounds_165 : decode cX6_rounds 165 = .ok (.invokevirtual 166, 3) := by decide +kernel
theorem dX6_rounds_168 : decode cX6_rounds 168 = .ok (.iinc 3 1, 3) := by decide +kernel
theorem dX6_rounds_171 : decode cX6_rounds 171 = .ok (.goto (-19), 3) := by decide +kernel
theorem dX6_rounds_174 : decode cX6_rounds 174 = .ok (.aload_n 0, 1) := by decide +kernel
theorem dX6_rounds_175 : decode cX6_rounds 175 = .ok (.iconst 0, 1) := by decide +kernel
theorem dX6_rounds_176 : decode cX6_rounds 176 = .ok (.putfield 199, 3) := by decide +kernel
theorem dX6_rounds_179 : decode cX6_rounds 179 = .ok (.aload_n 0, 1) := by decide +kernel
theorem dX6_rounds_180 : decode cX6_rounds 180 = .ok (.aload_n 0, 1) := by decide +kernel
theorem dX6_rounds_181 : decode cX6_rounds 181 = .ok (.getfield 63, 3) := by decide +kernel
theorem dX6_rounds_184 : decode cX6_rounds 184 = .ok (.aload_n 0, 1) := by decide +kernel
theorem dX6_rounds_185 : decode cX6_rounds 185 = .ok (.getfield 60, 3) := by decide +kernel
theorem dX6_rounds_188 : decode cX6_rounds 188 = .ok (.invokevirtual 194, 3) := by decide +kernel
theorem dX6_rounds_191 : decode cX6_rounds 191 = .ok (.ifCond .ne 32, 3) := by decide +kernel
theorem dX6_rounds_194 : decode cX6_rounds 194 = .ok (.aload_n 0, 1) := by decide +kernel
theorem dX6_rounds_195 : decode cX6_rounds 195 = .ok (.aload_n 0, 1) := by decide +kernel
theorem dX6_rounds_196 : decode cX6_rounds 196 = .ok (.getfield 63, 3) := by decide +kernel
theorem dX6_rounds_199 : decode cX6_rounds 199 = .ok (.invokevirtual 166, 3) := by decide +kernel
theorem dX6_rounds_202 : decode cX6_rounds 202 = .ok (.aload_n 0, 1) := by decide +kernel
theorem dX6_rounds_203 : decode cX6_rounds 203 = .ok (.aload_n 0, 1) := by decide +kernel
theorem dX6_rounds_204 : decode cX6_rounds 204 = .ok (.getfield 60, 3) := by decide +kernel
theorem dX6_rounds_207 : decode cX6_rounds 207 = .ok (.invokevirtual 166, 3) := by decide +kernel
theorem dX6_rounds_210 : decode cX6_rounds 210 = .ok (.aload_n 0, 1) := by decide +kernel
theorem dX6_rounds_211 : decode cX6_rounds 211 = .ok (.dup, 1) := by decide +kernel
theorem dX6_rounds_212 : decode cX6_rounds 212 = .ok (.getfield 199, 3) := by decide +kernel
theorem dX6_rounds_215 : decode cX6_rounds 215 = .ok (.iconst 1, 1) := by decide +kernel
theorem dX6_rounds_216 : decode cX6_rounds 216 = .ok (.iadd, 1) := by decide +kernel
theorem dX6_rounds_217 : decode cX6_rounds 217 = .ok (.putfield 199, 3) := by decide +kernel
theorem dX6_rounds_220 : decode cX6_rounds 220 = .ok (.goto (-41), 3) := by decide +kernel
theorem dX6_rounds_223 : decode cX6_rounds 223 = .ok (.aload_n 0, 1) := by decide +kernel
theorem dX6_rounds_224 : decode cX6_rounds 224 = .ok (.getfield 199, 3) := by decide +kernel
theorem dX6_rounds_227 : decode cX6_rounds 227 = .ok (.aload_n 0, 1) := by decide +kernel
theorem dX6_rounds_228 : decode cX6_rounds 228 = .ok (.getfield 191, 3) := by decide +kernel
theorem dX6_rounds_231 : decode cX6_rounds 231 = .ok (.iadd, 1) := by decide +kernel
theorem dX6_rounds_232 : decode cX6_rounds 232 = .ok (.sipush 20000, 3) := by decide +kernel
theorem dX6_rounds_235 : decode cX6_rounds 235 = .ok (.if_icmp .gt 7, 3) := by decide +kernel
theorem dX6_rounds_238 : decode cX6_rounds 238 = .ok (.iconst 1, 1) := by decide +kernel
theorem dX6_rounds_239 : decode cX6_rounds 239 = .ok (.goto 4, 3) := by decide +kernel
theorem dX6_rounds_242 : decode cX6_rounds 242 = .ok (.iconst 0, 1) := by decide +kernel
theorem dX6_rounds_243 : decode cX6_rounds 243 = .ok (.ireturn, 1) := by decide +kernel
theorem dX6_round_0 : decode cX6_round 0 = .ok (.aload_n 0, 1) := by decide +kernel
theorem dX6_round_1 : decode cX6_round 1 = .ok (.iconst 0, 1) := by decide +kernel
theorem dX6_round_2 : decode cX6_round 2 = .ok (.putfield 117, 3) := by decide +kernel
theorem dX6_round_5 : decode cX6_round 5 = .ok (.aload_n 0, 1) := by decide +kernel
theorem dX6_round_6 : decode cX6_round 6 = .ok (.iconst 0, 1) := by decide +kernel
theorem dX6_round_7 : decode cX6_round 7 = .ok (.putfield 120, 3) := by decide +kernel
theorem dX6_round_10 : decode cX6_round 10 = .ok (.iload_n 1, 1) := by decide +kernel
theorem dX6_round_11 : decode cX6_round 11 = .ok (.ifCond .lt 8, 3) := by decide +kernel
theorem dX6_round_14 : decode cX6_round 14 = .ok (.iload_n 1, 1) := by decide +kernel
theorem dX6_round_15 : decode cX6_round 15 = .ok (.iconst 1, 1) := by decide +kernel
theorem dX6_round_16 : decode cX6_round 16 = .ok (.if_icmp .le 9, 3) := by decide +kernel
theorem dX6_round_19 : decode cX6_round 19 = .ok (.aload_n 0, 1) := by decide +kernel
theorem dX6_round_20 : decode cX6_round 20 = .ok (.iconst 2, 1) := by decide +kernel
theorem dX6_round_21 : decode cX6_round 21 = .ok (.invokevirtual 151, 3) := by decide +kernel
theorem dX6_round_24 : decode cX6_round 24 = .ok (.ireturn, 1) := by decide +kernel
theorem dX6_round_25 : decode cX6_round 25 = .ok (.aload_n 0, 1) := by decide +kernel
theorem dX6_round_26 : decode cX6_round 26 = .ok (.getfield 141, 3) := by decide +kernel
theorem dX6_round_29 : decode cX6_round 29 = .ok (.ifCond .ne 10, 3) := by decide +kernel
theorem dX6_round_32 : decode cX6_round 32 = .ok (.aload_n 0, 1) := by decide +kernel
theorem dX6_round_33 : decode cX6_round 33 = .ok (.bipush 8, 2) := by decide +kernel
theorem dX6_round_35 : decode cX6_round 35 = .ok (.invokevirtual 151, 3) := by decide +kernel
theorem dX6_round_38 : decode cX6_round 38 = .ok (.ireturn, 1) := by decide +kernel
theorem dX6_round_39 : decode cX6_round 39 = .ok (.aload_n 0, 1) := by decide +kernel
theorem dX6_round_40 : decode cX6_round 40 = .ok (.invokevirtual 202, 3) := by decide +kernel
theorem dX6_round_43 : decode cX6_round 43 = .ok (.ifCond .ne 10, 3) := by decide +kernel
theorem dX6_round_46 : decode cX6_round 46 = .ok (.aload_n 0, 1) := by decide +kernel
theorem dX6_round_47 : decode cX6_round 47 = .ok (.bipush 10, 2) := by decide +kernel
theorem dX6_round_49 : decode cX6_round 49 = .ok (.invokevirtual 151, 3) := by decide +kernel
theorem dX6_round_52 : decode cX6_round 52 = .ok (.ireturn, 1) := by decide +kernel
theorem dX6_round_53 : decode cX6_round 53 = .ok (.iload_n 1, 1) := by decide +kernel
theorem dX6_round_54 : decode cX6_round 54 = .ok (.ifCond .ne 10, 3) := by decide +kernel
theorem dX6_round_57 : decode cX6_round 57 = .ok (.aload_n 0, 1) := by decide +kernel
theorem dX6_round_58 : decode cX6_round 58 = .ok (.getfield 199, 3) := by decide +kernel
theorem dX6_round_61 : decode cX6_round 61 = .ok (.goto 7, 3) := by decide +kernel
theorem dX6_round_64 : decode cX6_round 64 = .ok (.aload_n 0, 1) := by decide +kernel
theorem dX6_round_65 : decode cX6_round 65 = .ok (.getfield 191, 3) := by decide +kernel
theorem dX6_round_68 : decode cX6_round 68 = .ok (.ireturn, 1) := by decide +kernel
theorem dX6_meet_0 : decode cX6_meet 0 = .ok (.aload_n 0, 1) := by decide +kernel
theorem dX6_meet_1 : decode cX6_meet 1 = .ok (.iconst 0, 1) := by decide +kernel
theorem dX6_meet_2 : decode cX6_meet 2 = .ok (.putfield 117, 3) := by decide +kernel
theorem dX6_meet_5 : decode cX6_meet 5 = .ok (.aload_n 0, 1) := by decide +kernel
theorem dX6_meet_6 : decode cX6_meet 6 = .ok (.iconst 0, 1) := by decide +kernel
theorem dX6_meet_7 : decode cX6_meet 7 = .ok (.putfield 120, 3) := by decide +kernel
theorem dX6_meet_10 : decode cX6_meet 10 = .ok (.aload_n 0, 1) := by decide +kernel
theorem dX6_meet_11 : decode cX6_meet 11 = .ok (.iload_n 1, 1) := by decide +kernel
theorem dX6_meet_12 : decode cX6_meet 12 = .ok (.invokevirtual 173, 3) := by decide +kernel
theorem dX6_meet_15 : decode cX6_meet 15 = .ok (.ifCond .ne 9, 3) := by decide +kernel
theorem dX6_meet_18 : decode cX6_meet 18 = .ok (.aload_n 0, 1) := by decide +kernel
theorem dX6_meet_19 : decode cX6_meet 19 = .ok (.iconst 2, 1) := by decide +kernel
theorem dX6_meet_20 : decode cX6_meet 20 = .ok (.invokevirtual 151, 3) := by decide +kernel
theorem dX6_meet_23 : decode cX6_meet 23 = .ok (.ireturn, 1) := by decide +kernel
theorem dX6_meet_24 : decode cX6_meet 24 = .ok (.aload_n 0, 1) := by decide +kernel
theorem dX6_meet_25 : decode cX6_meet 25 = .ok (.aload_n 0, 1) := by decide +kernel
theorem dX6_meet_26 : decode cX6_meet 26 = .ok (.getfield 57, 3) := by decide +kernel
theorem dX6_meet_29 : decode cX6_meet 29 = .ok (.invokevirtual 188, 3) := by decide +kernel
theorem dX6_meet_32 : decode cX6_meet 32 = .ok (.aload_n 0, 1) := by decide +kernel
theorem dX6_meet_33 : decode cX6_meet 33 = .ok (.aload_n 0, 1) := by decide +kernel
theorem dX6_meet_34 : decode cX6_meet 34 = .ok (.getfield 57, 3) := by decide +kernel
theorem dX6_meet_37 : decode cX6_meet 37 = .ok (.iload_n 1, 1) := by decide +kernel
theorem dX6_meet_38 : decode cX6_meet 38 = .ok (.invokevirtual 176, 3) := by decide +kernel
theorem dX6_meet_41 : decode cX6_meet 41 = .ok (.ifCond .eq 5, 3) := by decide +kernel
theorem dX6_meet_44 : decode cX6_meet 44 = .ok (.iconst 0, 1) := by decide +kernel
theorem dX6_meet_45 : decode cX6_meet 45 = .ok (.ireturn, 1) := by decide +kernel
theorem dX6_meet_46 : decode cX6_meet 46 = .ok (.aload_n 0, 1) := by decide +kernel
theorem dX6_meet_47 : decode cX6_meet 47 = .ok (.invokevirtual 202, 3) := by decide +kernel
theorem dX6_meet_50 : decode cX6_meet 50 = .ok (.istore_n 2, 1) := by decide +kernel
theorem dX6_meet_51 : decode cX6_meet 51 = .ok (.iload_n 2, 1) := by decide +kernel
end
section
theorem dX6_meet_52 : decode cX6_meet 52 = .ok (.ifCond .eq 15, 3) := by decide +kernel
theorem dX6_meet_55 : decode cX6_meet 55 = .ok (.aload_n 0, 1) := by decide +kernel
theorem dX6_meet_56 : decode cX6_meet 56 = .ok (.getfield 199, 3) := by decide +kernel
theorem dX6_meet_59 : decode cX6_meet 59 = .ok (.aload_n 0, 1) := by decide +kernel
theorem dX6_meet_60 : decode cX6_meet 60 = .ok (.getfield 191, 3) := by decide +kernel
theorem dX6_meet_63 : decode cX6_meet 63 = .ok (.iadd, 1) := by decide +kernel
theorem dX6_meet_64 : decode cX6_meet 64 = .ok (.goto 6, 3) := by decide +kernel
theorem dX6_meet_67 : decode cX6_meet 67 = .ok (.sipush 20000, 3) := by decide +kernel
theorem dX6_meet_70 : decode cX6_meet 70 = .ok (.istore_n 3, 1) := by decide +kernel
theorem dX6_meet_71 : decode cX6_meet 71 = .ok (.aload_n 0, 1) := by decide +kernel
theorem dX6_meet_72 : decode cX6_meet 72 = .ok (.aload_n 0, 1) := by decide +kernel
theorem dX6_meet_73 : decode cX6_meet 73 = .ok (.getfield 57, 3) := by decide +kernel
theorem dX6_meet_76 : decode cX6_meet 76 = .ok (.invokevirtual 188, 3) := by decide +kernel
theorem dX6_meet_79 : decode cX6_meet 79 = .ok (.iconst 1, 1) := by decide +kernel
theorem dX6_meet_80 : decode cX6_meet 80 = .ok (.istore 4, 2) := by decide +kernel
theorem dX6_meet_82 : decode cX6_meet 82 = .ok (.iload 4, 2) := by decide +kernel
theorem dX6_meet_84 : decode cX6_meet 84 = .ok (.iload_n 3, 1) := by decide +kernel
theorem dX6_meet_85 : decode cX6_meet 85 = .ok (.if_icmp .gt 32, 3) := by decide +kernel
theorem dX6_meet_88 : decode cX6_meet 88 = .ok (.aload_n 0, 1) := by decide +kernel
theorem dX6_meet_89 : decode cX6_meet 89 = .ok (.aload_n 0, 1) := by decide +kernel
theorem dX6_meet_90 : decode cX6_meet 90 = .ok (.getfield 57, 3) := by decide +kernel
theorem dX6_meet_93 : decode cX6_meet 93 = .ok (.invokevirtual 166, 3) := by decide +kernel
theorem dX6_meet_96 : decode cX6_meet 96 = .ok (.aload_n 0, 1) := by decide +kernel
theorem dX6_meet_97 : decode cX6_meet 97 = .ok (.aload_n 0, 1) := by decide +kernel
theorem dX6_meet_98 : decode cX6_meet 98 = .ok (.getfield 57, 3) := by decide +kernel
theorem dX6_meet_101 : decode cX6_meet 101 = .ok (.iload_n 1, 1) := by decide +kernel
theorem dX6_meet_102 : decode cX6_meet 102 = .ok (.invokevirtual 176, 3) := by decide +kernel
theorem dX6_meet_105 : decode cX6_meet 105 = .ok (.ifCond .eq 6, 3) := by decide +kernel
theorem dX6_meet_108 : decode cX6_meet 108 = .ok (.iload 4, 2) := by decide +kernel
theorem dX6_meet_110 : decode cX6_meet 110 = .ok (.ireturn, 1) := by decide +kernel
theorem dX6_meet_111 : decode cX6_meet 111 = .ok (.iinc 4 1, 3) := by decide +kernel
theorem dX6_meet_114 : decode cX6_meet 114 = .ok (.goto (-32), 3) := by decide +kernel
theorem dX6_meet_117 : decode cX6_meet 117 = .ok (.aload_n 0, 1) := by decide +kernel
theorem dX6_meet_118 : decode cX6_meet 118 = .ok (.iload_n 2, 1) := by decide +kernel
theorem dX6_meet_119 : decode cX6_meet 119 = .ok (.ifCond .eq 8, 3) := by decide +kernel
theorem dX6_meet_122 : decode cX6_meet 122 = .ok (.bipush 8, 2) := by decide +kernel
theorem dX6_meet_124 : decode cX6_meet 124 = .ok (.goto 5, 3) := by decide +kernel
theorem dX6_meet_127 : decode cX6_meet 127 = .ok (.bipush 10, 2) := by decide +kernel
theorem dX6_meet_129 : decode cX6_meet 129 = .ok (.invokevirtual 151, 3) := by decide +kernel
theorem dX6_meet_132 : decode cX6_meet 132 = .ok (.ireturn, 1) := by decide +kernel
theorem dX6_states_0 : decode cX6_states 0 = .ok (.aload_n 0, 1) := by decide +kernel
theorem dX6_states_1 : decode cX6_states 1 = .ok (.getfield 141, 3) := by decide +kernel
theorem dX6_states_4 : decode cX6_states 4 = .ok (.ifCond .ne 5, 3) := by decide +kernel
theorem dX6_states_7 : decode cX6_states 7 = .ok (.iconst (-1), 1) := by decide +kernel
theorem dX6_states_8 : decode cX6_states 8 = .ok (.ireturn, 1) := by decide +kernel
theorem dX6_states_9 : decode cX6_states 9 = .ok (.iconst 1, 1) := by decide +kernel
theorem dX6_states_10 : decode cX6_states 10 = .ok (.istore_n 1, 1) := by decide +kernel
theorem dX6_states_11 : decode cX6_states 11 = .ok (.iconst 0, 1) := by decide +kernel
theorem dX6_states_12 : decode cX6_states 12 = .ok (.istore_n 2, 1) := by decide +kernel
theorem dX6_states_13 : decode cX6_states 13 = .ok (.iload_n 2, 1) := by decide +kernel
theorem dX6_states_14 : decode cX6_states 14 = .ok (.aload_n 0, 1) := by decide +kernel
theorem dX6_states_15 : decode cX6_states 15 = .ok (.getfield 141, 3) := by decide +kernel
theorem dX6_states_18 : decode cX6_states 18 = .ok (.if_icmp .ge 33, 3) := by decide +kernel
theorem dX6_states_21 : decode cX6_states 21 = .ok (.iload_n 1, 1) := by decide +kernel
theorem dX6_states_22 : decode cX6_states 22 = .ok (.i2l, 1) := by decide +kernel
theorem dX6_states_23 : decode cX6_states 23 = .ok (.aload_n 0, 1) := by decide +kernel
theorem dX6_states_24 : decode cX6_states 24 = .ok (.getfield 22, 3) := by decide +kernel
theorem dX6_states_27 : decode cX6_states 27 = .ok (.i2l, 1) := by decide +kernel
theorem dX6_states_28 : decode cX6_states 28 = .ok (.lmul, 1) := by decide +kernel
theorem dX6_states_29 : decode cX6_states 29 = .ok (.ldc2_w 206, 3) := by decide +kernel
theorem dX6_states_32 : decode cX6_states 32 = .ok (.lcmp, 1) := by decide +kernel
theorem dX6_states_33 : decode cX6_states 33 = .ok (.ifCond .le 5, 3) := by decide +kernel
theorem dX6_states_36 : decode cX6_states 36 = .ok (.iconst (-1), 1) := by decide +kernel
theorem dX6_states_37 : decode cX6_states 37 = .ok (.ireturn, 1) := by decide +kernel
theorem dX6_states_38 : decode cX6_states 38 = .ok (.iload_n 1, 1) := by decide +kernel
theorem dX6_states_39 : decode cX6_states 39 = .ok (.aload_n 0, 1) := by decide +kernel
theorem dX6_states_40 : decode cX6_states 40 = .ok (.getfield 22, 3) := by decide +kernel
theorem dX6_states_43 : decode cX6_states 43 = .ok (.imul, 1) := by decide +kernel
theorem dX6_states_44 : decode cX6_states 44 = .ok (.istore_n 1, 1) := by decide +kernel
theorem dX6_states_45 : decode cX6_states 45 = .ok (.iinc 2 1, 3) := by decide +kernel
theorem dX6_states_48 : decode cX6_states 48 = .ok (.goto (-35), 3) := by decide +kernel
theorem dX6_states_51 : decode cX6_states 51 = .ok (.iload_n 1, 1) := by decide +kernel
theorem dX6_states_52 : decode cX6_states 52 = .ok (.ireturn, 1) := by decide +kernel
theorem dX6_stateTo_0 : decode cX6_stateTo 0 = .ok (.iload_n 1, 1) := by decide +kernel
theorem dX6_stateTo_1 : decode cX6_stateTo 1 = .ok (.istore_n 3, 1) := by decide +kernel
theorem dX6_stateTo_2 : decode cX6_stateTo 2 = .ok (.iconst 0, 1) := by decide +kernel
theorem dX6_stateTo_3 : decode cX6_stateTo 3 = .ok (.istore 4, 2) := by decide +kernel
theorem dX6_stateTo_5 : decode cX6_stateTo 5 = .ok (.iload 4, 2) := by decide +kernel
theorem dX6_stateTo_7 : decode cX6_stateTo 7 = .ok (.aload_n 0, 1) := by decide +kernel
theorem dX6_stateTo_8 : decode cX6_stateTo 8 = .ok (.getfield 141, 3) := by decide +kernel
theorem dX6_stateTo_11 : decode cX6_stateTo 11 = .ok (.if_icmp .ge 26, 3) := by decide +kernel
theorem dX6_stateTo_14 : decode cX6_stateTo 14 = .ok (.aload_n 2, 1) := by decide +kernel
theorem dX6_stateTo_15 : decode cX6_stateTo 15 = .ok (.iload 4, 2) := by decide +kernel
theorem dX6_stateTo_17 : decode cX6_stateTo 17 = .ok (.iload_n 3, 1) := by decide +kernel
theorem dX6_stateTo_18 : decode cX6_stateTo 18 = .ok (.aload_n 0, 1) := by decide +kernel
theorem dX6_stateTo_19 : decode cX6_stateTo 19 = .ok (.getfield 22, 3) := by decide +kernel
theorem dX6_stateTo_22 : decode cX6_stateTo 22 = .ok (.irem, 1) := by decide +kernel
theorem dX6_stateTo_23 : decode cX6_stateTo 23 = .ok (.iastore, 1) := by decide +kernel
theorem dX6_stateTo_24 : decode cX6_stateTo 24 = .ok (.iload_n 3, 1) := by decide +kernel
theorem dX6_stateTo_25 : decode cX6_stateTo 25 = .ok (.aload_n 0, 1) := by decide +kernel
theorem dX6_stateTo_26 : decode cX6_stateTo 26 = .ok (.getfield 22, 3) := by decide +kernel
theorem dX6_stateTo_29 : decode cX6_stateTo 29 = .ok (.idiv, 1) := by decide +kernel
theorem dX6_stateTo_30 : decode cX6_stateTo 30 = .ok (.istore_n 3, 1) := by decide +kernel
theorem dX6_stateTo_31 : decode cX6_stateTo 31 = .ok (.iinc 4 1, 3) := by decide +kernel
theorem dX6_stateTo_34 : decode cX6_stateTo 34 = .ok (.goto (-29), 3) := by decide +kernel
theorem dX6_stateTo_37 : decode cX6_stateTo 37 = .ok (.return_, 1) := by decide +kernel
theorem dX6_numberOf_0 : decode cX6_numberOf 0 = .ok (.iconst 0, 1) := by decide +kernel
theorem dX6_numberOf_1 : decode cX6_numberOf 1 = .ok (.istore_n 2, 1) := by decide +kernel
theorem dX6_numberOf_2 : decode cX6_numberOf 2 = .ok (.aload_n 0, 1) := by decide +kernel
theorem dX6_numberOf_3 : decode cX6_numberOf 3 = .ok (.getfield 141, 3) := by decide +kernel
theorem dX6_numberOf_6 : decode cX6_numberOf 6 = .ok (.iconst 1, 1) := by decide +kernel
theorem dX6_numberOf_7 : decode cX6_numberOf 7 = .ok (.isub, 1) := by decide +kernel
theorem dX6_numberOf_8 : decode cX6_numberOf 8 = .ok (.istore_n 3, 1) := by decide +kernel
theorem dX6_numberOf_9 : decode cX6_numberOf 9 = .ok (.iload_n 3, 1) := by decide +kernel
theorem dX6_numberOf_10 : decode cX6_numberOf 10 = .ok (.ifCond .lt 20, 3) := by decide +kernel
theorem dX6_numberOf_13 : decode cX6_numberOf 13 = .ok (.iload_n 2, 1) := by decide +kernel
theorem dX6_numberOf_14 : decode cX6_numberOf 14 = .ok (.aload_n 0, 1) := by decide +kernel
theorem dX6_numberOf_15 : decode cX6_numberOf 15 = .ok (.getfield 22, 3) := by decide +kernel
theorem dX6_numberOf_18 : decode cX6_numberOf 18 = .ok (.imul, 1) := by decide +kernel
theorem dX6_numberOf_19 : decode cX6_numberOf 19 = .ok (.aload_n 1, 1) := by decide +kernel
theorem dX6_numberOf_20 : decode cX6_numberOf 20 = .ok (.iload_n 3, 1) := by decide +kernel
theorem dX6_numberOf_21 : decode cX6_numberOf 21 = .ok (.iaload, 1) := by decide +kernel
theorem dX6_numberOf_22 : decode cX6_numberOf 22 = .ok (.iadd, 1) := by decide +kernel
theorem dX6_numberOf_23 : decode cX6_numberOf 23 = .ok (.istore_n 2, 1) := by decide +kernel
theorem dX6_numberOf_24 : decode cX6_numberOf 24 = .ok (.iinc 3 (-1), 3) := by decide +kernel
theorem dX6_numberOf_27 : decode cX6_numberOf 27 = .ok (.goto (-18), 3) := by decide +kernel
theorem dX6_numberOf_30 : decode cX6_numberOf 30 = .ok (.iload_n 2, 1) := by decide +kernel
theorem dX6_numberOf_31 : decode cX6_numberOf 31 = .ok (.ireturn, 1) := by decide +kernel
theorem dX6_fillEnds_0 : decode cX6_fillEnds 0 = .ok (.iconst 0, 1) := by decide +kernel
theorem dX6_fillEnds_1 : decode cX6_fillEnds 1 = .ok (.istore_n 2, 1) := by decide +kernel
theorem dX6_fillEnds_2 : decode cX6_fillEnds 2 = .ok (.iload_n 2, 1) := by decide +kernel
theorem dX6_fillEnds_3 : decode cX6_fillEnds 3 = .ok (.iload_n 1, 1) := by decide +kernel
theorem dX6_fillEnds_4 : decode cX6_fillEnds 4 = .ok (.if_icmp .ge 54, 3) := by decide +kernel
theorem dX6_fillEnds_7 : decode cX6_fillEnds 7 = .ok (.aload_n 0, 1) := by decide +kernel
theorem dX6_fillEnds_8 : decode cX6_fillEnds 8 = .ok (.iload_n 2, 1) := by decide +kernel
theorem dX6_fillEnds_9 : decode cX6_fillEnds 9 = .ok (.aload_n 0, 1) := by decide +kernel
theorem dX6_fillEnds_10 : decode cX6_fillEnds 10 = .ok (.getfield 57, 3) := by decide +kernel
theorem dX6_fillEnds_13 : decode cX6_fillEnds 13 = .ok (.invokevirtual 208, 3) := by decide +kernel
theorem dX6_fillEnds_16 : decode cX6_fillEnds 16 = .ok (.aload_n 0, 1) := by decide +kernel
theorem dX6_fillEnds_17 : decode cX6_fillEnds 17 = .ok (.aload_n 0, 1) := by decide +kernel
theorem dX6_fillEnds_18 : decode cX6_fillEnds 18 = .ok (.getfield 57, 3) := by decide +kernel
theorem dX6_fillEnds_21 : decode cX6_fillEnds 21 = .ok (.invokevirtual 166, 3) := by decide +kernel
theorem dX6_fillEnds_24 : decode cX6_fillEnds 24 = .ok (.aload_n 0, 1) := by decide +kernel
theorem dX6_fillEnds_25 : decode cX6_fillEnds 25 = .ok (.getfield 69, 3) := by decide +kernel
theorem dX6_fillEnds_28 : decode cX6_fillEnds 28 = .ok (.iload_n 2, 1) := by decide +kernel
theorem dX6_fillEnds_29 : decode cX6_fillEnds 29 = .ok (.aload_n 0, 1) := by decide +kernel
theorem dX6_fillEnds_30 : decode cX6_fillEnds 30 = .ok (.aload_n 0, 1) := by decide +kernel
theorem dX6_fillEnds_31 : decode cX6_fillEnds 31 = .ok (.getfield 57, 3) := by decide +kernel
theorem dX6_fillEnds_34 : decode cX6_fillEnds 34 = .ok (.invokevirtual 212, 3) := by decide +kernel
theorem dX6_fillEnds_37 : decode cX6_fillEnds 37 = .ok (.iastore, 1) := by decide +kernel
theorem dX6_fillEnds_38 : decode cX6_fillEnds 38 = .ok (.aload_n 0, 1) := by decide +kernel
theorem dX6_fillEnds_39 : decode cX6_fillEnds 39 = .ok (.getfield 106, 3) := by decide +kernel
theorem dX6_fillEnds_42 : decode cX6_fillEnds 42 = .ok (.iload_n 2, 1) := by decide +kernel
theorem dX6_fillEnds_43 : decode cX6_fillEnds 43 = .ok (.iconst 0, 1) := by decide +kernel
theorem dX6_fillEnds_44 : decode cX6_fillEnds 44 = .ok (.iastore, 1) := by decide +kernel
theorem dX6_fillEnds_45 : decode cX6_fillEnds 45 = .ok (.aload_n 0, 1) := by decide +kernel
theorem dX6_fillEnds_46 : decode cX6_fillEnds 46 = .ok (.getfield 72, 3) := by decide +kernel
theorem dX6_fillEnds_49 : decode cX6_fillEnds 49 = .ok (.iload_n 2, 1) := by decide +kernel
theorem dX6_fillEnds_50 : decode cX6_fillEnds 50 = .ok (.iconst (-1), 1) := by decide +kernel
theorem dX6_fillEnds_51 : decode cX6_fillEnds 51 = .ok (.iastore, 1) := by decide +kernel
theorem dX6_fillEnds_52 : decode cX6_fillEnds 52 = .ok (.iinc 2 1, 3) := by decide +kernel
theorem dX6_fillEnds_55 : decode cX6_fillEnds 55 = .ok (.goto (-53), 3) := by decide +kernel
theorem dX6_fillEnds_58 : decode cX6_fillEnds 58 = .ok (.iconst 0, 1) := by decide +kernel
theorem dX6_fillEnds_59 : decode cX6_fillEnds 59 = .ok (.istore_n 2, 1) := by decide +kernel
theorem dX6_fillEnds_60 : decode cX6_fillEnds 60 = .ok (.iload_n 2, 1) := by decide +kernel
theorem dX6_fillEnds_61 : decode cX6_fillEnds 61 = .ok (.iload_n 1, 1) := by decide +kernel
theorem dX6_fillEnds_62 : decode cX6_fillEnds 62 = .ok (.if_icmp .ge 124, 3) := by decide +kernel
theorem dX6_fillEnds_65 : decode cX6_fillEnds 65 = .ok (.iload_n 2, 1) := by decide +kernel
theorem dX6_fillEnds_66 : decode cX6_fillEnds 66 = .ok (.istore_n 3, 1) := by decide +kernel
theorem dX6_fillEnds_67 : decode cX6_fillEnds 67 = .ok (.aload_n 0, 1) := by decide +kernel
theorem dX6_fillEnds_68 : decode cX6_fillEnds 68 = .ok (.getfield 106, 3) := by decide +kernel
theorem dX6_fillEnds_71 : decode cX6_fillEnds 71 = .ok (.iload_n 3, 1) := by decide +kernel
theorem dX6_fillEnds_72 : decode cX6_fillEnds 72 = .ok (.iaload, 1) := by decide +kernel
theorem dX6_fillEnds_73 : decode cX6_fillEnds 73 = .ok (.ifCond .ne 22, 3) := by decide +kernel
theorem dX6_fillEnds_76 : decode cX6_fillEnds 76 = .ok (.aload_n 0, 1) := by decide +kernel
theorem dX6_fillEnds_77 : decode cX6_fillEnds 77 = .ok (.getfield 106, 3) := by decide +kernel
theorem dX6_fillEnds_80 : decode cX6_fillEnds 80 = .ok (.iload_n 3, 1) := by decide +kernel
theorem dX6_fillEnds_81 : decode cX6_fillEnds 81 = .ok (.iload_n 2, 1) := by decide +kernel
theorem dX6_fillEnds_82 : decode cX6_fillEnds 82 = .ok (.iconst 1, 1) := by decide +kernel
theorem dX6_fillEnds_83 : decode cX6_fillEnds 83 = .ok (.iadd, 1) := by decide +kernel
theorem dX6_fillEnds_84 : decode cX6_fillEnds 84 = .ok (.iastore, 1) := by decide +kernel
theorem dX6_fillEnds_85 : decode cX6_fillEnds 85 = .ok (.aload_n 0, 1) := by decide +kernel
theorem dX6_fillEnds_86 : decode cX6_fillEnds 86 = .ok (.getfield 69, 3) := by decide +kernel
theorem dX6_fillEnds_89 : decode cX6_fillEnds 89 = .ok (.iload_n 3, 1) := by decide +kernel
theorem dX6_fillEnds_90 : decode cX6_fillEnds 90 = .ok (.iaload, 1) := by decide +kernel
theorem dX6_fillEnds_91 : decode cX6_fillEnds 91 = .ok (.istore_n 3, 1) := by decide +kernel
theorem dX6_fillEnds_92 : decode cX6_fillEnds 92 = .ok (.goto (-25), 3) := by decide +kernel
theorem dX6_fillEnds_95 : decode cX6_fillEnds 95 = .ok (.aload_n 0, 1) := by decide +kernel
theorem dX6_fillEnds_96 : decode cX6_fillEnds 96 = .ok (.getfield 72, 3) := by decide +kernel
theorem dX6_fillEnds_99 : decode cX6_fillEnds 99 = .ok (.iload_n 3, 1) := by decide +kernel
theorem dX6_fillEnds_100 : decode cX6_fillEnds 100 = .ok (.iaload, 1) := by decide +kernel
theorem dX6_fillEnds_101 : decode cX6_fillEnds 101 = .ok (.istore 4, 2) := by decide +kernel
theorem dX6_fillEnds_103 : decode cX6_fillEnds 103 = .ok (.iload 4, 2) := by decide +kernel
theorem dX6_fillEnds_105 : decode cX6_fillEnds 105 = .ok (.ifCond .ge 41, 3) := by decide +kernel
theorem dX6_fillEnds_108 : decode cX6_fillEnds 108 = .ok (.iload_n 3, 1) := by decide +kernel
theorem dX6_fillEnds_109 : decode cX6_fillEnds 109 = .ok (.istore 4, 2) := by decide +kernel
theorem dX6_fillEnds_111 : decode cX6_fillEnds 111 = .ok (.aload_n 0, 1) := by decide +kernel
theorem dX6_fillEnds_112 : decode cX6_fillEnds 112 = .ok (.getfield 69, 3) := by decide +kernel
theorem dX6_fillEnds_115 : decode cX6_fillEnds 115 = .ok (.iload_n 3, 1) := by decide +kernel
theorem dX6_fillEnds_116 : decode cX6_fillEnds 116 = .ok (.iaload, 1) := by decide +kernel
theorem dX6_fillEnds_117 : decode cX6_fillEnds 117 = .ok (.istore 5, 2) := by decide +kernel
theorem dX6_fillEnds_119 : decode cX6_fillEnds 119 = .ok (.iload 5, 2) := by decide +kernel
theorem dX6_fillEnds_121 : decode cX6_fillEnds 121 = .ok (.iload_n 3, 1) := by decide +kernel
theorem dX6_fillEnds_122 : decode cX6_fillEnds 122 = .ok (.if_icmp .eq 24, 3) := by decide +kernel
theorem dX6_fillEnds_125 : decode cX6_fillEnds 125 = .ok (.iload 4, 2) := by decide +kernel
theorem dX6_fillEnds_127 : decode cX6_fillEnds 127 = .ok (.iload 5, 2) := by decide +kernel
theorem dX6_fillEnds_129 : decode cX6_fillEnds 129 = .ok (.invokestatic 185, 3) := by decide +kernel
theorem dX6_fillEnds_132 : decode cX6_fillEnds 132 = .ok (.istore 4, 2) := by decide +kernel
theorem dX6_fillEnds_134 : decode cX6_fillEnds 134 = .ok (.aload_n 0, 1) := by decide +kernel
theorem dX6_fillEnds_135 : decode cX6_fillEnds 135 = .ok (.getfield 69, 3) := by decide +kernel
theorem dX6_fillEnds_138 : decode cX6_fillEnds 138 = .ok (.iload 5, 2) := by decide +kernel
theorem dX6_fillEnds_140 : decode cX6_fillEnds 140 = .ok (.iaload, 1) := by decide +kernel
theorem dX6_fillEnds_141 : decode cX6_fillEnds 141 = .ok (.istore 5, 2) := by decide +kernel
theorem dX6_fillEnds_143 : decode cX6_fillEnds 143 = .ok (.goto (-24), 3) := by decide +kernel
theorem dX6_fillEnds_146 : decode cX6_fillEnds 146 = .ok (.iload_n 2, 1) := by decide +kernel
theorem dX6_fillEnds_147 : decode cX6_fillEnds 147 = .ok (.istore 5, 2) := by decide +kernel
theorem dX6_fillEnds_149 : decode cX6_fillEnds 149 = .ok (.aload_n 0, 1) := by decide +kernel
theorem dX6_fillEnds_150 : decode cX6_fillEnds 150 = .ok (.getfield 72, 3) := by decide +kernel
theorem dX6_fillEnds_153 : decode cX6_fillEnds 153 = .ok (.iload 5, 2) := by decide +kernel
theorem dX6_fillEnds_155 : decode cX6_fillEnds 155 = .ok (.iaload, 1) := by decide +kernel
theorem dX6_fillEnds_156 : decode cX6_fillEnds 156 = .ok (.ifCond .ge 24, 3) := by decide +kernel
theorem dX6_fillEnds_159 : decode cX6_fillEnds 159 = .ok (.aload_n 0, 1) := by decide +kernel
theorem dX6_fillEnds_160 : decode cX6_fillEnds 160 = .ok (.getfield 72, 3) := by decide +kernel
theorem dX6_fillEnds_163 : decode cX6_fillEnds 163 = .ok (.iload 5, 2) := by decide +kernel
theorem dX6_fillEnds_165 : decode cX6_fillEnds 165 = .ok (.iload 4, 2) := by decide +kernel
theorem dX6_fillEnds_167 : decode cX6_fillEnds 167 = .ok (.iastore, 1) := by decide +kernel
theorem dX6_fillEnds_168 : decode cX6_fillEnds 168 = .ok (.aload_n 0, 1) := by decide +kernel
theorem dX6_fillEnds_169 : decode cX6_fillEnds 169 = .ok (.getfield 69, 3) := by decide +kernel
theorem dX6_fillEnds_172 : decode cX6_fillEnds 172 = .ok (.iload 5, 2) := by decide +kernel
theorem dX6_fillEnds_174 : decode cX6_fillEnds 174 = .ok (.iaload, 1) := by decide +kernel
theorem dX6_fillEnds_175 : decode cX6_fillEnds 175 = .ok (.istore 5, 2) := by decide +kernel
theorem dX6_fillEnds_177 : decode cX6_fillEnds 177 = .ok (.goto (-28), 3) := by decide +kernel
theorem dX6_fillEnds_180 : decode cX6_fillEnds 180 = .ok (.iinc 2 1, 3) := by decide +kernel
theorem dX6_fillEnds_183 : decode cX6_fillEnds 183 = .ok (.goto (-123), 3) := by decide +kernel
theorem dX6_fillEnds_186 : decode cX6_fillEnds 186 = .ok (.return_, 1) := by decide +kernel
theorem dX6_ends_0 : decode cX6_ends 0 = .ok (.aload_n 0, 1) := by decide +kernel
theorem dX6_ends_1 : decode cX6_ends 1 = .ok (.iconst 0, 1) := by decide +kernel
theorem dX6_ends_2 : decode cX6_ends 2 = .ok (.putfield 117, 3) := by decide +kernel
theorem dX6_ends_5 : decode cX6_ends 5 = .ok (.aload_n 0, 1) := by decide +kernel
theorem dX6_ends_6 : decode cX6_ends 6 = .ok (.iconst 0, 1) := by decide +kernel
theorem dX6_ends_7 : decode cX6_ends 7 = .ok (.putfield 120, 3) := by decide +kernel
theorem dX6_ends_10 : decode cX6_ends 10 = .ok (.aload_n 0, 1) := by decide +kernel
theorem dX6_ends_11 : decode cX6_ends 11 = .ok (.invokevirtual 216, 3) := by decide +kernel
theorem dX6_ends_14 : decode cX6_ends 14 = .ok (.istore_n 1, 1) := by decide +kernel
theorem dX6_ends_15 : decode cX6_ends 15 = .ok (.iload_n 1, 1) := by decide +kernel
theorem dX6_ends_16 : decode cX6_ends 16 = .ok (.ifCond .ge 9, 3) := by decide +kernel
theorem dX6_ends_19 : decode cX6_ends 19 = .ok (.aload_n 0, 1) := by decide +kernel
theorem dX6_ends_20 : decode cX6_ends 20 = .ok (.iconst 5, 1) := by decide +kernel
theorem dX6_ends_21 : decode cX6_ends 21 = .ok (.invokevirtual 151, 3) := by decide +kernel
theorem dX6_ends_24 : decode cX6_ends 24 = .ok (.ireturn, 1) := by decide +kernel
theorem dX6_ends_25 : decode cX6_ends 25 = .ok (.aload_n 0, 1) := by decide +kernel
theorem dX6_ends_26 : decode cX6_ends 26 = .ok (.iload_n 1, 1) := by decide +kernel
theorem dX6_ends_27 : decode cX6_ends 27 = .ok (.invokevirtual 220, 3) := by decide +kernel
theorem dX6_ends_30 : decode cX6_ends 30 = .ok (.aload_n 0, 1) := by decide +kernel
theorem dX6_ends_31 : decode cX6_ends 31 = .ok (.iconst 0, 1) := by decide +kernel
theorem dX6_ends_32 : decode cX6_ends 32 = .ok (.putfield 224, 3) := by decide +kernel
theorem dX6_ends_35 : decode cX6_ends 35 = .ok (.iconst 0, 1) := by decide +kernel
theorem dX6_ends_36 : decode cX6_ends 36 = .ok (.istore_n 2, 1) := by decide +kernel
theorem dX6_ends_37 : decode cX6_ends 37 = .ok (.iload_n 2, 1) := by decide +kernel
theorem dX6_ends_38 : decode cX6_ends 38 = .ok (.iload_n 1, 1) := by decide +kernel
theorem dX6_ends_39 : decode cX6_ends 39 = .ok (.if_icmp .ge 16, 3) := by decide +kernel
theorem dX6_ends_42 : decode cX6_ends 42 = .ok (.aload_n 0, 1) := by decide +kernel
theorem dX6_ends_43 : decode cX6_ends 43 = .ok (.getfield 109, 3) := by decide +kernel
theorem dX6_ends_46 : decode cX6_ends 46 = .ok (.iload_n 2, 1) := by decide +kernel
theorem dX6_ends_47 : decode cX6_ends 47 = .ok (.iconst (-1), 1) := by decide +kernel
theorem dX6_ends_48 : decode cX6_ends 48 = .ok (.iastore, 1) := by decide +kernel
theorem dX6_ends_49 : decode cX6_ends 49 = .ok (.iinc 2 1, 3) := by decide +kernel
theorem dX6_ends_52 : decode cX6_ends 52 = .ok (.goto (-15), 3) := by decide +kernel
theorem dX6_ends_55 : decode cX6_ends 55 = .ok (.iconst 0, 1) := by decide +kernel
theorem dX6_ends_56 : decode cX6_ends 56 = .ok (.istore_n 2, 1) := by decide +kernel
theorem dX6_ends_57 : decode cX6_ends 57 = .ok (.iload_n 2, 1) := by decide +kernel
theorem dX6_ends_58 : decode cX6_ends 58 = .ok (.iload_n 1, 1) := by decide +kernel
theorem dX6_ends_59 : decode cX6_ends 59 = .ok (.if_icmp .ge 107, 3) := by decide +kernel
theorem dX6_ends_62 : decode cX6_ends 62 = .ok (.aload_n 0, 1) := by decide +kernel
theorem dX6_ends_63 : decode cX6_ends 63 = .ok (.getfield 72, 3) := by decide +kernel
theorem dX6_ends_66 : decode cX6_ends 66 = .ok (.iload_n 2, 1) := by decide +kernel
theorem dX6_ends_67 : decode cX6_ends 67 = .ok (.iaload, 1) := by decide +kernel
theorem dX6_ends_68 : decode cX6_ends 68 = .ok (.iload_n 2, 1) := by decide +kernel
theorem dX6_ends_69 : decode cX6_ends 69 = .ok (.if_icmp .eq 6, 3) := by decide +kernel
theorem dX6_ends_72 : decode cX6_ends 72 = .ok (.goto 88, 3) := by decide +kernel
theorem dX6_ends_75 : decode cX6_ends 75 = .ok (.aload_n 0, 1) := by decide +kernel
theorem dX6_ends_76 : decode cX6_ends 76 = .ok (.getfield 109, 3) := by decide +kernel
theorem dX6_ends_79 : decode cX6_ends 79 = .ok (.iload_n 2, 1) := by decide +kernel
theorem dX6_ends_80 : decode cX6_ends 80 = .ok (.aload_n 0, 1) := by decide +kernel
theorem dX6_ends_81 : decode cX6_ends 81 = .ok (.getfield 224, 3) := by decide +kernel
theorem dX6_ends_84 : decode cX6_ends 84 = .ok (.iastore, 1) := by decide +kernel
theorem dX6_ends_85 : decode cX6_ends 85 = .ok (.aload_n 0, 1) := by decide +kernel
theorem dX6_ends_86 : decode cX6_ends 86 = .ok (.getfield 75, 3) := by decide +kernel
theorem dX6_ends_89 : decode cX6_ends 89 = .ok (.aload_n 0, 1) := by decide +kernel
theorem dX6_ends_90 : decode cX6_ends 90 = .ok (.getfield 224, 3) := by decide +kernel
theorem dX6_ends_93 : decode cX6_ends 93 = .ok (.iload_n 2, 1) := by decide +kernel
theorem dX6_ends_94 : decode cX6_ends 94 = .ok (.iastore, 1) := by decide +kernel
theorem dX6_ends_95 : decode cX6_ends 95 = .ok (.aload_n 0, 1) := by decide +kernel
theorem dX6_ends_96 : decode cX6_ends 96 = .ok (.getfield 78, 3) := by decide +kernel
theorem dX6_ends_99 : decode cX6_ends 99 = .ok (.aload_n 0, 1) := by decide +kernel
theorem dX6_ends_100 : decode cX6_ends 100 = .ok (.getfield 224, 3) := by decide +kernel
theorem dX6_ends_103 : decode cX6_ends 103 = .ok (.iconst 1, 1) := by decide +kernel
theorem dX6_ends_104 : decode cX6_ends 104 = .ok (.iastore, 1) := by decide +kernel
theorem dX6_ends_105 : decode cX6_ends 105 = .ok (.aload_n 0, 1) := by decide +kernel
theorem dX6_ends_106 : decode cX6_ends 106 = .ok (.getfield 69, 3) := by decide +kernel
theorem dX6_ends_109 : decode cX6_ends 109 = .ok (.iload_n 2, 1) := by decide +kernel
theorem dX6_ends_110 : decode cX6_ends 110 = .ok (.iaload, 1) := by decide +kernel
theorem dX6_ends_111 : decode cX6_ends 111 = .ok (.istore_n 3, 1) := by decide +kernel
theorem dX6_ends_112 : decode cX6_ends 112 = .ok (.iload_n 3, 1) := by decide +kernel
theorem dX6_ends_113 : decode cX6_ends 113 = .ok (.iload_n 2, 1) := by decide +kernel
theorem dX6_ends_114 : decode cX6_ends 114 = .ok (.if_icmp .eq 26, 3) := by decide +kernel
theorem dX6_ends_117 : decode cX6_ends 117 = .ok (.aload_n 0, 1) := by decide +kernel
theorem dX6_ends_118 : decode cX6_ends 118 = .ok (.getfield 78, 3) := by decide +kernel
theorem dX6_ends_121 : decode cX6_ends 121 = .ok (.aload_n 0, 1) := by decide +kernel
theorem dX6_ends_122 : decode cX6_ends 122 = .ok (.getfield 224, 3) := by decide +kernel
theorem dX6_ends_125 : decode cX6_ends 125 = .ok (.dup2, 1) := by decide +kernel
theorem dX6_ends_126 : decode cX6_ends 126 = .ok (.iaload, 1) := by decide +kernel
theorem dX6_ends_127 : decode cX6_ends 127 = .ok (.iconst 1, 1) := by decide +kernel
theorem dX6_ends_128 : decode cX6_ends 128 = .ok (.iadd, 1) := by decide +kernel
theorem dX6_ends_129 : decode cX6_ends 129 = .ok (.iastore, 1) := by decide +kernel
theorem dX6_ends_130 : decode cX6_ends 130 = .ok (.aload_n 0, 1) := by decide +kernel
theorem dX6_ends_131 : decode cX6_ends 131 = .ok (.getfield 69, 3) := by decide +kernel
theorem dX6_ends_134 : decode cX6_ends 134 = .ok (.iload_n 3, 1) := by decide +kernel
theorem dX6_ends_135 : decode cX6_ends 135 = .ok (.iaload, 1) := by decide +kernel
theorem dX6_ends_136 : decode cX6_ends 136 = .ok (.istore_n 3, 1) := by decide +kernel
theorem dX6_ends_137 : decode cX6_ends 137 = .ok (.goto (-25), 3) := by decide +kernel
theorem dX6_ends_140 : decode cX6_ends 140 = .ok (.aload_n 0, 1) := by decide +kernel
theorem dX6_ends_141 : decode cX6_ends 141 = .ok (.getfield 81, 3) := by decide +kernel
theorem dX6_ends_144 : decode cX6_ends 144 = .ok (.aload_n 0, 1) := by decide +kernel
theorem dX6_ends_145 : decode cX6_ends 145 = .ok (.getfield 224, 3) := by decide +kernel
theorem dX6_ends_148 : decode cX6_ends 148 = .ok (.iconst 0, 1) := by decide +kernel
theorem dX6_ends_149 : decode cX6_ends 149 = .ok (.iastore, 1) := by decide +kernel
theorem dX6_ends_150 : decode cX6_ends 150 = .ok (.aload_n 0, 1) := by decide +kernel
theorem dX6_ends_151 : decode cX6_ends 151 = .ok (.dup, 1) := by decide +kernel
theorem dX6_ends_152 : decode cX6_ends 152 = .ok (.getfield 224, 3) := by decide +kernel
theorem dX6_ends_155 : decode cX6_ends 155 = .ok (.iconst 1, 1) := by decide +kernel
theorem dX6_ends_156 : decode cX6_ends 156 = .ok (.iadd, 1) := by decide +kernel
theorem dX6_ends_157 : decode cX6_ends 157 = .ok (.putfield 224, 3) := by decide +kernel
theorem dX6_ends_160 : decode cX6_ends 160 = .ok (.iinc 2 1, 3) := by decide +kernel
theorem dX6_ends_163 : decode cX6_ends 163 = .ok (.goto (-106), 3) := by decide +kernel
theorem dX6_ends_166 : decode cX6_ends 166 = .ok (.iconst 0, 1) := by decide +kernel
theorem dX6_ends_167 : decode cX6_ends 167 = .ok (.istore_n 2, 1) := by decide +kernel
theorem dX6_ends_168 : decode cX6_ends 168 = .ok (.iload_n 2, 1) := by decide +kernel
theorem dX6_ends_169 : decode cX6_ends 169 = .ok (.iload_n 1, 1) := by decide +kernel
theorem dX6_ends_170 : decode cX6_ends 170 = .ok (.if_icmp .ge 29, 3) := by decide +kernel
theorem dX6_ends_173 : decode cX6_ends 173 = .ok (.aload_n 0, 1) := by decide +kernel
theorem dX6_ends_174 : decode cX6_ends 174 = .ok (.getfield 81, 3) := by decide +kernel
theorem dX6_ends_177 : decode cX6_ends 177 = .ok (.aload_n 0, 1) := by decide +kernel
theorem dX6_ends_178 : decode cX6_ends 178 = .ok (.getfield 109, 3) := by decide +kernel
theorem dX6_ends_181 : decode cX6_ends 181 = .ok (.aload_n 0, 1) := by decide +kernel
theorem dX6_ends_182 : decode cX6_ends 182 = .ok (.getfield 72, 3) := by decide +kernel
theorem dX6_ends_185 : decode cX6_ends 185 = .ok (.iload_n 2, 1) := by decide +kernel
theorem dX6_ends_186 : decode cX6_ends 186 = .ok (.iaload, 1) := by decide +kernel
theorem dX6_ends_187 : decode cX6_ends 187 = .ok (.iaload, 1) := by decide +kernel
theorem dX6_ends_188 : decode cX6_ends 188 = .ok (.dup2, 1) := by decide +kernel
theorem dX6_ends_189 : decode cX6_ends 189 = .ok (.iaload, 1) := by decide +kernel
theorem dX6_ends_190 : decode cX6_ends 190 = .ok (.iconst 1, 1) := by decide +kernel
theorem dX6_ends_191 : decode cX6_ends 191 = .ok (.iadd, 1) := by decide +kernel
theorem dX6_ends_192 : decode cX6_ends 192 = .ok (.iastore, 1) := by decide +kernel
theorem dX6_ends_193 : decode cX6_ends 193 = .ok (.iinc 2 1, 3) := by decide +kernel
theorem dX6_ends_196 : decode cX6_ends 196 = .ok (.goto (-28), 3) := by decide +kernel
theorem dX6_ends_199 : decode cX6_ends 199 = .ok (.aload_n 0, 1) := by decide +kernel
theorem dX6_ends_200 : decode cX6_ends 200 = .ok (.getfield 224, 3) := by decide +kernel
theorem dX6_ends_203 : decode cX6_ends 203 = .ok (.ireturn, 1) := by decide +kernel
theorem dX6_end_0 : decode cX6_end 0 = .ok (.aload_n 0, 1) := by decide +kernel
theorem dX6_end_1 : decode cX6_end 1 = .ok (.iconst 0, 1) := by decide +kernel
theorem dX6_end_2 : decode cX6_end 2 = .ok (.putfield 117, 3) := by decide +kernel
theorem dX6_end_5 : decode cX6_end 5 = .ok (.aload_n 0, 1) := by decide +kernel
theorem dX6_end_6 : decode cX6_end 6 = .ok (.iconst 0, 1) := by decide +kernel
theorem dX6_end_7 : decode cX6_end 7 = .ok (.putfield 120, 3) := by decide +kernel
theorem dX6_end_10 : decode cX6_end 10 = .ok (.iload_n 2, 1) := by decide +kernel
theorem dX6_end_11 : decode cX6_end 11 = .ok (.ifCond .lt 8, 3) := by decide +kernel
theorem dX6_end_14 : decode cX6_end 14 = .ok (.iload_n 2, 1) := by decide +kernel
theorem dX6_end_15 : decode cX6_end 15 = .ok (.iconst 2, 1) := by decide +kernel
theorem dX6_end_16 : decode cX6_end 16 = .ok (.if_icmp .le 9, 3) := by decide +kernel
theorem dX6_end_19 : decode cX6_end 19 = .ok (.aload_n 0, 1) := by decide +kernel
theorem dX6_end_20 : decode cX6_end 20 = .ok (.iconst 2, 1) := by decide +kernel
theorem dX6_end_21 : decode cX6_end 21 = .ok (.invokevirtual 151, 3) := by decide +kernel
theorem dX6_end_24 : decode cX6_end 24 = .ok (.ireturn, 1) := by decide +kernel
theorem dX6_end_25 : decode cX6_end 25 = .ok (.iload_n 1, 1) := by decide +kernel
theorem dX6_end_26 : decode cX6_end 26 = .ok (.ifCond .lt 11, 3) := by decide +kernel
theorem dX6_end_29 : decode cX6_end 29 = .ok (.iload_n 1, 1) := by decide +kernel
theorem dX6_end_30 : decode cX6_end 30 = .ok (.aload_n 0, 1) := by decide +kernel
theorem dX6_end_31 : decode cX6_end 31 = .ok (.getfield 224, 3) := by decide +kernel
theorem dX6_end_34 : decode cX6_end 34 = .ok (.if_icmp .lt 10, 3) := by decide +kernel
theorem dX6_end_37 : decode cX6_end 37 = .ok (.aload_n 0, 1) := by decide +kernel
theorem dX6_end_38 : decode cX6_end 38 = .ok (.bipush 8, 2) := by decide +kernel
theorem dX6_end_40 : decode cX6_end 40 = .ok (.invokevirtual 151, 3) := by decide +kernel
theorem dX6_end_43 : decode cX6_end 43 = .ok (.ireturn, 1) := by decide +kernel
theorem dX6_end_44 : decode cX6_end 44 = .ok (.iload_n 2, 1) := by decide +kernel
theorem dX6_end_45 : decode cX6_end 45 = .ok (.ifCond .ne 12, 3) := by decide +kernel
theorem dX6_end_48 : decode cX6_end 48 = .ok (.aload_n 0, 1) := by decide +kernel
theorem dX6_end_49 : decode cX6_end 49 = .ok (.getfield 75, 3) := by decide +kernel
theorem dX6_end_52 : decode cX6_end 52 = .ok (.iload_n 1, 1) := by decide +kernel
theorem dX6_end_53 : decode cX6_end 53 = .ok (.iaload, 1) := by decide +kernel
theorem dX6_end_54 : decode cX6_end 54 = .ok (.goto 23, 3) := by decide +kernel
theorem dX6_end_57 : decode cX6_end 57 = .ok (.iload_n 2, 1) := by decide +kernel
theorem dX6_end_58 : decode cX6_end 58 = .ok (.iconst 1, 1) := by decide +kernel
theorem dX6_end_59 : decode cX6_end 59 = .ok (.if_icmp .ne 12, 3) := by decide +kernel
theorem dX6_end_62 : decode cX6_end 62 = .ok (.aload_n 0, 1) := by decide +kernel
theorem dX6_end_63 : decode cX6_end 63 = .ok (.getfield 78, 3) := by decide +kernel
theorem dX6_end_66 : decode cX6_end 66 = .ok (.iload_n 1, 1) := by decide +kernel
theorem dX6_end_67 : decode cX6_end 67 = .ok (.iaload, 1) := by decide +kernel
theorem dX6_end_68 : decode cX6_end 68 = .ok (.goto 9, 3) := by decide +kernel
theorem dX6_end_71 : decode cX6_end 71 = .ok (.aload_n 0, 1) := by decide +kernel
theorem dX6_end_72 : decode cX6_end 72 = .ok (.getfield 81, 3) := by decide +kernel
theorem dX6_end_75 : decode cX6_end 75 = .ok (.iload_n 1, 1) := by decide +kernel
theorem dX6_end_76 : decode cX6_end 76 = .ok (.iaload, 1) := by decide +kernel
theorem dX6_end_77 : decode cX6_end 77 = .ok (.ireturn, 1) := by decide +kernel
theorem dX6_sure_0 : decode cX6_sure 0 = .ok (.aload_n 0, 1) := by decide +kernel
theorem dX6_sure_1 : decode cX6_sure 1 = .ok (.iconst 0, 1) := by decide +kernel
theorem dX6_sure_2 : decode cX6_sure 2 = .ok (.putfield 117, 3) := by decide +kernel
theorem dX6_sure_5 : decode cX6_sure 5 = .ok (.aload_n 0, 1) := by decide +kernel
theorem dX6_sure_6 : decode cX6_sure 6 = .ok (.iconst 0, 1) := by decide +kernel
theorem dX6_sure_7 : decode cX6_sure 7 = .ok (.putfield 120, 3) := by decide +kernel
theorem dX6_sure_10 : decode cX6_sure 10 = .ok (.aload_n 0, 1) := by decide +kernel
theorem dX6_sure_11 : decode cX6_sure 11 = .ok (.iload_n 1, 1) := by decide +kernel
theorem dX6_sure_12 : decode cX6_sure 12 = .ok (.invokevirtual 173, 3) := by decide +kernel
theorem dX6_sure_15 : decode cX6_sure 15 = .ok (.ifCond .ne 9, 3) := by decide +kernel
theorem dX6_sure_18 : decode cX6_sure 18 = .ok (.aload_n 0, 1) := by decide +kernel
theorem dX6_sure_19 : decode cX6_sure 19 = .ok (.iconst 2, 1) := by decide +kernel
theorem dX6_sure_20 : decode cX6_sure 20 = .ok (.invokevirtual 151, 3) := by decide +kernel
theorem dX6_sure_23 : decode cX6_sure 23 = .ok (.ireturn, 1) := by decide +kernel
theorem dX6_sure_24 : decode cX6_sure 24 = .ok (.aload_n 0, 1) := by decide +kernel
theorem dX6_sure_25 : decode cX6_sure 25 = .ok (.invokevirtual 216, 3) := by decide +kernel
theorem dX6_sure_28 : decode cX6_sure 28 = .ok (.istore_n 2, 1) := by decide +kernel
theorem dX6_sure_29 : decode cX6_sure 29 = .ok (.iload_n 2, 1) := by decide +kernel
theorem dX6_sure_30 : decode cX6_sure 30 = .ok (.ifCond .ge 9, 3) := by decide +kernel
theorem dX6_sure_33 : decode cX6_sure 33 = .ok (.aload_n 0, 1) := by decide +kernel
theorem dX6_sure_34 : decode cX6_sure 34 = .ok (.iconst 5, 1) := by decide +kernel
theorem dX6_sure_35 : decode cX6_sure 35 = .ok (.invokevirtual 151, 3) := by decide +kernel
theorem dX6_sure_38 : decode cX6_sure 38 = .ok (.ireturn, 1) := by decide +kernel
theorem dX6_sure_39 : decode cX6_sure 39 = .ok (.aload_n 0, 1) := by decide +kernel
theorem dX6_sure_40 : decode cX6_sure 40 = .ok (.iload_n 2, 1) := by decide +kernel
theorem dX6_sure_41 : decode cX6_sure 41 = .ok (.invokevirtual 220, 3) := by decide +kernel
theorem dX6_sure_44 : decode cX6_sure 44 = .ok (.iconst 0, 1) := by decide +kernel
theorem dX6_sure_45 : decode cX6_sure 45 = .ok (.istore_n 3, 1) := by decide +kernel
theorem dX6_sure_46 : decode cX6_sure 46 = .ok (.iload_n 3, 1) := by decide +kernel
theorem dX6_sure_47 : decode cX6_sure 47 = .ok (.iload_n 2, 1) := by decide +kernel
theorem dX6_sure_48 : decode cX6_sure 48 = .ok (.if_icmp .ge 93, 3) := by decide +kernel
theorem dX6_sure_51 : decode cX6_sure 51 = .ok (.aload_n 0, 1) := by decide +kernel
theorem dX6_sure_52 : decode cX6_sure 52 = .ok (.getfield 72, 3) := by decide +kernel
theorem dX6_sure_55 : decode cX6_sure 55 = .ok (.iload_n 3, 1) := by decide +kernel
theorem dX6_sure_56 : decode cX6_sure 56 = .ok (.iaload, 1) := by decide +kernel
theorem dX6_sure_57 : decode cX6_sure 57 = .ok (.iload_n 3, 1) := by decide +kernel
theorem dX6_sure_58 : decode cX6_sure 58 = .ok (.if_icmp .eq 6, 3) := by decide +kernel
theorem dX6_sure_61 : decode cX6_sure 61 = .ok (.goto 74, 3) := by decide +kernel
theorem dX6_sure_64 : decode cX6_sure 64 = .ok (.iconst 1, 1) := by decide +kernel
theorem dX6_sure_65 : decode cX6_sure 65 = .ok (.istore 4, 2) := by decide +kernel
theorem dX6_sure_67 : decode cX6_sure 67 = .ok (.iload_n 3, 1) := by decide +kernel
theorem dX6_sure_68 : decode cX6_sure 68 = .ok (.istore 5, 2) := by decide +kernel
theorem dX6_sure_70 : decode cX6_sure 70 = .ok (.aload_n 0, 1) := by decide +kernel
theorem dX6_sure_71 : decode cX6_sure 71 = .ok (.iload 5, 2) := by decide +kernel
theorem dX6_sure_73 : decode cX6_sure 73 = .ok (.aload_n 0, 1) := by decide +kernel
theorem dX6_sure_74 : decode cX6_sure 74 = .ok (.getfield 57, 3) := by decide +kernel
theorem dX6_sure_77 : decode cX6_sure 77 = .ok (.invokevirtual 208, 3) := by decide +kernel
theorem dX6_sure_80 : decode cX6_sure 80 = .ok (.iload 4, 2) := by decide +kernel
theorem dX6_sure_82 : decode cX6_sure 82 = .ok (.ifCond .eq 19, 3) := by decide +kernel
theorem dX6_sure_85 : decode cX6_sure 85 = .ok (.aload_n 0, 1) := by decide +kernel
theorem dX6_sure_86 : decode cX6_sure 86 = .ok (.aload_n 0, 1) := by decide +kernel
theorem dX6_sure_87 : decode cX6_sure 87 = .ok (.getfield 57, 3) := by decide +kernel
theorem dX6_sure_90 : decode cX6_sure 90 = .ok (.iload_n 1, 1) := by decide +kernel
theorem dX6_sure_91 : decode cX6_sure 91 = .ok (.invokevirtual 176, 3) := by decide +kernel
theorem dX6_sure_94 : decode cX6_sure 94 = .ok (.ifCond .eq 7, 3) := by decide +kernel
theorem dX6_sure_97 : decode cX6_sure 97 = .ok (.iconst 1, 1) := by decide +kernel
theorem dX6_sure_98 : decode cX6_sure 98 = .ok (.goto 4, 3) := by decide +kernel
theorem dX6_sure_101 : decode cX6_sure 101 = .ok (.iconst 0, 1) := by decide +kernel
theorem dX6_sure_102 : decode cX6_sure 102 = .ok (.istore 4, 2) := by decide +kernel
theorem dX6_sure_104 : decode cX6_sure 104 = .ok (.aload_n 0, 1) := by decide +kernel
theorem dX6_sure_105 : decode cX6_sure 105 = .ok (.getfield 69, 3) := by decide +kernel
theorem dX6_sure_108 : decode cX6_sure 108 = .ok (.iload 5, 2) := by decide +kernel
theorem dX6_sure_110 : decode cX6_sure 110 = .ok (.iaload, 1) := by decide +kernel
theorem dX6_sure_111 : decode cX6_sure 111 = .ok (.istore 5, 2) := by decide +kernel
theorem dX6_sure_113 : decode cX6_sure 113 = .ok (.iload 5, 2) := by decide +kernel
theorem dX6_sure_115 : decode cX6_sure 115 = .ok (.iload_n 3, 1) := by decide +kernel
theorem dX6_sure_116 : decode cX6_sure 116 = .ok (.if_icmp .ne (-46), 3) := by decide +kernel
theorem dX6_sure_119 : decode cX6_sure 119 = .ok (.aload_n 0, 1) := by decide +kernel
theorem dX6_sure_120 : decode cX6_sure 120 = .ok (.getfield 109, 3) := by decide +kernel
theorem dX6_sure_123 : decode cX6_sure 123 = .ok (.iload_n 3, 1) := by decide +kernel
theorem dX6_sure_124 : decode cX6_sure 124 = .ok (.iload 4, 2) := by decide +kernel
theorem dX6_sure_126 : decode cX6_sure 126 = .ok (.ifCond .eq 7, 3) := by decide +kernel
theorem dX6_sure_129 : decode cX6_sure 129 = .ok (.iconst 1, 1) := by decide +kernel
theorem dX6_sure_130 : decode cX6_sure 130 = .ok (.goto 4, 3) := by decide +kernel
theorem dX6_sure_133 : decode cX6_sure 133 = .ok (.iconst 0, 1) := by decide +kernel
theorem dX6_sure_134 : decode cX6_sure 134 = .ok (.iastore, 1) := by decide +kernel
theorem dX6_sure_135 : decode cX6_sure 135 = .ok (.iinc 3 1, 3) := by decide +kernel
theorem dX6_sure_138 : decode cX6_sure 138 = .ok (.goto (-92), 3) := by decide +kernel
theorem dX6_sure_141 : decode cX6_sure 141 = .ok (.iconst 0, 1) := by decide +kernel
theorem dX6_sure_142 : decode cX6_sure 142 = .ok (.istore_n 3, 1) := by decide +kernel
theorem dX6_sure_143 : decode cX6_sure 143 = .ok (.iconst 0, 1) := by decide +kernel
theorem dX6_sure_144 : decode cX6_sure 144 = .ok (.istore 4, 2) := by decide +kernel
theorem dX6_sure_146 : decode cX6_sure 146 = .ok (.iload 4, 2) := by decide +kernel
theorem dX6_sure_148 : decode cX6_sure 148 = .ok (.iload_n 2, 1) := by decide +kernel
theorem dX6_sure_149 : decode cX6_sure 149 = .ok (.if_icmp .ge 24, 3) := by decide +kernel
theorem dX6_sure_152 : decode cX6_sure 152 = .ok (.iload_n 3, 1) := by decide +kernel
theorem dX6_sure_153 : decode cX6_sure 153 = .ok (.aload_n 0, 1) := by decide +kernel
theorem dX6_sure_154 : decode cX6_sure 154 = .ok (.getfield 109, 3) := by decide +kernel
theorem dX6_sure_157 : decode cX6_sure 157 = .ok (.aload_n 0, 1) := by decide +kernel
theorem dX6_sure_158 : decode cX6_sure 158 = .ok (.getfield 72, 3) := by decide +kernel
theorem dX6_sure_161 : decode cX6_sure 161 = .ok (.iload 4, 2) := by decide +kernel
theorem dX6_sure_163 : decode cX6_sure 163 = .ok (.iaload, 1) := by decide +kernel
theorem dX6_sure_164 : decode cX6_sure 164 = .ok (.iaload, 1) := by decide +kernel
theorem dX6_sure_165 : decode cX6_sure 165 = .ok (.iadd, 1) := by decide +kernel
theorem dX6_sure_166 : decode cX6_sure 166 = .ok (.istore_n 3, 1) := by decide +kernel
theorem dX6_sure_167 : decode cX6_sure 167 = .ok (.iinc 4 1, 3) := by decide +kernel
theorem dX6_sure_170 : decode cX6_sure 170 = .ok (.goto (-24), 3) := by decide +kernel
theorem dX6_sure_173 : decode cX6_sure 173 = .ok (.iload_n 3, 1) := by decide +kernel
theorem dX6_sure_174 : decode cX6_sure 174 = .ok (.ireturn, 1) := by decide +kernel
theorem dX6_lead_0 : decode cX6_lead 0 = .ok (.aload_n 0, 1) := by decide +kernel
theorem dX6_lead_1 : decode cX6_lead 1 = .ok (.iconst 0, 1) := by decide +kernel
theorem dX6_lead_2 : decode cX6_lead 2 = .ok (.putfield 117, 3) := by decide +kernel
theorem dX6_lead_5 : decode cX6_lead 5 = .ok (.aload_n 0, 1) := by decide +kernel
theorem dX6_lead_6 : decode cX6_lead 6 = .ok (.iconst 0, 1) := by decide +kernel
theorem dX6_lead_7 : decode cX6_lead 7 = .ok (.putfield 120, 3) := by decide +kernel
theorem dX6_lead_10 : decode cX6_lead 10 = .ok (.aload_n 0, 1) := by decide +kernel
theorem dX6_lead_11 : decode cX6_lead 11 = .ok (.getfield 141, 3) := by decide +kernel
theorem dX6_lead_14 : decode cX6_lead 14 = .ok (.ifCond .ne 10, 3) := by decide +kernel
theorem dX6_lead_17 : decode cX6_lead 17 = .ok (.aload_n 0, 1) := by decide +kernel
theorem dX6_lead_18 : decode cX6_lead 18 = .ok (.bipush 8, 2) := by decide +kernel
theorem dX6_lead_20 : decode cX6_lead 20 = .ok (.invokevirtual 151, 3) := by decide +kernel
theorem dX6_lead_23 : decode cX6_lead 23 = .ok (.ireturn, 1) := by decide +kernel
theorem dX6_lead_24 : decode cX6_lead 24 = .ok (.iconst 0, 1) := by decide +kernel
theorem dX6_lead_25 : decode cX6_lead 25 = .ok (.istore_n 1, 1) := by decide +kernel
theorem dX6_lead_26 : decode cX6_lead 26 = .ok (.iload_n 1, 1) := by decide +kernel
theorem dX6_lead_27 : decode cX6_lead 27 = .ok (.aload_n 0, 1) := by decide +kernel
theorem dX6_lead_28 : decode cX6_lead 28 = .ok (.getfield 141, 3) := by decide +kernel
theorem dX6_lead_31 : decode cX6_lead 31 = .ok (.if_icmp .ge 60, 3) := by decide +kernel
theorem dX6_lead_34 : decode cX6_lead 34 = .ok (.aload_n 0, 1) := by decide +kernel
theorem dX6_lead_35 : decode cX6_lead 35 = .ok (.getfield 112, 3) := by decide +kernel
theorem dX6_lead_38 : decode cX6_lead 38 = .ok (.iload_n 1, 1) := by decide +kernel
theorem dX6_lead_39 : decode cX6_lead 39 = .ok (.iconst 1, 1) := by decide +kernel
theorem dX6_lead_40 : decode cX6_lead 40 = .ok (.iload_n 1, 1) := by decide +kernel
theorem dX6_lead_41 : decode cX6_lead 41 = .ok (.ishl, 1) := by decide +kernel
theorem dX6_lead_42 : decode cX6_lead 42 = .ok (.iastore, 1) := by decide +kernel
theorem dX6_lead_43 : decode cX6_lead 43 = .ok (.iconst 0, 1) := by decide +kernel
theorem dX6_lead_44 : decode cX6_lead 44 = .ok (.istore_n 2, 1) := by decide +kernel
theorem dX6_lead_45 : decode cX6_lead 45 = .ok (.iload_n 2, 1) := by decide +kernel
theorem dX6_lead_46 : decode cX6_lead 46 = .ok (.aload_n 0, 1) := by decide +kernel
theorem dX6_lead_47 : decode cX6_lead 47 = .ok (.getfield 141, 3) := by decide +kernel
theorem dX6_lead_50 : decode cX6_lead 50 = .ok (.if_icmp .ge 35, 3) := by decide +kernel
theorem dX6_lead_53 : decode cX6_lead 53 = .ok (.aload_n 0, 1) := by decide +kernel
theorem dX6_lead_54 : decode cX6_lead 54 = .ok (.getfield 41, 3) := by decide +kernel
theorem dX6_lead_57 : decode cX6_lead 57 = .ok (.bipush 24, 2) := by decide +kernel
theorem dX6_lead_59 : decode cX6_lead 59 = .ok (.iload_n 1, 1) := by decide +kernel
theorem dX6_lead_60 : decode cX6_lead 60 = .ok (.imul, 1) := by decide +kernel
theorem dX6_lead_61 : decode cX6_lead 61 = .ok (.iload_n 2, 1) := by decide +kernel
theorem dX6_lead_62 : decode cX6_lead 62 = .ok (.iadd, 1) := by decide +kernel
theorem dX6_lead_63 : decode cX6_lead 63 = .ok (.baload, 1) := by decide +kernel
theorem dX6_lead_64 : decode cX6_lead 64 = .ok (.ifCond .eq 15, 3) := by decide +kernel
theorem dX6_lead_67 : decode cX6_lead 67 = .ok (.aload_n 0, 1) := by decide +kernel
theorem dX6_lead_68 : decode cX6_lead 68 = .ok (.getfield 112, 3) := by decide +kernel
theorem dX6_lead_71 : decode cX6_lead 71 = .ok (.iload_n 1, 1) := by decide +kernel
theorem dX6_lead_72 : decode cX6_lead 72 = .ok (.dup2, 1) := by decide +kernel
theorem dX6_lead_73 : decode cX6_lead 73 = .ok (.iaload, 1) := by decide +kernel
theorem dX6_lead_74 : decode cX6_lead 74 = .ok (.iconst 1, 1) := by decide +kernel
theorem dX6_lead_75 : decode cX6_lead 75 = .ok (.iload_n 2, 1) := by decide +kernel
theorem dX6_lead_76 : decode cX6_lead 76 = .ok (.ishl, 1) := by decide +kernel
theorem dX6_lead_77 : decode cX6_lead 77 = .ok (.ior, 1) := by decide +kernel
theorem dX6_lead_78 : decode cX6_lead 78 = .ok (.iastore, 1) := by decide +kernel
theorem dX6_lead_79 : decode cX6_lead 79 = .ok (.iinc 2 1, 3) := by decide +kernel
theorem dX6_lead_82 : decode cX6_lead 82 = .ok (.goto (-37), 3) := by decide +kernel
theorem dX6_lead_85 : decode cX6_lead 85 = .ok (.iinc 1 1, 3) := by decide +kernel
theorem dX6_lead_88 : decode cX6_lead 88 = .ok (.goto (-62), 3) := by decide +kernel
theorem dX6_lead_91 : decode cX6_lead 91 = .ok (.iconst 0, 1) := by decide +kernel
theorem dX6_lead_92 : decode cX6_lead 92 = .ok (.istore_n 1, 1) := by decide +kernel
theorem dX6_lead_93 : decode cX6_lead 93 = .ok (.iload_n 1, 1) := by decide +kernel
theorem dX6_lead_94 : decode cX6_lead 94 = .ok (.aload_n 0, 1) := by decide +kernel
theorem dX6_lead_95 : decode cX6_lead 95 = .ok (.getfield 141, 3) := by decide +kernel
theorem dX6_lead_98 : decode cX6_lead 98 = .ok (.if_icmp .ge 54, 3) := by decide +kernel
theorem dX6_lead_101 : decode cX6_lead 101 = .ok (.iconst 0, 1) := by decide +kernel
theorem dX6_lead_102 : decode cX6_lead 102 = .ok (.istore_n 2, 1) := by decide +kernel
theorem dX6_lead_103 : decode cX6_lead 103 = .ok (.iload_n 2, 1) := by decide +kernel
theorem dX6_lead_104 : decode cX6_lead 104 = .ok (.aload_n 0, 1) := by decide +kernel
theorem dX6_lead_105 : decode cX6_lead 105 = .ok (.getfield 141, 3) := by decide +kernel
theorem dX6_lead_108 : decode cX6_lead 108 = .ok (.if_icmp .ge 38, 3) := by decide +kernel
theorem dX6_lead_111 : decode cX6_lead 111 = .ok (.aload_n 0, 1) := by decide +kernel
theorem dX6_lead_112 : decode cX6_lead 112 = .ok (.getfield 112, 3) := by decide +kernel
theorem dX6_lead_115 : decode cX6_lead 115 = .ok (.iload_n 2, 1) := by decide +kernel
theorem dX6_lead_116 : decode cX6_lead 116 = .ok (.iaload, 1) := by decide +kernel
theorem dX6_lead_117 : decode cX6_lead 117 = .ok (.iload_n 1, 1) := by decide +kernel
theorem dX6_lead_118 : decode cX6_lead 118 = .ok (.ishr, 1) := by decide +kernel
theorem dX6_lead_119 : decode cX6_lead 119 = .ok (.iconst 1, 1) := by decide +kernel
theorem dX6_lead_120 : decode cX6_lead 120 = .ok (.iand, 1) := by decide +kernel
theorem dX6_lead_121 : decode cX6_lead 121 = .ok (.iconst 1, 1) := by decide +kernel
theorem dX6_lead_122 : decode cX6_lead 122 = .ok (.if_icmp .ne 18, 3) := by decide +kernel
theorem dX6_lead_125 : decode cX6_lead 125 = .ok (.aload_n 0, 1) := by decide +kernel
theorem dX6_lead_126 : decode cX6_lead 126 = .ok (.getfield 112, 3) := by decide +kernel
theorem dX6_lead_129 : decode cX6_lead 129 = .ok (.iload_n 2, 1) := by decide +kernel
theorem dX6_lead_130 : decode cX6_lead 130 = .ok (.dup2, 1) := by decide +kernel
theorem dX6_lead_131 : decode cX6_lead 131 = .ok (.iaload, 1) := by decide +kernel
theorem dX6_lead_132 : decode cX6_lead 132 = .ok (.aload_n 0, 1) := by decide +kernel
theorem dX6_lead_133 : decode cX6_lead 133 = .ok (.getfield 112, 3) := by decide +kernel
theorem dX6_lead_136 : decode cX6_lead 136 = .ok (.iload_n 1, 1) := by decide +kernel
theorem dX6_lead_137 : decode cX6_lead 137 = .ok (.iaload, 1) := by decide +kernel
theorem dX6_lead_138 : decode cX6_lead 138 = .ok (.ior, 1) := by decide +kernel
theorem dX6_lead_139 : decode cX6_lead 139 = .ok (.iastore, 1) := by decide +kernel
theorem dX6_lead_140 : decode cX6_lead 140 = .ok (.iinc 2 1, 3) := by decide +kernel
theorem dX6_lead_143 : decode cX6_lead 143 = .ok (.goto (-40), 3) := by decide +kernel
theorem dX6_lead_146 : decode cX6_lead 146 = .ok (.iinc 1 1, 3) := by decide +kernel
theorem dX6_lead_149 : decode cX6_lead 149 = .ok (.goto (-56), 3) := by decide +kernel
theorem dX6_lead_152 : decode cX6_lead 152 = .ok (.aload_n 0, 1) := by decide +kernel
theorem dX6_lead_153 : decode cX6_lead 153 = .ok (.iconst 0, 1) := by decide +kernel
theorem dX6_lead_154 : decode cX6_lead 154 = .ok (.putfield 227, 3) := by decide +kernel
theorem dX6_lead_157 : decode cX6_lead 157 = .ok (.iconst 0, 1) := by decide +kernel
theorem dX6_lead_158 : decode cX6_lead 158 = .ok (.istore_n 1, 1) := by decide +kernel
theorem dX6_lead_159 : decode cX6_lead 159 = .ok (.iload_n 1, 1) := by decide +kernel
theorem dX6_lead_160 : decode cX6_lead 160 = .ok (.aload_n 0, 1) := by decide +kernel
theorem dX6_lead_161 : decode cX6_lead 161 = .ok (.getfield 141, 3) := by decide +kernel
theorem dX6_lead_164 : decode cX6_lead 164 = .ok (.if_icmp .ge 97, 3) := by decide +kernel
theorem dX6_lead_167 : decode cX6_lead 167 = .ok (.iconst 1, 1) := by decide +kernel
theorem dX6_lead_168 : decode cX6_lead 168 = .ok (.istore_n 2, 1) := by decide +kernel
theorem dX6_lead_169 : decode cX6_lead 169 = .ok (.iconst 0, 1) := by decide +kernel
theorem dX6_lead_170 : decode cX6_lead 170 = .ok (.istore_n 3, 1) := by decide +kernel
theorem dX6_lead_171 : decode cX6_lead 171 = .ok (.iload_n 3, 1) := by decide +kernel
theorem dX6_lead_172 : decode cX6_lead 172 = .ok (.aload_n 0, 1) := by decide +kernel
theorem dX6_lead_173 : decode cX6_lead 173 = .ok (.getfield 141, 3) := by decide +kernel
theorem dX6_lead_176 : decode cX6_lead 176 = .ok (.if_icmp .ge 52, 3) := by decide +kernel
theorem dX6_lead_179 : decode cX6_lead 179 = .ok (.iload_n 2, 1) := by decide +kernel
theorem dX6_lead_180 : decode cX6_lead 180 = .ok (.ifCond .eq 48, 3) := by decide +kernel
theorem dX6_lead_183 : decode cX6_lead 183 = .ok (.aload_n 0, 1) := by decide +kernel
theorem dX6_lead_184 : decode cX6_lead 184 = .ok (.getfield 112, 3) := by decide +kernel
theorem dX6_lead_187 : decode cX6_lead 187 = .ok (.iload_n 1, 1) := by decide +kernel
theorem dX6_lead_188 : decode cX6_lead 188 = .ok (.iaload, 1) := by decide +kernel
theorem dX6_lead_189 : decode cX6_lead 189 = .ok (.iload_n 3, 1) := by decide +kernel
theorem dX6_lead_190 : decode cX6_lead 190 = .ok (.ishr, 1) := by decide +kernel
theorem dX6_lead_191 : decode cX6_lead 191 = .ok (.iconst 1, 1) := by decide +kernel
theorem dX6_lead_192 : decode cX6_lead 192 = .ok (.iand, 1) := by decide +kernel
theorem dX6_lead_193 : decode cX6_lead 193 = .ok (.iconst 1, 1) := by decide +kernel
theorem dX6_lead_194 : decode cX6_lead 194 = .ok (.if_icmp .ne 28, 3) := by decide +kernel
theorem dX6_lead_197 : decode cX6_lead 197 = .ok (.aload_n 0, 1) := by decide +kernel
theorem dX6_lead_198 : decode cX6_lead 198 = .ok (.getfield 112, 3) := by decide +kernel
theorem dX6_lead_201 : decode cX6_lead 201 = .ok (.iload_n 3, 1) := by decide +kernel
theorem dX6_lead_202 : decode cX6_lead 202 = .ok (.iaload, 1) := by decide +kernel
theorem dX6_lead_203 : decode cX6_lead 203 = .ok (.iload_n 1, 1) := by decide +kernel
theorem dX6_lead_204 : decode cX6_lead 204 = .ok (.ishr, 1) := by decide +kernel
theorem dX6_lead_205 : decode cX6_lead 205 = .ok (.iconst 1, 1) := by decide +kernel
theorem dX6_lead_206 : decode cX6_lead 206 = .ok (.iand, 1) := by decide +kernel
theorem dX6_lead_207 : decode cX6_lead 207 = .ok (.iconst 1, 1) := by decide +kernel
theorem dX6_lead_208 : decode cX6_lead 208 = .ok (.if_icmp .ne 12, 3) := by decide +kernel
theorem dX6_lead_211 : decode cX6_lead 211 = .ok (.iload_n 3, 1) := by decide +kernel
theorem dX6_lead_212 : decode cX6_lead 212 = .ok (.iload_n 1, 1) := by decide +kernel
theorem dX6_lead_213 : decode cX6_lead 213 = .ok (.if_icmp .lt 7, 3) := by decide +kernel
theorem dX6_lead_216 : decode cX6_lead 216 = .ok (.iconst 1, 1) := by decide +kernel
theorem dX6_lead_217 : decode cX6_lead 217 = .ok (.goto 4, 3) := by decide +kernel
theorem dX6_lead_220 : decode cX6_lead 220 = .ok (.iconst 0, 1) := by decide +kernel
theorem dX6_lead_221 : decode cX6_lead 221 = .ok (.istore_n 2, 1) := by decide +kernel
theorem dX6_lead_222 : decode cX6_lead 222 = .ok (.iinc 3 1, 3) := by decide +kernel
theorem dX6_lead_225 : decode cX6_lead 225 = .ok (.goto (-54), 3) := by decide +kernel
theorem dX6_lead_228 : decode cX6_lead 228 = .ok (.iload_n 2, 1) := by decide +kernel
theorem dX6_lead_229 : decode cX6_lead 229 = .ok (.ifCond .ne 6, 3) := by decide +kernel
theorem dX6_lead_232 : decode cX6_lead 232 = .ok (.goto 23, 3) := by decide +kernel
theorem dX6_lead_235 : decode cX6_lead 235 = .ok (.aload_n 0, 1) := by decide +kernel
theorem dX6_lead_236 : decode cX6_lead 236 = .ok (.getfield 84, 3) := by decide +kernel
theorem dX6_lead_239 : decode cX6_lead 239 = .ok (.aload_n 0, 1) := by decide +kernel
theorem dX6_lead_240 : decode cX6_lead 240 = .ok (.getfield 227, 3) := by decide +kernel
theorem dX6_lead_243 : decode cX6_lead 243 = .ok (.iload_n 1, 1) := by decide +kernel
theorem dX6_lead_244 : decode cX6_lead 244 = .ok (.iastore, 1) := by decide +kernel
theorem dX6_lead_245 : decode cX6_lead 245 = .ok (.aload_n 0, 1) := by decide +kernel
theorem dX6_lead_246 : decode cX6_lead 246 = .ok (.dup, 1) := by decide +kernel
theorem dX6_lead_247 : decode cX6_lead 247 = .ok (.getfield 227, 3) := by decide +kernel
theorem dX6_lead_250 : decode cX6_lead 250 = .ok (.iconst 1, 1) := by decide +kernel
theorem dX6_lead_251 : decode cX6_lead 251 = .ok (.iadd, 1) := by decide +kernel
theorem dX6_lead_252 : decode cX6_lead 252 = .ok (.putfield 227, 3) := by decide +kernel
theorem dX6_lead_255 : decode cX6_lead 255 = .ok (.iinc 1 1, 3) := by decide +kernel
theorem dX6_lead_258 : decode cX6_lead 258 = .ok (.goto (-99), 3) := by decide +kernel
theorem dX6_lead_261 : decode cX6_lead 261 = .ok (.aload_n 0, 1) := by decide +kernel
theorem dX6_lead_262 : decode cX6_lead 262 = .ok (.getfield 227, 3) := by decide +kernel
theorem dX6_lead_265 : decode cX6_lead 265 = .ok (.ireturn, 1) := by decide +kernel
theorem dX6_leader_0 : decode cX6_leader 0 = .ok (.aload_n 0, 1) := by decide +kernel
theorem dX6_leader_1 : decode cX6_leader 1 = .ok (.iconst 0, 1) := by decide +kernel
theorem dX6_leader_2 : decode cX6_leader 2 = .ok (.putfield 117, 3) := by decide +kernel
theorem dX6_leader_5 : decode cX6_leader 5 = .ok (.aload_n 0, 1) := by decide +kernel
theorem dX6_leader_6 : decode cX6_leader 6 = .ok (.iconst 0, 1) := by decide +kernel
theorem dX6_leader_7 : decode cX6_leader 7 = .ok (.putfield 120, 3) := by decide +kernel
theorem dX6_leader_10 : decode cX6_leader 10 = .ok (.iload_n 1, 1) := by decide +kernel
theorem dX6_leader_11 : decode cX6_leader 11 = .ok (.ifCond .lt 11, 3) := by decide +kernel
theorem dX6_leader_14 : decode cX6_leader 14 = .ok (.iload_n 1, 1) := by decide +kernel
theorem dX6_leader_15 : decode cX6_leader 15 = .ok (.aload_n 0, 1) := by decide +kernel
theorem dX6_leader_16 : decode cX6_leader 16 = .ok (.getfield 227, 3) := by decide +kernel
theorem dX6_leader_19 : decode cX6_leader 19 = .ok (.if_icmp .lt 12, 3) := by decide +kernel
theorem dX6_leader_22 : decode cX6_leader 22 = .ok (.aload_n 0, 1) := by decide +kernel
theorem dX6_leader_23 : decode cX6_leader 23 = .ok (.bipush 8, 2) := by decide +kernel
theorem dX6_leader_25 : decode cX6_leader 25 = .ok (.invokevirtual 151, 3) := by decide +kernel
theorem dX6_leader_28 : decode cX6_leader 28 = .ok (.goto 9, 3) := by decide +kernel
theorem dX6_leader_31 : decode cX6_leader 31 = .ok (.aload_n 0, 1) := by decide +kernel
theorem dX6_leader_32 : decode cX6_leader 32 = .ok (.getfield 84, 3) := by decide +kernel
theorem dX6_leader_35 : decode cX6_leader 35 = .ok (.iload_n 1, 1) := by decide +kernel
theorem dX6_leader_36 : decode cX6_leader 36 = .ok (.iaload, 1) := by decide +kernel
theorem dX6_leader_37 : decode cX6_leader 37 = .ok (.ireturn, 1) := by decide +kernel
theorem dX6_table_0 : decode cX6_table 0 = .ok (.aload_n 0, 1) := by decide +kernel
theorem dX6_table_1 : decode cX6_table 1 = .ok (.iconst 0, 1) := by decide +kernel
theorem dX6_table_2 : decode cX6_table 2 = .ok (.putfield 117, 3) := by decide +kernel
theorem dX6_table_5 : decode cX6_table 5 = .ok (.aload_n 0, 1) := by decide +kernel
theorem dX6_table_6 : decode cX6_table 6 = .ok (.iconst 0, 1) := by decide +kernel
theorem dX6_table_7 : decode cX6_table 7 = .ok (.putfield 120, 3) := by decide +kernel
theorem dX6_table_10 : decode cX6_table 10 = .ok (.iload_n 1, 1) := by decide +kernel
theorem dX6_table_11 : decode cX6_table 11 = .ok (.ifCond .lt 9, 3) := by decide +kernel
theorem dX6_table_14 : decode cX6_table 14 = .ok (.iload_n 1, 1) := by decide +kernel
theorem dX6_table_15 : decode cX6_table 15 = .ok (.bipush 10, 2) := by decide +kernel
theorem dX6_table_17 : decode cX6_table 17 = .ok (.if_icmp .le 9, 3) := by decide +kernel
theorem dX6_table_20 : decode cX6_table 20 = .ok (.aload_n 0, 1) := by decide +kernel
theorem dX6_table_21 : decode cX6_table 21 = .ok (.iconst 2, 1) := by decide +kernel
theorem dX6_table_22 : decode cX6_table 22 = .ok (.invokevirtual 123, 3) := by decide +kernel
theorem dX6_table_25 : decode cX6_table 25 = .ok (.ireturn, 1) := by decide +kernel
theorem dX6_table_26 : decode cX6_table 26 = .ok (.aload_n 0, 1) := by decide +kernel
theorem dX6_table_27 : decode cX6_table 27 = .ok (.iload_n 1, 1) := by decide +kernel
theorem dX6_table_28 : decode cX6_table 28 = .ok (.putfield 230, 3) := by decide +kernel
theorem dX6_table_31 : decode cX6_table 31 = .ok (.iconst 0, 1) := by decide +kernel
theorem dX6_table_32 : decode cX6_table 32 = .ok (.istore_n 2, 1) := by decide +kernel
theorem dX6_table_33 : decode cX6_table 33 = .ok (.iload_n 2, 1) := by decide +kernel
theorem dX6_table_34 : decode cX6_table 34 = .ok (.bipush 100, 2) := by decide +kernel
theorem dX6_table_36 : decode cX6_table 36 = .ok (.if_icmp .ge 18, 3) := by decide +kernel
theorem dX6_table_39 : decode cX6_table 39 = .ok (.aload_n 0, 1) := by decide +kernel
theorem dX6_table_40 : decode cX6_table 40 = .ok (.getfield 87, 3) := by decide +kernel
theorem dX6_table_43 : decode cX6_table 43 = .ok (.iload_n 2, 1) := by decide +kernel
theorem dX6_table_44 : decode cX6_table 44 = .ok (.ldc2_w 115, 3) := by decide +kernel
theorem dX6_table_47 : decode cX6_table 47 = .ok (.lastore, 1) := by decide +kernel
theorem dX6_table_48 : decode cX6_table 48 = .ok (.iinc 2 1, 3) := by decide +kernel
theorem dX6_table_51 : decode cX6_table 51 = .ok (.goto (-18), 3) := by decide +kernel
theorem dX6_table_54 : decode cX6_table 54 = .ok (.iconst 1, 1) := by decide +kernel
theorem dX6_table_55 : decode cX6_table 55 = .ok (.ireturn, 1) := by decide +kernel
theorem dX6_isIn_0 : decode cX6_isIn 0 = .ok (.iload_n 1, 1) := by decide +kernel
theorem dX6_isIn_1 : decode cX6_isIn 1 = .ok (.ifCond .lt 27, 3) := by decide +kernel
theorem dX6_isIn_4 : decode cX6_isIn 4 = .ok (.iload_n 1, 1) := by decide +kernel
theorem dX6_isIn_5 : decode cX6_isIn 5 = .ok (.aload_n 0, 1) := by decide +kernel
theorem dX6_isIn_6 : decode cX6_isIn 6 = .ok (.getfield 230, 3) := by decide +kernel
theorem dX6_isIn_9 : decode cX6_isIn 9 = .ok (.if_icmp .ge 19, 3) := by decide +kernel
theorem dX6_isIn_12 : decode cX6_isIn 12 = .ok (.iload_n 2, 1) := by decide +kernel
theorem dX6_isIn_13 : decode cX6_isIn 13 = .ok (.ifCond .lt 15, 3) := by decide +kernel
theorem dX6_isIn_16 : decode cX6_isIn 16 = .ok (.iload_n 2, 1) := by decide +kernel
theorem dX6_isIn_17 : decode cX6_isIn 17 = .ok (.aload_n 0, 1) := by decide +kernel
theorem dX6_isIn_18 : decode cX6_isIn 18 = .ok (.getfield 230, 3) := by decide +kernel
theorem dX6_isIn_21 : decode cX6_isIn 21 = .ok (.if_icmp .ge 7, 3) := by decide +kernel
theorem dX6_isIn_24 : decode cX6_isIn 24 = .ok (.iconst 1, 1) := by decide +kernel
theorem dX6_isIn_25 : decode cX6_isIn 25 = .ok (.goto 4, 3) := by decide +kernel
theorem dX6_isIn_28 : decode cX6_isIn 28 = .ok (.iconst 0, 1) := by decide +kernel
theorem dX6_isIn_29 : decode cX6_isIn 29 = .ok (.ireturn, 1) := by decide +kernel
theorem dX6_span_0 : decode cX6_span 0 = .ok (.aload_n 0, 1) := by decide +kernel
theorem dX6_span_1 : decode cX6_span 1 = .ok (.iconst 0, 1) := by decide +kernel
theorem dX6_span_2 : decode cX6_span 2 = .ok (.putfield 117, 3) := by decide +kernel
theorem dX6_span_5 : decode cX6_span 5 = .ok (.aload_n 0, 1) := by decide +kernel
theorem dX6_span_6 : decode cX6_span 6 = .ok (.iconst 0, 1) := by decide +kernel
theorem dX6_span_7 : decode cX6_span 7 = .ok (.putfield 120, 3) := by decide +kernel
theorem dX6_span_10 : decode cX6_span 10 = .ok (.aload_n 0, 1) := by decide +kernel
theorem dX6_span_11 : decode cX6_span 11 = .ok (.iload_n 1, 1) := by decide +kernel
theorem dX6_span_12 : decode cX6_span 12 = .ok (.iload_n 2, 1) := by decide +kernel
theorem dX6_span_13 : decode cX6_span 13 = .ok (.invokevirtual 233, 3) := by decide +kernel
theorem dX6_span_16 : decode cX6_span 16 = .ok (.ifCond .eq 15, 3) := by decide +kernel
theorem dX6_span_19 : decode cX6_span 19 = .ok (.iload_n 3, 1) := by decide +kernel
theorem dX6_span_20 : decode cX6_span 20 = .ok (.ldc 237, 2) := by decide +kernel
theorem dX6_span_22 : decode cX6_span 22 = .ok (.if_icmp .lt 9, 3) := by decide +kernel
theorem dX6_span_25 : decode cX6_span 25 = .ok (.iload_n 3, 1) := by decide +kernel
theorem dX6_span_26 : decode cX6_span 26 = .ok (.ldc 238, 2) := by decide +kernel
theorem dX6_span_28 : decode cX6_span 28 = .ok (.if_icmp .le 9, 3) := by decide +kernel
theorem dX6_span_31 : decode cX6_span 31 = .ok (.aload_n 0, 1) := by decide +kernel
theorem dX6_span_32 : decode cX6_span 32 = .ok (.iconst 2, 1) := by decide +kernel
theorem dX6_span_33 : decode cX6_span 33 = .ok (.invokevirtual 123, 3) := by decide +kernel
theorem dX6_span_36 : decode cX6_span 36 = .ok (.ireturn, 1) := by decide +kernel
theorem dX6_span_37 : decode cX6_span 37 = .ok (.aload_n 0, 1) := by decide +kernel
theorem dX6_span_38 : decode cX6_span 38 = .ok (.getfield 87, 3) := by decide +kernel
theorem dX6_span_41 : decode cX6_span 41 = .ok (.bipush 10, 2) := by decide +kernel
theorem dX6_span_43 : decode cX6_span 43 = .ok (.iload_n 1, 1) := by decide +kernel
theorem dX6_span_44 : decode cX6_span 44 = .ok (.imul, 1) := by decide +kernel
theorem dX6_span_45 : decode cX6_span 45 = .ok (.iload_n 2, 1) := by decide +kernel
theorem dX6_span_46 : decode cX6_span 46 = .ok (.iadd, 1) := by decide +kernel
theorem dX6_span_47 : decode cX6_span 47 = .ok (.iload_n 3, 1) := by decide +kernel
theorem dX6_span_48 : decode cX6_span 48 = .ok (.i2l, 1) := by decide +kernel
theorem dX6_span_49 : decode cX6_span 49 = .ok (.lastore, 1) := by decide +kernel
theorem dX6_span_50 : decode cX6_span 50 = .ok (.iconst 1, 1) := by decide +kernel
theorem dX6_span_51 : decode cX6_span 51 = .ok (.ireturn, 1) := by decide +kernel
theorem dX6_cut__0 : decode cX6_cut_ 0 = .ok (.aload_n 0, 1) := by decide +kernel
theorem dX6_cut__1 : decode cX6_cut_ 1 = .ok (.iconst 0, 1) := by decide +kernel
theorem dX6_cut__2 : decode cX6_cut_ 2 = .ok (.putfield 117, 3) := by decide +kernel
theorem dX6_cut__5 : decode cX6_cut_ 5 = .ok (.aload_n 0, 1) := by decide +kernel
theorem dX6_cut__6 : decode cX6_cut_ 6 = .ok (.iconst 0, 1) := by decide +kernel
theorem dX6_cut__7 : decode cX6_cut_ 7 = .ok (.putfield 120, 3) := by decide +kernel
theorem dX6_cut__10 : decode cX6_cut_ 10 = .ok (.aload_n 0, 1) := by decide +kernel
theorem dX6_cut__11 : decode cX6_cut_ 11 = .ok (.iload_n 1, 1) := by decide +kernel
theorem dX6_cut__12 : decode cX6_cut_ 12 = .ok (.iload_n 2, 1) := by decide +kernel
theorem dX6_cut__13 : decode cX6_cut_ 13 = .ok (.invokevirtual 233, 3) := by decide +kernel
theorem dX6_cut__16 : decode cX6_cut_ 16 = .ok (.ifCond .ne 9, 3) := by decide +kernel
theorem dX6_cut__19 : decode cX6_cut_ 19 = .ok (.aload_n 0, 1) := by decide +kernel
theorem dX6_cut__20 : decode cX6_cut_ 20 = .ok (.iconst 2, 1) := by decide +kernel
theorem dX6_cut__21 : decode cX6_cut_ 21 = .ok (.invokevirtual 123, 3) := by decide +kernel
theorem dX6_cut__24 : decode cX6_cut_ 24 = .ok (.ireturn, 1) := by decide +kernel
theorem dX6_cut__25 : decode cX6_cut_ 25 = .ok (.aload_n 0, 1) := by decide +kernel
theorem dX6_cut__26 : decode cX6_cut_ 26 = .ok (.getfield 87, 3) := by decide +kernel
theorem dX6_cut__29 : decode cX6_cut_ 29 = .ok (.bipush 10, 2) := by decide +kernel
theorem dX6_cut__31 : decode cX6_cut_ 31 = .ok (.iload_n 1, 1) := by decide +kernel
theorem dX6_cut__32 : decode cX6_cut_ 32 = .ok (.imul, 1) := by decide +kernel
theorem dX6_cut__33 : decode cX6_cut_ 33 = .ok (.iload_n 2, 1) := by decide +kernel
theorem dX6_cut__34 : decode cX6_cut_ 34 = .ok (.iadd, 1) := by decide +kernel
theorem dX6_cut__35 : decode cX6_cut_ 35 = .ok (.laload, 1) := by decide +kernel
theorem dX6_cut__36 : decode cX6_cut_ 36 = .ok (.ldc2_w 115, 3) := by decide +kernel
theorem dX6_cut__39 : decode cX6_cut_ 39 = .ok (.lcmp, 1) := by decide +kernel
theorem dX6_cut__40 : decode cX6_cut_ 40 = .ok (.ifCond .ne 10, 3) := by decide +kernel
theorem dX6_cut__43 : decode cX6_cut_ 43 = .ok (.aload_n 0, 1) := by decide +kernel
theorem dX6_cut__44 : decode cX6_cut_ 44 = .ok (.bipush 8, 2) := by decide +kernel
theorem dX6_cut__46 : decode cX6_cut_ 46 = .ok (.invokevirtual 123, 3) := by decide +kernel
theorem dX6_cut__49 : decode cX6_cut_ 49 = .ok (.ireturn, 1) := by decide +kernel
theorem dX6_cut__50 : decode cX6_cut_ 50 = .ok (.aload_n 0, 1) := by decide +kernel
theorem dX6_cut__51 : decode cX6_cut_ 51 = .ok (.getfield 87, 3) := by decide +kernel
theorem dX6_cut__54 : decode cX6_cut_ 54 = .ok (.bipush 10, 2) := by decide +kernel
theorem dX6_cut__56 : decode cX6_cut_ 56 = .ok (.iload_n 1, 1) := by decide +kernel
theorem dX6_cut__57 : decode cX6_cut_ 57 = .ok (.imul, 1) := by decide +kernel
theorem dX6_cut__58 : decode cX6_cut_ 58 = .ok (.iload_n 2, 1) := by decide +kernel
theorem dX6_cut__59 : decode cX6_cut_ 59 = .ok (.iadd, 1) := by decide +kernel
theorem dX6_cut__60 : decode cX6_cut_ 60 = .ok (.ldc2_w 115, 3) := by decide +kernel
theorem dX6_cut__63 : decode cX6_cut_ 63 = .ok (.lastore, 1) := by decide +kernel
theorem dX6_cut__64 : decode cX6_cut_ 64 = .ok (.iconst 1, 1) := by decide +kernel
theorem dX6_cut__65 : decode cX6_cut_ 65 = .ok (.ireturn, 1) := by decide +kernel
theorem dX6_multiply_0 : decode cX6_multiply 0 = .ok (.iload 7, 2) := by decide +kernel
theorem dX6_multiply_2 : decode cX6_multiply 2 = .ok (.istore 8, 2) := by decide +kernel
theorem dX6_multiply_4 : decode cX6_multiply 4 = .ok (.iload 8, 2) := by decide +kernel
theorem dX6_multiply_6 : decode cX6_multiply 6 = .ok (.aload_n 0, 1) := by decide +kernel
theorem dX6_multiply_7 : decode cX6_multiply 7 = .ok (.getfield 230, 3) := by decide +kernel
theorem dX6_multiply_10 : decode cX6_multiply 10 = .ok (.if_icmp .ge 139, 3) := by decide +kernel
theorem dX6_multiply_13 : decode cX6_multiply 13 = .ok (.iload 7, 2) := by decide +kernel
theorem dX6_multiply_15 : decode cX6_multiply 15 = .ok (.istore 9, 2) := by decide +kernel
theorem dX6_multiply_17 : decode cX6_multiply 17 = .ok (.iload 9, 2) := by decide +kernel
theorem dX6_multiply_19 : decode cX6_multiply 19 = .ok (.aload_n 0, 1) := by decide +kernel
theorem dX6_multiply_20 : decode cX6_multiply 20 = .ok (.getfield 230, 3) := by decide +kernel
theorem dX6_multiply_23 : decode cX6_multiply 23 = .ok (.if_icmp .ge 120, 3) := by decide +kernel
theorem dX6_multiply_26 : decode cX6_multiply 26 = .ok (.ldc2_w 115, 3) := by decide +kernel
theorem dX6_multiply_29 : decode cX6_multiply 29 = .ok (.lstore 10, 2) := by decide +kernel
theorem dX6_multiply_31 : decode cX6_multiply 31 = .ok (.iload 7, 2) := by decide +kernel
theorem dX6_multiply_33 : decode cX6_multiply 33 = .ok (.istore 12, 2) := by decide +kernel
theorem dX6_multiply_35 : decode cX6_multiply 35 = .ok (.iload 12, 2) := by decide +kernel
theorem dX6_multiply_37 : decode cX6_multiply 37 = .ok (.aload_n 0, 1) := by decide +kernel
theorem dX6_multiply_38 : decode cX6_multiply 38 = .ok (.getfield 230, 3) := by decide +kernel
theorem dX6_multiply_41 : decode cX6_multiply 41 = .ok (.if_icmp .ge 81, 3) := by decide +kernel
theorem dX6_multiply_44 : decode cX6_multiply 44 = .ok (.aload_n 1, 1) := by decide +kernel
theorem dX6_multiply_45 : decode cX6_multiply 45 = .ok (.iload_n 2, 1) := by decide +kernel
theorem dX6_multiply_46 : decode cX6_multiply 46 = .ok (.bipush 10, 2) := by decide +kernel
theorem dX6_multiply_48 : decode cX6_multiply 48 = .ok (.iload 8, 2) := by decide +kernel
theorem dX6_multiply_50 : decode cX6_multiply 50 = .ok (.imul, 1) := by decide +kernel
theorem dX6_multiply_51 : decode cX6_multiply 51 = .ok (.iadd, 1) := by decide +kernel
theorem dX6_multiply_52 : decode cX6_multiply 52 = .ok (.iload 12, 2) := by decide +kernel
theorem dX6_multiply_54 : decode cX6_multiply 54 = .ok (.iadd, 1) := by decide +kernel
theorem dX6_multiply_55 : decode cX6_multiply 55 = .ok (.laload, 1) := by decide +kernel
theorem dX6_multiply_56 : decode cX6_multiply 56 = .ok (.ldc2_w 115, 3) := by decide +kernel
theorem dX6_multiply_59 : decode cX6_multiply 59 = .ok (.lcmp, 1) := by decide +kernel
theorem dX6_multiply_60 : decode cX6_multiply 60 = .ok (.ifCond .eq 56, 3) := by decide +kernel
theorem dX6_multiply_63 : decode cX6_multiply 63 = .ok (.aload_n 3, 1) := by decide +kernel
theorem dX6_multiply_64 : decode cX6_multiply 64 = .ok (.iload 4, 2) := by decide +kernel
theorem dX6_multiply_66 : decode cX6_multiply 66 = .ok (.bipush 10, 2) := by decide +kernel
theorem dX6_multiply_68 : decode cX6_multiply 68 = .ok (.iload 12, 2) := by decide +kernel
theorem dX6_multiply_70 : decode cX6_multiply 70 = .ok (.imul, 1) := by decide +kernel
theorem dX6_multiply_71 : decode cX6_multiply 71 = .ok (.iadd, 1) := by decide +kernel
theorem dX6_multiply_72 : decode cX6_multiply 72 = .ok (.iload 9, 2) := by decide +kernel
theorem dX6_multiply_74 : decode cX6_multiply 74 = .ok (.iadd, 1) := by decide +kernel
theorem dX6_multiply_75 : decode cX6_multiply 75 = .ok (.laload, 1) := by decide +kernel
theorem dX6_multiply_76 : decode cX6_multiply 76 = .ok (.ldc2_w 115, 3) := by decide +kernel
theorem dX6_multiply_79 : decode cX6_multiply 79 = .ok (.lcmp, 1) := by decide +kernel
theorem dX6_multiply_80 : decode cX6_multiply 80 = .ok (.ifCond .eq 36, 3) := by decide +kernel
theorem dX6_multiply_83 : decode cX6_multiply 83 = .ok (.lload 10, 2) := by decide +kernel
theorem dX6_multiply_85 : decode cX6_multiply 85 = .ok (.aload_n 1, 1) := by decide +kernel
theorem dX6_multiply_86 : decode cX6_multiply 86 = .ok (.iload_n 2, 1) := by decide +kernel
theorem dX6_multiply_87 : decode cX6_multiply 87 = .ok (.bipush 10, 2) := by decide +kernel
theorem dX6_multiply_89 : decode cX6_multiply 89 = .ok (.iload 8, 2) := by decide +kernel
theorem dX6_multiply_91 : decode cX6_multiply 91 = .ok (.imul, 1) := by decide +kernel
theorem dX6_multiply_92 : decode cX6_multiply 92 = .ok (.iadd, 1) := by decide +kernel
theorem dX6_multiply_93 : decode cX6_multiply 93 = .ok (.iload 12, 2) := by decide +kernel
theorem dX6_multiply_95 : decode cX6_multiply 95 = .ok (.iadd, 1) := by decide +kernel
theorem dX6_multiply_96 : decode cX6_multiply 96 = .ok (.laload, 1) := by decide +kernel
theorem dX6_multiply_97 : decode cX6_multiply 97 = .ok (.aload_n 3, 1) := by decide +kernel
theorem dX6_multiply_98 : decode cX6_multiply 98 = .ok (.iload 4, 2) := by decide +kernel
theorem dX6_multiply_100 : decode cX6_multiply 100 = .ok (.bipush 10, 2) := by decide +kernel
theorem dX6_multiply_102 : decode cX6_multiply 102 = .ok (.iload 12, 2) := by decide +kernel
theorem dX6_multiply_104 : decode cX6_multiply 104 = .ok (.imul, 1) := by decide +kernel
theorem dX6_multiply_105 : decode cX6_multiply 105 = .ok (.iadd, 1) := by decide +kernel
theorem dX6_multiply_106 : decode cX6_multiply 106 = .ok (.iload 9, 2) := by decide +kernel
theorem dX6_multiply_108 : decode cX6_multiply 108 = .ok (.iadd, 1) := by decide +kernel
theorem dX6_multiply_109 : decode cX6_multiply 109 = .ok (.laload, 1) := by decide +kernel
theorem dX6_multiply_110 : decode cX6_multiply 110 = .ok (.ladd, 1) := by decide +kernel
theorem dX6_multiply_111 : decode cX6_multiply 111 = .ok (.invokestatic 239, 3) := by decide +kernel
theorem dX6_multiply_114 : decode cX6_multiply 114 = .ok (.lstore 10, 2) := by decide +kernel
theorem dX6_multiply_116 : decode cX6_multiply 116 = .ok (.iinc 12 1, 3) := by decide +kernel
theorem dX6_multiply_119 : decode cX6_multiply 119 = .ok (.goto (-84), 3) := by decide +kernel
theorem dX6_multiply_122 : decode cX6_multiply 122 = .ok (.aload_n 0, 1) := by decide +kernel
theorem dX6_multiply_123 : decode cX6_multiply 123 = .ok (.getfield 96, 3) := by decide +kernel
theorem dX6_multiply_126 : decode cX6_multiply 126 = .ok (.bipush 10, 2) := by decide +kernel
theorem dX6_multiply_128 : decode cX6_multiply 128 = .ok (.iload 8, 2) := by decide +kernel
theorem dX6_multiply_130 : decode cX6_multiply 130 = .ok (.imul, 1) := by decide +kernel
theorem dX6_multiply_131 : decode cX6_multiply 131 = .ok (.iload 9, 2) := by decide +kernel
theorem dX6_multiply_133 : decode cX6_multiply 133 = .ok (.iadd, 1) := by decide +kernel
theorem dX6_multiply_134 : decode cX6_multiply 134 = .ok (.lload 10, 2) := by decide +kernel
theorem dX6_multiply_136 : decode cX6_multiply 136 = .ok (.lastore, 1) := by decide +kernel
theorem dX6_multiply_137 : decode cX6_multiply 137 = .ok (.iinc 9 1, 3) := by decide +kernel
theorem dX6_multiply_140 : decode cX6_multiply 140 = .ok (.goto (-123), 3) := by decide +kernel
theorem dX6_multiply_143 : decode cX6_multiply 143 = .ok (.iinc 8 1, 3) := by decide +kernel
theorem dX6_multiply_146 : decode cX6_multiply 146 = .ok (.goto (-142), 3) := by decide +kernel
theorem dX6_multiply_149 : decode cX6_multiply 149 = .ok (.iload 7, 2) := by decide +kernel
theorem dX6_multiply_151 : decode cX6_multiply 151 = .ok (.istore 8, 2) := by decide +kernel
theorem dX6_multiply_153 : decode cX6_multiply 153 = .ok (.iload 8, 2) := by decide +kernel
theorem dX6_multiply_155 : decode cX6_multiply 155 = .ok (.aload_n 0, 1) := by decide +kernel
theorem dX6_multiply_156 : decode cX6_multiply 156 = .ok (.getfield 230, 3) := by decide +kernel
theorem dX6_multiply_159 : decode cX6_multiply 159 = .ok (.if_icmp .ge 55, 3) := by decide +kernel
theorem dX6_multiply_162 : decode cX6_multiply 162 = .ok (.iload 7, 2) := by decide +kernel
theorem dX6_multiply_164 : decode cX6_multiply 164 = .ok (.istore 9, 2) := by decide +kernel
theorem dX6_multiply_166 : decode cX6_multiply 166 = .ok (.iload 9, 2) := by decide +kernel
theorem dX6_multiply_168 : decode cX6_multiply 168 = .ok (.aload_n 0, 1) := by decide +kernel
theorem dX6_multiply_169 : decode cX6_multiply 169 = .ok (.getfield 230, 3) := by decide +kernel
theorem dX6_multiply_172 : decode cX6_multiply 172 = .ok (.if_icmp .ge 36, 3) := by decide +kernel
theorem dX6_multiply_175 : decode cX6_multiply 175 = .ok (.aload 5, 2) := by decide +kernel
theorem dX6_multiply_177 : decode cX6_multiply 177 = .ok (.iload 6, 2) := by decide +kernel
theorem dX6_multiply_179 : decode cX6_multiply 179 = .ok (.bipush 10, 2) := by decide +kernel
theorem dX6_multiply_181 : decode cX6_multiply 181 = .ok (.iload 8, 2) := by decide +kernel
theorem dX6_multiply_183 : decode cX6_multiply 183 = .ok (.imul, 1) := by decide +kernel
theorem dX6_multiply_184 : decode cX6_multiply 184 = .ok (.iadd, 1) := by decide +kernel
theorem dX6_multiply_185 : decode cX6_multiply 185 = .ok (.iload 9, 2) := by decide +kernel
theorem dX6_multiply_187 : decode cX6_multiply 187 = .ok (.iadd, 1) := by decide +kernel
theorem dX6_multiply_188 : decode cX6_multiply 188 = .ok (.aload_n 0, 1) := by decide +kernel
theorem dX6_multiply_189 : decode cX6_multiply 189 = .ok (.getfield 96, 3) := by decide +kernel
theorem dX6_multiply_192 : decode cX6_multiply 192 = .ok (.bipush 10, 2) := by decide +kernel
theorem dX6_multiply_194 : decode cX6_multiply 194 = .ok (.iload 8, 2) := by decide +kernel
theorem dX6_multiply_196 : decode cX6_multiply 196 = .ok (.imul, 1) := by decide +kernel
theorem dX6_multiply_197 : decode cX6_multiply 197 = .ok (.iload 9, 2) := by decide +kernel
theorem dX6_multiply_199 : decode cX6_multiply 199 = .ok (.iadd, 1) := by decide +kernel
theorem dX6_multiply_200 : decode cX6_multiply 200 = .ok (.laload, 1) := by decide +kernel
theorem dX6_multiply_201 : decode cX6_multiply 201 = .ok (.lastore, 1) := by decide +kernel
theorem dX6_multiply_202 : decode cX6_multiply 202 = .ok (.iinc 9 1, 3) := by decide +kernel
theorem dX6_multiply_205 : decode cX6_multiply 205 = .ok (.goto (-39), 3) := by decide +kernel
theorem dX6_multiply_208 : decode cX6_multiply 208 = .ok (.iinc 8 1, 3) := by decide +kernel
theorem dX6_multiply_211 : decode cX6_multiply 211 = .ok (.goto (-58), 3) := by decide +kernel
theorem dX6_multiply_214 : decode cX6_multiply 214 = .ok (.return_, 1) := by decide +kernel
theorem dX6_unit_0 : decode cX6_unit 0 = .ok (.iconst 0, 1) := by decide +kernel
theorem dX6_unit_1 : decode cX6_unit 1 = .ok (.istore_n 3, 1) := by decide +kernel
theorem dX6_unit_2 : decode cX6_unit 2 = .ok (.iload_n 3, 1) := by decide +kernel
theorem dX6_unit_3 : decode cX6_unit 3 = .ok (.bipush 10, 2) := by decide +kernel
theorem dX6_unit_5 : decode cX6_unit 5 = .ok (.if_icmp .ge 49, 3) := by decide +kernel
theorem dX6_unit_8 : decode cX6_unit 8 = .ok (.iconst 0, 1) := by decide +kernel
theorem dX6_unit_9 : decode cX6_unit 9 = .ok (.istore 4, 2) := by decide +kernel
theorem dX6_unit_11 : decode cX6_unit 11 = .ok (.iload 4, 2) := by decide +kernel
theorem dX6_unit_13 : decode cX6_unit 13 = .ok (.bipush 10, 2) := by decide +kernel
theorem dX6_unit_15 : decode cX6_unit 15 = .ok (.if_icmp .ge 33, 3) := by decide +kernel
theorem dX6_unit_18 : decode cX6_unit 18 = .ok (.aload_n 1, 1) := by decide +kernel
theorem dX6_unit_19 : decode cX6_unit 19 = .ok (.iload_n 2, 1) := by decide +kernel
theorem dX6_unit_20 : decode cX6_unit 20 = .ok (.bipush 10, 2) := by decide +kernel
theorem dX6_unit_22 : decode cX6_unit 22 = .ok (.iload_n 3, 1) := by decide +kernel
theorem dX6_unit_23 : decode cX6_unit 23 = .ok (.imul, 1) := by decide +kernel
theorem dX6_unit_24 : decode cX6_unit 24 = .ok (.iadd, 1) := by decide +kernel
theorem dX6_unit_25 : decode cX6_unit 25 = .ok (.iload 4, 2) := by decide +kernel
theorem dX6_unit_27 : decode cX6_unit 27 = .ok (.iadd, 1) := by decide +kernel
theorem dX6_unit_28 : decode cX6_unit 28 = .ok (.iload_n 3, 1) := by decide +kernel
theorem dX6_unit_29 : decode cX6_unit 29 = .ok (.iload 4, 2) := by decide +kernel
theorem dX6_unit_31 : decode cX6_unit 31 = .ok (.if_icmp .ne 7, 3) := by decide +kernel
theorem dX6_unit_34 : decode cX6_unit 34 = .ok (.lconst 0, 1) := by decide +kernel
theorem dX6_unit_35 : decode cX6_unit 35 = .ok (.goto 6, 3) := by decide +kernel
theorem dX6_unit_38 : decode cX6_unit 38 = .ok (.ldc2_w 115, 3) := by decide +kernel
theorem dX6_unit_41 : decode cX6_unit 41 = .ok (.lastore, 1) := by decide +kernel
theorem dX6_unit_42 : decode cX6_unit 42 = .ok (.iinc 4 1, 3) := by decide +kernel
theorem dX6_unit_45 : decode cX6_unit 45 = .ok (.goto (-34), 3) := by decide +kernel
theorem dX6_unit_48 : decode cX6_unit 48 = .ok (.iinc 3 1, 3) := by decide +kernel
theorem dX6_unit_51 : decode cX6_unit 51 = .ok (.goto (-49), 3) := by decide +kernel
theorem dX6_unit_54 : decode cX6_unit 54 = .ok (.return_, 1) := by decide +kernel
theorem dX6_fillPowers_0 : decode cX6_fillPowers 0 = .ok (.aload_n 0, 1) := by decide +kernel
theorem dX6_fillPowers_1 : decode cX6_fillPowers 1 = .ok (.aload_n 0, 1) := by decide +kernel
theorem dX6_fillPowers_2 : decode cX6_fillPowers 2 = .ok (.getfield 99, 3) := by decide +kernel
theorem dX6_fillPowers_5 : decode cX6_fillPowers 5 = .ok (.iconst 0, 1) := by decide +kernel
theorem dX6_fillPowers_6 : decode cX6_fillPowers 6 = .ok (.invokevirtual 242, 3) := by decide +kernel
theorem dX6_fillPowers_9 : decode cX6_fillPowers 9 = .ok (.iconst 1, 1) := by decide +kernel
theorem dX6_fillPowers_10 : decode cX6_fillPowers 10 = .ok (.istore_n 3, 1) := by decide +kernel
theorem dX6_fillPowers_11 : decode cX6_fillPowers 11 = .ok (.iload_n 3, 1) := by decide +kernel
theorem dX6_fillPowers_12 : decode cX6_fillPowers 12 = .ok (.iload_n 1, 1) := by decide +kernel
theorem dX6_fillPowers_13 : decode cX6_fillPowers 13 = .ok (.if_icmp .gt 37, 3) := by decide +kernel
theorem dX6_fillPowers_16 : decode cX6_fillPowers 16 = .ok (.aload_n 0, 1) := by decide +kernel
theorem dX6_fillPowers_17 : decode cX6_fillPowers 17 = .ok (.aload_n 0, 1) := by decide +kernel
theorem dX6_fillPowers_18 : decode cX6_fillPowers 18 = .ok (.getfield 99, 3) := by decide +kernel
theorem dX6_fillPowers_21 : decode cX6_fillPowers 21 = .ok (.bipush 100, 2) := by decide +kernel
theorem dX6_fillPowers_23 : decode cX6_fillPowers 23 = .ok (.iload_n 3, 1) := by decide +kernel
theorem dX6_fillPowers_24 : decode cX6_fillPowers 24 = .ok (.iconst 1, 1) := by decide +kernel
theorem dX6_fillPowers_25 : decode cX6_fillPowers 25 = .ok (.isub, 1) := by decide +kernel
theorem dX6_fillPowers_26 : decode cX6_fillPowers 26 = .ok (.imul, 1) := by decide +kernel
theorem dX6_fillPowers_27 : decode cX6_fillPowers 27 = .ok (.aload_n 0, 1) := by decide +kernel
theorem dX6_fillPowers_28 : decode cX6_fillPowers 28 = .ok (.getfield 87, 3) := by decide +kernel
theorem dX6_fillPowers_31 : decode cX6_fillPowers 31 = .ok (.iconst 0, 1) := by decide +kernel
theorem dX6_fillPowers_32 : decode cX6_fillPowers 32 = .ok (.aload_n 0, 1) := by decide +kernel
theorem dX6_fillPowers_33 : decode cX6_fillPowers 33 = .ok (.getfield 99, 3) := by decide +kernel
theorem dX6_fillPowers_36 : decode cX6_fillPowers 36 = .ok (.bipush 100, 2) := by decide +kernel
theorem dX6_fillPowers_38 : decode cX6_fillPowers 38 = .ok (.iload_n 3, 1) := by decide +kernel
theorem dX6_fillPowers_39 : decode cX6_fillPowers 39 = .ok (.imul, 1) := by decide +kernel
theorem dX6_fillPowers_40 : decode cX6_fillPowers 40 = .ok (.iload_n 2, 1) := by decide +kernel
theorem dX6_fillPowers_41 : decode cX6_fillPowers 41 = .ok (.invokevirtual 246, 3) := by decide +kernel
theorem dX6_fillPowers_44 : decode cX6_fillPowers 44 = .ok (.iinc 3 1, 3) := by decide +kernel
theorem dX6_fillPowers_47 : decode cX6_fillPowers 47 = .ok (.goto (-36), 3) := by decide +kernel
theorem dX6_fillPowers_50 : decode cX6_fillPowers 50 = .ok (.return_, 1) := by decide +kernel
theorem dX6_common_0 : decode cX6_common 0 = .ok (.lload_n 0, 1) := by decide +kernel
theorem dX6_common_1 : decode cX6_common 1 = .ok (.invokestatic 250, 3) := by decide +kernel
theorem dX6_common_4 : decode cX6_common 4 = .ok (.lstore 4, 2) := by decide +kernel
theorem dX6_common_6 : decode cX6_common 6 = .ok (.lload_n 2, 1) := by decide +kernel
theorem dX6_common_7 : decode cX6_common 7 = .ok (.invokestatic 250, 3) := by decide +kernel
theorem dX6_common_10 : decode cX6_common 10 = .ok (.lstore 6, 2) := by decide +kernel
theorem dX6_common_12 : decode cX6_common 12 = .ok (.lload 6, 2) := by decide +kernel
theorem dX6_common_14 : decode cX6_common 14 = .ok (.lconst 0, 1) := by decide +kernel
theorem dX6_common_15 : decode cX6_common 15 = .ok (.lcmp, 1) := by decide +kernel
theorem dX6_common_16 : decode cX6_common 16 = .ok (.ifCond .eq 21, 3) := by decide +kernel
theorem dX6_common_19 : decode cX6_common 19 = .ok (.lload 4, 2) := by decide +kernel
theorem dX6_common_21 : decode cX6_common 21 = .ok (.lload 6, 2) := by decide +kernel
theorem dX6_common_23 : decode cX6_common 23 = .ok (.lrem, 1) := by decide +kernel
theorem dX6_common_24 : decode cX6_common 24 = .ok (.lstore 8, 2) := by decide +kernel
theorem dX6_common_26 : decode cX6_common 26 = .ok (.lload 6, 2) := by decide +kernel
theorem dX6_common_28 : decode cX6_common 28 = .ok (.lstore 4, 2) := by decide +kernel
theorem dX6_common_30 : decode cX6_common 30 = .ok (.lload 8, 2) := by decide +kernel
theorem dX6_common_32 : decode cX6_common 32 = .ok (.lstore 6, 2) := by decide +kernel
theorem dX6_common_34 : decode cX6_common 34 = .ok (.goto (-22), 3) := by decide +kernel
theorem dX6_common_37 : decode cX6_common 37 = .ok (.lload 4, 2) := by decide +kernel
theorem dX6_common_39 : decode cX6_common 39 = .ok (.lreturn, 1) := by decide +kernel
theorem dX6_paces_0 : decode cX6_paces 0 = .ok (.aload_n 0, 1) := by decide +kernel
theorem dX6_paces_1 : decode cX6_paces 1 = .ok (.aload_n 0, 1) := by decide +kernel
theorem dX6_paces_2 : decode cX6_paces 2 = .ok (.getfield 230, 3) := by decide +kernel
theorem dX6_paces_5 : decode cX6_paces 5 = .ok (.iconst 0, 1) := by decide +kernel
theorem dX6_paces_6 : decode cX6_paces 6 = .ok (.invokevirtual 254, 3) := by decide +kernel
theorem dX6_paces_9 : decode cX6_paces 9 = .ok (.aload_n 0, 1) := by decide +kernel
theorem dX6_paces_10 : decode cX6_paces 10 = .ok (.lconst 0, 1) := by decide +kernel
theorem dX6_paces_11 : decode cX6_paces 11 = .ok (.putfield 258, 3) := by decide +kernel
theorem dX6_paces_14 : decode cX6_paces 14 = .ok (.iconst 1, 1) := by decide +kernel
theorem dX6_paces_15 : decode cX6_paces 15 = .ok (.istore_n 1, 1) := by decide +kernel
theorem dX6_paces_16 : decode cX6_paces 16 = .ok (.iload_n 1, 1) := by decide +kernel
theorem dX6_paces_17 : decode cX6_paces 17 = .ok (.aload_n 0, 1) := by decide +kernel
theorem dX6_paces_18 : decode cX6_paces 18 = .ok (.getfield 230, 3) := by decide +kernel
theorem dX6_paces_21 : decode cX6_paces 21 = .ok (.if_icmp .gt 88, 3) := by decide +kernel
theorem dX6_paces_24 : decode cX6_paces 24 = .ok (.iconst 0, 1) := by decide +kernel
theorem dX6_paces_25 : decode cX6_paces 25 = .ok (.istore_n 2, 1) := by decide +kernel
theorem dX6_paces_26 : decode cX6_paces 26 = .ok (.iload_n 2, 1) := by decide +kernel
theorem dX6_paces_27 : decode cX6_paces 27 = .ok (.aload_n 0, 1) := by decide +kernel
theorem dX6_paces_28 : decode cX6_paces 28 = .ok (.getfield 230, 3) := by decide +kernel
theorem dX6_paces_31 : decode cX6_paces 31 = .ok (.if_icmp .ge 72, 3) := by decide +kernel
theorem dX6_paces_34 : decode cX6_paces 34 = .ok (.aload_n 0, 1) := by decide +kernel
theorem dX6_paces_35 : decode cX6_paces 35 = .ok (.getfield 99, 3) := by decide +kernel
theorem dX6_paces_38 : decode cX6_paces 38 = .ok (.bipush 100, 2) := by decide +kernel
theorem dX6_paces_40 : decode cX6_paces 40 = .ok (.iload_n 1, 1) := by decide +kernel
theorem dX6_paces_41 : decode cX6_paces 41 = .ok (.imul, 1) := by decide +kernel
theorem dX6_paces_42 : decode cX6_paces 42 = .ok (.bipush 11, 2) := by decide +kernel
theorem dX6_paces_44 : decode cX6_paces 44 = .ok (.iload_n 2, 1) := by decide +kernel
theorem dX6_paces_45 : decode cX6_paces 45 = .ok (.imul, 1) := by decide +kernel
theorem dX6_paces_46 : decode cX6_paces 46 = .ok (.iadd, 1) := by decide +kernel
theorem dX6_paces_47 : decode cX6_paces 47 = .ok (.laload, 1) := by decide +kernel
theorem dX6_paces_48 : decode cX6_paces 48 = .ok (.lstore_n 3, 1) := by decide +kernel
theorem dX6_paces_49 : decode cX6_paces 49 = .ok (.lload_n 3, 1) := by decide +kernel
theorem dX6_paces_50 : decode cX6_paces 50 = .ok (.ldc2_w 115, 3) := by decide +kernel
theorem dX6_paces_53 : decode cX6_paces 53 = .ok (.lcmp, 1) := by decide +kernel
theorem dX6_paces_54 : decode cX6_paces 54 = .ok (.ifCond .eq 43, 3) := by decide +kernel
theorem dX6_paces_57 : decode cX6_paces 57 = .ok (.aload_n 0, 1) := by decide +kernel
theorem dX6_paces_58 : decode cX6_paces 58 = .ok (.getfield 258, 3) := by decide +kernel
theorem dX6_paces_61 : decode cX6_paces 61 = .ok (.lconst 0, 1) := by decide +kernel
theorem dX6_paces_62 : decode cX6_paces 62 = .ok (.lcmp, 1) := by decide +kernel
theorem dX6_paces_63 : decode cX6_paces 63 = .ok (.ifCond .le 23, 3) := by decide +kernel
theorem dX6_paces_66 : decode cX6_paces 66 = .ok (.lload_n 3, 1) := by decide +kernel
theorem dX6_paces_67 : decode cX6_paces 67 = .ok (.aload_n 0, 1) := by decide +kernel
theorem dX6_paces_68 : decode cX6_paces 68 = .ok (.getfield 258, 3) := by decide +kernel
theorem dX6_paces_71 : decode cX6_paces 71 = .ok (.lmul, 1) := by decide +kernel
theorem dX6_paces_72 : decode cX6_paces 72 = .ok (.aload_n 0, 1) := by decide +kernel
theorem dX6_paces_73 : decode cX6_paces 73 = .ok (.getfield 262, 3) := by decide +kernel
theorem dX6_paces_76 : decode cX6_paces 76 = .ok (.iload_n 1, 1) := by decide +kernel
theorem dX6_paces_77 : decode cX6_paces 77 = .ok (.i2l, 1) := by decide +kernel
theorem dX6_paces_78 : decode cX6_paces 78 = .ok (.lmul, 1) := by decide +kernel
theorem dX6_paces_79 : decode cX6_paces 79 = .ok (.lcmp, 1) := by decide +kernel
theorem dX6_paces_80 : decode cX6_paces 80 = .ok (.ifCond .gt 6, 3) := by decide +kernel
theorem dX6_paces_83 : decode cX6_paces 83 = .ok (.goto 14, 3) := by decide +kernel
theorem dX6_paces_86 : decode cX6_paces 86 = .ok (.aload_n 0, 1) := by decide +kernel
theorem dX6_paces_87 : decode cX6_paces 87 = .ok (.lload_n 3, 1) := by decide +kernel
theorem dX6_paces_88 : decode cX6_paces 88 = .ok (.putfield 262, 3) := by decide +kernel
theorem dX6_paces_91 : decode cX6_paces 91 = .ok (.aload_n 0, 1) := by decide +kernel
theorem dX6_paces_92 : decode cX6_paces 92 = .ok (.iload_n 1, 1) := by decide +kernel
theorem dX6_paces_93 : decode cX6_paces 93 = .ok (.i2l, 1) := by decide +kernel
theorem dX6_paces_94 : decode cX6_paces 94 = .ok (.putfield 258, 3) := by decide +kernel
theorem dX6_paces_97 : decode cX6_paces 97 = .ok (.iinc 2 1, 3) := by decide +kernel
theorem dX6_paces_100 : decode cX6_paces 100 = .ok (.goto (-74), 3) := by decide +kernel
theorem dX6_paces_103 : decode cX6_paces 103 = .ok (.iinc 1 1, 3) := by decide +kernel
theorem dX6_paces_106 : decode cX6_paces 106 = .ok (.goto (-90), 3) := by decide +kernel
theorem dX6_paces_109 : decode cX6_paces 109 = .ok (.aload_n 0, 1) := by decide +kernel
theorem dX6_paces_110 : decode cX6_paces 110 = .ok (.getfield 258, 3) := by decide +kernel
theorem dX6_paces_113 : decode cX6_paces 113 = .ok (.lconst 0, 1) := by decide +kernel
theorem dX6_paces_114 : decode cX6_paces 114 = .ok (.lcmp, 1) := by decide +kernel
theorem dX6_paces_115 : decode cX6_paces 115 = .ok (.ifCond .ne 5, 3) := by decide +kernel
theorem dX6_paces_118 : decode cX6_paces 118 = .ok (.iconst 0, 1) := by decide +kernel
theorem dX6_paces_119 : decode cX6_paces 119 = .ok (.ireturn, 1) := by decide +kernel
theorem dX6_paces_120 : decode cX6_paces 120 = .ok (.aload_n 0, 1) := by decide +kernel
theorem dX6_paces_121 : decode cX6_paces 121 = .ok (.getfield 262, 3) := by decide +kernel
theorem dX6_paces_124 : decode cX6_paces 124 = .ok (.aload_n 0, 1) := by decide +kernel
theorem dX6_paces_125 : decode cX6_paces 125 = .ok (.getfield 258, 3) := by decide +kernel
theorem dX6_paces_128 : decode cX6_paces 128 = .ok (.invokestatic 265, 3) := by decide +kernel
theorem dX6_paces_131 : decode cX6_paces 131 = .ok (.lstore_n 1, 1) := by decide +kernel
theorem dX6_paces_132 : decode cX6_paces 132 = .ok (.aload_n 0, 1) := by decide +kernel
theorem dX6_paces_133 : decode cX6_paces 133 = .ok (.dup, 1) := by decide +kernel
theorem dX6_paces_134 : decode cX6_paces 134 = .ok (.getfield 262, 3) := by decide +kernel
theorem dX6_paces_137 : decode cX6_paces 137 = .ok (.lload_n 1, 1) := by decide +kernel
theorem dX6_paces_138 : decode cX6_paces 138 = .ok (.ldiv, 1) := by decide +kernel
theorem dX6_paces_139 : decode cX6_paces 139 = .ok (.putfield 262, 3) := by decide +kernel
theorem dX6_paces_142 : decode cX6_paces 142 = .ok (.aload_n 0, 1) := by decide +kernel
theorem dX6_paces_143 : decode cX6_paces 143 = .ok (.dup, 1) := by decide +kernel
theorem dX6_paces_144 : decode cX6_paces 144 = .ok (.getfield 258, 3) := by decide +kernel
theorem dX6_paces_147 : decode cX6_paces 147 = .ok (.lload_n 1, 1) := by decide +kernel
theorem dX6_paces_148 : decode cX6_paces 148 = .ok (.ldiv, 1) := by decide +kernel
theorem dX6_paces_149 : decode cX6_paces 149 = .ok (.putfield 258, 3) := by decide +kernel
theorem dX6_paces_152 : decode cX6_paces 152 = .ok (.iconst 1, 1) := by decide +kernel
theorem dX6_paces_153 : decode cX6_paces 153 = .ok (.ireturn, 1) := by decide +kernel
theorem dX6_pace_0 : decode cX6_pace 0 = .ok (.aload_n 0, 1) := by decide +kernel
theorem dX6_pace_1 : decode cX6_pace 1 = .ok (.iconst 0, 1) := by decide +kernel
theorem dX6_pace_2 : decode cX6_pace 2 = .ok (.putfield 117, 3) := by decide +kernel
theorem dX6_pace_5 : decode cX6_pace 5 = .ok (.aload_n 0, 1) := by decide +kernel
theorem dX6_pace_6 : decode cX6_pace 6 = .ok (.iconst 0, 1) := by decide +kernel
theorem dX6_pace_7 : decode cX6_pace 7 = .ok (.putfield 120, 3) := by decide +kernel
theorem dX6_pace_10 : decode cX6_pace 10 = .ok (.iload_n 1, 1) := by decide +kernel
theorem dX6_pace_11 : decode cX6_pace 11 = .ok (.ifCond .lt 8, 3) := by decide +kernel
theorem dX6_pace_14 : decode cX6_pace 14 = .ok (.iload_n 1, 1) := by decide +kernel
theorem dX6_pace_15 : decode cX6_pace 15 = .ok (.iconst 1, 1) := by decide +kernel
theorem dX6_pace_16 : decode cX6_pace 16 = .ok (.if_icmp .le 10, 3) := by decide +kernel
theorem dX6_pace_19 : decode cX6_pace 19 = .ok (.aload_n 0, 1) := by decide +kernel
theorem dX6_pace_20 : decode cX6_pace 20 = .ok (.iconst 2, 1) := by decide +kernel
theorem dX6_pace_21 : decode cX6_pace 21 = .ok (.invokevirtual 151, 3) := by decide +kernel
theorem dX6_pace_24 : decode cX6_pace 24 = .ok (.i2l, 1) := by decide +kernel
theorem dX6_pace_25 : decode cX6_pace 25 = .ok (.lreturn, 1) := by decide +kernel
theorem dX6_pace_26 : decode cX6_pace 26 = .ok (.aload_n 0, 1) := by decide +kernel
theorem dX6_pace_27 : decode cX6_pace 27 = .ok (.invokevirtual 268, 3) := by decide +kernel
theorem dX6_pace_30 : decode cX6_pace 30 = .ok (.ifCond .ne 11, 3) := by decide +kernel
theorem dX6_pace_33 : decode cX6_pace 33 = .ok (.aload_n 0, 1) := by decide +kernel
theorem dX6_pace_34 : decode cX6_pace 34 = .ok (.bipush 8, 2) := by decide +kernel
theorem dX6_pace_36 : decode cX6_pace 36 = .ok (.invokevirtual 151, 3) := by decide +kernel
theorem dX6_pace_39 : decode cX6_pace 39 = .ok (.i2l, 1) := by decide +kernel
theorem dX6_pace_40 : decode cX6_pace 40 = .ok (.lreturn, 1) := by decide +kernel
theorem dX6_pace_41 : decode cX6_pace 41 = .ok (.iload_n 1, 1) := by decide +kernel
theorem dX6_pace_42 : decode cX6_pace 42 = .ok (.ifCond .ne 10, 3) := by decide +kernel
theorem dX6_pace_45 : decode cX6_pace 45 = .ok (.aload_n 0, 1) := by decide +kernel
theorem dX6_pace_46 : decode cX6_pace 46 = .ok (.getfield 262, 3) := by decide +kernel
theorem dX6_pace_49 : decode cX6_pace 49 = .ok (.goto 7, 3) := by decide +kernel
theorem dX6_pace_52 : decode cX6_pace 52 = .ok (.aload_n 0, 1) := by decide +kernel
theorem dX6_pace_53 : decode cX6_pace 53 = .ok (.getfield 258, 3) := by decide +kernel
theorem dX6_pace_56 : decode cX6_pace 56 = .ok (.lreturn, 1) := by decide +kernel
theorem dX6_critical_0 : decode cX6_critical 0 = .ok (.aload_n 0, 1) := by decide +kernel
theorem dX6_critical_1 : decode cX6_critical 1 = .ok (.iconst 0, 1) := by decide +kernel
theorem dX6_critical_2 : decode cX6_critical 2 = .ok (.putfield 117, 3) := by decide +kernel
theorem dX6_critical_5 : decode cX6_critical 5 = .ok (.aload_n 0, 1) := by decide +kernel
theorem dX6_critical_6 : decode cX6_critical 6 = .ok (.iconst 0, 1) := by decide +kernel
theorem dX6_critical_7 : decode cX6_critical 7 = .ok (.putfield 120, 3) := by decide +kernel
theorem dX6_critical_10 : decode cX6_critical 10 = .ok (.aload_n 0, 1) := by decide +kernel
theorem dX6_critical_11 : decode cX6_critical 11 = .ok (.invokevirtual 268, 3) := by decide +kernel
theorem dX6_critical_14 : decode cX6_critical 14 = .ok (.ifCond .ne 10, 3) := by decide +kernel
theorem dX6_critical_17 : decode cX6_critical 17 = .ok (.aload_n 0, 1) := by decide +kernel
theorem dX6_critical_18 : decode cX6_critical 18 = .ok (.bipush 8, 2) := by decide +kernel
theorem dX6_critical_20 : decode cX6_critical 20 = .ok (.invokevirtual 151, 3) := by decide +kernel
theorem dX6_critical_23 : decode cX6_critical 23 = .ok (.ireturn, 1) := by decide +kernel
theorem dX6_critical_24 : decode cX6_critical 24 = .ok (.iconst 0, 1) := by decide +kernel
theorem dX6_critical_25 : decode cX6_critical 25 = .ok (.istore_n 1, 1) := by decide +kernel
theorem dX6_critical_26 : decode cX6_critical 26 = .ok (.iconst 0, 1) := by decide +kernel
theorem dX6_critical_27 : decode cX6_critical 27 = .ok (.istore_n 2, 1) := by decide +kernel
theorem dX6_critical_28 : decode cX6_critical 28 = .ok (.iload_n 2, 1) := by decide +kernel
theorem dX6_critical_29 : decode cX6_critical 29 = .ok (.ifCond .ne 49, 3) := by decide +kernel
theorem dX6_critical_32 : decode cX6_critical 32 = .ok (.iinc 1 1, 3) := by decide +kernel
theorem dX6_critical_35 : decode cX6_critical 35 = .ok (.iconst 0, 1) := by decide +kernel
theorem dX6_critical_36 : decode cX6_critical 36 = .ok (.istore_n 3, 1) := by decide +kernel
theorem dX6_critical_37 : decode cX6_critical 37 = .ok (.iload_n 3, 1) := by decide +kernel
theorem dX6_critical_38 : decode cX6_critical 38 = .ok (.aload_n 0, 1) := by decide +kernel
theorem dX6_critical_39 : decode cX6_critical 39 = .ok (.getfield 230, 3) := by decide +kernel
theorem dX6_critical_42 : decode cX6_critical 42 = .ok (.if_icmp .ge 33, 3) := by decide +kernel
theorem dX6_critical_45 : decode cX6_critical 45 = .ok (.iload_n 2, 1) := by decide +kernel
theorem dX6_critical_46 : decode cX6_critical 46 = .ok (.ifCond .ne 29, 3) := by decide +kernel
theorem dX6_critical_49 : decode cX6_critical 49 = .ok (.aload_n 0, 1) := by decide +kernel
theorem dX6_critical_50 : decode cX6_critical 50 = .ok (.aload_n 0, 1) := by decide +kernel
theorem dX6_critical_51 : decode cX6_critical 51 = .ok (.getfield 99, 3) := by decide +kernel
theorem dX6_critical_54 : decode cX6_critical 54 = .ok (.bipush 100, 2) := by decide +kernel
theorem dX6_critical_56 : decode cX6_critical 56 = .ok (.iload_n 1, 1) := by decide +kernel
theorem dX6_critical_57 : decode cX6_critical 57 = .ok (.imul, 1) := by decide +kernel
theorem dX6_critical_58 : decode cX6_critical 58 = .ok (.bipush 11, 2) := by decide +kernel
theorem dX6_critical_60 : decode cX6_critical 60 = .ok (.iload_n 3, 1) := by decide +kernel
theorem dX6_critical_61 : decode cX6_critical 61 = .ok (.imul, 1) := by decide +kernel
theorem dX6_critical_62 : decode cX6_critical 62 = .ok (.iadd, 1) := by decide +kernel
theorem dX6_critical_63 : decode cX6_critical 63 = .ok (.laload, 1) := by decide +kernel
theorem dX6_critical_64 : decode cX6_critical 64 = .ok (.iload_n 1, 1) := by decide +kernel
theorem dX6_critical_65 : decode cX6_critical 65 = .ok (.invokevirtual 271, 3) := by decide +kernel
theorem dX6_critical_68 : decode cX6_critical 68 = .ok (.istore_n 2, 1) := by decide +kernel
theorem dX6_critical_69 : decode cX6_critical 69 = .ok (.iinc 3 1, 3) := by decide +kernel
theorem dX6_critical_72 : decode cX6_critical 72 = .ok (.goto (-35), 3) := by decide +kernel
theorem dX6_critical_75 : decode cX6_critical 75 = .ok (.goto (-47), 3) := by decide +kernel
theorem dX6_critical_78 : decode cX6_critical 78 = .ok (.iconst 0, 1) := by decide +kernel
theorem dX6_critical_79 : decode cX6_critical 79 = .ok (.istore_n 3, 1) := by decide +kernel
theorem dX6_critical_80 : decode cX6_critical 80 = .ok (.aload_n 0, 1) := by decide +kernel
theorem dX6_critical_81 : decode cX6_critical 81 = .ok (.iload_n 1, 1) := by decide +kernel
theorem dX6_critical_82 : decode cX6_critical 82 = .ok (.iload_n 3, 1) := by decide +kernel
theorem dX6_critical_83 : decode cX6_critical 83 = .ok (.invokevirtual 254, 3) := by decide +kernel
theorem dX6_critical_86 : decode cX6_critical 86 = .ok (.aload_n 0, 1) := by decide +kernel
theorem dX6_critical_87 : decode cX6_critical 87 = .ok (.aload_n 0, 1) := by decide +kernel
theorem dX6_critical_88 : decode cX6_critical 88 = .ok (.getfield 99, 3) := by decide +kernel
theorem dX6_critical_91 : decode cX6_critical 91 = .ok (.bipush 100, 2) := by decide +kernel
theorem dX6_critical_93 : decode cX6_critical 93 = .ok (.iload_n 1, 1) := by decide +kernel
theorem dX6_critical_94 : decode cX6_critical 94 = .ok (.imul, 1) := by decide +kernel
theorem dX6_critical_95 : decode cX6_critical 95 = .ok (.bipush 11, 2) := by decide +kernel
theorem dX6_critical_97 : decode cX6_critical 97 = .ok (.iload_n 3, 1) := by decide +kernel
theorem dX6_critical_98 : decode cX6_critical 98 = .ok (.imul, 1) := by decide +kernel
theorem dX6_critical_99 : decode cX6_critical 99 = .ok (.iadd, 1) := by decide +kernel
theorem dX6_critical_100 : decode cX6_critical 100 = .ok (.laload, 1) := by decide +kernel
theorem dX6_critical_101 : decode cX6_critical 101 = .ok (.iload_n 1, 1) := by decide +kernel
theorem dX6_critical_102 : decode cX6_critical 102 = .ok (.invokevirtual 271, 3) := by decide +kernel
theorem dX6_critical_105 : decode cX6_critical 105 = .ok (.ifCond .ne 15, 3) := by decide +kernel
theorem dX6_critical_108 : decode cX6_critical 108 = .ok (.iinc 3 1, 3) := by decide +kernel
theorem dX6_critical_111 : decode cX6_critical 111 = .ok (.aload_n 0, 1) := by decide +kernel
theorem dX6_critical_112 : decode cX6_critical 112 = .ok (.iload_n 1, 1) := by decide +kernel
theorem dX6_critical_113 : decode cX6_critical 113 = .ok (.iload_n 3, 1) := by decide +kernel
theorem dX6_critical_114 : decode cX6_critical 114 = .ok (.invokevirtual 254, 3) := by decide +kernel
theorem dX6_critical_117 : decode cX6_critical 117 = .ok (.goto (-31), 3) := by decide +kernel
theorem dX6_critical_120 : decode cX6_critical 120 = .ok (.aload_n 0, 1) := by decide +kernel
theorem dX6_critical_121 : decode cX6_critical 121 = .ok (.getfield 99, 3) := by decide +kernel
theorem dX6_critical_124 : decode cX6_critical 124 = .ok (.bipush 100, 2) := by decide +kernel
theorem dX6_critical_126 : decode cX6_critical 126 = .ok (.iload_n 1, 1) := by decide +kernel
theorem dX6_critical_127 : decode cX6_critical 127 = .ok (.imul, 1) := by decide +kernel
theorem dX6_critical_128 : decode cX6_critical 128 = .ok (.bipush 11, 2) := by decide +kernel
theorem dX6_critical_130 : decode cX6_critical 130 = .ok (.iload_n 3, 1) := by decide +kernel
theorem dX6_critical_131 : decode cX6_critical 131 = .ok (.imul, 1) := by decide +kernel
theorem dX6_critical_132 : decode cX6_critical 132 = .ok (.iadd, 1) := by decide +kernel
theorem dX6_critical_133 : decode cX6_critical 133 = .ok (.laload, 1) := by decide +kernel
theorem dX6_critical_134 : decode cX6_critical 134 = .ok (.lstore 4, 2) := by decide +kernel
theorem dX6_critical_136 : decode cX6_critical 136 = .ok (.iload_n 3, 1) := by decide +kernel
theorem dX6_critical_137 : decode cX6_critical 137 = .ok (.istore 6, 2) := by decide +kernel
theorem dX6_critical_139 : decode cX6_critical 139 = .ok (.aload_n 0, 1) := by decide +kernel
theorem dX6_critical_140 : decode cX6_critical 140 = .ok (.iload_n 1, 1) := by decide +kernel
theorem dX6_critical_141 : decode cX6_critical 141 = .ok (.putfield 275, 3) := by decide +kernel
theorem dX6_critical_144 : decode cX6_critical 144 = .ok (.iconst 0, 1) := by decide +kernel
theorem dX6_critical_145 : decode cX6_critical 145 = .ok (.istore 7, 2) := by decide +kernel
theorem dX6_critical_147 : decode cX6_critical 147 = .ok (.iload 7, 2) := by decide +kernel
theorem dX6_critical_149 : decode cX6_critical 149 = .ok (.iload_n 1, 1) := by decide +kernel
theorem dX6_critical_150 : decode cX6_critical 150 = .ok (.if_icmp .ge 70, 3) := by decide +kernel
theorem dX6_critical_153 : decode cX6_critical 153 = .ok (.aload_n 0, 1) := by decide +kernel
theorem dX6_critical_154 : decode cX6_critical 154 = .ok (.getfield 102, 3) := by decide +kernel
theorem dX6_critical_157 : decode cX6_critical 157 = .ok (.iload 7, 2) := by decide +kernel
theorem dX6_critical_159 : decode cX6_critical 159 = .ok (.iload 6, 2) := by decide +kernel
theorem dX6_critical_161 : decode cX6_critical 161 = .ok (.i2b, 1) := by decide +kernel
theorem dX6_critical_162 : decode cX6_critical 162 = .ok (.bastore, 1) := by decide +kernel
theorem dX6_critical_163 : decode cX6_critical 163 = .ok (.iload_n 3, 1) := by decide +kernel
theorem dX6_critical_164 : decode cX6_critical 164 = .ok (.istore 8, 2) := by decide +kernel
theorem dX6_critical_166 : decode cX6_critical 166 = .ok (.aload_n 0, 1) := by decide +kernel
theorem dX6_critical_167 : decode cX6_critical 167 = .ok (.iload 6, 2) := by decide +kernel
theorem dX6_critical_169 : decode cX6_critical 169 = .ok (.iload 8, 2) := by decide +kernel
theorem dX6_critical_171 : decode cX6_critical 171 = .ok (.iload_n 3, 1) := by decide +kernel
theorem dX6_critical_172 : decode cX6_critical 172 = .ok (.iload_n 1, 1) := by decide +kernel
theorem dX6_critical_173 : decode cX6_critical 173 = .ok (.iconst 1, 1) := by decide +kernel
theorem dX6_critical_174 : decode cX6_critical 174 = .ok (.isub, 1) := by decide +kernel
theorem dX6_critical_175 : decode cX6_critical 175 = .ok (.iload 7, 2) := by decide +kernel
theorem dX6_critical_177 : decode cX6_critical 177 = .ok (.isub, 1) := by decide +kernel
theorem dX6_critical_178 : decode cX6_critical 178 = .ok (.lload 4, 2) := by decide +kernel
theorem dX6_critical_180 : decode cX6_critical 180 = .ok (.invokevirtual 278, 3) := by decide +kernel
theorem dX6_critical_183 : decode cX6_critical 183 = .ok (.ifCond .ne 9, 3) := by decide +kernel
theorem dX6_critical_186 : decode cX6_critical 186 = .ok (.iinc 8 1, 3) := by decide +kernel
theorem dX6_critical_189 : decode cX6_critical 189 = .ok (.goto (-23), 3) := by decide +kernel
theorem dX6_critical_192 : decode cX6_critical 192 = .ok (.lload 4, 2) := by decide +kernel
theorem dX6_critical_194 : decode cX6_critical 194 = .ok (.aload_n 0, 1) := by decide +kernel
theorem dX6_critical_195 : decode cX6_critical 195 = .ok (.getfield 87, 3) := by decide +kernel
theorem dX6_critical_198 : decode cX6_critical 198 = .ok (.bipush 10, 2) := by decide +kernel
theorem dX6_critical_200 : decode cX6_critical 200 = .ok (.iload 8, 2) := by decide +kernel
theorem dX6_critical_202 : decode cX6_critical 202 = .ok (.imul, 1) := by decide +kernel
theorem dX6_critical_203 : decode cX6_critical 203 = .ok (.iload 6, 2) := by decide +kernel
theorem dX6_critical_205 : decode cX6_critical 205 = .ok (.iadd, 1) := by decide +kernel
theorem dX6_critical_206 : decode cX6_critical 206 = .ok (.laload, 1) := by decide +kernel
theorem dX6_critical_207 : decode cX6_critical 207 = .ok (.lsub, 1) := by decide +kernel
theorem dX6_critical_208 : decode cX6_critical 208 = .ok (.lstore 4, 2) := by decide +kernel
theorem dX6_critical_210 : decode cX6_critical 210 = .ok (.iload 8, 2) := by decide +kernel
theorem dX6_critical_212 : decode cX6_critical 212 = .ok (.istore 6, 2) := by decide +kernel
theorem dX6_critical_214 : decode cX6_critical 214 = .ok (.iinc 7 1, 3) := by decide +kernel
theorem dX6_critical_217 : decode cX6_critical 217 = .ok (.goto (-70), 3) := by decide +kernel
theorem dX6_critical_220 : decode cX6_critical 220 = .ok (.iload_n 1, 1) := by decide +kernel
theorem dX6_critical_221 : decode cX6_critical 221 = .ok (.ireturn, 1) := by decide +kernel
theorem dX6_isPace_0 : decode cX6_isPace 0 = .ok (.lload_n 1, 1) := by decide +kernel
theorem dX6_isPace_1 : decode cX6_isPace 1 = .ok (.ldc2_w 115, 3) := by decide +kernel
theorem dX6_isPace_4 : decode cX6_isPace 4 = .ok (.lcmp, 1) := by decide +kernel
theorem dX6_isPace_5 : decode cX6_isPace 5 = .ok (.ifCond .eq 24, 3) := by decide +kernel
theorem dX6_isPace_8 : decode cX6_isPace 8 = .ok (.lload_n 1, 1) := by decide +kernel
theorem dX6_isPace_9 : decode cX6_isPace 9 = .ok (.aload_n 0, 1) := by decide +kernel
theorem dX6_isPace_10 : decode cX6_isPace 10 = .ok (.getfield 258, 3) := by decide +kernel
theorem dX6_isPace_13 : decode cX6_isPace 13 = .ok (.lmul, 1) := by decide +kernel
theorem dX6_isPace_14 : decode cX6_isPace 14 = .ok (.aload_n 0, 1) := by decide +kernel
theorem dX6_isPace_15 : decode cX6_isPace 15 = .ok (.getfield 262, 3) := by decide +kernel
theorem dX6_isPace_18 : decode cX6_isPace 18 = .ok (.iload_n 3, 1) := by decide +kernel
theorem dX6_isPace_19 : decode cX6_isPace 19 = .ok (.i2l, 1) := by decide +kernel
theorem dX6_isPace_20 : decode cX6_isPace 20 = .ok (.lmul, 1) := by decide +kernel
theorem dX6_isPace_21 : decode cX6_isPace 21 = .ok (.lcmp, 1) := by decide +kernel
theorem dX6_isPace_22 : decode cX6_isPace 22 = .ok (.ifCond .ne 7, 3) := by decide +kernel
theorem dX6_isPace_25 : decode cX6_isPace 25 = .ok (.iconst 1, 1) := by decide +kernel
theorem dX6_isPace_26 : decode cX6_isPace 26 = .ok (.goto 4, 3) := by decide +kernel
theorem dX6_isPace_29 : decode cX6_isPace 29 = .ok (.iconst 0, 1) := by decide +kernel
theorem dX6_isPace_30 : decode cX6_isPace 30 = .ok (.ireturn, 1) := by decide +kernel
theorem dX6_goes_0 : decode cX6_goes 0 = .ok (.aload_n 0, 1) := by decide +kernel
theorem dX6_goes_1 : decode cX6_goes 1 = .ok (.getfield 87, 3) := by decide +kernel
theorem dX6_goes_4 : decode cX6_goes 4 = .ok (.bipush 10, 2) := by decide +kernel
theorem dX6_goes_6 : decode cX6_goes 6 = .ok (.iload_n 2, 1) := by decide +kernel
theorem dX6_goes_7 : decode cX6_goes 7 = .ok (.imul, 1) := by decide +kernel
theorem dX6_goes_8 : decode cX6_goes 8 = .ok (.iload_n 1, 1) := by decide +kernel
theorem dX6_goes_9 : decode cX6_goes 9 = .ok (.iadd, 1) := by decide +kernel
theorem dX6_goes_10 : decode cX6_goes 10 = .ok (.laload, 1) := by decide +kernel
theorem dX6_goes_11 : decode cX6_goes 11 = .ok (.lstore 7, 2) := by decide +kernel
theorem dX6_goes_13 : decode cX6_goes 13 = .ok (.aload_n 0, 1) := by decide +kernel
theorem dX6_goes_14 : decode cX6_goes 14 = .ok (.getfield 99, 3) := by decide +kernel
theorem dX6_goes_17 : decode cX6_goes 17 = .ok (.bipush 100, 2) := by decide +kernel
theorem dX6_goes_19 : decode cX6_goes 19 = .ok (.iload 4, 2) := by decide +kernel
theorem dX6_goes_21 : decode cX6_goes 21 = .ok (.imul, 1) := by decide +kernel
theorem dX6_goes_22 : decode cX6_goes 22 = .ok (.bipush 10, 2) := by decide +kernel
theorem dX6_goes_24 : decode cX6_goes 24 = .ok (.iload_n 3, 1) := by decide +kernel
theorem dX6_goes_25 : decode cX6_goes 25 = .ok (.imul, 1) := by decide +kernel
theorem dX6_goes_26 : decode cX6_goes 26 = .ok (.iadd, 1) := by decide +kernel
theorem dX6_goes_27 : decode cX6_goes 27 = .ok (.iload_n 2, 1) := by decide +kernel
theorem dX6_goes_28 : decode cX6_goes 28 = .ok (.iadd, 1) := by decide +kernel
theorem dX6_goes_29 : decode cX6_goes 29 = .ok (.laload, 1) := by decide +kernel
theorem dX6_goes_30 : decode cX6_goes 30 = .ok (.lstore 9, 2) := by decide +kernel
theorem dX6_goes_32 : decode cX6_goes 32 = .ok (.lload 7, 2) := by decide +kernel
theorem dX6_goes_34 : decode cX6_goes 34 = .ok (.ldc2_w 115, 3) := by decide +kernel
theorem dX6_goes_37 : decode cX6_goes 37 = .ok (.lcmp, 1) := by decide +kernel
theorem dX6_goes_38 : decode cX6_goes 38 = .ok (.ifCond .eq 27, 3) := by decide +kernel
theorem dX6_goes_41 : decode cX6_goes 41 = .ok (.lload 9, 2) := by decide +kernel
theorem dX6_goes_43 : decode cX6_goes 43 = .ok (.ldc2_w 115, 3) := by decide +kernel
theorem dX6_goes_46 : decode cX6_goes 46 = .ok (.lcmp, 1) := by decide +kernel
theorem dX6_goes_47 : decode cX6_goes 47 = .ok (.ifCond .eq 18, 3) := by decide +kernel
theorem dX6_goes_50 : decode cX6_goes 50 = .ok (.lload 7, 2) := by decide +kernel
theorem dX6_goes_52 : decode cX6_goes 52 = .ok (.lload 9, 2) := by decide +kernel
theorem dX6_goes_54 : decode cX6_goes 54 = .ok (.ladd, 1) := by decide +kernel
theorem dX6_goes_55 : decode cX6_goes 55 = .ok (.lload 5, 2) := by decide +kernel
theorem dX6_goes_57 : decode cX6_goes 57 = .ok (.lcmp, 1) := by decide +kernel
theorem dX6_goes_58 : decode cX6_goes 58 = .ok (.ifCond .ne 7, 3) := by decide +kernel
theorem dX6_goes_61 : decode cX6_goes 61 = .ok (.iconst 1, 1) := by decide +kernel
theorem dX6_goes_62 : decode cX6_goes 62 = .ok (.goto 4, 3) := by decide +kernel
theorem dX6_goes_65 : decode cX6_goes 65 = .ok (.iconst 0, 1) := by decide +kernel
theorem dX6_goes_66 : decode cX6_goes 66 = .ok (.ireturn, 1) := by decide +kernel
theorem dX6_sums_0 : decode cX6_sums 0 = .ok (.aload_n 0, 1) := by decide +kernel
theorem dX6_sums_1 : decode cX6_sums 1 = .ok (.iconst 0, 1) := by decide +kernel
theorem dX6_sums_2 : decode cX6_sums 2 = .ok (.putfield 117, 3) := by decide +kernel
theorem dX6_sums_5 : decode cX6_sums 5 = .ok (.aload_n 0, 1) := by decide +kernel
theorem dX6_sums_6 : decode cX6_sums 6 = .ok (.iconst 0, 1) := by decide +kernel
theorem dX6_sums_7 : decode cX6_sums 7 = .ok (.putfield 120, 3) := by decide +kernel
theorem dX6_sums_10 : decode cX6_sums 10 = .ok (.lload_n 1, 1) := by decide +kernel
theorem dX6_sums_11 : decode cX6_sums 11 = .ok (.lconst 0, 1) := by decide +kernel
theorem dX6_sums_12 : decode cX6_sums 12 = .ok (.lcmp, 1) := by decide +kernel
theorem dX6_sums_13 : decode cX6_sums 13 = .ok (.ifCond .lt 21, 3) := by decide +kernel
theorem dX6_sums_16 : decode cX6_sums 16 = .ok (.lload_n 1, 1) := by decide +kernel
theorem dX6_sums_17 : decode cX6_sums 17 = .ok (.ldc2_w 282, 3) := by decide +kernel
theorem dX6_sums_20 : decode cX6_sums 20 = .ok (.lcmp, 1) := by decide +kernel
theorem dX6_sums_21 : decode cX6_sums 21 = .ok (.ifCond .gt 13, 3) := by decide +kernel
theorem dX6_sums_24 : decode cX6_sums 24 = .ok (.aload_n 0, 1) := by decide +kernel
theorem dX6_sums_25 : decode cX6_sums 25 = .ok (.iload_n 3, 1) := by decide +kernel
theorem dX6_sums_26 : decode cX6_sums 26 = .ok (.iload 4, 2) := by decide +kernel
theorem dX6_sums_28 : decode cX6_sums 28 = .ok (.invokevirtual 233, 3) := by decide +kernel
theorem dX6_sums_31 : decode cX6_sums 31 = .ok (.ifCond .ne 10, 3) := by decide +kernel
theorem dX6_sums_34 : decode cX6_sums 34 = .ok (.aload_n 0, 1) := by decide +kernel
theorem dX6_sums_35 : decode cX6_sums 35 = .ok (.iconst 2, 1) := by decide +kernel
theorem dX6_sums_36 : decode cX6_sums 36 = .ok (.invokevirtual 151, 3) := by decide +kernel
theorem dX6_sums_39 : decode cX6_sums 39 = .ok (.i2l, 1) := by decide +kernel
theorem dX6_sums_40 : decode cX6_sums 40 = .ok (.lreturn, 1) := by decide +kernel
theorem dX6_sums_41 : decode cX6_sums 41 = .ok (.aload_n 0, 1) := by decide +kernel
theorem dX6_sums_42 : decode cX6_sums 42 = .ok (.aload_n 0, 1) := by decide +kernel
theorem dX6_sums_43 : decode cX6_sums 43 = .ok (.getfield 90, 3) := by decide +kernel
theorem dX6_sums_46 : decode cX6_sums 46 = .ok (.iconst 0, 1) := by decide +kernel
theorem dX6_sums_47 : decode cX6_sums 47 = .ok (.invokevirtual 242, 3) := by decide +kernel
theorem dX6_sums_50 : decode cX6_sums 50 = .ok (.iconst 0, 1) := by decide +kernel
theorem dX6_sums_51 : decode cX6_sums 51 = .ok (.istore 5, 2) := by decide +kernel
theorem dX6_sums_53 : decode cX6_sums 53 = .ok (.iload 5, 2) := by decide +kernel
theorem dX6_sums_55 : decode cX6_sums 55 = .ok (.bipush 100, 2) := by decide +kernel
theorem dX6_sums_57 : decode cX6_sums 57 = .ok (.if_icmp .ge 23, 3) := by decide +kernel
theorem dX6_sums_60 : decode cX6_sums 60 = .ok (.aload_n 0, 1) := by decide +kernel
theorem dX6_sums_61 : decode cX6_sums 61 = .ok (.getfield 93, 3) := by decide +kernel
theorem dX6_sums_64 : decode cX6_sums 64 = .ok (.iload 5, 2) := by decide +kernel
theorem dX6_sums_66 : decode cX6_sums 66 = .ok (.aload_n 0, 1) := by decide +kernel
theorem dX6_sums_67 : decode cX6_sums 67 = .ok (.getfield 87, 3) := by decide +kernel
theorem dX6_sums_70 : decode cX6_sums 70 = .ok (.iload 5, 2) := by decide +kernel
theorem dX6_sums_72 : decode cX6_sums 72 = .ok (.laload, 1) := by decide +kernel
theorem dX6_sums_73 : decode cX6_sums 73 = .ok (.lastore, 1) := by decide +kernel
theorem dX6_sums_74 : decode cX6_sums 74 = .ok (.iinc 5 1, 3) := by decide +kernel
theorem dX6_sums_77 : decode cX6_sums 77 = .ok (.goto (-24), 3) := by decide +kernel
theorem dX6_sums_80 : decode cX6_sums 80 = .ok (.lload_n 1, 1) := by decide +kernel
theorem dX6_sums_81 : decode cX6_sums 81 = .ok (.lstore 5, 2) := by decide +kernel
theorem dX6_sums_83 : decode cX6_sums 83 = .ok (.lload 5, 2) := by decide +kernel
theorem dX6_sums_85 : decode cX6_sums 85 = .ok (.lconst 0, 1) := by decide +kernel
theorem dX6_sums_86 : decode cX6_sums 86 = .ok (.lcmp, 1) := by decide +kernel
theorem dX6_sums_87 : decode cX6_sums 87 = .ok (.ifCond .le 68, 3) := by decide +kernel
theorem dX6_sums_90 : decode cX6_sums 90 = .ok (.lload 5, 2) := by decide +kernel
theorem dX6_sums_92 : decode cX6_sums 92 = .ok (.lconst 1, 1) := by decide +kernel
theorem dX6_sums_93 : decode cX6_sums 93 = .ok (.land, 1) := by decide +kernel
theorem dX6_sums_94 : decode cX6_sums 94 = .ok (.lconst 1, 1) := by decide +kernel
theorem dX6_sums_95 : decode cX6_sums 95 = .ok (.lcmp, 1) := by decide +kernel
theorem dX6_sums_96 : decode cX6_sums 96 = .ok (.ifCond .ne 23, 3) := by decide +kernel
theorem dX6_sums_99 : decode cX6_sums 99 = .ok (.aload_n 0, 1) := by decide +kernel
theorem dX6_sums_100 : decode cX6_sums 100 = .ok (.aload_n 0, 1) := by decide +kernel
theorem dX6_sums_101 : decode cX6_sums 101 = .ok (.getfield 90, 3) := by decide +kernel
theorem dX6_sums_104 : decode cX6_sums 104 = .ok (.iconst 0, 1) := by decide +kernel
theorem dX6_sums_105 : decode cX6_sums 105 = .ok (.aload_n 0, 1) := by decide +kernel
theorem dX6_sums_106 : decode cX6_sums 106 = .ok (.getfield 93, 3) := by decide +kernel
theorem dX6_sums_109 : decode cX6_sums 109 = .ok (.iconst 0, 1) := by decide +kernel
theorem dX6_sums_110 : decode cX6_sums 110 = .ok (.aload_n 0, 1) := by decide +kernel
theorem dX6_sums_111 : decode cX6_sums 111 = .ok (.getfield 90, 3) := by decide +kernel
theorem dX6_sums_114 : decode cX6_sums 114 = .ok (.iconst 0, 1) := by decide +kernel
theorem dX6_sums_115 : decode cX6_sums 115 = .ok (.iconst 0, 1) := by decide +kernel
theorem dX6_sums_116 : decode cX6_sums 116 = .ok (.invokevirtual 246, 3) := by decide +kernel
theorem dX6_sums_119 : decode cX6_sums 119 = .ok (.lload 5, 2) := by decide +kernel
theorem dX6_sums_121 : decode cX6_sums 121 = .ok (.lconst 1, 1) := by decide +kernel
theorem dX6_sums_122 : decode cX6_sums 122 = .ok (.lcmp, 1) := by decide +kernel
theorem dX6_sums_123 : decode cX6_sums 123 = .ok (.ifCond .le 23, 3) := by decide +kernel
theorem dX6_sums_126 : decode cX6_sums 126 = .ok (.aload_n 0, 1) := by decide +kernel
theorem dX6_sums_127 : decode cX6_sums 127 = .ok (.aload_n 0, 1) := by decide +kernel
theorem dX6_sums_128 : decode cX6_sums 128 = .ok (.getfield 93, 3) := by decide +kernel
theorem dX6_sums_131 : decode cX6_sums 131 = .ok (.iconst 0, 1) := by decide +kernel
theorem dX6_sums_132 : decode cX6_sums 132 = .ok (.aload_n 0, 1) := by decide +kernel
theorem dX6_sums_133 : decode cX6_sums 133 = .ok (.getfield 93, 3) := by decide +kernel
theorem dX6_sums_136 : decode cX6_sums 136 = .ok (.iconst 0, 1) := by decide +kernel
theorem dX6_sums_137 : decode cX6_sums 137 = .ok (.aload_n 0, 1) := by decide +kernel
theorem dX6_sums_138 : decode cX6_sums 138 = .ok (.getfield 93, 3) := by decide +kernel
theorem dX6_sums_141 : decode cX6_sums 141 = .ok (.iconst 0, 1) := by decide +kernel
theorem dX6_sums_142 : decode cX6_sums 142 = .ok (.iconst 0, 1) := by decide +kernel
theorem dX6_sums_143 : decode cX6_sums 143 = .ok (.invokevirtual 246, 3) := by decide +kernel
theorem dX6_sums_146 : decode cX6_sums 146 = .ok (.lload 5, 2) := by decide +kernel
theorem dX6_sums_148 : decode cX6_sums 148 = .ok (.iconst 1, 1) := by decide +kernel
theorem dX6_sums_149 : decode cX6_sums 149 = .ok (.lshr, 1) := by decide +kernel
theorem dX6_sums_150 : decode cX6_sums 150 = .ok (.lstore 5, 2) := by decide +kernel
theorem dX6_sums_152 : decode cX6_sums 152 = .ok (.goto (-69), 3) := by decide +kernel
theorem dX6_sums_155 : decode cX6_sums 155 = .ok (.aload_n 0, 1) := by decide +kernel
theorem dX6_sums_156 : decode cX6_sums 156 = .ok (.getfield 90, 3) := by decide +kernel
theorem dX6_sums_159 : decode cX6_sums 159 = .ok (.bipush 10, 2) := by decide +kernel
theorem dX6_sums_161 : decode cX6_sums 161 = .ok (.iload_n 3, 1) := by decide +kernel
theorem dX6_sums_162 : decode cX6_sums 162 = .ok (.imul, 1) := by decide +kernel
theorem dX6_sums_163 : decode cX6_sums 163 = .ok (.iload 4, 2) := by decide +kernel
theorem dX6_sums_165 : decode cX6_sums 165 = .ok (.iadd, 1) := by decide +kernel
theorem dX6_sums_166 : decode cX6_sums 166 = .ok (.laload, 1) := by decide +kernel
theorem dX6_sums_167 : decode cX6_sums 167 = .ok (.ldc2_w 115, 3) := by decide +kernel
theorem dX6_sums_170 : decode cX6_sums 170 = .ok (.lcmp, 1) := by decide +kernel
theorem dX6_sums_171 : decode cX6_sums 171 = .ok (.ifCond .ne 13, 3) := by decide +kernel
theorem dX6_sums_174 : decode cX6_sums 174 = .ok (.aload_n 0, 1) := by decide +kernel
theorem dX6_sums_175 : decode cX6_sums 175 = .ok (.bipush 8, 2) := by decide +kernel
theorem dX6_sums_177 : decode cX6_sums 177 = .ok (.invokevirtual 151, 3) := by decide +kernel
theorem dX6_sums_180 : decode cX6_sums 180 = .ok (.i2l, 1) := by decide +kernel
theorem dX6_sums_181 : decode cX6_sums 181 = .ok (.goto 15, 3) := by decide +kernel
theorem dX6_sums_184 : decode cX6_sums 184 = .ok (.aload_n 0, 1) := by decide +kernel
theorem dX6_sums_185 : decode cX6_sums 185 = .ok (.getfield 90, 3) := by decide +kernel
theorem dX6_sums_188 : decode cX6_sums 188 = .ok (.bipush 10, 2) := by decide +kernel
theorem dX6_sums_190 : decode cX6_sums 190 = .ok (.iload_n 3, 1) := by decide +kernel
theorem dX6_sums_191 : decode cX6_sums 191 = .ok (.imul, 1) := by decide +kernel
theorem dX6_sums_192 : decode cX6_sums 192 = .ok (.iload 4, 2) := by decide +kernel
theorem dX6_sums_194 : decode cX6_sums 194 = .ok (.iadd, 1) := by decide +kernel
theorem dX6_sums_195 : decode cX6_sums 195 = .ok (.laload, 1) := by decide +kernel
theorem dX6_sums_196 : decode cX6_sums 196 = .ok (.lreturn, 1) := by decide +kernel
theorem dX6_longest_0 : decode cX6_longest 0 = .ok (.aload_n 0, 1) := by decide +kernel
theorem dX6_longest_1 : decode cX6_longest 1 = .ok (.iconst 0, 1) := by decide +kernel
theorem dX6_longest_2 : decode cX6_longest 2 = .ok (.putfield 117, 3) := by decide +kernel
theorem dX6_longest_5 : decode cX6_longest 5 = .ok (.aload_n 0, 1) := by decide +kernel
theorem dX6_longest_6 : decode cX6_longest 6 = .ok (.iconst 0, 1) := by decide +kernel
theorem dX6_longest_7 : decode cX6_longest 7 = .ok (.putfield 120, 3) := by decide +kernel
theorem dX6_longest_10 : decode cX6_longest 10 = .ok (.aload_n 0, 1) := by decide +kernel
theorem dX6_longest_11 : decode cX6_longest 11 = .ok (.iload_n 1, 1) := by decide +kernel
theorem dX6_longest_12 : decode cX6_longest 12 = .ok (.iload_n 2, 1) := by decide +kernel
theorem dX6_longest_13 : decode cX6_longest 13 = .ok (.invokevirtual 233, 3) := by decide +kernel
theorem dX6_longest_16 : decode cX6_longest 16 = .ok (.ifCond .ne 10, 3) := by decide +kernel
theorem dX6_longest_19 : decode cX6_longest 19 = .ok (.aload_n 0, 1) := by decide +kernel
theorem dX6_longest_20 : decode cX6_longest 20 = .ok (.iconst 2, 1) := by decide +kernel
theorem dX6_longest_21 : decode cX6_longest 21 = .ok (.invokevirtual 151, 3) := by decide +kernel
theorem dX6_longest_24 : decode cX6_longest 24 = .ok (.i2l, 1) := by decide +kernel
theorem dX6_longest_25 : decode cX6_longest 25 = .ok (.lreturn, 1) := by decide +kernel
theorem dX6_longest_26 : decode cX6_longest 26 = .ok (.aload_n 0, 1) := by decide +kernel
theorem dX6_longest_27 : decode cX6_longest 27 = .ok (.aload_n 0, 1) := by decide +kernel
theorem dX6_longest_28 : decode cX6_longest 28 = .ok (.getfield 230, 3) := by decide +kernel
theorem dX6_longest_31 : decode cX6_longest 31 = .ok (.iconst 0, 1) := by decide +kernel
theorem dX6_longest_32 : decode cX6_longest 32 = .ok (.invokevirtual 254, 3) := by decide +kernel
theorem dX6_longest_35 : decode cX6_longest 35 = .ok (.ldc2_w 115, 3) := by decide +kernel
theorem dX6_longest_38 : decode cX6_longest 38 = .ok (.lstore_n 3, 1) := by decide +kernel
theorem dX6_longest_39 : decode cX6_longest 39 = .ok (.iconst 0, 1) := by decide +kernel
theorem dX6_longest_40 : decode cX6_longest 40 = .ok (.istore 5, 2) := by decide +kernel
theorem dX6_longest_42 : decode cX6_longest 42 = .ok (.iconst 0, 1) := by decide +kernel
theorem dX6_longest_43 : decode cX6_longest 43 = .ok (.istore 6, 2) := by decide +kernel
theorem dX6_longest_45 : decode cX6_longest 45 = .ok (.iload 6, 2) := by decide +kernel
theorem dX6_longest_47 : decode cX6_longest 47 = .ok (.aload_n 0, 1) := by decide +kernel
theorem dX6_longest_48 : decode cX6_longest 48 = .ok (.getfield 230, 3) := by decide +kernel
theorem dX6_longest_51 : decode cX6_longest 51 = .ok (.if_icmp .gt 87, 3) := by decide +kernel
theorem dX6_longest_54 : decode cX6_longest 54 = .ok (.lload_n 3, 1) := by decide +kernel
theorem dX6_longest_55 : decode cX6_longest 55 = .ok (.aload_n 0, 1) := by decide +kernel
theorem dX6_longest_56 : decode cX6_longest 56 = .ok (.getfield 99, 3) := by decide +kernel
theorem dX6_longest_59 : decode cX6_longest 59 = .ok (.bipush 100, 2) := by decide +kernel
theorem dX6_longest_61 : decode cX6_longest 61 = .ok (.iload 6, 2) := by decide +kernel
theorem dX6_longest_63 : decode cX6_longest 63 = .ok (.imul, 1) := by decide +kernel
theorem dX6_longest_64 : decode cX6_longest 64 = .ok (.bipush 10, 2) := by decide +kernel
theorem dX6_longest_66 : decode cX6_longest 66 = .ok (.iload_n 1, 1) := by decide +kernel
theorem dX6_longest_67 : decode cX6_longest 67 = .ok (.imul, 1) := by decide +kernel
theorem dX6_longest_68 : decode cX6_longest 68 = .ok (.iadd, 1) := by decide +kernel
theorem dX6_longest_69 : decode cX6_longest 69 = .ok (.iload_n 2, 1) := by decide +kernel
theorem dX6_longest_70 : decode cX6_longest 70 = .ok (.iadd, 1) := by decide +kernel
theorem dX6_longest_71 : decode cX6_longest 71 = .ok (.laload, 1) := by decide +kernel
theorem dX6_longest_72 : decode cX6_longest 72 = .ok (.invokestatic 239, 3) := by decide +kernel
theorem dX6_longest_75 : decode cX6_longest 75 = .ok (.lstore_n 3, 1) := by decide +kernel
theorem dX6_longest_76 : decode cX6_longest 76 = .ok (.iconst 0, 1) := by decide +kernel
theorem dX6_longest_77 : decode cX6_longest 77 = .ok (.istore 7, 2) := by decide +kernel
theorem dX6_longest_79 : decode cX6_longest 79 = .ok (.iload 7, 2) := by decide +kernel
theorem dX6_longest_81 : decode cX6_longest 81 = .ok (.aload_n 0, 1) := by decide +kernel
theorem dX6_longest_82 : decode cX6_longest 82 = .ok (.getfield 230, 3) := by decide +kernel
theorem dX6_longest_85 : decode cX6_longest 85 = .ok (.if_icmp .ge 47, 3) := by decide +kernel
theorem dX6_longest_88 : decode cX6_longest 88 = .ok (.iload 5, 2) := by decide +kernel
theorem dX6_longest_90 : decode cX6_longest 90 = .ok (.ifCond .ne 29, 3) := by decide +kernel
theorem dX6_longest_93 : decode cX6_longest 93 = .ok (.iload 6, 2) := by decide +kernel
theorem dX6_longest_95 : decode cX6_longest 95 = .ok (.ifCond .le 28, 3) := by decide +kernel
theorem dX6_longest_98 : decode cX6_longest 98 = .ok (.aload_n 0, 1) := by decide +kernel
theorem dX6_longest_99 : decode cX6_longest 99 = .ok (.getfield 99, 3) := by decide +kernel
theorem dX6_longest_102 : decode cX6_longest 102 = .ok (.bipush 100, 2) := by decide +kernel
theorem dX6_longest_104 : decode cX6_longest 104 = .ok (.iload 6, 2) := by decide +kernel
theorem dX6_longest_106 : decode cX6_longest 106 = .ok (.imul, 1) := by decide +kernel
theorem dX6_longest_107 : decode cX6_longest 107 = .ok (.bipush 11, 2) := by decide +kernel
theorem dX6_longest_109 : decode cX6_longest 109 = .ok (.iload 7, 2) := by decide +kernel
theorem dX6_longest_111 : decode cX6_longest 111 = .ok (.imul, 1) := by decide +kernel
theorem dX6_longest_112 : decode cX6_longest 112 = .ok (.iadd, 1) := by decide +kernel
theorem dX6_longest_113 : decode cX6_longest 113 = .ok (.laload, 1) := by decide +kernel
theorem dX6_longest_114 : decode cX6_longest 114 = .ok (.lconst 0, 1) := by decide +kernel
theorem dX6_longest_115 : decode cX6_longest 115 = .ok (.lcmp, 1) := by decide +kernel
theorem dX6_longest_116 : decode cX6_longest 116 = .ok (.ifCond .le 7, 3) := by decide +kernel
theorem dX6_longest_119 : decode cX6_longest 119 = .ok (.iconst 1, 1) := by decide +kernel
theorem dX6_longest_120 : decode cX6_longest 120 = .ok (.goto 4, 3) := by decide +kernel
theorem dX6_longest_123 : decode cX6_longest 123 = .ok (.iconst 0, 1) := by decide +kernel
theorem dX6_longest_124 : decode cX6_longest 124 = .ok (.istore 5, 2) := by decide +kernel
theorem dX6_longest_126 : decode cX6_longest 126 = .ok (.iinc 7 1, 3) := by decide +kernel
theorem dX6_longest_129 : decode cX6_longest 129 = .ok (.goto (-50), 3) := by decide +kernel
theorem dX6_longest_132 : decode cX6_longest 132 = .ok (.iinc 6 1, 3) := by decide +kernel
theorem dX6_longest_135 : decode cX6_longest 135 = .ok (.goto (-90), 3) := by decide +kernel
theorem dX6_longest_138 : decode cX6_longest 138 = .ok (.lload_n 3, 1) := by decide +kernel
theorem dX6_longest_139 : decode cX6_longest 139 = .ok (.ldc2_w 115, 3) := by decide +kernel
theorem dX6_longest_142 : decode cX6_longest 142 = .ok (.lcmp, 1) := by decide +kernel
theorem dX6_longest_143 : decode cX6_longest 143 = .ok (.ifCond .ne 13, 3) := by decide +kernel
theorem dX6_longest_146 : decode cX6_longest 146 = .ok (.aload_n 0, 1) := by decide +kernel
theorem dX6_longest_147 : decode cX6_longest 147 = .ok (.bipush 8, 2) := by decide +kernel
theorem dX6_longest_149 : decode cX6_longest 149 = .ok (.invokevirtual 151, 3) := by decide +kernel
theorem dX6_longest_152 : decode cX6_longest 152 = .ok (.i2l, 1) := by decide +kernel
theorem dX6_longest_153 : decode cX6_longest 153 = .ok (.goto 19, 3) := by decide +kernel
theorem dX6_longest_156 : decode cX6_longest 156 = .ok (.iload 5, 2) := by decide +kernel
theorem dX6_longest_158 : decode cX6_longest 158 = .ok (.ifCond .eq 13, 3) := by decide +kernel
theorem dX6_longest_161 : decode cX6_longest 161 = .ok (.aload_n 0, 1) := by decide +kernel
theorem dX6_longest_162 : decode cX6_longest 162 = .ok (.bipush 9, 2) := by decide +kernel
theorem dX6_longest_164 : decode cX6_longest 164 = .ok (.invokevirtual 151, 3) := by decide +kernel
theorem dX6_longest_167 : decode cX6_longest 167 = .ok (.i2l, 1) := by decide +kernel
theorem dX6_longest_168 : decode cX6_longest 168 = .ok (.goto 4, 3) := by decide +kernel
theorem dX6_longest_171 : decode cX6_longest 171 = .ok (.lload_n 3, 1) := by decide +kernel
theorem dX6_longest_172 : decode cX6_longest 172 = .ok (.lreturn, 1) := by decide +kernel
theorem dX6_again_0 : decode cX6_again 0 = .ok (.aload_n 0, 1) := by decide +kernel
theorem dX6_again_1 : decode cX6_again 1 = .ok (.iconst 0, 1) := by decide +kernel
theorem dX6_again_2 : decode cX6_again 2 = .ok (.putfield 117, 3) := by decide +kernel
theorem dX6_again_5 : decode cX6_again 5 = .ok (.aload_n 0, 1) := by decide +kernel
theorem dX6_again_6 : decode cX6_again 6 = .ok (.iconst 0, 1) := by decide +kernel
theorem dX6_again_7 : decode cX6_again 7 = .ok (.putfield 120, 3) := by decide +kernel
theorem dX6_again_10 : decode cX6_again 10 = .ok (.iload_n 1, 1) := by decide +kernel
theorem dX6_again_11 : decode cX6_again 11 = .ok (.ifCond .lt 8, 3) := by decide +kernel
theorem dX6_again_14 : decode cX6_again 14 = .ok (.iload_n 1, 1) := by decide +kernel
theorem dX6_again_15 : decode cX6_again 15 = .ok (.iconst 1, 1) := by decide +kernel
theorem dX6_again_16 : decode cX6_again 16 = .ok (.if_icmp .le 9, 3) := by decide +kernel
theorem dX6_again_19 : decode cX6_again 19 = .ok (.aload_n 0, 1) := by decide +kernel
theorem dX6_again_20 : decode cX6_again 20 = .ok (.iconst 2, 1) := by decide +kernel
theorem dX6_again_21 : decode cX6_again 21 = .ok (.invokevirtual 151, 3) := by decide +kernel
theorem dX6_again_24 : decode cX6_again 24 = .ok (.ireturn, 1) := by decide +kernel
theorem dX6_again_25 : decode cX6_again 25 = .ok (.aload_n 0, 1) := by decide +kernel
theorem dX6_again_26 : decode cX6_again 26 = .ok (.invokevirtual 268, 3) := by decide +kernel
theorem dX6_again_29 : decode cX6_again 29 = .ok (.ifCond .ne 10, 3) := by decide +kernel
theorem dX6_again_32 : decode cX6_again 32 = .ok (.aload_n 0, 1) := by decide +kernel
theorem dX6_again_33 : decode cX6_again 33 = .ok (.bipush 8, 2) := by decide +kernel
theorem dX6_again_35 : decode cX6_again 35 = .ok (.invokevirtual 151, 3) := by decide +kernel
theorem dX6_again_38 : decode cX6_again 38 = .ok (.ireturn, 1) := by decide +kernel
theorem dX6_again_39 : decode cX6_again 39 = .ok (.aload_n 0, 1) := by decide +kernel
theorem dX6_again_40 : decode cX6_again 40 = .ok (.sipush 200, 3) := by decide +kernel
theorem dX6_again_43 : decode cX6_again 43 = .ok (.iconst 0, 1) := by decide +kernel
theorem dX6_again_44 : decode cX6_again 44 = .ok (.invokevirtual 254, 3) := by decide +kernel
theorem dX6_again_47 : decode cX6_again 47 = .ok (.iconst 0, 1) := by decide +kernel
theorem dX6_again_48 : decode cX6_again 48 = .ok (.istore_n 2, 1) := by decide +kernel
theorem dX6_again_49 : decode cX6_again 49 = .ok (.iload_n 2, 1) := by decide +kernel
theorem dX6_again_50 : decode cX6_again 50 = .ok (.sipush 200, 3) := by decide +kernel
theorem dX6_again_53 : decode cX6_again 53 = .ok (.if_icmp .ge 45, 3) := by decide +kernel
theorem dX6_again_56 : decode cX6_again 56 = .ok (.iconst 1, 1) := by decide +kernel
theorem dX6_again_57 : decode cX6_again 57 = .ok (.istore_n 3, 1) := by decide +kernel
theorem dX6_again_58 : decode cX6_again 58 = .ok (.iload_n 2, 1) := by decide +kernel
theorem dX6_again_59 : decode cX6_again 59 = .ok (.iload_n 3, 1) := by decide +kernel
theorem dX6_again_60 : decode cX6_again 60 = .ok (.iadd, 1) := by decide +kernel
theorem dX6_again_61 : decode cX6_again 61 = .ok (.sipush 200, 3) := by decide +kernel
theorem dX6_again_64 : decode cX6_again 64 = .ok (.if_icmp .gt 28, 3) := by decide +kernel
theorem dX6_again_67 : decode cX6_again 67 = .ok (.aload_n 0, 1) := by decide +kernel
theorem dX6_again_68 : decode cX6_again 68 = .ok (.iload_n 2, 1) := by decide +kernel
theorem dX6_again_69 : decode cX6_again 69 = .ok (.iload_n 3, 1) := by decide +kernel
theorem dX6_again_70 : decode cX6_again 70 = .ok (.invokevirtual 284, 3) := by decide +kernel
theorem dX6_again_73 : decode cX6_again 73 = .ok (.ifCond .eq 13, 3) := by decide +kernel
theorem dX6_again_76 : decode cX6_again 76 = .ok (.iload_n 1, 1) := by decide +kernel
theorem dX6_again_77 : decode cX6_again 77 = .ok (.ifCond .ne 7, 3) := by decide +kernel
theorem dX6_again_80 : decode cX6_again 80 = .ok (.iload_n 2, 1) := by decide +kernel
theorem dX6_again_81 : decode cX6_again 81 = .ok (.goto 4, 3) := by decide +kernel
theorem dX6_again_84 : decode cX6_again 84 = .ok (.iload_n 3, 1) := by decide +kernel
theorem dX6_again_85 : decode cX6_again 85 = .ok (.ireturn, 1) := by decide +kernel
theorem dX6_again_86 : decode cX6_again 86 = .ok (.iinc 3 1, 3) := by decide +kernel
theorem dX6_again_89 : decode cX6_again 89 = .ok (.goto (-31), 3) := by decide +kernel
theorem dX6_again_92 : decode cX6_again 92 = .ok (.iinc 2 1, 3) := by decide +kernel
theorem dX6_again_95 : decode cX6_again 95 = .ok (.goto (-46), 3) := by decide +kernel
theorem dX6_again_98 : decode cX6_again 98 = .ok (.aload_n 0, 1) := by decide +kernel
theorem dX6_again_99 : decode cX6_again 99 = .ok (.bipush 10, 2) := by decide +kernel
theorem dX6_again_101 : decode cX6_again 101 = .ok (.invokevirtual 151, 3) := by decide +kernel
theorem dX6_again_104 : decode cX6_again 104 = .ok (.ireturn, 1) := by decide +kernel
theorem dX6_isAgain_0 : decode cX6_isAgain 0 = .ok (.iload_n 2, 1) := by decide +kernel
theorem dX6_isAgain_1 : decode cX6_isAgain 1 = .ok (.i2l, 1) := by decide +kernel
theorem dX6_isAgain_2 : decode cX6_isAgain 2 = .ok (.aload_n 0, 1) := by decide +kernel
theorem dX6_isAgain_3 : decode cX6_isAgain 3 = .ok (.getfield 262, 3) := by decide +kernel
theorem dX6_isAgain_6 : decode cX6_isAgain 6 = .ok (.lmul, 1) := by decide +kernel
theorem dX6_isAgain_7 : decode cX6_isAgain 7 = .ok (.aload_n 0, 1) := by decide +kernel
theorem dX6_isAgain_8 : decode cX6_isAgain 8 = .ok (.getfield 258, 3) := by decide +kernel
theorem dX6_isAgain_11 : decode cX6_isAgain 11 = .ok (.lrem, 1) := by decide +kernel
theorem dX6_isAgain_12 : decode cX6_isAgain 12 = .ok (.lconst 0, 1) := by decide +kernel
theorem dX6_isAgain_13 : decode cX6_isAgain 13 = .ok (.lcmp, 1) := by decide +kernel
theorem dX6_isAgain_14 : decode cX6_isAgain 14 = .ok (.ifCond .eq 5, 3) := by decide +kernel
theorem dX6_isAgain_17 : decode cX6_isAgain 17 = .ok (.iconst 0, 1) := by decide +kernel
theorem dX6_isAgain_18 : decode cX6_isAgain 18 = .ok (.ireturn, 1) := by decide +kernel
theorem dX6_isAgain_19 : decode cX6_isAgain 19 = .ok (.iload_n 2, 1) := by decide +kernel
theorem dX6_isAgain_20 : decode cX6_isAgain 20 = .ok (.i2l, 1) := by decide +kernel
theorem dX6_isAgain_21 : decode cX6_isAgain 21 = .ok (.aload_n 0, 1) := by decide +kernel
theorem dX6_isAgain_22 : decode cX6_isAgain 22 = .ok (.getfield 262, 3) := by decide +kernel
theorem dX6_isAgain_25 : decode cX6_isAgain 25 = .ok (.lmul, 1) := by decide +kernel
theorem dX6_isAgain_26 : decode cX6_isAgain 26 = .ok (.aload_n 0, 1) := by decide +kernel
theorem dX6_isAgain_27 : decode cX6_isAgain 27 = .ok (.getfield 258, 3) := by decide +kernel
theorem dX6_isAgain_30 : decode cX6_isAgain 30 = .ok (.ldiv, 1) := by decide +kernel
theorem dX6_isAgain_31 : decode cX6_isAgain 31 = .ok (.lstore_n 3, 1) := by decide +kernel
theorem dX6_isAgain_32 : decode cX6_isAgain 32 = .ok (.iconst 0, 1) := by decide +kernel
theorem dX6_isAgain_33 : decode cX6_isAgain 33 = .ok (.istore 5, 2) := by decide +kernel
theorem dX6_isAgain_35 : decode cX6_isAgain 35 = .ok (.iload 5, 2) := by decide +kernel
theorem dX6_isAgain_37 : decode cX6_isAgain 37 = .ok (.aload_n 0, 1) := by decide +kernel
theorem dX6_isAgain_38 : decode cX6_isAgain 38 = .ok (.getfield 230, 3) := by decide +kernel
theorem dX6_isAgain_41 : decode cX6_isAgain 41 = .ok (.if_icmp .ge 102, 3) := by decide +kernel
theorem dX6_isAgain_44 : decode cX6_isAgain 44 = .ok (.iconst 0, 1) := by decide +kernel
theorem dX6_isAgain_45 : decode cX6_isAgain 45 = .ok (.istore 6, 2) := by decide +kernel
theorem dX6_isAgain_47 : decode cX6_isAgain 47 = .ok (.iload 6, 2) := by decide +kernel
theorem dX6_isAgain_49 : decode cX6_isAgain 49 = .ok (.aload_n 0, 1) := by decide +kernel
theorem dX6_isAgain_50 : decode cX6_isAgain 50 = .ok (.getfield 230, 3) := by decide +kernel
theorem dX6_isAgain_53 : decode cX6_isAgain 53 = .ok (.if_icmp .ge 84, 3) := by decide +kernel
theorem dX6_isAgain_56 : decode cX6_isAgain 56 = .ok (.aload_n 0, 1) := by decide +kernel
theorem dX6_isAgain_57 : decode cX6_isAgain 57 = .ok (.getfield 99, 3) := by decide +kernel
theorem dX6_isAgain_60 : decode cX6_isAgain 60 = .ok (.bipush 100, 2) := by decide +kernel
theorem dX6_isAgain_62 : decode cX6_isAgain 62 = .ok (.iload_n 1, 1) := by decide +kernel
theorem dX6_isAgain_63 : decode cX6_isAgain 63 = .ok (.imul, 1) := by decide +kernel
theorem dX6_isAgain_64 : decode cX6_isAgain 64 = .ok (.bipush 10, 2) := by decide +kernel
theorem dX6_isAgain_66 : decode cX6_isAgain 66 = .ok (.iload 5, 2) := by decide +kernel
theorem dX6_isAgain_68 : decode cX6_isAgain 68 = .ok (.imul, 1) := by decide +kernel
theorem dX6_isAgain_69 : decode cX6_isAgain 69 = .ok (.iadd, 1) := by decide +kernel
theorem dX6_isAgain_70 : decode cX6_isAgain 70 = .ok (.iload 6, 2) := by decide +kernel
theorem dX6_isAgain_72 : decode cX6_isAgain 72 = .ok (.iadd, 1) := by decide +kernel
theorem dX6_isAgain_73 : decode cX6_isAgain 73 = .ok (.laload, 1) := by decide +kernel
theorem dX6_isAgain_74 : decode cX6_isAgain 74 = .ok (.lstore 7, 2) := by decide +kernel
theorem dX6_isAgain_76 : decode cX6_isAgain 76 = .ok (.aload_n 0, 1) := by decide +kernel
theorem dX6_isAgain_77 : decode cX6_isAgain 77 = .ok (.getfield 99, 3) := by decide +kernel
theorem dX6_isAgain_80 : decode cX6_isAgain 80 = .ok (.bipush 100, 2) := by decide +kernel
theorem dX6_isAgain_82 : decode cX6_isAgain 82 = .ok (.iload_n 1, 1) := by decide +kernel
theorem dX6_isAgain_83 : decode cX6_isAgain 83 = .ok (.iload_n 2, 1) := by decide +kernel
theorem dX6_isAgain_84 : decode cX6_isAgain 84 = .ok (.iadd, 1) := by decide +kernel
theorem dX6_isAgain_85 : decode cX6_isAgain 85 = .ok (.imul, 1) := by decide +kernel
theorem dX6_isAgain_86 : decode cX6_isAgain 86 = .ok (.bipush 10, 2) := by decide +kernel
theorem dX6_isAgain_88 : decode cX6_isAgain 88 = .ok (.iload 5, 2) := by decide +kernel
theorem dX6_isAgain_90 : decode cX6_isAgain 90 = .ok (.imul, 1) := by decide +kernel
theorem dX6_isAgain_91 : decode cX6_isAgain 91 = .ok (.iadd, 1) := by decide +kernel
theorem dX6_isAgain_92 : decode cX6_isAgain 92 = .ok (.iload 6, 2) := by decide +kernel
theorem dX6_isAgain_94 : decode cX6_isAgain 94 = .ok (.iadd, 1) := by decide +kernel
theorem dX6_isAgain_95 : decode cX6_isAgain 95 = .ok (.laload, 1) := by decide +kernel
theorem dX6_isAgain_96 : decode cX6_isAgain 96 = .ok (.lstore 9, 2) := by decide +kernel
theorem dX6_isAgain_98 : decode cX6_isAgain 98 = .ok (.lload 7, 2) := by decide +kernel
theorem dX6_isAgain_100 : decode cX6_isAgain 100 = .ok (.ldc2_w 115, 3) := by decide +kernel
theorem dX6_isAgain_103 : decode cX6_isAgain 103 = .ok (.lcmp, 1) := by decide +kernel
theorem dX6_isAgain_104 : decode cX6_isAgain 104 = .ok (.ifCond .ne 15, 3) := by decide +kernel
theorem dX6_isAgain_107 : decode cX6_isAgain 107 = .ok (.lload 9, 2) := by decide +kernel
theorem dX6_isAgain_109 : decode cX6_isAgain 109 = .ok (.ldc2_w 115, 3) := by decide +kernel
theorem dX6_isAgain_112 : decode cX6_isAgain 112 = .ok (.lcmp, 1) := by decide +kernel
theorem dX6_isAgain_113 : decode cX6_isAgain 113 = .ok (.ifCond .eq 18, 3) := by decide +kernel
theorem dX6_isAgain_116 : decode cX6_isAgain 116 = .ok (.goto 13, 3) := by decide +kernel
theorem dX6_isAgain_119 : decode cX6_isAgain 119 = .ok (.lload 9, 2) := by decide +kernel
theorem dX6_isAgain_121 : decode cX6_isAgain 121 = .ok (.lload 7, 2) := by decide +kernel
theorem dX6_isAgain_123 : decode cX6_isAgain 123 = .ok (.lload_n 3, 1) := by decide +kernel
theorem dX6_isAgain_124 : decode cX6_isAgain 124 = .ok (.ladd, 1) := by decide +kernel
theorem dX6_isAgain_125 : decode cX6_isAgain 125 = .ok (.lcmp, 1) := by decide +kernel
theorem dX6_isAgain_126 : decode cX6_isAgain 126 = .ok (.ifCond .eq 5, 3) := by decide +kernel
theorem dX6_isAgain_129 : decode cX6_isAgain 129 = .ok (.iconst 0, 1) := by decide +kernel
theorem dX6_isAgain_130 : decode cX6_isAgain 130 = .ok (.ireturn, 1) := by decide +kernel
theorem dX6_isAgain_131 : decode cX6_isAgain 131 = .ok (.iinc 6 1, 3) := by decide +kernel
theorem dX6_isAgain_134 : decode cX6_isAgain 134 = .ok (.goto (-87), 3) := by decide +kernel
theorem dX6_isAgain_137 : decode cX6_isAgain 137 = .ok (.iinc 5 1, 3) := by decide +kernel
theorem dX6_isAgain_140 : decode cX6_isAgain 140 = .ok (.goto (-105), 3) := by decide +kernel
theorem dX6_isAgain_143 : decode cX6_isAgain 143 = .ok (.iconst 1, 1) := by decide +kernel
theorem dX6_isAgain_144 : decode cX6_isAgain 144 = .ok (.ireturn, 1) := by decide +kernel
theorem dX6_out_0 : decode cX6_out 0 = .ok (.aload_n 0, 1) := by decide +kernel
theorem dX6_out_1 : decode cX6_out 1 = .ok (.iconst 0, 1) := by decide +kernel
theorem dX6_out_2 : decode cX6_out 2 = .ok (.putfield 117, 3) := by decide +kernel
theorem dX6_out_5 : decode cX6_out 5 = .ok (.iload_n 1, 1) := by decide +kernel
theorem dX6_out_6 : decode cX6_out 6 = .ok (.ifCond .lt 11, 3) := by decide +kernel
theorem dX6_out_9 : decode cX6_out 9 = .ok (.iload_n 1, 1) := by decide +kernel
theorem dX6_out_10 : decode cX6_out 10 = .ok (.aload_n 0, 1) := by decide +kernel
theorem dX6_out_11 : decode cX6_out 11 = .ok (.getfield 275, 3) := by decide +kernel
theorem dX6_out_14 : decode cX6_out 14 = .ok (.if_icmp .lt 10, 3) := by decide +kernel
theorem dX6_out_17 : decode cX6_out 17 = .ok (.aload_n 0, 1) := by decide +kernel
theorem dX6_out_18 : decode cX6_out 18 = .ok (.iconst 1, 1) := by decide +kernel
theorem dX6_out_19 : decode cX6_out 19 = .ok (.putfield 117, 3) := by decide +kernel
theorem dX6_out_22 : decode cX6_out 22 = .ok (.iconst 0, 1) := by decide +kernel
theorem dX6_out_23 : decode cX6_out 23 = .ok (.ireturn, 1) := by decide +kernel
theorem dX6_out_24 : decode cX6_out 24 = .ok (.aload_n 0, 1) := by decide +kernel
theorem dX6_out_25 : decode cX6_out 25 = .ok (.getfield 102, 3) := by decide +kernel
theorem dX6_out_28 : decode cX6_out 28 = .ok (.iload_n 1, 1) := by decide +kernel
theorem dX6_out_29 : decode cX6_out 29 = .ok (.baload, 1) := by decide +kernel
theorem dX6_out_30 : decode cX6_out 30 = .ok (.ireturn, 1) := by decide +kernel
end
section
theorem dL_out_0 : decode cL_out 0 = .ok (.aload_n 2, 1) := by decide +kernel
theorem dL_out_1 : decode cL_out 1 = .ok (.iconst 0, 1) := by decide +kernel
theorem dL_out_2 : decode cL_out 2 = .ok (.aload_n 0, 1) := by decide +kernel
theorem dL_out_3 : decode cL_out 3 = .ok (.iload_n 1, 1) := by decide +kernel
theorem dL_out_4 : decode cL_out 4 = .ok (.invokevirtual 7, 3) := by decide +kernel
theorem dL_out_7 : decode cL_out 7 = .ok (.i2l, 1) := by decide +kernel
theorem dL_out_8 : decode cL_out 8 = .ok (.lastore, 1) := by decide +kernel
theorem dL_out_9 : decode cL_out 9 = .ok (.goto 6, 3) := by decide +kernel
theorem dL_out_12 : decode cL_out 12 = .ok (.astore_n 3, 1) := by decide +kernel
theorem dL_out_13 : decode cL_out 13 = .ok (.iconst 1, 1) := by decide +kernel
theorem dL_out_14 : decode cL_out 14 = .ok (.ireturn, 1) := by decide +kernel
theorem dL_out_15 : decode cL_out 15 = .ok (.iconst 0, 1) := by decide +kernel
theorem dL_out_16 : decode cL_out 16 = .ok (.ireturn, 1) := by decide +kernel
theorem dL_law_0 : decode cL_law 0 = .ok (.new 8, 3) := by decide +kernel
theorem dL_law_3 : decode cL_law 3 = .ok (.dup, 1) := by decide +kernel
theorem dL_law_4 : decode cL_law 4 = .ok (.invokespecial 15, 3) := by decide +kernel
theorem dL_law_7 : decode cL_law 7 = .ok (.astore_n 1, 1) := by decide +kernel
theorem dL_law_8 : decode cL_law 8 = .ok (.new 16, 3) := by decide +kernel
theorem dL_law_11 : decode cL_law 11 = .ok (.dup, 1) := by decide +kernel
theorem dL_law_12 : decode cL_law 12 = .ok (.invokespecial 18, 3) := by decide +kernel
theorem dL_law_15 : decode cL_law 15 = .ok (.astore_n 2, 1) := by decide +kernel
theorem dL_law_16 : decode cL_law 16 = .ok (.iconst 1, 1) := by decide +kernel
theorem dL_law_17 : decode cL_law 17 = .ok (.newarray .long, 2) := by decide +kernel
theorem dL_law_19 : decode cL_law 19 = .ok (.astore_n 3, 1) := by decide +kernel
theorem dL_law_20 : decode cL_law 20 = .ok (.iconst 0, 1) := by decide +kernel
theorem dL_law_21 : decode cL_law 21 = .ok (.istore 4, 2) := by decide +kernel
theorem dL_law_23 : decode cL_law 23 = .ok (.iload 4, 2) := by decide +kernel
theorem dL_law_25 : decode cL_law 25 = .ok (.aload_n 0, 1) := by decide +kernel
theorem dL_law_26 : decode cL_law 26 = .ok (.arraylength, 1) := by decide +kernel
theorem dL_law_27 : decode cL_law 27 = .ok (.bipush 6, 2) := by decide +kernel
theorem dL_law_29 : decode cL_law 29 = .ok (.isub, 1) := by decide +kernel
theorem dL_law_30 : decode cL_law 30 = .ok (.if_icmp .gt 1346, 3) := by decide +kernel
theorem dL_law_33 : decode cL_law 33 = .ok (.aload_n 0, 1) := by decide +kernel
theorem dL_law_34 : decode cL_law 34 = .ok (.iload 4, 2) := by decide +kernel
theorem dL_law_36 : decode cL_law 36 = .ok (.iaload, 1) := by decide +kernel
theorem dL_law_37 : decode cL_law 37 = .ok (.bipush 63, 2) := by decide +kernel
theorem dL_law_39 : decode cL_law 39 = .ok (.iand, 1) := by decide +kernel
theorem dL_law_40 : decode cL_law 40 = .ok (.tableswitch 1330 0 34 #[156, 169, 218, 299, 336, 409, 434, 471, 508, 545, 570, 635, 660, 697, 710, 735, 760, 797, 822, 847, 872, 897, 910, 947, 972, 985, 1010, 1035, 1084, 1121, 1146, 1159, 1240, 1277, 1302], 156) := by decide +kernel
theorem dL_law_196 : decode cL_law 196 = .ok (.aload_n 1, 1) := by decide +kernel
theorem dL_law_197 : decode cL_law 197 = .ok (.invokevirtual 19, 3) := by decide +kernel
theorem dL_law_200 : decode cL_law 200 = .ok (.pop, 1) := by decide +kernel
theorem dL_law_201 : decode cL_law 201 = .ok (.aload_n 2, 1) := by decide +kernel
theorem dL_law_202 : decode cL_law 202 = .ok (.invokevirtual 23, 3) := by decide +kernel
theorem dL_law_205 : decode cL_law 205 = .ok (.pop, 1) := by decide +kernel
theorem dL_law_206 : decode cL_law 206 = .ok (.goto 1164, 3) := by decide +kernel
theorem dL_law_209 : decode cL_law 209 = .ok (.aload_n 1, 1) := by decide +kernel
theorem dL_law_210 : decode cL_law 210 = .ok (.aload_n 0, 1) := by decide +kernel
theorem dL_law_211 : decode cL_law 211 = .ok (.iload 4, 2) := by decide +kernel
theorem dL_law_213 : decode cL_law 213 = .ok (.iconst 1, 1) := by decide +kernel
theorem dL_law_214 : decode cL_law 214 = .ok (.iadd, 1) := by decide +kernel
theorem dL_law_215 : decode cL_law 215 = .ok (.iaload, 1) := by decide +kernel
theorem dL_law_216 : decode cL_law 216 = .ok (.aload_n 0, 1) := by decide +kernel
theorem dL_law_217 : decode cL_law 217 = .ok (.iload 4, 2) := by decide +kernel
theorem dL_law_219 : decode cL_law 219 = .ok (.iconst 2, 1) := by decide +kernel
theorem dL_law_220 : decode cL_law 220 = .ok (.iadd, 1) := by decide +kernel
theorem dL_law_221 : decode cL_law 221 = .ok (.iaload, 1) := by decide +kernel
theorem dL_law_222 : decode cL_law 222 = .ok (.aload_n 0, 1) := by decide +kernel
theorem dL_law_223 : decode cL_law 223 = .ok (.iload 4, 2) := by decide +kernel
theorem dL_law_225 : decode cL_law 225 = .ok (.iconst 3, 1) := by decide +kernel
theorem dL_law_226 : decode cL_law 226 = .ok (.iadd, 1) := by decide +kernel
theorem dL_law_227 : decode cL_law 227 = .ok (.iaload, 1) := by decide +kernel
theorem dL_law_228 : decode cL_law 228 = .ok (.invokevirtual 24, 3) := by decide +kernel
theorem dL_law_231 : decode cL_law 231 = .ok (.pop, 1) := by decide +kernel
theorem dL_law_232 : decode cL_law 232 = .ok (.aload_n 2, 1) := by decide +kernel
theorem dL_law_233 : decode cL_law 233 = .ok (.aload_n 0, 1) := by decide +kernel
theorem dL_law_234 : decode cL_law 234 = .ok (.iload 4, 2) := by decide +kernel
theorem dL_law_236 : decode cL_law 236 = .ok (.iconst 1, 1) := by decide +kernel
theorem dL_law_237 : decode cL_law 237 = .ok (.iadd, 1) := by decide +kernel
theorem dL_law_238 : decode cL_law 238 = .ok (.iaload, 1) := by decide +kernel
theorem dL_law_239 : decode cL_law 239 = .ok (.aload_n 0, 1) := by decide +kernel
theorem dL_law_240 : decode cL_law 240 = .ok (.iload 4, 2) := by decide +kernel
theorem dL_law_242 : decode cL_law 242 = .ok (.iconst 2, 1) := by decide +kernel
theorem dL_law_243 : decode cL_law 243 = .ok (.iadd, 1) := by decide +kernel
theorem dL_law_244 : decode cL_law 244 = .ok (.iaload, 1) := by decide +kernel
theorem dL_law_245 : decode cL_law 245 = .ok (.aload_n 0, 1) := by decide +kernel
theorem dL_law_246 : decode cL_law 246 = .ok (.iload 4, 2) := by decide +kernel
theorem dL_law_248 : decode cL_law 248 = .ok (.iconst 3, 1) := by decide +kernel
theorem dL_law_249 : decode cL_law 249 = .ok (.iadd, 1) := by decide +kernel
theorem dL_law_250 : decode cL_law 250 = .ok (.iaload, 1) := by decide +kernel
theorem dL_law_251 : decode cL_law 251 = .ok (.invokevirtual 28, 3) := by decide +kernel
theorem dL_law_254 : decode cL_law 254 = .ok (.pop, 1) := by decide +kernel
theorem dL_law_255 : decode cL_law 255 = .ok (.goto 1115, 3) := by decide +kernel
theorem dL_law_258 : decode cL_law 258 = .ok (.aload_n 1, 1) := by decide +kernel
theorem dL_law_259 : decode cL_law 259 = .ok (.aload_n 0, 1) := by decide +kernel
theorem dL_law_260 : decode cL_law 260 = .ok (.iload 4, 2) := by decide +kernel
theorem dL_law_262 : decode cL_law 262 = .ok (.iconst 1, 1) := by decide +kernel
theorem dL_law_263 : decode cL_law 263 = .ok (.iadd, 1) := by decide +kernel
theorem dL_law_264 : decode cL_law 264 = .ok (.iaload, 1) := by decide +kernel
theorem dL_law_265 : decode cL_law 265 = .ok (.aload_n 0, 1) := by decide +kernel
theorem dL_law_266 : decode cL_law 266 = .ok (.iload 4, 2) := by decide +kernel
theorem dL_law_268 : decode cL_law 268 = .ok (.iconst 2, 1) := by decide +kernel
theorem dL_law_269 : decode cL_law 269 = .ok (.iadd, 1) := by decide +kernel
theorem dL_law_270 : decode cL_law 270 = .ok (.iaload, 1) := by decide +kernel
theorem dL_law_271 : decode cL_law 271 = .ok (.aload_n 0, 1) := by decide +kernel
theorem dL_law_272 : decode cL_law 272 = .ok (.iload 4, 2) := by decide +kernel
theorem dL_law_274 : decode cL_law 274 = .ok (.iconst 3, 1) := by decide +kernel
theorem dL_law_275 : decode cL_law 275 = .ok (.iadd, 1) := by decide +kernel
theorem dL_law_276 : decode cL_law 276 = .ok (.iaload, 1) := by decide +kernel
theorem dL_law_277 : decode cL_law 277 = .ok (.i2l, 1) := by decide +kernel
theorem dL_law_278 : decode cL_law 278 = .ok (.bipush 32, 2) := by decide +kernel
theorem dL_law_280 : decode cL_law 280 = .ok (.lshl, 1) := by decide +kernel
theorem dL_law_281 : decode cL_law 281 = .ok (.aload_n 0, 1) := by decide +kernel
theorem dL_law_282 : decode cL_law 282 = .ok (.iload 4, 2) := by decide +kernel
theorem dL_law_284 : decode cL_law 284 = .ok (.iconst 4, 1) := by decide +kernel
theorem dL_law_285 : decode cL_law 285 = .ok (.iadd, 1) := by decide +kernel
theorem dL_law_286 : decode cL_law 286 = .ok (.iaload, 1) := by decide +kernel
theorem dL_law_287 : decode cL_law 287 = .ok (.i2l, 1) := by decide +kernel
theorem dL_law_288 : decode cL_law 288 = .ok (.ldc2_w 29, 3) := by decide +kernel
theorem dL_law_291 : decode cL_law 291 = .ok (.land, 1) := by decide +kernel
theorem dL_law_292 : decode cL_law 292 = .ok (.lor, 1) := by decide +kernel
theorem dL_law_293 : decode cL_law 293 = .ok (.invokevirtual 31, 3) := by decide +kernel
theorem dL_law_296 : decode cL_law 296 = .ok (.pop, 1) := by decide +kernel
theorem dL_law_297 : decode cL_law 297 = .ok (.aload_n 2, 1) := by decide +kernel
theorem dL_law_298 : decode cL_law 298 = .ok (.aload_n 0, 1) := by decide +kernel
theorem dL_law_299 : decode cL_law 299 = .ok (.iload 4, 2) := by decide +kernel
theorem dL_law_301 : decode cL_law 301 = .ok (.iconst 1, 1) := by decide +kernel
theorem dL_law_302 : decode cL_law 302 = .ok (.iadd, 1) := by decide +kernel
theorem dL_law_303 : decode cL_law 303 = .ok (.iaload, 1) := by decide +kernel
theorem dL_law_304 : decode cL_law 304 = .ok (.aload_n 0, 1) := by decide +kernel
theorem dL_law_305 : decode cL_law 305 = .ok (.iload 4, 2) := by decide +kernel
theorem dL_law_307 : decode cL_law 307 = .ok (.iconst 2, 1) := by decide +kernel
theorem dL_law_308 : decode cL_law 308 = .ok (.iadd, 1) := by decide +kernel
theorem dL_law_309 : decode cL_law 309 = .ok (.iaload, 1) := by decide +kernel
theorem dL_law_310 : decode cL_law 310 = .ok (.aload_n 0, 1) := by decide +kernel
theorem dL_law_311 : decode cL_law 311 = .ok (.iload 4, 2) := by decide +kernel
theorem dL_law_313 : decode cL_law 313 = .ok (.iconst 3, 1) := by decide +kernel
theorem dL_law_314 : decode cL_law 314 = .ok (.iadd, 1) := by decide +kernel
theorem dL_law_315 : decode cL_law 315 = .ok (.iaload, 1) := by decide +kernel
theorem dL_law_316 : decode cL_law 316 = .ok (.i2l, 1) := by decide +kernel
theorem dL_law_317 : decode cL_law 317 = .ok (.bipush 32, 2) := by decide +kernel
theorem dL_law_319 : decode cL_law 319 = .ok (.lshl, 1) := by decide +kernel
theorem dL_law_320 : decode cL_law 320 = .ok (.aload_n 0, 1) := by decide +kernel
theorem dL_law_321 : decode cL_law 321 = .ok (.iload 4, 2) := by decide +kernel
theorem dL_law_323 : decode cL_law 323 = .ok (.iconst 4, 1) := by decide +kernel
theorem dL_law_324 : decode cL_law 324 = .ok (.iadd, 1) := by decide +kernel
theorem dL_law_325 : decode cL_law 325 = .ok (.iaload, 1) := by decide +kernel
theorem dL_law_326 : decode cL_law 326 = .ok (.i2l, 1) := by decide +kernel
theorem dL_law_327 : decode cL_law 327 = .ok (.ldc2_w 29, 3) := by decide +kernel
theorem dL_law_330 : decode cL_law 330 = .ok (.land, 1) := by decide +kernel
theorem dL_law_331 : decode cL_law 331 = .ok (.lor, 1) := by decide +kernel
theorem dL_law_332 : decode cL_law 332 = .ok (.invokevirtual 35, 3) := by decide +kernel
theorem dL_law_335 : decode cL_law 335 = .ok (.pop, 1) := by decide +kernel
theorem dL_law_336 : decode cL_law 336 = .ok (.goto 1034, 3) := by decide +kernel
theorem dL_law_339 : decode cL_law 339 = .ok (.aload_n 1, 1) := by decide +kernel
theorem dL_law_340 : decode cL_law 340 = .ok (.aload_n 0, 1) := by decide +kernel
theorem dL_law_341 : decode cL_law 341 = .ok (.iload 4, 2) := by decide +kernel
theorem dL_law_343 : decode cL_law 343 = .ok (.iconst 1, 1) := by decide +kernel
theorem dL_law_344 : decode cL_law 344 = .ok (.iadd, 1) := by decide +kernel
theorem dL_law_345 : decode cL_law 345 = .ok (.iaload, 1) := by decide +kernel
theorem dL_law_346 : decode cL_law 346 = .ok (.aload_n 0, 1) := by decide +kernel
theorem dL_law_347 : decode cL_law 347 = .ok (.iload 4, 2) := by decide +kernel
theorem dL_law_349 : decode cL_law 349 = .ok (.iconst 2, 1) := by decide +kernel
theorem dL_law_350 : decode cL_law 350 = .ok (.iadd, 1) := by decide +kernel
theorem dL_law_351 : decode cL_law 351 = .ok (.iaload, 1) := by decide +kernel
theorem dL_law_352 : decode cL_law 352 = .ok (.invokevirtual 36, 3) := by decide +kernel
theorem dL_law_355 : decode cL_law 355 = .ok (.pop2, 1) := by decide +kernel
theorem dL_law_356 : decode cL_law 356 = .ok (.aload_n 2, 1) := by decide +kernel
theorem dL_law_357 : decode cL_law 357 = .ok (.aload_n 0, 1) := by decide +kernel
theorem dL_law_358 : decode cL_law 358 = .ok (.iload 4, 2) := by decide +kernel
theorem dL_law_360 : decode cL_law 360 = .ok (.iconst 1, 1) := by decide +kernel
theorem dL_law_361 : decode cL_law 361 = .ok (.iadd, 1) := by decide +kernel
theorem dL_law_362 : decode cL_law 362 = .ok (.iaload, 1) := by decide +kernel
theorem dL_law_363 : decode cL_law 363 = .ok (.aload_n 0, 1) := by decide +kernel
theorem dL_law_364 : decode cL_law 364 = .ok (.iload 4, 2) := by decide +kernel
theorem dL_law_366 : decode cL_law 366 = .ok (.iconst 2, 1) := by decide +kernel
theorem dL_law_367 : decode cL_law 367 = .ok (.iadd, 1) := by decide +kernel
theorem dL_law_368 : decode cL_law 368 = .ok (.iaload, 1) := by decide +kernel
theorem dL_law_369 : decode cL_law 369 = .ok (.invokevirtual 40, 3) := by decide +kernel
theorem dL_law_372 : decode cL_law 372 = .ok (.pop2, 1) := by decide +kernel
theorem dL_law_373 : decode cL_law 373 = .ok (.goto 997, 3) := by decide +kernel
theorem dL_law_376 : decode cL_law 376 = .ok (.aload_n 1, 1) := by decide +kernel
theorem dL_law_377 : decode cL_law 377 = .ok (.aload_n 0, 1) := by decide +kernel
theorem dL_law_378 : decode cL_law 378 = .ok (.iload 4, 2) := by decide +kernel
theorem dL_law_380 : decode cL_law 380 = .ok (.iconst 1, 1) := by decide +kernel
theorem dL_law_381 : decode cL_law 381 = .ok (.iadd, 1) := by decide +kernel
theorem dL_law_382 : decode cL_law 382 = .ok (.iaload, 1) := by decide +kernel
theorem dL_law_383 : decode cL_law 383 = .ok (.aload_n 0, 1) := by decide +kernel
theorem dL_law_384 : decode cL_law 384 = .ok (.iload 4, 2) := by decide +kernel
theorem dL_law_386 : decode cL_law 386 = .ok (.iconst 2, 1) := by decide +kernel
theorem dL_law_387 : decode cL_law 387 = .ok (.iadd, 1) := by decide +kernel
theorem dL_law_388 : decode cL_law 388 = .ok (.iaload, 1) := by decide +kernel
theorem dL_law_389 : decode cL_law 389 = .ok (.aload_n 0, 1) := by decide +kernel
theorem dL_law_390 : decode cL_law 390 = .ok (.iload 4, 2) := by decide +kernel
theorem dL_law_392 : decode cL_law 392 = .ok (.iconst 3, 1) := by decide +kernel
theorem dL_law_393 : decode cL_law 393 = .ok (.iadd, 1) := by decide +kernel
theorem dL_law_394 : decode cL_law 394 = .ok (.iaload, 1) := by decide +kernel
theorem dL_law_395 : decode cL_law 395 = .ok (.aload_n 0, 1) := by decide +kernel
theorem dL_law_396 : decode cL_law 396 = .ok (.iload 4, 2) := by decide +kernel
theorem dL_law_398 : decode cL_law 398 = .ok (.iconst 4, 1) := by decide +kernel
theorem dL_law_399 : decode cL_law 399 = .ok (.iadd, 1) := by decide +kernel
theorem dL_law_400 : decode cL_law 400 = .ok (.iaload, 1) := by decide +kernel
theorem dL_law_401 : decode cL_law 401 = .ok (.aload_n 0, 1) := by decide +kernel
theorem dL_law_402 : decode cL_law 402 = .ok (.iload 4, 2) := by decide +kernel
theorem dL_law_404 : decode cL_law 404 = .ok (.iconst 5, 1) := by decide +kernel
theorem dL_law_405 : decode cL_law 405 = .ok (.iadd, 1) := by decide +kernel
theorem dL_law_406 : decode cL_law 406 = .ok (.iaload, 1) := by decide +kernel
theorem dL_law_407 : decode cL_law 407 = .ok (.invokevirtual 41, 3) := by decide +kernel
theorem dL_law_410 : decode cL_law 410 = .ok (.pop, 1) := by decide +kernel
theorem dL_law_411 : decode cL_law 411 = .ok (.aload_n 2, 1) := by decide +kernel
theorem dL_law_412 : decode cL_law 412 = .ok (.aload_n 0, 1) := by decide +kernel
theorem dL_law_413 : decode cL_law 413 = .ok (.iload 4, 2) := by decide +kernel
theorem dL_law_415 : decode cL_law 415 = .ok (.iconst 1, 1) := by decide +kernel
theorem dL_law_416 : decode cL_law 416 = .ok (.iadd, 1) := by decide +kernel
theorem dL_law_417 : decode cL_law 417 = .ok (.iaload, 1) := by decide +kernel
theorem dL_law_418 : decode cL_law 418 = .ok (.aload_n 0, 1) := by decide +kernel
theorem dL_law_419 : decode cL_law 419 = .ok (.iload 4, 2) := by decide +kernel
theorem dL_law_421 : decode cL_law 421 = .ok (.iconst 2, 1) := by decide +kernel
theorem dL_law_422 : decode cL_law 422 = .ok (.iadd, 1) := by decide +kernel
theorem dL_law_423 : decode cL_law 423 = .ok (.iaload, 1) := by decide +kernel
theorem dL_law_424 : decode cL_law 424 = .ok (.aload_n 0, 1) := by decide +kernel
theorem dL_law_425 : decode cL_law 425 = .ok (.iload 4, 2) := by decide +kernel
theorem dL_law_427 : decode cL_law 427 = .ok (.iconst 3, 1) := by decide +kernel
theorem dL_law_428 : decode cL_law 428 = .ok (.iadd, 1) := by decide +kernel
theorem dL_law_429 : decode cL_law 429 = .ok (.iaload, 1) := by decide +kernel
theorem dL_law_430 : decode cL_law 430 = .ok (.aload_n 0, 1) := by decide +kernel
theorem dL_law_431 : decode cL_law 431 = .ok (.iload 4, 2) := by decide +kernel
theorem dL_law_433 : decode cL_law 433 = .ok (.iconst 4, 1) := by decide +kernel
theorem dL_law_434 : decode cL_law 434 = .ok (.iadd, 1) := by decide +kernel
theorem dL_law_435 : decode cL_law 435 = .ok (.iaload, 1) := by decide +kernel
theorem dL_law_436 : decode cL_law 436 = .ok (.aload_n 0, 1) := by decide +kernel
theorem dL_law_437 : decode cL_law 437 = .ok (.iload 4, 2) := by decide +kernel
theorem dL_law_439 : decode cL_law 439 = .ok (.iconst 5, 1) := by decide +kernel
theorem dL_law_440 : decode cL_law 440 = .ok (.iadd, 1) := by decide +kernel
theorem dL_law_441 : decode cL_law 441 = .ok (.iaload, 1) := by decide +kernel
theorem dL_law_442 : decode cL_law 442 = .ok (.invokevirtual 45, 3) := by decide +kernel
theorem dL_law_445 : decode cL_law 445 = .ok (.pop, 1) := by decide +kernel
theorem dL_law_446 : decode cL_law 446 = .ok (.goto 924, 3) := by decide +kernel
theorem dL_law_449 : decode cL_law 449 = .ok (.aload_n 1, 1) := by decide +kernel
theorem dL_law_450 : decode cL_law 450 = .ok (.aload_n 0, 1) := by decide +kernel
theorem dL_law_451 : decode cL_law 451 = .ok (.iload 4, 2) := by decide +kernel
theorem dL_law_453 : decode cL_law 453 = .ok (.iconst 1, 1) := by decide +kernel
theorem dL_law_454 : decode cL_law 454 = .ok (.iadd, 1) := by decide +kernel
theorem dL_law_455 : decode cL_law 455 = .ok (.iaload, 1) := by decide +kernel
theorem dL_law_456 : decode cL_law 456 = .ok (.invokevirtual 46, 3) := by decide +kernel
theorem dL_law_459 : decode cL_law 459 = .ok (.pop, 1) := by decide +kernel
theorem dL_law_460 : decode cL_law 460 = .ok (.aload_n 2, 1) := by decide +kernel
theorem dL_law_461 : decode cL_law 461 = .ok (.aload_n 0, 1) := by decide +kernel
theorem dL_law_462 : decode cL_law 462 = .ok (.iload 4, 2) := by decide +kernel
theorem dL_law_464 : decode cL_law 464 = .ok (.iconst 1, 1) := by decide +kernel
theorem dL_law_465 : decode cL_law 465 = .ok (.iadd, 1) := by decide +kernel
theorem dL_law_466 : decode cL_law 466 = .ok (.iaload, 1) := by decide +kernel
theorem dL_law_467 : decode cL_law 467 = .ok (.invokevirtual 50, 3) := by decide +kernel
theorem dL_law_470 : decode cL_law 470 = .ok (.pop, 1) := by decide +kernel
theorem dL_law_471 : decode cL_law 471 = .ok (.goto 899, 3) := by decide +kernel
theorem dL_law_474 : decode cL_law 474 = .ok (.aload_n 1, 1) := by decide +kernel
theorem dL_law_475 : decode cL_law 475 = .ok (.aload_n 0, 1) := by decide +kernel
theorem dL_law_476 : decode cL_law 476 = .ok (.iload 4, 2) := by decide +kernel
theorem dL_law_478 : decode cL_law 478 = .ok (.iconst 1, 1) := by decide +kernel
theorem dL_law_479 : decode cL_law 479 = .ok (.iadd, 1) := by decide +kernel
theorem dL_law_480 : decode cL_law 480 = .ok (.iaload, 1) := by decide +kernel
theorem dL_law_481 : decode cL_law 481 = .ok (.aload_n 0, 1) := by decide +kernel
theorem dL_law_482 : decode cL_law 482 = .ok (.iload 4, 2) := by decide +kernel
theorem dL_law_484 : decode cL_law 484 = .ok (.iconst 2, 1) := by decide +kernel
theorem dL_law_485 : decode cL_law 485 = .ok (.iadd, 1) := by decide +kernel
theorem dL_law_486 : decode cL_law 486 = .ok (.iaload, 1) := by decide +kernel
theorem dL_law_487 : decode cL_law 487 = .ok (.invokevirtual 51, 3) := by decide +kernel
theorem dL_law_490 : decode cL_law 490 = .ok (.pop, 1) := by decide +kernel
theorem dL_law_491 : decode cL_law 491 = .ok (.aload_n 2, 1) := by decide +kernel
theorem dL_law_492 : decode cL_law 492 = .ok (.aload_n 0, 1) := by decide +kernel
theorem dL_law_493 : decode cL_law 493 = .ok (.iload 4, 2) := by decide +kernel
theorem dL_law_495 : decode cL_law 495 = .ok (.iconst 1, 1) := by decide +kernel
theorem dL_law_496 : decode cL_law 496 = .ok (.iadd, 1) := by decide +kernel
theorem dL_law_497 : decode cL_law 497 = .ok (.iaload, 1) := by decide +kernel
theorem dL_law_498 : decode cL_law 498 = .ok (.aload_n 0, 1) := by decide +kernel
theorem dL_law_499 : decode cL_law 499 = .ok (.iload 4, 2) := by decide +kernel
theorem dL_law_501 : decode cL_law 501 = .ok (.iconst 2, 1) := by decide +kernel
theorem dL_law_502 : decode cL_law 502 = .ok (.iadd, 1) := by decide +kernel
theorem dL_law_503 : decode cL_law 503 = .ok (.iaload, 1) := by decide +kernel
theorem dL_law_504 : decode cL_law 504 = .ok (.invokevirtual 55, 3) := by decide +kernel
theorem dL_law_507 : decode cL_law 507 = .ok (.pop, 1) := by decide +kernel
theorem dL_law_508 : decode cL_law 508 = .ok (.goto 862, 3) := by decide +kernel
theorem dL_law_511 : decode cL_law 511 = .ok (.aload_n 1, 1) := by decide +kernel
theorem dL_law_512 : decode cL_law 512 = .ok (.aload_n 0, 1) := by decide +kernel
theorem dL_law_513 : decode cL_law 513 = .ok (.iload 4, 2) := by decide +kernel
theorem dL_law_515 : decode cL_law 515 = .ok (.iconst 1, 1) := by decide +kernel
theorem dL_law_516 : decode cL_law 516 = .ok (.iadd, 1) := by decide +kernel
theorem dL_law_517 : decode cL_law 517 = .ok (.iaload, 1) := by decide +kernel
theorem dL_law_518 : decode cL_law 518 = .ok (.aload_n 0, 1) := by decide +kernel
theorem dL_law_519 : decode cL_law 519 = .ok (.iload 4, 2) := by decide +kernel
theorem dL_law_521 : decode cL_law 521 = .ok (.iconst 2, 1) := by decide +kernel
theorem dL_law_522 : decode cL_law 522 = .ok (.iadd, 1) := by decide +kernel
theorem dL_law_523 : decode cL_law 523 = .ok (.iaload, 1) := by decide +kernel
theorem dL_law_524 : decode cL_law 524 = .ok (.invokevirtual 56, 3) := by decide +kernel
theorem dL_law_527 : decode cL_law 527 = .ok (.pop, 1) := by decide +kernel
theorem dL_law_528 : decode cL_law 528 = .ok (.aload_n 2, 1) := by decide +kernel
theorem dL_law_529 : decode cL_law 529 = .ok (.aload_n 0, 1) := by decide +kernel
theorem dL_law_530 : decode cL_law 530 = .ok (.iload 4, 2) := by decide +kernel
theorem dL_law_532 : decode cL_law 532 = .ok (.iconst 1, 1) := by decide +kernel
theorem dL_law_533 : decode cL_law 533 = .ok (.iadd, 1) := by decide +kernel
theorem dL_law_534 : decode cL_law 534 = .ok (.iaload, 1) := by decide +kernel
theorem dL_law_535 : decode cL_law 535 = .ok (.aload_n 0, 1) := by decide +kernel
theorem dL_law_536 : decode cL_law 536 = .ok (.iload 4, 2) := by decide +kernel
theorem dL_law_538 : decode cL_law 538 = .ok (.iconst 2, 1) := by decide +kernel
theorem dL_law_539 : decode cL_law 539 = .ok (.iadd, 1) := by decide +kernel
theorem dL_law_540 : decode cL_law 540 = .ok (.iaload, 1) := by decide +kernel
theorem dL_law_541 : decode cL_law 541 = .ok (.invokevirtual 60, 3) := by decide +kernel
theorem dL_law_544 : decode cL_law 544 = .ok (.pop, 1) := by decide +kernel
theorem dL_law_545 : decode cL_law 545 = .ok (.goto 825, 3) := by decide +kernel
theorem dL_law_548 : decode cL_law 548 = .ok (.aload_n 1, 1) := by decide +kernel
theorem dL_law_549 : decode cL_law 549 = .ok (.aload_n 0, 1) := by decide +kernel
theorem dL_law_550 : decode cL_law 550 = .ok (.iload 4, 2) := by decide +kernel
theorem dL_law_552 : decode cL_law 552 = .ok (.iconst 1, 1) := by decide +kernel
theorem dL_law_553 : decode cL_law 553 = .ok (.iadd, 1) := by decide +kernel
theorem dL_law_554 : decode cL_law 554 = .ok (.iaload, 1) := by decide +kernel
theorem dL_law_555 : decode cL_law 555 = .ok (.aload_n 0, 1) := by decide +kernel
theorem dL_law_556 : decode cL_law 556 = .ok (.iload 4, 2) := by decide +kernel
theorem dL_law_558 : decode cL_law 558 = .ok (.iconst 2, 1) := by decide +kernel
theorem dL_law_559 : decode cL_law 559 = .ok (.iadd, 1) := by decide +kernel
theorem dL_law_560 : decode cL_law 560 = .ok (.iaload, 1) := by decide +kernel
theorem dL_law_561 : decode cL_law 561 = .ok (.invokevirtual 61, 3) := by decide +kernel
theorem dL_law_564 : decode cL_law 564 = .ok (.pop, 1) := by decide +kernel
theorem dL_law_565 : decode cL_law 565 = .ok (.aload_n 2, 1) := by decide +kernel
theorem dL_law_566 : decode cL_law 566 = .ok (.aload_n 0, 1) := by decide +kernel
theorem dL_law_567 : decode cL_law 567 = .ok (.iload 4, 2) := by decide +kernel
theorem dL_law_569 : decode cL_law 569 = .ok (.iconst 1, 1) := by decide +kernel
theorem dL_law_570 : decode cL_law 570 = .ok (.iadd, 1) := by decide +kernel
theorem dL_law_571 : decode cL_law 571 = .ok (.iaload, 1) := by decide +kernel
theorem dL_law_572 : decode cL_law 572 = .ok (.aload_n 0, 1) := by decide +kernel
theorem dL_law_573 : decode cL_law 573 = .ok (.iload 4, 2) := by decide +kernel
theorem dL_law_575 : decode cL_law 575 = .ok (.iconst 2, 1) := by decide +kernel
theorem dL_law_576 : decode cL_law 576 = .ok (.iadd, 1) := by decide +kernel
theorem dL_law_577 : decode cL_law 577 = .ok (.iaload, 1) := by decide +kernel
theorem dL_law_578 : decode cL_law 578 = .ok (.invokevirtual 64, 3) := by decide +kernel
theorem dL_law_581 : decode cL_law 581 = .ok (.pop, 1) := by decide +kernel
theorem dL_law_582 : decode cL_law 582 = .ok (.goto 788, 3) := by decide +kernel
theorem dL_law_585 : decode cL_law 585 = .ok (.aload_n 1, 1) := by decide +kernel
theorem dL_law_586 : decode cL_law 586 = .ok (.aload_n 0, 1) := by decide +kernel
theorem dL_law_587 : decode cL_law 587 = .ok (.iload 4, 2) := by decide +kernel
theorem dL_law_589 : decode cL_law 589 = .ok (.iconst 1, 1) := by decide +kernel
theorem dL_law_590 : decode cL_law 590 = .ok (.iadd, 1) := by decide +kernel
theorem dL_law_591 : decode cL_law 591 = .ok (.iaload, 1) := by decide +kernel
theorem dL_law_592 : decode cL_law 592 = .ok (.invokevirtual 65, 3) := by decide +kernel
theorem dL_law_595 : decode cL_law 595 = .ok (.pop, 1) := by decide +kernel
theorem dL_law_596 : decode cL_law 596 = .ok (.aload_n 2, 1) := by decide +kernel
theorem dL_law_597 : decode cL_law 597 = .ok (.aload_n 0, 1) := by decide +kernel
theorem dL_law_598 : decode cL_law 598 = .ok (.iload 4, 2) := by decide +kernel
theorem dL_law_600 : decode cL_law 600 = .ok (.iconst 1, 1) := by decide +kernel
theorem dL_law_601 : decode cL_law 601 = .ok (.iadd, 1) := by decide +kernel
theorem dL_law_602 : decode cL_law 602 = .ok (.iaload, 1) := by decide +kernel
theorem dL_law_603 : decode cL_law 603 = .ok (.invokevirtual 68, 3) := by decide +kernel
theorem dL_law_606 : decode cL_law 606 = .ok (.pop, 1) := by decide +kernel
theorem dL_law_607 : decode cL_law 607 = .ok (.goto 763, 3) := by decide +kernel
theorem dL_law_610 : decode cL_law 610 = .ok (.aload_n 1, 1) := by decide +kernel
theorem dL_law_611 : decode cL_law 611 = .ok (.aload_n 0, 1) := by decide +kernel
theorem dL_law_612 : decode cL_law 612 = .ok (.iload 4, 2) := by decide +kernel
theorem dL_law_614 : decode cL_law 614 = .ok (.iconst 1, 1) := by decide +kernel
theorem dL_law_615 : decode cL_law 615 = .ok (.iadd, 1) := by decide +kernel
theorem dL_law_616 : decode cL_law 616 = .ok (.iaload, 1) := by decide +kernel
theorem dL_law_617 : decode cL_law 617 = .ok (.aload_n 0, 1) := by decide +kernel
theorem dL_law_618 : decode cL_law 618 = .ok (.iload 4, 2) := by decide +kernel
theorem dL_law_620 : decode cL_law 620 = .ok (.iconst 2, 1) := by decide +kernel
theorem dL_law_621 : decode cL_law 621 = .ok (.iadd, 1) := by decide +kernel
theorem dL_law_622 : decode cL_law 622 = .ok (.iaload, 1) := by decide +kernel
theorem dL_law_623 : decode cL_law 623 = .ok (.aload_n 0, 1) := by decide +kernel
theorem dL_law_624 : decode cL_law 624 = .ok (.iload 4, 2) := by decide +kernel
theorem dL_law_626 : decode cL_law 626 = .ok (.iconst 3, 1) := by decide +kernel
theorem dL_law_627 : decode cL_law 627 = .ok (.iadd, 1) := by decide +kernel
theorem dL_law_628 : decode cL_law 628 = .ok (.iaload, 1) := by decide +kernel
theorem dL_law_629 : decode cL_law 629 = .ok (.ifCond .eq 7, 3) := by decide +kernel
theorem dL_law_632 : decode cL_law 632 = .ok (.iconst 1, 1) := by decide +kernel
theorem dL_law_633 : decode cL_law 633 = .ok (.goto 4, 3) := by decide +kernel
theorem dL_law_636 : decode cL_law 636 = .ok (.iconst 0, 1) := by decide +kernel
theorem dL_law_637 : decode cL_law 637 = .ok (.invokevirtual 69, 3) := by decide +kernel
theorem dL_law_640 : decode cL_law 640 = .ok (.pop, 1) := by decide +kernel
theorem dL_law_641 : decode cL_law 641 = .ok (.aload_n 2, 1) := by decide +kernel
theorem dL_law_642 : decode cL_law 642 = .ok (.aload_n 0, 1) := by decide +kernel
theorem dL_law_643 : decode cL_law 643 = .ok (.iload 4, 2) := by decide +kernel
theorem dL_law_645 : decode cL_law 645 = .ok (.iconst 1, 1) := by decide +kernel
theorem dL_law_646 : decode cL_law 646 = .ok (.iadd, 1) := by decide +kernel
theorem dL_law_647 : decode cL_law 647 = .ok (.iaload, 1) := by decide +kernel
theorem dL_law_648 : decode cL_law 648 = .ok (.aload_n 0, 1) := by decide +kernel
theorem dL_law_649 : decode cL_law 649 = .ok (.iload 4, 2) := by decide +kernel
theorem dL_law_651 : decode cL_law 651 = .ok (.iconst 2, 1) := by decide +kernel
theorem dL_law_652 : decode cL_law 652 = .ok (.iadd, 1) := by decide +kernel
theorem dL_law_653 : decode cL_law 653 = .ok (.iaload, 1) := by decide +kernel
theorem dL_law_654 : decode cL_law 654 = .ok (.aload_n 0, 1) := by decide +kernel
theorem dL_law_655 : decode cL_law 655 = .ok (.iload 4, 2) := by decide +kernel
theorem dL_law_657 : decode cL_law 657 = .ok (.iconst 3, 1) := by decide +kernel
theorem dL_law_658 : decode cL_law 658 = .ok (.iadd, 1) := by decide +kernel
theorem dL_law_659 : decode cL_law 659 = .ok (.iaload, 1) := by decide +kernel
theorem dL_law_660 : decode cL_law 660 = .ok (.ifCond .eq 7, 3) := by decide +kernel
theorem dL_law_663 : decode cL_law 663 = .ok (.iconst 1, 1) := by decide +kernel
theorem dL_law_664 : decode cL_law 664 = .ok (.goto 4, 3) := by decide +kernel
theorem dL_law_667 : decode cL_law 667 = .ok (.iconst 0, 1) := by decide +kernel
theorem dL_law_668 : decode cL_law 668 = .ok (.invokevirtual 73, 3) := by decide +kernel
theorem dL_law_671 : decode cL_law 671 = .ok (.pop, 1) := by decide +kernel
theorem dL_law_672 : decode cL_law 672 = .ok (.goto 698, 3) := by decide +kernel
theorem dL_law_675 : decode cL_law 675 = .ok (.aload_n 1, 1) := by decide +kernel
theorem dL_law_676 : decode cL_law 676 = .ok (.aload_n 0, 1) := by decide +kernel
theorem dL_law_677 : decode cL_law 677 = .ok (.iload 4, 2) := by decide +kernel
theorem dL_law_679 : decode cL_law 679 = .ok (.iconst 1, 1) := by decide +kernel
theorem dL_law_680 : decode cL_law 680 = .ok (.iadd, 1) := by decide +kernel
theorem dL_law_681 : decode cL_law 681 = .ok (.iaload, 1) := by decide +kernel
theorem dL_law_682 : decode cL_law 682 = .ok (.invokevirtual 74, 3) := by decide +kernel
theorem dL_law_685 : decode cL_law 685 = .ok (.pop, 1) := by decide +kernel
theorem dL_law_686 : decode cL_law 686 = .ok (.aload_n 2, 1) := by decide +kernel
theorem dL_law_687 : decode cL_law 687 = .ok (.aload_n 0, 1) := by decide +kernel
theorem dL_law_688 : decode cL_law 688 = .ok (.iload 4, 2) := by decide +kernel
theorem dL_law_690 : decode cL_law 690 = .ok (.iconst 1, 1) := by decide +kernel
theorem dL_law_691 : decode cL_law 691 = .ok (.iadd, 1) := by decide +kernel
theorem dL_law_692 : decode cL_law 692 = .ok (.iaload, 1) := by decide +kernel
theorem dL_law_693 : decode cL_law 693 = .ok (.invokevirtual 77, 3) := by decide +kernel
theorem dL_law_696 : decode cL_law 696 = .ok (.pop, 1) := by decide +kernel
theorem dL_law_697 : decode cL_law 697 = .ok (.goto 673, 3) := by decide +kernel
theorem dL_law_700 : decode cL_law 700 = .ok (.aload_n 1, 1) := by decide +kernel
theorem dL_law_701 : decode cL_law 701 = .ok (.aload_n 0, 1) := by decide +kernel
theorem dL_law_702 : decode cL_law 702 = .ok (.iload 4, 2) := by decide +kernel
theorem dL_law_704 : decode cL_law 704 = .ok (.iconst 1, 1) := by decide +kernel
theorem dL_law_705 : decode cL_law 705 = .ok (.iadd, 1) := by decide +kernel
theorem dL_law_706 : decode cL_law 706 = .ok (.iaload, 1) := by decide +kernel
theorem dL_law_707 : decode cL_law 707 = .ok (.aload_n 0, 1) := by decide +kernel
theorem dL_law_708 : decode cL_law 708 = .ok (.iload 4, 2) := by decide +kernel
theorem dL_law_710 : decode cL_law 710 = .ok (.iconst 2, 1) := by decide +kernel
theorem dL_law_711 : decode cL_law 711 = .ok (.iadd, 1) := by decide +kernel
theorem dL_law_712 : decode cL_law 712 = .ok (.iaload, 1) := by decide +kernel
theorem dL_law_713 : decode cL_law 713 = .ok (.invokevirtual 78, 3) := by decide +kernel
theorem dL_law_716 : decode cL_law 716 = .ok (.pop, 1) := by decide +kernel
theorem dL_law_717 : decode cL_law 717 = .ok (.aload_n 2, 1) := by decide +kernel
theorem dL_law_718 : decode cL_law 718 = .ok (.aload_n 0, 1) := by decide +kernel
theorem dL_law_719 : decode cL_law 719 = .ok (.iload 4, 2) := by decide +kernel
theorem dL_law_721 : decode cL_law 721 = .ok (.iconst 1, 1) := by decide +kernel
theorem dL_law_722 : decode cL_law 722 = .ok (.iadd, 1) := by decide +kernel
theorem dL_law_723 : decode cL_law 723 = .ok (.iaload, 1) := by decide +kernel
theorem dL_law_724 : decode cL_law 724 = .ok (.aload_n 0, 1) := by decide +kernel
theorem dL_law_725 : decode cL_law 725 = .ok (.iload 4, 2) := by decide +kernel
theorem dL_law_727 : decode cL_law 727 = .ok (.iconst 2, 1) := by decide +kernel
theorem dL_law_728 : decode cL_law 728 = .ok (.iadd, 1) := by decide +kernel
theorem dL_law_729 : decode cL_law 729 = .ok (.iaload, 1) := by decide +kernel
theorem dL_law_730 : decode cL_law 730 = .ok (.invokevirtual 81, 3) := by decide +kernel
theorem dL_law_733 : decode cL_law 733 = .ok (.pop, 1) := by decide +kernel
theorem dL_law_734 : decode cL_law 734 = .ok (.goto 636, 3) := by decide +kernel
theorem dL_law_737 : decode cL_law 737 = .ok (.aload_n 1, 1) := by decide +kernel
theorem dL_law_738 : decode cL_law 738 = .ok (.invokevirtual 82, 3) := by decide +kernel
theorem dL_law_741 : decode cL_law 741 = .ok (.aload_n 2, 1) := by decide +kernel
theorem dL_law_742 : decode cL_law 742 = .ok (.invokevirtual 86, 3) := by decide +kernel
theorem dL_law_745 : decode cL_law 745 = .ok (.if_icmp .eq 625, 3) := by decide +kernel
theorem dL_law_748 : decode cL_law 748 = .ok (.iconst 0, 1) := by decide +kernel
theorem dL_law_749 : decode cL_law 749 = .ok (.ireturn, 1) := by decide +kernel
theorem dL_law_750 : decode cL_law 750 = .ok (.aload_n 1, 1) := by decide +kernel
theorem dL_law_751 : decode cL_law 751 = .ok (.aload_n 0, 1) := by decide +kernel
theorem dL_law_752 : decode cL_law 752 = .ok (.iload 4, 2) := by decide +kernel
theorem dL_law_754 : decode cL_law 754 = .ok (.iconst 1, 1) := by decide +kernel
theorem dL_law_755 : decode cL_law 755 = .ok (.iadd, 1) := by decide +kernel
theorem dL_law_756 : decode cL_law 756 = .ok (.iaload, 1) := by decide +kernel
theorem dL_law_757 : decode cL_law 757 = .ok (.invokevirtual 87, 3) := by decide +kernel
theorem dL_law_760 : decode cL_law 760 = .ok (.pop, 1) := by decide +kernel
theorem dL_law_761 : decode cL_law 761 = .ok (.aload_n 2, 1) := by decide +kernel
theorem dL_law_762 : decode cL_law 762 = .ok (.aload_n 0, 1) := by decide +kernel
theorem dL_law_763 : decode cL_law 763 = .ok (.iload 4, 2) := by decide +kernel
theorem dL_law_765 : decode cL_law 765 = .ok (.iconst 1, 1) := by decide +kernel
theorem dL_law_766 : decode cL_law 766 = .ok (.iadd, 1) := by decide +kernel
theorem dL_law_767 : decode cL_law 767 = .ok (.iaload, 1) := by decide +kernel
theorem dL_law_768 : decode cL_law 768 = .ok (.invokevirtual 90, 3) := by decide +kernel
theorem dL_law_771 : decode cL_law 771 = .ok (.pop, 1) := by decide +kernel
theorem dL_law_772 : decode cL_law 772 = .ok (.goto 598, 3) := by decide +kernel
theorem dL_law_775 : decode cL_law 775 = .ok (.aload_n 1, 1) := by decide +kernel
theorem dL_law_776 : decode cL_law 776 = .ok (.aload_n 0, 1) := by decide +kernel
theorem dL_law_777 : decode cL_law 777 = .ok (.iload 4, 2) := by decide +kernel
theorem dL_law_779 : decode cL_law 779 = .ok (.iconst 1, 1) := by decide +kernel
theorem dL_law_780 : decode cL_law 780 = .ok (.iadd, 1) := by decide +kernel
theorem dL_law_781 : decode cL_law 781 = .ok (.iaload, 1) := by decide +kernel
theorem dL_law_782 : decode cL_law 782 = .ok (.invokevirtual 91, 3) := by decide +kernel
theorem dL_law_785 : decode cL_law 785 = .ok (.pop, 1) := by decide +kernel
theorem dL_law_786 : decode cL_law 786 = .ok (.aload_n 2, 1) := by decide +kernel
theorem dL_law_787 : decode cL_law 787 = .ok (.aload_n 0, 1) := by decide +kernel
theorem dL_law_788 : decode cL_law 788 = .ok (.iload 4, 2) := by decide +kernel
theorem dL_law_790 : decode cL_law 790 = .ok (.iconst 1, 1) := by decide +kernel
theorem dL_law_791 : decode cL_law 791 = .ok (.iadd, 1) := by decide +kernel
theorem dL_law_792 : decode cL_law 792 = .ok (.iaload, 1) := by decide +kernel
theorem dL_law_793 : decode cL_law 793 = .ok (.invokevirtual 94, 3) := by decide +kernel
theorem dL_law_796 : decode cL_law 796 = .ok (.pop, 1) := by decide +kernel
theorem dL_law_797 : decode cL_law 797 = .ok (.goto 573, 3) := by decide +kernel
theorem dL_law_800 : decode cL_law 800 = .ok (.aload_n 1, 1) := by decide +kernel
theorem dL_law_801 : decode cL_law 801 = .ok (.aload_n 0, 1) := by decide +kernel
theorem dL_law_802 : decode cL_law 802 = .ok (.iload 4, 2) := by decide +kernel
theorem dL_law_804 : decode cL_law 804 = .ok (.iconst 1, 1) := by decide +kernel
theorem dL_law_805 : decode cL_law 805 = .ok (.iadd, 1) := by decide +kernel
theorem dL_law_806 : decode cL_law 806 = .ok (.iaload, 1) := by decide +kernel
theorem dL_law_807 : decode cL_law 807 = .ok (.aload_n 0, 1) := by decide +kernel
theorem dL_law_808 : decode cL_law 808 = .ok (.iload 4, 2) := by decide +kernel
theorem dL_law_810 : decode cL_law 810 = .ok (.iconst 2, 1) := by decide +kernel
theorem dL_law_811 : decode cL_law 811 = .ok (.iadd, 1) := by decide +kernel
theorem dL_law_812 : decode cL_law 812 = .ok (.iaload, 1) := by decide +kernel
theorem dL_law_813 : decode cL_law 813 = .ok (.invokevirtual 95, 3) := by decide +kernel
theorem dL_law_816 : decode cL_law 816 = .ok (.pop, 1) := by decide +kernel
theorem dL_law_817 : decode cL_law 817 = .ok (.aload_n 2, 1) := by decide +kernel
theorem dL_law_818 : decode cL_law 818 = .ok (.aload_n 0, 1) := by decide +kernel
theorem dL_law_819 : decode cL_law 819 = .ok (.iload 4, 2) := by decide +kernel
theorem dL_law_821 : decode cL_law 821 = .ok (.iconst 1, 1) := by decide +kernel
theorem dL_law_822 : decode cL_law 822 = .ok (.iadd, 1) := by decide +kernel
theorem dL_law_823 : decode cL_law 823 = .ok (.iaload, 1) := by decide +kernel
theorem dL_law_824 : decode cL_law 824 = .ok (.aload_n 0, 1) := by decide +kernel
theorem dL_law_825 : decode cL_law 825 = .ok (.iload 4, 2) := by decide +kernel
theorem dL_law_827 : decode cL_law 827 = .ok (.iconst 2, 1) := by decide +kernel
theorem dL_law_828 : decode cL_law 828 = .ok (.iadd, 1) := by decide +kernel
theorem dL_law_829 : decode cL_law 829 = .ok (.iaload, 1) := by decide +kernel
theorem dL_law_830 : decode cL_law 830 = .ok (.invokevirtual 98, 3) := by decide +kernel
theorem dL_law_833 : decode cL_law 833 = .ok (.pop, 1) := by decide +kernel
theorem dL_law_834 : decode cL_law 834 = .ok (.goto 536, 3) := by decide +kernel
theorem dL_law_837 : decode cL_law 837 = .ok (.aload_n 1, 1) := by decide +kernel
theorem dL_law_838 : decode cL_law 838 = .ok (.aload_n 0, 1) := by decide +kernel
theorem dL_law_839 : decode cL_law 839 = .ok (.iload 4, 2) := by decide +kernel
theorem dL_law_841 : decode cL_law 841 = .ok (.iconst 1, 1) := by decide +kernel
theorem dL_law_842 : decode cL_law 842 = .ok (.iadd, 1) := by decide +kernel
theorem dL_law_843 : decode cL_law 843 = .ok (.iaload, 1) := by decide +kernel
theorem dL_law_844 : decode cL_law 844 = .ok (.invokevirtual 99, 3) := by decide +kernel
theorem dL_law_847 : decode cL_law 847 = .ok (.pop, 1) := by decide +kernel
theorem dL_law_848 : decode cL_law 848 = .ok (.aload_n 2, 1) := by decide +kernel
theorem dL_law_849 : decode cL_law 849 = .ok (.aload_n 0, 1) := by decide +kernel
theorem dL_law_850 : decode cL_law 850 = .ok (.iload 4, 2) := by decide +kernel
theorem dL_law_852 : decode cL_law 852 = .ok (.iconst 1, 1) := by decide +kernel
theorem dL_law_853 : decode cL_law 853 = .ok (.iadd, 1) := by decide +kernel
theorem dL_law_854 : decode cL_law 854 = .ok (.iaload, 1) := by decide +kernel
theorem dL_law_855 : decode cL_law 855 = .ok (.invokevirtual 102, 3) := by decide +kernel
theorem dL_law_858 : decode cL_law 858 = .ok (.pop, 1) := by decide +kernel
theorem dL_law_859 : decode cL_law 859 = .ok (.goto 511, 3) := by decide +kernel
theorem dL_law_862 : decode cL_law 862 = .ok (.aload_n 1, 1) := by decide +kernel
theorem dL_law_863 : decode cL_law 863 = .ok (.aload_n 0, 1) := by decide +kernel
theorem dL_law_864 : decode cL_law 864 = .ok (.iload 4, 2) := by decide +kernel
theorem dL_law_866 : decode cL_law 866 = .ok (.iconst 1, 1) := by decide +kernel
theorem dL_law_867 : decode cL_law 867 = .ok (.iadd, 1) := by decide +kernel
theorem dL_law_868 : decode cL_law 868 = .ok (.iaload, 1) := by decide +kernel
theorem dL_law_869 : decode cL_law 869 = .ok (.invokevirtual 103, 3) := by decide +kernel
theorem dL_law_872 : decode cL_law 872 = .ok (.pop, 1) := by decide +kernel
theorem dL_law_873 : decode cL_law 873 = .ok (.aload_n 2, 1) := by decide +kernel
theorem dL_law_874 : decode cL_law 874 = .ok (.aload_n 0, 1) := by decide +kernel
theorem dL_law_875 : decode cL_law 875 = .ok (.iload 4, 2) := by decide +kernel
theorem dL_law_877 : decode cL_law 877 = .ok (.iconst 1, 1) := by decide +kernel
theorem dL_law_878 : decode cL_law 878 = .ok (.iadd, 1) := by decide +kernel
theorem dL_law_879 : decode cL_law 879 = .ok (.iaload, 1) := by decide +kernel
theorem dL_law_880 : decode cL_law 880 = .ok (.invokevirtual 106, 3) := by decide +kernel
theorem dL_law_883 : decode cL_law 883 = .ok (.pop, 1) := by decide +kernel
theorem dL_law_884 : decode cL_law 884 = .ok (.goto 486, 3) := by decide +kernel
theorem dL_law_887 : decode cL_law 887 = .ok (.aload_n 1, 1) := by decide +kernel
theorem dL_law_888 : decode cL_law 888 = .ok (.aload_n 0, 1) := by decide +kernel
theorem dL_law_889 : decode cL_law 889 = .ok (.iload 4, 2) := by decide +kernel
theorem dL_law_891 : decode cL_law 891 = .ok (.iconst 1, 1) := by decide +kernel
theorem dL_law_892 : decode cL_law 892 = .ok (.iadd, 1) := by decide +kernel
theorem dL_law_893 : decode cL_law 893 = .ok (.iaload, 1) := by decide +kernel
theorem dL_law_894 : decode cL_law 894 = .ok (.invokevirtual 107, 3) := by decide +kernel
theorem dL_law_897 : decode cL_law 897 = .ok (.pop, 1) := by decide +kernel
theorem dL_law_898 : decode cL_law 898 = .ok (.aload_n 2, 1) := by decide +kernel
theorem dL_law_899 : decode cL_law 899 = .ok (.aload_n 0, 1) := by decide +kernel
theorem dL_law_900 : decode cL_law 900 = .ok (.iload 4, 2) := by decide +kernel
theorem dL_law_902 : decode cL_law 902 = .ok (.iconst 1, 1) := by decide +kernel
theorem dL_law_903 : decode cL_law 903 = .ok (.iadd, 1) := by decide +kernel
theorem dL_law_904 : decode cL_law 904 = .ok (.iaload, 1) := by decide +kernel
theorem dL_law_905 : decode cL_law 905 = .ok (.invokevirtual 110, 3) := by decide +kernel
theorem dL_law_908 : decode cL_law 908 = .ok (.pop, 1) := by decide +kernel
theorem dL_law_909 : decode cL_law 909 = .ok (.goto 461, 3) := by decide +kernel
theorem dL_law_912 : decode cL_law 912 = .ok (.aload_n 1, 1) := by decide +kernel
theorem dL_law_913 : decode cL_law 913 = .ok (.aload_n 0, 1) := by decide +kernel
theorem dL_law_914 : decode cL_law 914 = .ok (.iload 4, 2) := by decide +kernel
theorem dL_law_916 : decode cL_law 916 = .ok (.iconst 1, 1) := by decide +kernel
theorem dL_law_917 : decode cL_law 917 = .ok (.iadd, 1) := by decide +kernel
theorem dL_law_918 : decode cL_law 918 = .ok (.iaload, 1) := by decide +kernel
theorem dL_law_919 : decode cL_law 919 = .ok (.invokevirtual 111, 3) := by decide +kernel
theorem dL_law_922 : decode cL_law 922 = .ok (.pop, 1) := by decide +kernel
theorem dL_law_923 : decode cL_law 923 = .ok (.aload_n 2, 1) := by decide +kernel
theorem dL_law_924 : decode cL_law 924 = .ok (.aload_n 0, 1) := by decide +kernel
theorem dL_law_925 : decode cL_law 925 = .ok (.iload 4, 2) := by decide +kernel
theorem dL_law_927 : decode cL_law 927 = .ok (.iconst 1, 1) := by decide +kernel
theorem dL_law_928 : decode cL_law 928 = .ok (.iadd, 1) := by decide +kernel
theorem dL_law_929 : decode cL_law 929 = .ok (.iaload, 1) := by decide +kernel
theorem dL_law_930 : decode cL_law 930 = .ok (.invokevirtual 114, 3) := by decide +kernel
theorem dL_law_933 : decode cL_law 933 = .ok (.pop, 1) := by decide +kernel
theorem dL_law_934 : decode cL_law 934 = .ok (.goto 436, 3) := by decide +kernel
theorem dL_law_937 : decode cL_law 937 = .ok (.aload_n 1, 1) := by decide +kernel
theorem dL_law_938 : decode cL_law 938 = .ok (.invokevirtual 115, 3) := by decide +kernel
theorem dL_law_941 : decode cL_law 941 = .ok (.pop, 1) := by decide +kernel
theorem dL_law_942 : decode cL_law 942 = .ok (.aload_n 2, 1) := by decide +kernel
theorem dL_law_943 : decode cL_law 943 = .ok (.invokevirtual 118, 3) := by decide +kernel
theorem dL_law_946 : decode cL_law 946 = .ok (.pop, 1) := by decide +kernel
theorem dL_law_947 : decode cL_law 947 = .ok (.goto 423, 3) := by decide +kernel
theorem dL_law_950 : decode cL_law 950 = .ok (.aload_n 1, 1) := by decide +kernel
theorem dL_law_951 : decode cL_law 951 = .ok (.aload_n 0, 1) := by decide +kernel
theorem dL_law_952 : decode cL_law 952 = .ok (.iload 4, 2) := by decide +kernel
theorem dL_law_954 : decode cL_law 954 = .ok (.iconst 1, 1) := by decide +kernel
theorem dL_law_955 : decode cL_law 955 = .ok (.iadd, 1) := by decide +kernel
theorem dL_law_956 : decode cL_law 956 = .ok (.iaload, 1) := by decide +kernel
theorem dL_law_957 : decode cL_law 957 = .ok (.aload_n 0, 1) := by decide +kernel
theorem dL_law_958 : decode cL_law 958 = .ok (.iload 4, 2) := by decide +kernel
theorem dL_law_960 : decode cL_law 960 = .ok (.iconst 2, 1) := by decide +kernel
theorem dL_law_961 : decode cL_law 961 = .ok (.iadd, 1) := by decide +kernel
theorem dL_law_962 : decode cL_law 962 = .ok (.iaload, 1) := by decide +kernel
theorem dL_law_963 : decode cL_law 963 = .ok (.invokevirtual 119, 3) := by decide +kernel
theorem dL_law_966 : decode cL_law 966 = .ok (.pop, 1) := by decide +kernel
theorem dL_law_967 : decode cL_law 967 = .ok (.aload_n 2, 1) := by decide +kernel
theorem dL_law_968 : decode cL_law 968 = .ok (.aload_n 0, 1) := by decide +kernel
theorem dL_law_969 : decode cL_law 969 = .ok (.iload 4, 2) := by decide +kernel
theorem dL_law_971 : decode cL_law 971 = .ok (.iconst 1, 1) := by decide +kernel
theorem dL_law_972 : decode cL_law 972 = .ok (.iadd, 1) := by decide +kernel
theorem dL_law_973 : decode cL_law 973 = .ok (.iaload, 1) := by decide +kernel
theorem dL_law_974 : decode cL_law 974 = .ok (.aload_n 0, 1) := by decide +kernel
theorem dL_law_975 : decode cL_law 975 = .ok (.iload 4, 2) := by decide +kernel
theorem dL_law_977 : decode cL_law 977 = .ok (.iconst 2, 1) := by decide +kernel
theorem dL_law_978 : decode cL_law 978 = .ok (.iadd, 1) := by decide +kernel
theorem dL_law_979 : decode cL_law 979 = .ok (.iaload, 1) := by decide +kernel
theorem dL_law_980 : decode cL_law 980 = .ok (.invokevirtual 122, 3) := by decide +kernel
theorem dL_law_983 : decode cL_law 983 = .ok (.pop, 1) := by decide +kernel
theorem dL_law_984 : decode cL_law 984 = .ok (.goto 386, 3) := by decide +kernel
theorem dL_law_987 : decode cL_law 987 = .ok (.aload_n 1, 1) := by decide +kernel
theorem dL_law_988 : decode cL_law 988 = .ok (.aload_n 0, 1) := by decide +kernel
theorem dL_law_989 : decode cL_law 989 = .ok (.iload 4, 2) := by decide +kernel
theorem dL_law_991 : decode cL_law 991 = .ok (.iconst 1, 1) := by decide +kernel
theorem dL_law_992 : decode cL_law 992 = .ok (.iadd, 1) := by decide +kernel
theorem dL_law_993 : decode cL_law 993 = .ok (.iaload, 1) := by decide +kernel
theorem dL_law_994 : decode cL_law 994 = .ok (.invokevirtual 123, 3) := by decide +kernel
theorem dL_law_997 : decode cL_law 997 = .ok (.pop, 1) := by decide +kernel
theorem dL_law_998 : decode cL_law 998 = .ok (.aload_n 2, 1) := by decide +kernel
theorem dL_law_999 : decode cL_law 999 = .ok (.aload_n 0, 1) := by decide +kernel
theorem dL_law_1000 : decode cL_law 1000 = .ok (.iload 4, 2) := by decide +kernel
theorem dL_law_1002 : decode cL_law 1002 = .ok (.iconst 1, 1) := by decide +kernel
theorem dL_law_1003 : decode cL_law 1003 = .ok (.iadd, 1) := by decide +kernel
theorem dL_law_1004 : decode cL_law 1004 = .ok (.iaload, 1) := by decide +kernel
theorem dL_law_1005 : decode cL_law 1005 = .ok (.invokevirtual 126, 3) := by decide +kernel
theorem dL_law_1008 : decode cL_law 1008 = .ok (.pop, 1) := by decide +kernel
theorem dL_law_1009 : decode cL_law 1009 = .ok (.goto 361, 3) := by decide +kernel
theorem dL_law_1012 : decode cL_law 1012 = .ok (.aload_n 1, 1) := by decide +kernel
theorem dL_law_1013 : decode cL_law 1013 = .ok (.invokevirtual 127, 3) := by decide +kernel
theorem dL_law_1016 : decode cL_law 1016 = .ok (.pop, 1) := by decide +kernel
theorem dL_law_1017 : decode cL_law 1017 = .ok (.aload_n 2, 1) := by decide +kernel
theorem dL_law_1018 : decode cL_law 1018 = .ok (.invokevirtual 130, 3) := by decide +kernel
theorem dL_law_1021 : decode cL_law 1021 = .ok (.pop, 1) := by decide +kernel
theorem dL_law_1022 : decode cL_law 1022 = .ok (.goto 348, 3) := by decide +kernel
theorem dL_law_1025 : decode cL_law 1025 = .ok (.aload_n 1, 1) := by decide +kernel
theorem dL_law_1026 : decode cL_law 1026 = .ok (.aload_n 0, 1) := by decide +kernel
theorem dL_law_1027 : decode cL_law 1027 = .ok (.iload 4, 2) := by decide +kernel
theorem dL_law_1029 : decode cL_law 1029 = .ok (.iconst 1, 1) := by decide +kernel
theorem dL_law_1030 : decode cL_law 1030 = .ok (.iadd, 1) := by decide +kernel
theorem dL_law_1031 : decode cL_law 1031 = .ok (.iaload, 1) := by decide +kernel
theorem dL_law_1032 : decode cL_law 1032 = .ok (.invokevirtual 131, 3) := by decide +kernel
theorem dL_law_1035 : decode cL_law 1035 = .ok (.pop, 1) := by decide +kernel
theorem dL_law_1036 : decode cL_law 1036 = .ok (.aload_n 2, 1) := by decide +kernel
theorem dL_law_1037 : decode cL_law 1037 = .ok (.aload_n 0, 1) := by decide +kernel
theorem dL_law_1038 : decode cL_law 1038 = .ok (.iload 4, 2) := by decide +kernel
theorem dL_law_1040 : decode cL_law 1040 = .ok (.iconst 1, 1) := by decide +kernel
theorem dL_law_1041 : decode cL_law 1041 = .ok (.iadd, 1) := by decide +kernel
theorem dL_law_1042 : decode cL_law 1042 = .ok (.iaload, 1) := by decide +kernel
theorem dL_law_1043 : decode cL_law 1043 = .ok (.invokevirtual 134, 3) := by decide +kernel
theorem dL_law_1046 : decode cL_law 1046 = .ok (.pop, 1) := by decide +kernel
theorem dL_law_1047 : decode cL_law 1047 = .ok (.goto 323, 3) := by decide +kernel
theorem dL_law_1050 : decode cL_law 1050 = .ok (.aload_n 1, 1) := by decide +kernel
theorem dL_law_1051 : decode cL_law 1051 = .ok (.aload_n 0, 1) := by decide +kernel
theorem dL_law_1052 : decode cL_law 1052 = .ok (.iload 4, 2) := by decide +kernel
theorem dL_law_1054 : decode cL_law 1054 = .ok (.iconst 1, 1) := by decide +kernel
theorem dL_law_1055 : decode cL_law 1055 = .ok (.iadd, 1) := by decide +kernel
theorem dL_law_1056 : decode cL_law 1056 = .ok (.iaload, 1) := by decide +kernel
theorem dL_law_1057 : decode cL_law 1057 = .ok (.invokevirtual 135, 3) := by decide +kernel
theorem dL_law_1060 : decode cL_law 1060 = .ok (.pop, 1) := by decide +kernel
theorem dL_law_1061 : decode cL_law 1061 = .ok (.aload_n 2, 1) := by decide +kernel
theorem dL_law_1062 : decode cL_law 1062 = .ok (.aload_n 0, 1) := by decide +kernel
theorem dL_law_1063 : decode cL_law 1063 = .ok (.iload 4, 2) := by decide +kernel
theorem dL_law_1065 : decode cL_law 1065 = .ok (.iconst 1, 1) := by decide +kernel
theorem dL_law_1066 : decode cL_law 1066 = .ok (.iadd, 1) := by decide +kernel
theorem dL_law_1067 : decode cL_law 1067 = .ok (.iaload, 1) := by decide +kernel
theorem dL_law_1068 : decode cL_law 1068 = .ok (.invokevirtual 138, 3) := by decide +kernel
theorem dL_law_1071 : decode cL_law 1071 = .ok (.pop, 1) := by decide +kernel
theorem dL_law_1072 : decode cL_law 1072 = .ok (.goto 298, 3) := by decide +kernel
theorem dL_law_1075 : decode cL_law 1075 = .ok (.aload_n 1, 1) := by decide +kernel
theorem dL_law_1076 : decode cL_law 1076 = .ok (.aload_n 0, 1) := by decide +kernel
theorem dL_law_1077 : decode cL_law 1077 = .ok (.iload 4, 2) := by decide +kernel
theorem dL_law_1079 : decode cL_law 1079 = .ok (.iconst 1, 1) := by decide +kernel
theorem dL_law_1080 : decode cL_law 1080 = .ok (.iadd, 1) := by decide +kernel
theorem dL_law_1081 : decode cL_law 1081 = .ok (.iaload, 1) := by decide +kernel
theorem dL_law_1082 : decode cL_law 1082 = .ok (.aload_n 0, 1) := by decide +kernel
theorem dL_law_1083 : decode cL_law 1083 = .ok (.iload 4, 2) := by decide +kernel
theorem dL_law_1085 : decode cL_law 1085 = .ok (.iconst 2, 1) := by decide +kernel
theorem dL_law_1086 : decode cL_law 1086 = .ok (.iadd, 1) := by decide +kernel
theorem dL_law_1087 : decode cL_law 1087 = .ok (.iaload, 1) := by decide +kernel
theorem dL_law_1088 : decode cL_law 1088 = .ok (.aload_n 0, 1) := by decide +kernel
theorem dL_law_1089 : decode cL_law 1089 = .ok (.iload 4, 2) := by decide +kernel
theorem dL_law_1091 : decode cL_law 1091 = .ok (.iconst 3, 1) := by decide +kernel
theorem dL_law_1092 : decode cL_law 1092 = .ok (.iadd, 1) := by decide +kernel
theorem dL_law_1093 : decode cL_law 1093 = .ok (.iaload, 1) := by decide +kernel
theorem dL_law_1094 : decode cL_law 1094 = .ok (.invokevirtual 139, 3) := by decide +kernel
theorem dL_law_1097 : decode cL_law 1097 = .ok (.pop, 1) := by decide +kernel
theorem dL_law_1098 : decode cL_law 1098 = .ok (.aload_n 2, 1) := by decide +kernel
theorem dL_law_1099 : decode cL_law 1099 = .ok (.aload_n 0, 1) := by decide +kernel
theorem dL_law_1100 : decode cL_law 1100 = .ok (.iload 4, 2) := by decide +kernel
theorem dL_law_1102 : decode cL_law 1102 = .ok (.iconst 1, 1) := by decide +kernel
theorem dL_law_1103 : decode cL_law 1103 = .ok (.iadd, 1) := by decide +kernel
theorem dL_law_1104 : decode cL_law 1104 = .ok (.iaload, 1) := by decide +kernel
theorem dL_law_1105 : decode cL_law 1105 = .ok (.aload_n 0, 1) := by decide +kernel
theorem dL_law_1106 : decode cL_law 1106 = .ok (.iload 4, 2) := by decide +kernel
theorem dL_law_1108 : decode cL_law 1108 = .ok (.iconst 2, 1) := by decide +kernel
theorem dL_law_1109 : decode cL_law 1109 = .ok (.iadd, 1) := by decide +kernel
theorem dL_law_1110 : decode cL_law 1110 = .ok (.iaload, 1) := by decide +kernel
theorem dL_law_1111 : decode cL_law 1111 = .ok (.aload_n 0, 1) := by decide +kernel
theorem dL_law_1112 : decode cL_law 1112 = .ok (.iload 4, 2) := by decide +kernel
theorem dL_law_1114 : decode cL_law 1114 = .ok (.iconst 3, 1) := by decide +kernel
theorem dL_law_1115 : decode cL_law 1115 = .ok (.iadd, 1) := by decide +kernel
theorem dL_law_1116 : decode cL_law 1116 = .ok (.iaload, 1) := by decide +kernel
theorem dL_law_1117 : decode cL_law 1117 = .ok (.invokevirtual 142, 3) := by decide +kernel
theorem dL_law_1120 : decode cL_law 1120 = .ok (.pop, 1) := by decide +kernel
theorem dL_law_1121 : decode cL_law 1121 = .ok (.goto 249, 3) := by decide +kernel
theorem dL_law_1124 : decode cL_law 1124 = .ok (.aload_n 1, 1) := by decide +kernel
theorem dL_law_1125 : decode cL_law 1125 = .ok (.aload_n 0, 1) := by decide +kernel
theorem dL_law_1126 : decode cL_law 1126 = .ok (.iload 4, 2) := by decide +kernel
theorem dL_law_1128 : decode cL_law 1128 = .ok (.iconst 1, 1) := by decide +kernel
theorem dL_law_1129 : decode cL_law 1129 = .ok (.iadd, 1) := by decide +kernel
theorem dL_law_1130 : decode cL_law 1130 = .ok (.iaload, 1) := by decide +kernel
theorem dL_law_1131 : decode cL_law 1131 = .ok (.aload_n 0, 1) := by decide +kernel
theorem dL_law_1132 : decode cL_law 1132 = .ok (.iload 4, 2) := by decide +kernel
theorem dL_law_1134 : decode cL_law 1134 = .ok (.iconst 2, 1) := by decide +kernel
theorem dL_law_1135 : decode cL_law 1135 = .ok (.iadd, 1) := by decide +kernel
theorem dL_law_1136 : decode cL_law 1136 = .ok (.iaload, 1) := by decide +kernel
theorem dL_law_1137 : decode cL_law 1137 = .ok (.invokevirtual 143, 3) := by decide +kernel
theorem dL_law_1140 : decode cL_law 1140 = .ok (.pop, 1) := by decide +kernel
theorem dL_law_1141 : decode cL_law 1141 = .ok (.aload_n 2, 1) := by decide +kernel
theorem dL_law_1142 : decode cL_law 1142 = .ok (.aload_n 0, 1) := by decide +kernel
theorem dL_law_1143 : decode cL_law 1143 = .ok (.iload 4, 2) := by decide +kernel
theorem dL_law_1145 : decode cL_law 1145 = .ok (.iconst 1, 1) := by decide +kernel
theorem dL_law_1146 : decode cL_law 1146 = .ok (.iadd, 1) := by decide +kernel
theorem dL_law_1147 : decode cL_law 1147 = .ok (.iaload, 1) := by decide +kernel
theorem dL_law_1148 : decode cL_law 1148 = .ok (.aload_n 0, 1) := by decide +kernel
theorem dL_law_1149 : decode cL_law 1149 = .ok (.iload 4, 2) := by decide +kernel
theorem dL_law_1151 : decode cL_law 1151 = .ok (.iconst 2, 1) := by decide +kernel
theorem dL_law_1152 : decode cL_law 1152 = .ok (.iadd, 1) := by decide +kernel
theorem dL_law_1153 : decode cL_law 1153 = .ok (.iaload, 1) := by decide +kernel
theorem dL_law_1154 : decode cL_law 1154 = .ok (.invokevirtual 146, 3) := by decide +kernel
theorem dL_law_1157 : decode cL_law 1157 = .ok (.pop, 1) := by decide +kernel
theorem dL_law_1158 : decode cL_law 1158 = .ok (.goto 212, 3) := by decide +kernel
theorem dL_law_1161 : decode cL_law 1161 = .ok (.aload_n 1, 1) := by decide +kernel
theorem dL_law_1162 : decode cL_law 1162 = .ok (.aload_n 0, 1) := by decide +kernel
theorem dL_law_1163 : decode cL_law 1163 = .ok (.iload 4, 2) := by decide +kernel
theorem dL_law_1165 : decode cL_law 1165 = .ok (.iconst 1, 1) := by decide +kernel
theorem dL_law_1166 : decode cL_law 1166 = .ok (.iadd, 1) := by decide +kernel
theorem dL_law_1167 : decode cL_law 1167 = .ok (.iaload, 1) := by decide +kernel
theorem dL_law_1168 : decode cL_law 1168 = .ok (.invokevirtual 147, 3) := by decide +kernel
theorem dL_law_1171 : decode cL_law 1171 = .ok (.pop2, 1) := by decide +kernel
theorem dL_law_1172 : decode cL_law 1172 = .ok (.aload_n 2, 1) := by decide +kernel
theorem dL_law_1173 : decode cL_law 1173 = .ok (.aload_n 0, 1) := by decide +kernel
theorem dL_law_1174 : decode cL_law 1174 = .ok (.iload 4, 2) := by decide +kernel
theorem dL_law_1176 : decode cL_law 1176 = .ok (.iconst 1, 1) := by decide +kernel
theorem dL_law_1177 : decode cL_law 1177 = .ok (.iadd, 1) := by decide +kernel
theorem dL_law_1178 : decode cL_law 1178 = .ok (.iaload, 1) := by decide +kernel
theorem dL_law_1179 : decode cL_law 1179 = .ok (.invokevirtual 151, 3) := by decide +kernel
theorem dL_law_1182 : decode cL_law 1182 = .ok (.pop2, 1) := by decide +kernel
theorem dL_law_1183 : decode cL_law 1183 = .ok (.goto 187, 3) := by decide +kernel
theorem dL_law_1186 : decode cL_law 1186 = .ok (.aload_n 1, 1) := by decide +kernel
theorem dL_law_1187 : decode cL_law 1187 = .ok (.invokevirtual 152, 3) := by decide +kernel
theorem dL_law_1190 : decode cL_law 1190 = .ok (.pop, 1) := by decide +kernel
theorem dL_law_1191 : decode cL_law 1191 = .ok (.aload_n 2, 1) := by decide +kernel
theorem dL_law_1192 : decode cL_law 1192 = .ok (.invokevirtual 155, 3) := by decide +kernel
theorem dL_law_1195 : decode cL_law 1195 = .ok (.pop, 1) := by decide +kernel
theorem dL_law_1196 : decode cL_law 1196 = .ok (.goto 174, 3) := by decide +kernel
theorem dL_law_1199 : decode cL_law 1199 = .ok (.aload_n 1, 1) := by decide +kernel
theorem dL_law_1200 : decode cL_law 1200 = .ok (.aload_n 0, 1) := by decide +kernel
theorem dL_law_1201 : decode cL_law 1201 = .ok (.iload 4, 2) := by decide +kernel
theorem dL_law_1203 : decode cL_law 1203 = .ok (.iconst 1, 1) := by decide +kernel
theorem dL_law_1204 : decode cL_law 1204 = .ok (.iadd, 1) := by decide +kernel
theorem dL_law_1205 : decode cL_law 1205 = .ok (.iaload, 1) := by decide +kernel
theorem dL_law_1206 : decode cL_law 1206 = .ok (.i2l, 1) := by decide +kernel
theorem dL_law_1207 : decode cL_law 1207 = .ok (.bipush 32, 2) := by decide +kernel
theorem dL_law_1209 : decode cL_law 1209 = .ok (.lshl, 1) := by decide +kernel
theorem dL_law_1210 : decode cL_law 1210 = .ok (.aload_n 0, 1) := by decide +kernel
theorem dL_law_1211 : decode cL_law 1211 = .ok (.iload 4, 2) := by decide +kernel
theorem dL_law_1213 : decode cL_law 1213 = .ok (.iconst 2, 1) := by decide +kernel
theorem dL_law_1214 : decode cL_law 1214 = .ok (.iadd, 1) := by decide +kernel
theorem dL_law_1215 : decode cL_law 1215 = .ok (.iaload, 1) := by decide +kernel
theorem dL_law_1216 : decode cL_law 1216 = .ok (.i2l, 1) := by decide +kernel
theorem dL_law_1217 : decode cL_law 1217 = .ok (.ldc2_w 29, 3) := by decide +kernel
theorem dL_law_1220 : decode cL_law 1220 = .ok (.land, 1) := by decide +kernel
theorem dL_law_1221 : decode cL_law 1221 = .ok (.lor, 1) := by decide +kernel
theorem dL_law_1222 : decode cL_law 1222 = .ok (.aload_n 0, 1) := by decide +kernel
theorem dL_law_1223 : decode cL_law 1223 = .ok (.iload 4, 2) := by decide +kernel
theorem dL_law_1225 : decode cL_law 1225 = .ok (.iconst 3, 1) := by decide +kernel
theorem dL_law_1226 : decode cL_law 1226 = .ok (.iadd, 1) := by decide +kernel
theorem dL_law_1227 : decode cL_law 1227 = .ok (.iaload, 1) := by decide +kernel
theorem dL_law_1228 : decode cL_law 1228 = .ok (.aload_n 0, 1) := by decide +kernel
theorem dL_law_1229 : decode cL_law 1229 = .ok (.iload 4, 2) := by decide +kernel
theorem dL_law_1231 : decode cL_law 1231 = .ok (.iconst 4, 1) := by decide +kernel
theorem dL_law_1232 : decode cL_law 1232 = .ok (.iadd, 1) := by decide +kernel
theorem dL_law_1233 : decode cL_law 1233 = .ok (.iaload, 1) := by decide +kernel
theorem dL_law_1234 : decode cL_law 1234 = .ok (.invokevirtual 156, 3) := by decide +kernel
theorem dL_law_1237 : decode cL_law 1237 = .ok (.pop2, 1) := by decide +kernel
theorem dL_law_1238 : decode cL_law 1238 = .ok (.aload_n 2, 1) := by decide +kernel
theorem dL_law_1239 : decode cL_law 1239 = .ok (.aload_n 0, 1) := by decide +kernel
theorem dL_law_1240 : decode cL_law 1240 = .ok (.iload 4, 2) := by decide +kernel
theorem dL_law_1242 : decode cL_law 1242 = .ok (.iconst 1, 1) := by decide +kernel
theorem dL_law_1243 : decode cL_law 1243 = .ok (.iadd, 1) := by decide +kernel
theorem dL_law_1244 : decode cL_law 1244 = .ok (.iaload, 1) := by decide +kernel
theorem dL_law_1245 : decode cL_law 1245 = .ok (.i2l, 1) := by decide +kernel
theorem dL_law_1246 : decode cL_law 1246 = .ok (.bipush 32, 2) := by decide +kernel
theorem dL_law_1248 : decode cL_law 1248 = .ok (.lshl, 1) := by decide +kernel
theorem dL_law_1249 : decode cL_law 1249 = .ok (.aload_n 0, 1) := by decide +kernel
theorem dL_law_1250 : decode cL_law 1250 = .ok (.iload 4, 2) := by decide +kernel
theorem dL_law_1252 : decode cL_law 1252 = .ok (.iconst 2, 1) := by decide +kernel
theorem dL_law_1253 : decode cL_law 1253 = .ok (.iadd, 1) := by decide +kernel
theorem dL_law_1254 : decode cL_law 1254 = .ok (.iaload, 1) := by decide +kernel
theorem dL_law_1255 : decode cL_law 1255 = .ok (.i2l, 1) := by decide +kernel
theorem dL_law_1256 : decode cL_law 1256 = .ok (.ldc2_w 29, 3) := by decide +kernel
theorem dL_law_1259 : decode cL_law 1259 = .ok (.land, 1) := by decide +kernel
theorem dL_law_1260 : decode cL_law 1260 = .ok (.lor, 1) := by decide +kernel
theorem dL_law_1261 : decode cL_law 1261 = .ok (.aload_n 0, 1) := by decide +kernel
theorem dL_law_1262 : decode cL_law 1262 = .ok (.iload 4, 2) := by decide +kernel
theorem dL_law_1264 : decode cL_law 1264 = .ok (.iconst 3, 1) := by decide +kernel
theorem dL_law_1265 : decode cL_law 1265 = .ok (.iadd, 1) := by decide +kernel
theorem dL_law_1266 : decode cL_law 1266 = .ok (.iaload, 1) := by decide +kernel
theorem dL_law_1267 : decode cL_law 1267 = .ok (.aload_n 0, 1) := by decide +kernel
theorem dL_law_1268 : decode cL_law 1268 = .ok (.iload 4, 2) := by decide +kernel
theorem dL_law_1270 : decode cL_law 1270 = .ok (.iconst 4, 1) := by decide +kernel
theorem dL_law_1271 : decode cL_law 1271 = .ok (.iadd, 1) := by decide +kernel
theorem dL_law_1272 : decode cL_law 1272 = .ok (.iaload, 1) := by decide +kernel
theorem dL_law_1273 : decode cL_law 1273 = .ok (.invokevirtual 160, 3) := by decide +kernel
theorem dL_law_1276 : decode cL_law 1276 = .ok (.pop2, 1) := by decide +kernel
theorem dL_law_1277 : decode cL_law 1277 = .ok (.goto 93, 3) := by decide +kernel
theorem dL_law_1280 : decode cL_law 1280 = .ok (.aload_n 1, 1) := by decide +kernel
theorem dL_law_1281 : decode cL_law 1281 = .ok (.aload_n 0, 1) := by decide +kernel
theorem dL_law_1282 : decode cL_law 1282 = .ok (.iload 4, 2) := by decide +kernel
theorem dL_law_1284 : decode cL_law 1284 = .ok (.iconst 1, 1) := by decide +kernel
theorem dL_law_1285 : decode cL_law 1285 = .ok (.iadd, 1) := by decide +kernel
theorem dL_law_1286 : decode cL_law 1286 = .ok (.iaload, 1) := by decide +kernel
theorem dL_law_1287 : decode cL_law 1287 = .ok (.aload_n 0, 1) := by decide +kernel
theorem dL_law_1288 : decode cL_law 1288 = .ok (.iload 4, 2) := by decide +kernel
theorem dL_law_1290 : decode cL_law 1290 = .ok (.iconst 2, 1) := by decide +kernel
theorem dL_law_1291 : decode cL_law 1291 = .ok (.iadd, 1) := by decide +kernel
theorem dL_law_1292 : decode cL_law 1292 = .ok (.iaload, 1) := by decide +kernel
theorem dL_law_1293 : decode cL_law 1293 = .ok (.invokevirtual 161, 3) := by decide +kernel
theorem dL_law_1296 : decode cL_law 1296 = .ok (.pop2, 1) := by decide +kernel
theorem dL_law_1297 : decode cL_law 1297 = .ok (.aload_n 2, 1) := by decide +kernel
theorem dL_law_1298 : decode cL_law 1298 = .ok (.aload_n 0, 1) := by decide +kernel
theorem dL_law_1299 : decode cL_law 1299 = .ok (.iload 4, 2) := by decide +kernel
theorem dL_law_1301 : decode cL_law 1301 = .ok (.iconst 1, 1) := by decide +kernel
theorem dL_law_1302 : decode cL_law 1302 = .ok (.iadd, 1) := by decide +kernel
theorem dL_law_1303 : decode cL_law 1303 = .ok (.iaload, 1) := by decide +kernel
theorem dL_law_1304 : decode cL_law 1304 = .ok (.aload_n 0, 1) := by decide +kernel
theorem dL_law_1305 : decode cL_law 1305 = .ok (.iload 4, 2) := by decide +kernel
theorem dL_law_1307 : decode cL_law 1307 = .ok (.iconst 2, 1) := by decide +kernel
theorem dL_law_1308 : decode cL_law 1308 = .ok (.iadd, 1) := by decide +kernel
theorem dL_law_1309 : decode cL_law 1309 = .ok (.iaload, 1) := by decide +kernel
theorem dL_law_1310 : decode cL_law 1310 = .ok (.invokevirtual 164, 3) := by decide +kernel
theorem dL_law_1313 : decode cL_law 1313 = .ok (.pop2, 1) := by decide +kernel
theorem dL_law_1314 : decode cL_law 1314 = .ok (.goto 56, 3) := by decide +kernel
theorem dL_law_1317 : decode cL_law 1317 = .ok (.aload_n 1, 1) := by decide +kernel
theorem dL_law_1318 : decode cL_law 1318 = .ok (.aload_n 0, 1) := by decide +kernel
theorem dL_law_1319 : decode cL_law 1319 = .ok (.iload 4, 2) := by decide +kernel
theorem dL_law_1321 : decode cL_law 1321 = .ok (.iconst 1, 1) := by decide +kernel
theorem dL_law_1322 : decode cL_law 1322 = .ok (.iadd, 1) := by decide +kernel
theorem dL_law_1323 : decode cL_law 1323 = .ok (.iaload, 1) := by decide +kernel
theorem dL_law_1324 : decode cL_law 1324 = .ok (.invokevirtual 165, 3) := by decide +kernel
theorem dL_law_1327 : decode cL_law 1327 = .ok (.pop, 1) := by decide +kernel
theorem dL_law_1328 : decode cL_law 1328 = .ok (.aload_n 2, 1) := by decide +kernel
theorem dL_law_1329 : decode cL_law 1329 = .ok (.aload_n 0, 1) := by decide +kernel
theorem dL_law_1330 : decode cL_law 1330 = .ok (.iload 4, 2) := by decide +kernel
theorem dL_law_1332 : decode cL_law 1332 = .ok (.iconst 1, 1) := by decide +kernel
theorem dL_law_1333 : decode cL_law 1333 = .ok (.iadd, 1) := by decide +kernel
theorem dL_law_1334 : decode cL_law 1334 = .ok (.iaload, 1) := by decide +kernel
theorem dL_law_1335 : decode cL_law 1335 = .ok (.invokevirtual 168, 3) := by decide +kernel
theorem dL_law_1338 : decode cL_law 1338 = .ok (.pop, 1) := by decide +kernel
theorem dL_law_1339 : decode cL_law 1339 = .ok (.goto 31, 3) := by decide +kernel
theorem dL_law_1342 : decode cL_law 1342 = .ok (.aload_n 1, 1) := by decide +kernel
theorem dL_law_1343 : decode cL_law 1343 = .ok (.aload_n 0, 1) := by decide +kernel
theorem dL_law_1344 : decode cL_law 1344 = .ok (.iload 4, 2) := by decide +kernel
theorem dL_law_1346 : decode cL_law 1346 = .ok (.iconst 1, 1) := by decide +kernel
theorem dL_law_1347 : decode cL_law 1347 = .ok (.iadd, 1) := by decide +kernel
theorem dL_law_1348 : decode cL_law 1348 = .ok (.iaload, 1) := by decide +kernel
theorem dL_law_1349 : decode cL_law 1349 = .ok (.aload_n 3, 1) := by decide +kernel
theorem dL_law_1350 : decode cL_law 1350 = .ok (.invokestatic 169, 3) := by decide +kernel
theorem dL_law_1353 : decode cL_law 1353 = .ok (.istore 5, 2) := by decide +kernel
theorem dL_law_1355 : decode cL_law 1355 = .ok (.aload_n 2, 1) := by decide +kernel
theorem dL_law_1356 : decode cL_law 1356 = .ok (.aload_n 0, 1) := by decide +kernel
theorem dL_law_1357 : decode cL_law 1357 = .ok (.iload 4, 2) := by decide +kernel
theorem dL_law_1359 : decode cL_law 1359 = .ok (.iconst 1, 1) := by decide +kernel
theorem dL_law_1360 : decode cL_law 1360 = .ok (.iadd, 1) := by decide +kernel
theorem dL_law_1361 : decode cL_law 1361 = .ok (.iaload, 1) := by decide +kernel
theorem dL_law_1362 : decode cL_law 1362 = .ok (.invokevirtual 174, 3) := by decide +kernel
theorem dL_law_1365 : decode cL_law 1365 = .ok (.istore 6, 2) := by decide +kernel
theorem dL_law_1367 : decode cL_law 1367 = .ok (.goto 3, 3) := by decide +kernel
theorem dL_law_1370 : decode cL_law 1370 = .ok (.iinc 4 6, 3) := by decide +kernel
theorem dL_law_1373 : decode cL_law 1373 = .ok (.goto (-1350), 3) := by decide +kernel
theorem dL_law_1376 : decode cL_law 1376 = .ok (.iconst 1, 1) := by decide +kernel
theorem dL_law_1377 : decode cL_law 1377 = .ok (.ireturn, 1) := by decide +kernel
end
section
/-! ===== the small machine: numbers are whole numbers, cells are counted from the law's first own cell on ===== -/
def w32 (x : Int) : Int := (x + 2147483648) % 4294967296 - 2147483648
def w64 (x : Int) : Int := (x + 9223372036854775808) % 18446744073709551616 - 9223372036854775808
/-- a value: 0 an int, 1 a long, 2 a reference (its cell's number, -1 for null); 9 a local that is not known -/
abbrev mV : Type := Nat × Int
/-- a heap: how many cells, how many slots; a cell's kind; its length; its fields; its elements -/
abbrev mH : Type := (Nat × Nat) × (Int → Nat) × (Int → Int) × (Int → Nat → Int) × (Int → Int → Int)
def hN (h : mH) : Nat := h.1.1
def hZ (h : mH) : Nat := h.1.2
def hK (h : mH) : Int → Nat := h.2.1
def hL (h : mH) : Int → Int := h.2.2.1
def hF (h : mH) : Int → Nat → Int := h.2.2.2.1
def hA (h : mH) : Int → Int → Int := h.2.2.2.2
def u1 {α : Type} (f : Int → α) (a : Int) (v : α) : Int → α := fun b => if b = a then v else f b
def u2 (f : Int → Nat → Int) (a : Int) (k : Nat) (v : Int) : Int → Nat → Int := fun b j => if b = a ∧ j = k then v else f b j
def sF (h : mH) (a : Int) (k : Nat) (v : Int) : mH := (h.1, h.2.1, h.2.2.1, u2 h.2.2.2.1 a k v, h.2.2.2.2)
def sA (h : mH) (a : Int) (f : Int → Int) : mH := (h.1, h.2.1, h.2.2.1, h.2.2.2.1, u1 h.2.2.2.2 a f)
def sE (h : mH) (a i v : Int) : mH := sA h a (u1 (hA h a) i v)
theorem u1_s {α : Type} (f : Int → α) (a : Int) (v : α) : u1 f a v a = v := by simp [u1]
theorem u1_n {α : Type} (f : Int → α) {a b : Int} (v : α) (h : b ≠ a) : u1 f a v b = f b := by simp [u1, h]
/-- the tag of a field's type -/
def tgT : FieldType → Nat
  | .long => 1
  | .object _ => 2
  | .array _ => 2
  | _ => 0
/-- kinds of cells: 0 to 6 the objects of vwCl; 10 to 15 arrays; 99 others -/
def aTy : Nat → FieldType := fun t => match t with
  | 10 => .int
  | 11 => .long
  | 12 => .boolean
  | 13 => .byte
  | 14 => .object "BeatBench$Sheet"
  | _ => .array .long
def cTy : Nat → Nat → FieldType := fun c => match c with
  | 0 => tyX0
  | 1 => tyX1
  | 2 => tyX2
  | 3 => tyX3
  | 4 => tyX4
  | 5 => tyX5
  | _ => tyX6
def cNf : Nat → Nat := fun c => match c with
  | 0 => 14
  | 1 => 5
  | 2 => 3
  | 3 => 14
  | 4 => 5
  | 5 => 10
  | _ => 45
def fTg (c k : Nat) : Nat := tgT (cTy c k)
def aTg (t : Nat) : Nat := tgT (aTy t)
def dfl (t : Nat) : Int := if t = 2 then -1 else 0
/-- a new object of kind c -/
def nO (h : mH) (c : Nat) : mH := ((h.1.1 + 1, h.1.2 + cNf c), u1 h.2.1 (h.1.1 : Int) c, h.2.2.1, u1 h.2.2.2.1 (h.1.1 : Int) (fun k => dfl (fTg c k)), h.2.2.2.2)
/-- a new array of kind t with n places -/
def nA (h : mH) (t : Nat) (n : Int) : mH := ((h.1.1 + 1, h.1.2 + n.toNat), u1 h.2.1 (h.1.1 : Int) t, u1 h.2.2.1 (h.1.1 : Int) n, h.2.2.2.1, u1 h.2.2.2.2 (h.1.1 : Int) (fun _ => dfl (aTg t)))
/-- a new array of n arrays of k longs -/
def nM (h : mH) (n k : Int) : mH := ((h.1.1 + 1 + n.toNat, h.1.2 + n.toNat + n.toNat * k.toNat), (fun b => if b = (h.1.1 : Int) then 15 else if (h.1.1 : Int) < b ∧ b ≤ (h.1.1 : Int) + n then 11 else h.2.1 b), (fun b => if b = (h.1.1 : Int) then n else if (h.1.1 : Int) < b ∧ b ≤ (h.1.1 : Int) + n then k else h.2.2.1 b), h.2.2.2.1, (fun b => if b = (h.1.1 : Int) then (fun i => (h.1.1 : Int) + 1 + i) else if (h.1.1 : Int) < b ∧ b ≤ (h.1.1 : Int) + n then (fun _ => 0) else h.2.2.2.2 b))
/-! a value of the machine and one of the small machine -/
def rV (sz : Nat) (v : mV) (x : Value) : Prop := match x with
  | .int k => v = (0, k.toInt)
  | .long k => v = (1, k.toInt)
  | .ref a => sz ≤ a ∧ v = (2, (a : Int) - (sz : Int))
  | .null => v = (2, -1)
  | _ => False
theorem rV_i {sz : Nat} {i : Int} {x : Value} (h : rV sz (0, i) x) : ∃ k : Int32, x = .int k ∧ k.toInt = i := by
  cases x <;> simp [rV] at h
  exact ⟨_, rfl, h.symm⟩
theorem rV_l {sz : Nat} {i : Int} {x : Value} (h : rV sz (1, i) x) : ∃ k : Int64, x = .long k ∧ k.toInt = i := by
  cases x <;> simp [rV] at h
  exact ⟨_, rfl, h.symm⟩
theorem rV_r {sz : Nat} {i : Int} {x : Value} (h : rV sz (2, i) x) : (i = -1 ∧ x = .null) ∨ (0 ≤ i ∧ x = .ref (sz + i.toNat)) := by
  cases x with
  | null => exact Or.inl ⟨(Prod.mk.inj h).2, rfl⟩
  | ref a =>
    obtain ⟨h1, h2⟩ := h
    have h3 : i = (a : Int) - (sz : Int) := (Prod.mk.inj h2).2
    refine Or.inr ⟨by omega, ?_⟩
    rw [show sz + i.toNat = a by omega]
  | int k => exact absurd (Prod.mk.inj h).1 (by decide)
  | long k => exact absurd (Prod.mk.inj h).1 (by decide)
  | _ => exact h.elim
theorem rV_cat1 {sz : Nat} {v : mV} {x : Value} (h : rV sz v x) (ht : v.1 = 0 ∨ v.1 = 2) : x.category = 1 := by
  cases x <;> simp [rV] at h <;> first | rfl | (obtain ⟨-, rfl⟩ := h; simp at ht) | (subst h; simp at ht)
theorem rV_cat2 {sz : Nat} {v : mV} {x : Value} (h : rV sz v x) (ht : v.1 = 1) : x.category = 2 := by
  cases x <;> simp [rV] at h <;> first | rfl | (obtain ⟨-, rfl⟩ := h; simp at ht) | (subst h; simp at ht)
def mI {sz : Nat} {k : Int32} {i : Int} (h : k.toInt = i) : rV sz (0, i) (.int k) := by simp [rV, h]
def mL {sz : Nat} {k : Int64} {i : Int} (h : k.toInt = i) : rV sz (1, i) (.long k) := by simp [rV, h]
theorem mR {sz : Nat} {a : Nat} {i : Int} (h : (a : Int) = sz + i) (h0 : 0 ≤ i) : rV sz (2, i) (.ref a) := by
  refine ⟨by omega, ?_⟩
  rw [show (a : Int) - sz = i by omega]
def rSt (sz : Nat) : List mV → List Value → Prop
  | [], [] => True
  | v :: S, x :: st => rV sz v x ∧ rSt sz S st
  | _, _ => False
theorem rSt_c {sz : Nat} {v : mV} {S : List mV} {st : List Value} (h : rSt sz (v :: S) st) : ∃ x r, st = x :: r ∧ rV sz v x ∧ rSt sz S r := by
  cases st with
  | nil => exact h.elim
  | cons x r => exact ⟨x, r, rfl, h.1, h.2⟩
def rLs (sz : Nat) (L : List mV) (ls : Array Slot) : Prop := ls.size = L.length ∧ lv_wf ls ∧ ∀ (i : Nat) (v : mV), L[i]? = some v → v.1 < 3 → ∃ x, ls[i]? = some (.val x) ∧ rV sz v x
/-- class numbers, slots, array class numbers -/
abbrev mD : Type := (Nat → ClassId) × (Nat → Nat → Nat) × (Nat → ClassId)
def rC (D : mD) (sz : Nat) (h : mH) (a : Nat) (H : Heap) : Prop := ∃ cell : Cell, H[sz + a]? = some cell ∧
  ((hK h a < 7 ∧ cell.vm = .none ∧ cell.cls = D.1 (hK h a) ∧ ∀ k, k < cNf (hK h a) → ∃ x, cell.slots[D.2.1 (hK h a) k]? = some x ∧ rV sz (fTg (hK h a) k, hF h a k) x) ∨
   (10 ≤ hK h a ∧ hK h a < 16 ∧ cell.vm = .none ∧ cell.cls = D.2.2 (hK h a) ∧ (cell.slots.size : Int) = hL h a ∧ ∀ i : Nat, i < cell.slots.size → ∃ x, cell.slots[i]? = some x ∧ rV sz (aTg (hK h a), hA h a i) x) ∨
   hK h a = 99)
def rH (D : mD) (sz : Nat) (h : mH) (H : Heap) : Prop := H.size = sz + hN h ∧ (∀ a : Nat, a < hN h → rC D sz h a H) ∧ ∀ a : Int, a < 0 ∨ (hN h : Int) ≤ a → hK h a = 98
def dTys (D : mD) : List (ClassId × FieldType) := [(D.2.2 10, .int), (D.2.2 11, .long), (D.2.2 12, .boolean), (D.2.2 13, .byte), (D.2.2 14, .object "BeatBench$Sheet"), (D.2.2 15, .array .long)]
def kD (D : mD) (s : State) : Prop := va_K (D.1, D.2.1) vwCl (dTys D) s ∧ va_AO "BeatBench$Sheet" s ∧ va_AOA .long s
theorem kD.moved {D : mD} {u U : State} (hvm : u.vm.Alike U.vm) (h : kD D u) : kD D U := ⟨h.1.moved hvm, h.2.1.moved hvm, h.2.2.moved hvm⟩
/-! arithmetic -/
theorem w32_i (x : Int32) : w32 x.toInt = x.toInt := by
  have h1 := Int32.toInt_lt x
  have h2 := Int32.le_toInt x
  unfold w32
  omega
theorem w64_i (x : Int64) : w64 x.toInt = x.toInt := by
  have h1 := Int64.toInt_lt x
  have h2 := Int64.le_toInt x
  unfold w64
  omega
theorem bmod32 (x : Int) : x.bmod (2 ^ 32) = w32 x := by
  have e : ((2 ^ 32 : Nat) : Int) = 4294967296 := by decide
  unfold w32 Int.bmod
  simp only [e]
  split <;> omega
theorem bmod64 (x : Int) : x.bmod (2 ^ 64) = w64 x := by
  have e : ((2 ^ 64 : Nat) : Int) = 18446744073709551616 := by decide
  unfold w64 Int.bmod
  simp only [e]
  split <;> omega
theorem o32 {x : Int32} {a : Int} (h : x.toInt = a) : Int32.ofInt a = x := by rw [← h]; exact Int32.ofInt_toInt x
theorem o64 {x : Int64} {a : Int} (h : x.toInt = a) : Int64.ofInt a = x := by rw [← h]; exact Int64.ofInt_toInt x
theorem t32 (a : Int) : (Int32.ofInt a).toInt = w32 a := by rw [Int32.toInt_ofInt]; exact bmod32 a
theorem t64 (a : Int) : (Int64.ofInt a).toInt = w64 a := by rw [Int64.toInt_ofInt]; exact bmod64 a
theorem add32 {x y : Int32} {a b : Int} (hx : x.toInt = a) (hy : y.toInt = b) : (x + y).toInt = w32 (a + b) := by rw [Int32.toInt_add, hx, hy]; exact bmod32 _
theorem sub32 {x y : Int32} {a b : Int} (hx : x.toInt = a) (hy : y.toInt = b) : (x - y).toInt = w32 (a - b) := by rw [Int32.toInt_sub, hx, hy]; exact bmod32 _
theorem mul32 {x y : Int32} {a b : Int} (hx : x.toInt = a) (hy : y.toInt = b) : (x * y).toInt = w32 (a * b) := by rw [Int32.toInt_mul, hx, hy]; exact bmod32 _
theorem div32 {x y : Int32} {a b : Int} (hx : x.toInt = a) (hy : y.toInt = b) : (x / y).toInt = w32 (a.tdiv b) := by rw [Int32.toInt_div, hx, hy]; exact bmod32 _
theorem neg32 {x : Int32} {a : Int} (hx : x.toInt = a) : (-x).toInt = w32 (-a) := by rw [Int32.toInt_neg, hx]; exact bmod32 _
theorem add64 {x y : Int64} {a b : Int} (hx : x.toInt = a) (hy : y.toInt = b) : (x + y).toInt = w64 (a + b) := by rw [Int64.toInt_add, hx, hy]; exact bmod64 _
theorem sub64 {x y : Int64} {a b : Int} (hx : x.toInt = a) (hy : y.toInt = b) : (x - y).toInt = w64 (a - b) := by rw [Int64.toInt_sub, hx, hy]; exact bmod64 _
theorem mul64 {x y : Int64} {a b : Int} (hx : x.toInt = a) (hy : y.toInt = b) : (x * y).toInt = w64 (a * b) := by rw [Int64.toInt_mul, hx, hy]; exact bmod64 _
theorem div64 {x y : Int64} {a b : Int} (hx : x.toInt = a) (hy : y.toInt = b) : (x / y).toInt = w64 (a.tdiv b) := by rw [Int64.toInt_div, hx, hy]; exact bmod64 _
theorem neg64 {x : Int64} {a : Int} (hx : x.toInt = a) : (-x).toInt = w64 (-a) := by rw [Int64.toInt_neg, hx]; exact bmod64 _
theorem rng32 (x : Int32) : -2147483648 ≤ x.toInt ∧ x.toInt < 2147483648 := ⟨by have := Int32.le_toInt x; omega, by have := Int32.toInt_lt x; omega⟩
theorem rng64 (x : Int64) : -9223372036854775808 ≤ x.toInt ∧ x.toInt < 9223372036854775808 := ⟨by have := Int64.le_toInt x; omega, by have := Int64.toInt_lt x; omega⟩
theorem w32_of {a : Int} (h1 : -2147483648 ≤ a) (h2 : a < 2147483648) : w32 a = a := by unfold w32; omega
theorem w64_of {a : Int} (h1 : -9223372036854775808 ≤ a) (h2 : a < 9223372036854775808) : w64 a = a := by unfold w64; omega
theorem w32_sub (a b : Int) : w32 (a - w32 b) = w32 (a - b) := by unfold w32; omega
theorem w32_add (a b : Int) : w32 (a + w32 b) = w32 (a + b) := by unfold w32; omega
theorem w64_sub (a b : Int) : w64 (a - w64 b) = w64 (a - b) := by unfold w64; omega
theorem w32_mul (a b : Int) : w32 (w32 a * b) = w32 (a * b) := by
  rw [← bmod32, ← bmod32, ← bmod32, Int.bmod_mul_bmod]
theorem w64_mul (a b : Int) : w64 (w64 a * b) = w64 (a * b) := by
  rw [← bmod64, ← bmod64, ← bmod64, Int.bmod_mul_bmod]
theorem tmod_rng {a b M : Int} (h : -M ≤ a ∧ a < M) : -M ≤ a.tmod b ∧ a.tmod b < M := by
  have h2 : (a.tmod b).natAbs ≤ a.natAbs := by rw [Int.natAbs_tmod]; exact Nat.mod_le _ _
  rcases Int.le_total 0 a with h0 | h0
  · have := Int.tmod_nonneg b h0
    omega
  · have h3 := Int.tmod_nonneg b (show 0 ≤ -a by omega)
    rw [Int.neg_tmod] at h3
    omega
theorem rem32 {x y : Int32} {a b : Int} (hx : x.toInt = a) (hy : y.toInt = b) : (x - x / y * y).toInt = a.tmod b := by
  rw [sub32 hx (mul32 (div32 hx hy) hy), w32_mul, w32_sub, show a - a.tdiv b * b = a.tmod b by rw [Int.tmod_def, Int.mul_comm]]
  have := tmod_rng (a := a) (b := b) (M := 2147483648) (by have := rng32 x; omega)
  exact w32_of this.1 this.2
theorem rem64 {x y : Int64} {a b : Int} (hx : x.toInt = a) (hy : y.toInt = b) : (x - x / y * y).toInt = a.tmod b := by
  rw [sub64 hx (mul64 (div64 hx hy) hy), w64_mul, w64_sub, show a - a.tdiv b * b = a.tmod b by rw [Int.tmod_def, Int.mul_comm]]
  have := tmod_rng (a := a) (b := b) (M := 9223372036854775808) (by have := rng64 x; omega)
  exact w64_of this.1 this.2
/-! what is told by the machine's own words -/
def kand (a b : Int) : Int := (Int32.ofInt a &&& Int32.ofInt b).toInt
def kor (a b : Int) : Int := (Int32.ofInt a ||| Int32.ofInt b).toInt
def kxor (a b : Int) : Int := (Int32.ofInt a ^^^ Int32.ofInt b).toInt
def qand (a b : Int) : Int := (Int64.ofInt a &&& Int64.ofInt b).toInt
def qor (a b : Int) : Int := (Int64.ofInt a ||| Int64.ofInt b).toInt
def qxor (a b : Int) : Int := (Int64.ofInt a ^^^ Int64.ofInt b).toInt
def cmpL (a b : Int) : Int := if b < a then 1 else if a = b then 0 else -1
theorem cmpL_of {x y : Int64} {a b : Int} (hx : x.toInt = a) (hy : y.toInt = b) : (lg_cmp x y).toInt = cmpL a b := by
  subst hx; subst hy
  unfold lg_cmp cmpL
  by_cases h1 : y.toInt < x.toInt
  · rw [if_pos h1, if_pos (Int64.lt_iff_toInt_lt.mpr h1)]; rfl
  · rw [if_neg h1, if_neg (fun q => h1 (Int64.lt_iff_toInt_lt.mp q))]
    by_cases h2 : x.toInt = y.toInt
    · rw [if_pos h2, if_pos (Int64.toInt_inj.mp h2)]; rfl
    · rw [if_neg h2, if_neg (fun q => h2 (by rw [q]))]; rfl
def kshl (a b : Int) : Int := (Int32.ofInt a <<< (Int32.ofInt b &&& 31)).toInt
def kshr (a b : Int) : Int := (Int32.ofInt a >>> (Int32.ofInt b &&& 31)).toInt
def kushr (a b : Int) : Int := ((Int32.ofInt a).toUInt32 >>> ((Int32.ofInt b).toUInt32 &&& Int32.toUInt32 31)).toInt32.toInt
def qshl (a b : Int) : Int := (Int64.ofInt a <<< ((Int32.ofInt b).toInt64 &&& 63)).toInt
def qshr (a b : Int) : Int := (Int64.ofInt a >>> ((Int32.ofInt b).toInt64 &&& 63)).toInt
def qushr (a b : Int) : Int := ((Int64.ofInt a).toUInt64 >>> ((Int32.ofInt b).toInt64.toUInt64 &&& Int64.toUInt64 63)).toInt64.toInt
end
section
/-! the words that hold at every method's entry -/
def tW : List Cond := lw_tbl.filter goodWord
def isNest : Cond → Bool
  | .fieldLinkNest .. => true
  | .methodLinkNest .. => true
  | _ => false
def nW : List Cond := lw_tbl.filter isNest
theorem tW_good : ∀ w ∈ tW, (w.onTables && w.keeps) = true ∨ ∃ ty, w = .arrayClass ty := fun w h => good_of_word (List.mem_filter.mp h).2
theorem tW_in {w : Cond} {i : Nat} (h : lw_tbl[i]? = some w) (hg : goodWord w = true) : w ∈ tW := List.mem_filter.mpr ⟨List.mem_of_getElem? h, hg⟩
theorem nW_in {w : Cond} {i : Nat} (h : lw_tbl[i]? = some w) (hg : isNest w = true) : w ∈ nW := List.mem_filter.mpr ⟨List.mem_of_getElem? h, hg⟩
theorem nW_warm {s U : State} (hW : s.WarmedH U.vm) (h : ∀ w ∈ nW, va_Nw w s) : ∀ w ∈ nW, va_Nw w U := by
  intro w hw
  have h1 := h w hw
  have h2 := (List.mem_filter.mp hw).2
  cases w <;> first | (simp [isNest] at h2; done) | exact h1.warmF hW | exact h1.warmM hW
/-- a method: name, code, how many locals, what it returns -/
abbrev mM : Type := MethodName × ByteArray × Nat × Option FieldType
def cX (M : mM) (d : Nat) (D : mD) (sz : Nat) (h0 : mH) (p : Program) (R : Room) (s : State) (m : MethodId) (args : Array Value) (meth : Method) (c : Code) : Prop :=
  p.tables.exec = Jvm.exec ∧ c.code = M.2.1 ∧ c.maxLocals = M.2.2.1 ∧ s.vm.findClass M.1.cls = some m.cls ∧ (∀ w ∈ tW, w.before args s = true) ∧ (∀ w ∈ nW, va_Nw w s) ∧ meth.sig.returnType = M.2.2.2 ∧ meth.locks = false ∧ meth.name = M.1.name ∧ d ≤ R.frames ∧ 34 * d ≤ R.locals ∧ kD D s ∧ s.heap.size = sz + hN h0
def rO (sz : Nat) (v : Option mV) (x : Option Value) : Prop := match v, x with
  | none, none => True
  | some v, some x => rV sz v x
  | _, _ => False
/-- a method's end: what it answers, the heap that it leaves, the old cells as they were -/
def qM (D : mD) (sz : Nat) (v : Option mV) (h : mH) : Array Value → State → Outcome → State → Prop := fun _ st o t =>
  (∃ x, o = .returned x ∧ rO sz v x) ∧ rH D sz h t.heap ∧ ∀ q : Nat, q < sz → t.heap[q]? = st.heap[q]?
/-- where a frame stands: the heap, its locals and stack, what was written, the old cells -/
def aX (M : mM) (D : mD) (sz : Nat) (h0 : mH) (s : State) (L S : List mV) (h : mH) (H : Heap) (locs : List Loc) (ls : Array Slot) (st : List Value) : Prop :=
  rH D sz h H ∧ rLs sz L ls ∧ rSt sz S st ∧ L.length = M.2.2.1 ∧ (∀ q ∈ locs, sz ≤ q.base) ∧ (∀ q : Nat, q < sz → H[q]? = s.heap[q]?) ∧ hN h0 ≤ hN h ∧ hZ h0 ≤ hZ h
def Rt (M : mM) (d pc : Nat) (L S : List mV) (h : mH) (v : Option mV) (h' : mH) : Prop :=
  (hN h ≤ hN h' ∧ hZ h ≤ hZ h') ∧ ∀ (D : mD) (sz : Nat) (h0 : mH) (p : Program) (l : Launch) (e : Env) (R : Room) (s : State) (m : MethodId) (args : Array Value) (below : List Frame) (meth : Method) (c : Code),
    cX M d D sz h0 p R s m args meth c → hN h' - hN h0 ≤ R.cells → hZ h' - hZ h0 ≤ R.slots → ∀ (H : Heap) (locs : List Loc) (ls : Array Slot) (st : List Value), aX M D sz h0 s L S h H locs ls st →
    W p l e R s m args below meth c H locs (hN h - hN h0) (hZ h - hZ h0) (MQ below (qM D sz v h') args s (hN h' - hN h0) (hZ h' - hZ h0) (fun q => sz ≤ q)) (F0 m pc ls st)
def Wp (M : mM) (d pc : Nat) (L S : List mV) (h : mH) (Q : Option mV → mH → Prop) : Prop := ∃ v h', Rt M d pc L S h v h' ∧ Q v h'
theorem Wp.mono {M : mM} {d pc : Nat} {L S : List mV} {h : mH} {Q Q' : Option mV → mH → Prop} (k : Wp M d pc L S h Q) (hq : ∀ v h', Q v h' → Q' v h') : Wp M d pc L S h Q' := by
  obtain ⟨v, h', f, q⟩ := k
  exact ⟨v, h', f, hq v h' q⟩
/-- a row that leaves the heap as it is: W at the next point gives W here -/
theorem Wp.step {M : mM} {d pc pc' : Nat} {L S L' S' : List mV} {h : mH} {Q : Option mV → mH → Prop} (k : Wp M d pc' L' S' h Q)
    (f : ∀ (D : mD) (sz : Nat) (h0 : mH) (p : Program) (l : Launch) (e : Env) (R : Room) (s : State) (m : MethodId) (args : Array Value) (below : List Frame) (meth : Method) (c : Code) (Qw : State → Prop),
      cX M d D sz h0 p R s m args meth c → ∀ (H : Heap) (locs : List Loc) (cells slots : Nat) (ls : Array Slot) (st : List Value), rLs sz L ls → rSt sz S st → L.length = M.2.2.1 → rH D sz h H →
      (∀ (ls' : Array Slot) (st' : List Value), rLs sz L' ls' → rSt sz S' st' → L'.length = M.2.2.1 → W p l e R s m args below meth c H locs cells slots Qw (F0 m pc' ls' st')) → W p l e R s m args below meth c H locs cells slots Qw (F0 m pc ls st)) : Wp M d pc L S h Q := by
  obtain ⟨v, h', ⟨hle, k⟩, q⟩ := k
  refine ⟨v, h', ⟨hle, ?_⟩, q⟩
  intro D sz h0 p l e R s m args below meth c C r1 r2 H locs ls st A
  obtain ⟨a1, a2, a3, a4, a5, a6, a7, a8⟩ := A
  exact f D sz h0 p l e R s m args below meth c _ C H locs _ _ ls st a2 a3 a4 a1 (fun ls' st' b2 b3 b4 => k D sz h0 p l e R s m args below meth c C r1 r2 H locs ls' st' ⟨a1, b2, b3, b4, a5, a6, a7, a8⟩)
end
section
section VMC
variable {M : mM} {d pc : Nat} {L S : List mV} {h : mH} {Q : Option mV → mH → Prop}
theorem Wp.iconst {n : Int} (hd : decode M.2.1 pc = .ok (.iconst n, 1)) (hr : w32 n = n) (k : Wp M d (pc + 1) L ((0, n) :: S) h Q) : Wp M d pc L S h Q := by
  refine k.step ?_
  intro D sz h0 p l e R s m args below meth c Qw C H locs cells slots ls st a2 a3 a4 a1 kk
  exact lv_iconst C.1 C.2.1 hd rfl (kk ls _ a2 ⟨mI ((t32 n).trans hr), a3⟩ a4)
theorem Wp.bipush {n : Int} (hd : decode M.2.1 pc = .ok (.bipush n, 2)) (hr : (Int8.ofInt n).toInt32.toInt = n) (k : Wp M d (pc + 2) L ((0, n) :: S) h Q) : Wp M d pc L S h Q := by
  refine k.step ?_
  intro D sz h0 p l e R s m args below meth c Qw C H locs cells slots ls st a2 a3 a4 a1 kk
  exact lv_bipush C.1 C.2.1 hd rfl (kk ls _ a2 ⟨mI hr, a3⟩ a4)
theorem Wp.sipush {n : Int} (hd : decode M.2.1 pc = .ok (.sipush n, 3)) (hr : (Int16.ofInt n).toInt32.toInt = n) (k : Wp M d (pc + 3) L ((0, n) :: S) h Q) : Wp M d pc L S h Q := by
  refine k.step ?_
  intro D sz h0 p l e R s m args below meth c Qw C H locs cells slots ls st a2 a3 a4 a1 kk
  exact lv_sipush C.1 C.2.1 hd rfl (kk ls _ a2 ⟨mI hr, a3⟩ a4)
theorem Wp.lconst {n : Fin 2} {z : Int} (hd : decode M.2.1 pc = .ok (.lconst n, 1)) (hr : (Int64.ofNat n).toInt = z) (k : Wp M d (pc + 1) L ((1, z) :: S) h Q) : Wp M d pc L S h Q := by
  refine k.step ?_
  intro D sz h0 p l e R s m args below meth c Qw C H locs cells slots ls st a2 a3 a4 a1 kk
  exact lv_lconst C.1 C.2.1 hd rfl (kk ls _ a2 ⟨mL hr, a3⟩ a4)
theorem Wp.null (hd : decode M.2.1 pc = .ok (.aconst_null, 1)) (k : Wp M d (pc + 1) L ((2, -1) :: S) h Q) : Wp M d pc L S h Q := by
  refine k.step ?_
  intro D sz h0 p l e R s m args below meth c Qw C H locs cells slots ls st a2 a3 a4 a1 kk
  exact lv_null C.1 C.2.1 hd (kk ls _ a2 ⟨rfl, a3⟩ a4)
theorem Wp.ldc {ix : Nat} {v : Int32} {z : Int} (hw : Cond.constant M.1.cls ix v ∈ tW) (hz : v.toInt = z) (hd : decode M.2.1 pc = .ok (.ldc ix, 2)) (k : Wp M d (pc + 2) L ((0, z) :: S) h Q) : Wp M d pc L S h Q := by
  refine k.step ?_
  intro D sz h0 p l e R s m args below meth c Qw C H locs cells slots ls st a2 a3 a4 a1 kk
  obtain ⟨hx, hb, -, ho, ht, -⟩ := C
  exact lv_ldc hx hb ho (ht _ hw) hd (kk ls _ a2 ⟨mI hz, a3⟩ a4)
theorem Wp.ldcw {ix : Nat} {v : Int32} {z : Int} (hw : Cond.constant M.1.cls ix v ∈ tW) (hz : v.toInt = z) (hd : decode M.2.1 pc = .ok (.ldc_w ix, 3)) (k : Wp M d (pc + 3) L ((0, z) :: S) h Q) : Wp M d pc L S h Q := by
  refine k.step ?_
  intro D sz h0 p l e R s m args below meth c Qw C H locs cells slots ls st a2 a3 a4 a1 kk
  obtain ⟨hx, hb, -, ho, ht, -⟩ := C
  exact lv_ldcw hx hb ho (ht _ hw) hd (kk ls _ a2 ⟨mI hz, a3⟩ a4)
theorem Wp.ldc2 {ix : Nat} {v : Int64} {z : Int} (hw : Cond.constantLong M.1.cls ix v ∈ tW) (hz : v.toInt = z) (hd : decode M.2.1 pc = .ok (.ldc2_w ix, 3)) (k : Wp M d (pc + 3) L ((1, z) :: S) h Q) : Wp M d pc L S h Q := by
  refine k.step ?_
  intro D sz h0 p l e R s m args below meth c Qw C H locs cells slots ls st a2 a3 a4 a1 kk
  obtain ⟨hx, hb, -, ho, ht, -⟩ := C
  exact lv_ldc2 hx hb ho (ht _ hw) hd (kk ls _ a2 ⟨mL hz, a3⟩ a4)
theorem Wp.ild_n {j : Fin 4} {x : Int} (hl : L[(j : Nat)]? = some (0, x)) (hd : decode M.2.1 pc = .ok (.iload_n j, 1)) (k : Wp M d (pc + 1) L ((0, x) :: S) h Q) : Wp M d pc L S h Q := by
  refine k.step ?_
  intro D sz h0 p l e R s m args below meth c Qw C H locs cells slots ls st a2 a3 a4 a1 kk
  obtain ⟨v, hv, q⟩ := a2.2.2 _ _ hl (show 0 < 3 by decide)
  obtain ⟨y, rfl, ey⟩ := rV_i q
  exact lv_iload_n C.1 C.2.1 hd rfl hv (kk ls _ a2 ⟨q, a3⟩ a4)
theorem Wp.ild {j : Nat} {x : Int} (hl : L[j]? = some (0, x)) (hd : decode M.2.1 pc = .ok (.iload j, 2)) (k : Wp M d (pc + 2) L ((0, x) :: S) h Q) : Wp M d pc L S h Q := by
  refine k.step ?_
  intro D sz h0 p l e R s m args below meth c Qw C H locs cells slots ls st a2 a3 a4 a1 kk
  obtain ⟨v, hv, q⟩ := a2.2.2 _ _ hl (show 0 < 3 by decide)
  obtain ⟨y, rfl, ey⟩ := rV_i q
  exact lv_iload C.1 C.2.1 hd hv (kk ls _ a2 ⟨q, a3⟩ a4)
theorem Wp.lld_n {j : Fin 4} {x : Int} (hl : L[(j : Nat)]? = some (1, x)) (hd : decode M.2.1 pc = .ok (.lload_n j, 1)) (k : Wp M d (pc + 1) L ((1, x) :: S) h Q) : Wp M d pc L S h Q := by
  refine k.step ?_
  intro D sz h0 p l e R s m args below meth c Qw C H locs cells slots ls st a2 a3 a4 a1 kk
  obtain ⟨v, hv, q⟩ := a2.2.2 _ _ hl (show 1 < 3 by decide)
  obtain ⟨y, rfl, ey⟩ := rV_l q
  exact lv_lload_n C.1 C.2.1 hd rfl hv (kk ls _ a2 ⟨q, a3⟩ a4)
theorem Wp.lld {j : Nat} {x : Int} (hl : L[j]? = some (1, x)) (hd : decode M.2.1 pc = .ok (.lload j, 2)) (k : Wp M d (pc + 2) L ((1, x) :: S) h Q) : Wp M d pc L S h Q := by
  refine k.step ?_
  intro D sz h0 p l e R s m args below meth c Qw C H locs cells slots ls st a2 a3 a4 a1 kk
  obtain ⟨v, hv, q⟩ := a2.2.2 _ _ hl (show 1 < 3 by decide)
  obtain ⟨y, rfl, ey⟩ := rV_l q
  exact lv_lload C.1 C.2.1 hd hv (kk ls _ a2 ⟨q, a3⟩ a4)
theorem Wp.ald_n {j : Fin 4} {x : Int} (hl : L[(j : Nat)]? = some (2, x)) (hd : decode M.2.1 pc = .ok (.aload_n j, 1)) (k : Wp M d (pc + 1) L ((2, x) :: S) h Q) : Wp M d pc L S h Q := by
  refine k.step ?_
  intro D sz h0 p l e R s m args below meth c Qw C H locs cells slots ls st a2 a3 a4 a1 kk
  obtain ⟨v, hv, q⟩ := a2.2.2 _ _ hl (show 2 < 3 by decide)
  rcases rV_r q with ⟨-, rfl⟩ | ⟨-, rfl⟩
  · exact lv_aload_nN C.1 C.2.1 hd rfl hv (kk ls _ a2 ⟨q, a3⟩ a4)
  · exact lv_aload_n C.1 C.2.1 hd rfl hv (kk ls _ a2 ⟨q, a3⟩ a4)
theorem Wp.ald {j : Nat} {x : Int} (hl : L[j]? = some (2, x)) (hd : decode M.2.1 pc = .ok (.aload j, 2)) (k : Wp M d (pc + 2) L ((2, x) :: S) h Q) : Wp M d pc L S h Q := by
  refine k.step ?_
  intro D sz h0 p l e R s m args below meth c Qw C H locs cells slots ls st a2 a3 a4 a1 kk
  obtain ⟨v, hv, q⟩ := a2.2.2 _ _ hl (show 2 < 3 by decide)
  rcases rV_r q with ⟨-, rfl⟩ | ⟨-, rfl⟩
  · exact lv_aloadN C.1 C.2.1 hd hv (kk ls _ a2 ⟨q, a3⟩ a4)
  · exact lv_aload C.1 C.2.1 hd hv (kk ls _ a2 ⟨q, a3⟩ a4)
theorem Wp.iadd {a b : Int} (hd : decode M.2.1 pc = .ok (.iadd, 1)) (k : Wp M d (pc + 1) L ((0, w32 (a + b)) :: S) h Q) : Wp M d pc L ((0, b) :: (0, a) :: S) h Q := by
  refine k.step ?_
  intro D sz h0 p l e R s m args below meth c Qw C H locs cells slots ls st a2 a3 a4 a1 kk
  obtain ⟨_, r0, rfl, q0, b0⟩ := rSt_c a3
  obtain ⟨x0, rfl, e0⟩ := rV_i q0
  obtain ⟨_, r1, rfl, q1, b1⟩ := rSt_c b0
  obtain ⟨x1, rfl, e1⟩ := rV_i q1
  exact lv_iadd C.1 C.2.1 hd (kk ls _ a2 ⟨mI (add32 e1 e0), b1⟩ a4)
theorem Wp.isub {a b : Int} (hd : decode M.2.1 pc = .ok (.isub, 1)) (k : Wp M d (pc + 1) L ((0, w32 (a - b)) :: S) h Q) : Wp M d pc L ((0, b) :: (0, a) :: S) h Q := by
  refine k.step ?_
  intro D sz h0 p l e R s m args below meth c Qw C H locs cells slots ls st a2 a3 a4 a1 kk
  obtain ⟨_, r0, rfl, q0, b0⟩ := rSt_c a3
  obtain ⟨x0, rfl, e0⟩ := rV_i q0
  obtain ⟨_, r1, rfl, q1, b1⟩ := rSt_c b0
  obtain ⟨x1, rfl, e1⟩ := rV_i q1
  exact lv_isub C.1 C.2.1 hd (kk ls _ a2 ⟨mI (sub32 e1 e0), b1⟩ a4)
theorem Wp.imul {a b : Int} (hd : decode M.2.1 pc = .ok (.imul, 1)) (k : Wp M d (pc + 1) L ((0, w32 (a * b)) :: S) h Q) : Wp M d pc L ((0, b) :: (0, a) :: S) h Q := by
  refine k.step ?_
  intro D sz h0 p l e R s m args below meth c Qw C H locs cells slots ls st a2 a3 a4 a1 kk
  obtain ⟨_, r0, rfl, q0, b0⟩ := rSt_c a3
  obtain ⟨x0, rfl, e0⟩ := rV_i q0
  obtain ⟨_, r1, rfl, q1, b1⟩ := rSt_c b0
  obtain ⟨x1, rfl, e1⟩ := rV_i q1
  exact lv_imul C.1 C.2.1 hd (kk ls _ a2 ⟨mI (mul32 e1 e0), b1⟩ a4)
theorem Wp.ladd {a b : Int} (hd : decode M.2.1 pc = .ok (.ladd, 1)) (k : Wp M d (pc + 1) L ((1, w64 (a + b)) :: S) h Q) : Wp M d pc L ((1, b) :: (1, a) :: S) h Q := by
  refine k.step ?_
  intro D sz h0 p l e R s m args below meth c Qw C H locs cells slots ls st a2 a3 a4 a1 kk
  obtain ⟨_, r0, rfl, q0, b0⟩ := rSt_c a3
  obtain ⟨x0, rfl, e0⟩ := rV_l q0
  obtain ⟨_, r1, rfl, q1, b1⟩ := rSt_c b0
  obtain ⟨x1, rfl, e1⟩ := rV_l q1
  exact lv_ladd C.1 C.2.1 hd (kk ls _ a2 ⟨mL (add64 e1 e0), b1⟩ a4)
theorem Wp.lsub {a b : Int} (hd : decode M.2.1 pc = .ok (.lsub, 1)) (k : Wp M d (pc + 1) L ((1, w64 (a - b)) :: S) h Q) : Wp M d pc L ((1, b) :: (1, a) :: S) h Q := by
  refine k.step ?_
  intro D sz h0 p l e R s m args below meth c Qw C H locs cells slots ls st a2 a3 a4 a1 kk
  obtain ⟨_, r0, rfl, q0, b0⟩ := rSt_c a3
  obtain ⟨x0, rfl, e0⟩ := rV_l q0
  obtain ⟨_, r1, rfl, q1, b1⟩ := rSt_c b0
  obtain ⟨x1, rfl, e1⟩ := rV_l q1
  exact lv_lsub C.1 C.2.1 hd (kk ls _ a2 ⟨mL (sub64 e1 e0), b1⟩ a4)
theorem Wp.lmul {a b : Int} (hd : decode M.2.1 pc = .ok (.lmul, 1)) (k : Wp M d (pc + 1) L ((1, w64 (a * b)) :: S) h Q) : Wp M d pc L ((1, b) :: (1, a) :: S) h Q := by
  refine k.step ?_
  intro D sz h0 p l e R s m args below meth c Qw C H locs cells slots ls st a2 a3 a4 a1 kk
  obtain ⟨_, r0, rfl, q0, b0⟩ := rSt_c a3
  obtain ⟨x0, rfl, e0⟩ := rV_l q0
  obtain ⟨_, r1, rfl, q1, b1⟩ := rSt_c b0
  obtain ⟨x1, rfl, e1⟩ := rV_l q1
  exact lv_lmul C.1 C.2.1 hd (kk ls _ a2 ⟨mL (mul64 e1 e0), b1⟩ a4)
theorem Wp.idiv {a b : Int} (hd : decode M.2.1 pc = .ok (.idiv, 1)) (hne : b ≠ 0) (k : Wp M d (pc + 1) L ((0, w32 (a.tdiv b)) :: S) h Q) : Wp M d pc L ((0, b) :: (0, a) :: S) h Q := by
  refine k.step ?_
  intro D sz h0 p l e R s m args below meth c Qw C H locs cells slots ls st a2 a3 a4 a1 kk
  obtain ⟨_, r0, rfl, q0, b0⟩ := rSt_c a3
  obtain ⟨x0, rfl, e0⟩ := rV_i q0
  obtain ⟨_, r1, rfl, q1, b1⟩ := rSt_c b0
  obtain ⟨x1, rfl, e1⟩ := rV_i q1
  have hz : ¬ x0 = 0 := fun q => hne (by rw [← e0, q]; rfl)
  exact lv_idiv C.1 C.2.1 hd hz (kk ls _ a2 ⟨mI (div32 e1 e0), b1⟩ a4)
theorem Wp.irem {a b : Int} (hd : decode M.2.1 pc = .ok (.irem, 1)) (hne : b ≠ 0) (k : Wp M d (pc + 1) L ((0, a.tmod b) :: S) h Q) : Wp M d pc L ((0, b) :: (0, a) :: S) h Q := by
  refine k.step ?_
  intro D sz h0 p l e R s m args below meth c Qw C H locs cells slots ls st a2 a3 a4 a1 kk
  obtain ⟨_, r0, rfl, q0, b0⟩ := rSt_c a3
  obtain ⟨x0, rfl, e0⟩ := rV_i q0
  obtain ⟨_, r1, rfl, q1, b1⟩ := rSt_c b0
  obtain ⟨x1, rfl, e1⟩ := rV_i q1
  have hz : ¬ x0 = 0 := fun q => hne (by rw [← e0, q]; rfl)
  exact lv_irem C.1 C.2.1 hd hz (kk ls _ a2 ⟨mI (rem32 e1 e0), b1⟩ a4)
theorem Wp.ldiv {a b : Int} (hd : decode M.2.1 pc = .ok (.ldiv, 1)) (hne : b ≠ 0) (k : Wp M d (pc + 1) L ((1, w64 (a.tdiv b)) :: S) h Q) : Wp M d pc L ((1, b) :: (1, a) :: S) h Q := by
  refine k.step ?_
  intro D sz h0 p l e R s m args below meth c Qw C H locs cells slots ls st a2 a3 a4 a1 kk
  obtain ⟨_, r0, rfl, q0, b0⟩ := rSt_c a3
  obtain ⟨x0, rfl, e0⟩ := rV_l q0
  obtain ⟨_, r1, rfl, q1, b1⟩ := rSt_c b0
  obtain ⟨x1, rfl, e1⟩ := rV_l q1
  have hz : ¬ x0 = 0 := fun q => hne (by rw [← e0, q]; rfl)
  exact lv_ldiv C.1 C.2.1 hd hz (kk ls _ a2 ⟨mL (div64 e1 e0), b1⟩ a4)
theorem Wp.lrem {a b : Int} (hd : decode M.2.1 pc = .ok (.lrem, 1)) (hne : b ≠ 0) (k : Wp M d (pc + 1) L ((1, a.tmod b) :: S) h Q) : Wp M d pc L ((1, b) :: (1, a) :: S) h Q := by
  refine k.step ?_
  intro D sz h0 p l e R s m args below meth c Qw C H locs cells slots ls st a2 a3 a4 a1 kk
  obtain ⟨_, r0, rfl, q0, b0⟩ := rSt_c a3
  obtain ⟨x0, rfl, e0⟩ := rV_l q0
  obtain ⟨_, r1, rfl, q1, b1⟩ := rSt_c b0
  obtain ⟨x1, rfl, e1⟩ := rV_l q1
  have hz : ¬ x0 = 0 := fun q => hne (by rw [← e0, q]; rfl)
  exact lv_lrem C.1 C.2.1 hd hz (kk ls _ a2 ⟨mL (rem64 e1 e0), b1⟩ a4)
theorem Wp.iand {a b : Int} (hd : decode M.2.1 pc = .ok (.iand, 1)) (k : Wp M d (pc + 1) L ((0, kand a b) :: S) h Q) : Wp M d pc L ((0, b) :: (0, a) :: S) h Q := by
  refine k.step ?_
  intro D sz h0 p l e R s m args below meth c Qw C H locs cells slots ls st a2 a3 a4 a1 kk
  obtain ⟨_, r0, rfl, q0, b0⟩ := rSt_c a3
  obtain ⟨x0, rfl, e0⟩ := rV_i q0
  obtain ⟨_, r1, rfl, q1, b1⟩ := rSt_c b0
  obtain ⟨x1, rfl, e1⟩ := rV_i q1
  exact lv_iand C.1 C.2.1 hd (kk ls _ a2 ⟨mI (by unfold kand; rw [o32 e1, o32 e0]), b1⟩ a4)
theorem Wp.ior {a b : Int} (hd : decode M.2.1 pc = .ok (.ior, 1)) (k : Wp M d (pc + 1) L ((0, kor a b) :: S) h Q) : Wp M d pc L ((0, b) :: (0, a) :: S) h Q := by
  refine k.step ?_
  intro D sz h0 p l e R s m args below meth c Qw C H locs cells slots ls st a2 a3 a4 a1 kk
  obtain ⟨_, r0, rfl, q0, b0⟩ := rSt_c a3
  obtain ⟨x0, rfl, e0⟩ := rV_i q0
  obtain ⟨_, r1, rfl, q1, b1⟩ := rSt_c b0
  obtain ⟨x1, rfl, e1⟩ := rV_i q1
  exact lv_ior C.1 C.2.1 hd (kk ls _ a2 ⟨mI (by unfold kor; rw [o32 e1, o32 e0]), b1⟩ a4)
theorem Wp.ixor {a b : Int} (hd : decode M.2.1 pc = .ok (.ixor, 1)) (k : Wp M d (pc + 1) L ((0, kxor a b) :: S) h Q) : Wp M d pc L ((0, b) :: (0, a) :: S) h Q := by
  refine k.step ?_
  intro D sz h0 p l e R s m args below meth c Qw C H locs cells slots ls st a2 a3 a4 a1 kk
  obtain ⟨_, r0, rfl, q0, b0⟩ := rSt_c a3
  obtain ⟨x0, rfl, e0⟩ := rV_i q0
  obtain ⟨_, r1, rfl, q1, b1⟩ := rSt_c b0
  obtain ⟨x1, rfl, e1⟩ := rV_i q1
  exact lv_ixor C.1 C.2.1 hd (kk ls _ a2 ⟨mI (by unfold kxor; rw [o32 e1, o32 e0]), b1⟩ a4)
theorem Wp.land {a b : Int} (hd : decode M.2.1 pc = .ok (.land, 1)) (k : Wp M d (pc + 1) L ((1, qand a b) :: S) h Q) : Wp M d pc L ((1, b) :: (1, a) :: S) h Q := by
  refine k.step ?_
  intro D sz h0 p l e R s m args below meth c Qw C H locs cells slots ls st a2 a3 a4 a1 kk
  obtain ⟨_, r0, rfl, q0, b0⟩ := rSt_c a3
  obtain ⟨x0, rfl, e0⟩ := rV_l q0
  obtain ⟨_, r1, rfl, q1, b1⟩ := rSt_c b0
  obtain ⟨x1, rfl, e1⟩ := rV_l q1
  exact lv_land C.1 C.2.1 hd (kk ls _ a2 ⟨mL (by unfold qand; rw [o64 e1, o64 e0]), b1⟩ a4)
theorem Wp.lor {a b : Int} (hd : decode M.2.1 pc = .ok (.lor, 1)) (k : Wp M d (pc + 1) L ((1, qor a b) :: S) h Q) : Wp M d pc L ((1, b) :: (1, a) :: S) h Q := by
  refine k.step ?_
  intro D sz h0 p l e R s m args below meth c Qw C H locs cells slots ls st a2 a3 a4 a1 kk
  obtain ⟨_, r0, rfl, q0, b0⟩ := rSt_c a3
  obtain ⟨x0, rfl, e0⟩ := rV_l q0
  obtain ⟨_, r1, rfl, q1, b1⟩ := rSt_c b0
  obtain ⟨x1, rfl, e1⟩ := rV_l q1
  exact lv_lor C.1 C.2.1 hd (kk ls _ a2 ⟨mL (by unfold qor; rw [o64 e1, o64 e0]), b1⟩ a4)
theorem Wp.lxor {a b : Int} (hd : decode M.2.1 pc = .ok (.lxor, 1)) (k : Wp M d (pc + 1) L ((1, qxor a b) :: S) h Q) : Wp M d pc L ((1, b) :: (1, a) :: S) h Q := by
  refine k.step ?_
  intro D sz h0 p l e R s m args below meth c Qw C H locs cells slots ls st a2 a3 a4 a1 kk
  obtain ⟨_, r0, rfl, q0, b0⟩ := rSt_c a3
  obtain ⟨x0, rfl, e0⟩ := rV_l q0
  obtain ⟨_, r1, rfl, q1, b1⟩ := rSt_c b0
  obtain ⟨x1, rfl, e1⟩ := rV_l q1
  exact lv_lxor C.1 C.2.1 hd (kk ls _ a2 ⟨mL (by unfold qxor; rw [o64 e1, o64 e0]), b1⟩ a4)
theorem Wp.ishl {a b : Int} (hd : decode M.2.1 pc = .ok (.ishl, 1)) (k : Wp M d (pc + 1) L ((0, kshl a b) :: S) h Q) : Wp M d pc L ((0, b) :: (0, a) :: S) h Q := by
  refine k.step ?_
  intro D sz h0 p l e R s m args below meth c Qw C H locs cells slots ls st a2 a3 a4 a1 kk
  obtain ⟨_, r0, rfl, q0, b0⟩ := rSt_c a3
  obtain ⟨x0, rfl, e0⟩ := rV_i q0
  obtain ⟨_, r1, rfl, q1, b1⟩ := rSt_c b0
  obtain ⟨x1, rfl, e1⟩ := rV_i q1
  exact lv_ishl C.1 C.2.1 hd (kk ls _ a2 ⟨mI (by unfold kshl; rw [o32 e1, o32 e0]), b1⟩ a4)
theorem Wp.ishr {a b : Int} (hd : decode M.2.1 pc = .ok (.ishr, 1)) (k : Wp M d (pc + 1) L ((0, kshr a b) :: S) h Q) : Wp M d pc L ((0, b) :: (0, a) :: S) h Q := by
  refine k.step ?_
  intro D sz h0 p l e R s m args below meth c Qw C H locs cells slots ls st a2 a3 a4 a1 kk
  obtain ⟨_, r0, rfl, q0, b0⟩ := rSt_c a3
  obtain ⟨x0, rfl, e0⟩ := rV_i q0
  obtain ⟨_, r1, rfl, q1, b1⟩ := rSt_c b0
  obtain ⟨x1, rfl, e1⟩ := rV_i q1
  exact lv_ishr C.1 C.2.1 hd (kk ls _ a2 ⟨mI (by unfold kshr; rw [o32 e1, o32 e0]), b1⟩ a4)
theorem Wp.iushr {a b : Int} (hd : decode M.2.1 pc = .ok (.iushr, 1)) (k : Wp M d (pc + 1) L ((0, kushr a b) :: S) h Q) : Wp M d pc L ((0, b) :: (0, a) :: S) h Q := by
  refine k.step ?_
  intro D sz h0 p l e R s m args below meth c Qw C H locs cells slots ls st a2 a3 a4 a1 kk
  obtain ⟨_, r0, rfl, q0, b0⟩ := rSt_c a3
  obtain ⟨x0, rfl, e0⟩ := rV_i q0
  obtain ⟨_, r1, rfl, q1, b1⟩ := rSt_c b0
  obtain ⟨x1, rfl, e1⟩ := rV_i q1
  exact lv_iushr C.1 C.2.1 hd rfl (kk ls _ a2 ⟨mI (by unfold kushr; rw [o32 e1, o32 e0]), b1⟩ a4)
theorem Wp.lshl {a b : Int} (hd : decode M.2.1 pc = .ok (.lshl, 1)) (k : Wp M d (pc + 1) L ((1, qshl a b) :: S) h Q) : Wp M d pc L ((0, b) :: (1, a) :: S) h Q := by
  refine k.step ?_
  intro D sz h0 p l e R s m args below meth c Qw C H locs cells slots ls st a2 a3 a4 a1 kk
  obtain ⟨_, r0, rfl, q0, b0⟩ := rSt_c a3
  obtain ⟨x0, rfl, e0⟩ := rV_i q0
  obtain ⟨_, r1, rfl, q1, b1⟩ := rSt_c b0
  obtain ⟨x1, rfl, e1⟩ := rV_l q1
  exact lv_lshl C.1 C.2.1 hd rfl (kk ls _ a2 ⟨mL (by unfold qshl; rw [o64 e1, o32 e0]), b1⟩ a4)
theorem Wp.lshr {a b : Int} (hd : decode M.2.1 pc = .ok (.lshr, 1)) (k : Wp M d (pc + 1) L ((1, qshr a b) :: S) h Q) : Wp M d pc L ((0, b) :: (1, a) :: S) h Q := by
  refine k.step ?_
  intro D sz h0 p l e R s m args below meth c Qw C H locs cells slots ls st a2 a3 a4 a1 kk
  obtain ⟨_, r0, rfl, q0, b0⟩ := rSt_c a3
  obtain ⟨x0, rfl, e0⟩ := rV_i q0
  obtain ⟨_, r1, rfl, q1, b1⟩ := rSt_c b0
  obtain ⟨x1, rfl, e1⟩ := rV_l q1
  exact lv_lshr C.1 C.2.1 hd rfl (kk ls _ a2 ⟨mL (by unfold qshr; rw [o64 e1, o32 e0]), b1⟩ a4)
theorem Wp.lushr {a b : Int} (hd : decode M.2.1 pc = .ok (.lushr, 1)) (k : Wp M d (pc + 1) L ((1, qushr a b) :: S) h Q) : Wp M d pc L ((0, b) :: (1, a) :: S) h Q := by
  refine k.step ?_
  intro D sz h0 p l e R s m args below meth c Qw C H locs cells slots ls st a2 a3 a4 a1 kk
  obtain ⟨_, r0, rfl, q0, b0⟩ := rSt_c a3
  obtain ⟨x0, rfl, e0⟩ := rV_i q0
  obtain ⟨_, r1, rfl, q1, b1⟩ := rSt_c b0
  obtain ⟨x1, rfl, e1⟩ := rV_l q1
  exact lv_lushr C.1 C.2.1 hd rfl (kk ls _ a2 ⟨mL (by unfold qushr; rw [o64 e1, o32 e0]), b1⟩ a4)
theorem Wp.lcmp {a b : Int} (hd : decode M.2.1 pc = .ok (.lcmp, 1)) (k : Wp M d (pc + 1) L ((0, cmpL a b) :: S) h Q) : Wp M d pc L ((1, b) :: (1, a) :: S) h Q := by
  refine k.step ?_
  intro D sz h0 p l e R s m args below meth c Qw C H locs cells slots ls st a2 a3 a4 a1 kk
  obtain ⟨_, r0, rfl, q0, b0⟩ := rSt_c a3
  obtain ⟨x0, rfl, e0⟩ := rV_l q0
  obtain ⟨_, r1, rfl, q1, b1⟩ := rSt_c b0
  obtain ⟨x1, rfl, e1⟩ := rV_l q1
  exact W.lcmp C.1 C.2.1 hd (kk ls _ a2 ⟨mI (cmpL_of e1 e0), b1⟩ a4)
theorem Wp.ineg {a : Int} (hd : decode M.2.1 pc = .ok (.ineg, 1)) (k : Wp M d (pc + 1) L ((0, w32 (-a)) :: S) h Q) : Wp M d pc L ((0, a) :: S) h Q := by
  refine k.step ?_
  intro D sz h0 p l e R s m args below meth c Qw C H locs cells slots ls st a2 a3 a4 a1 kk
  obtain ⟨_, r0, rfl, q0, b0⟩ := rSt_c a3
  obtain ⟨x0, rfl, e0⟩ := rV_i q0
  exact lv_ineg C.1 C.2.1 hd (kk ls _ a2 ⟨mI (neg32 e0), b0⟩ a4)
theorem Wp.lneg {a : Int} (hd : decode M.2.1 pc = .ok (.lneg, 1)) (k : Wp M d (pc + 1) L ((1, w64 (-a)) :: S) h Q) : Wp M d pc L ((1, a) :: S) h Q := by
  refine k.step ?_
  intro D sz h0 p l e R s m args below meth c Qw C H locs cells slots ls st a2 a3 a4 a1 kk
  obtain ⟨_, r0, rfl, q0, b0⟩ := rSt_c a3
  obtain ⟨x0, rfl, e0⟩ := rV_l q0
  exact lv_lneg C.1 C.2.1 hd (kk ls _ a2 ⟨mL (neg64 e0), b0⟩ a4)
theorem Wp.i2l {a : Int} (hd : decode M.2.1 pc = .ok (.i2l, 1)) (k : Wp M d (pc + 1) L ((1, a) :: S) h Q) : Wp M d pc L ((0, a) :: S) h Q := by
  refine k.step ?_
  intro D sz h0 p l e R s m args below meth c Qw C H locs cells slots ls st a2 a3 a4 a1 kk
  obtain ⟨_, r0, rfl, q0, b0⟩ := rSt_c a3
  obtain ⟨x0, rfl, e0⟩ := rV_i q0
  exact lv_i2l C.1 C.2.1 hd rfl (kk ls _ a2 ⟨mL (by rw [Int32.toInt_toInt64]; exact e0), b0⟩ a4)
theorem Wp.l2i {a : Int} (hd : decode M.2.1 pc = .ok (.l2i, 1)) (k : Wp M d (pc + 1) L ((0, w32 a) :: S) h Q) : Wp M d pc L ((1, a) :: S) h Q := by
  refine k.step ?_
  intro D sz h0 p l e R s m args below meth c Qw C H locs cells slots ls st a2 a3 a4 a1 kk
  obtain ⟨_, r0, rfl, q0, b0⟩ := rSt_c a3
  obtain ⟨x0, rfl, e0⟩ := rV_l q0
  exact lv_l2i C.1 C.2.1 hd rfl (kk ls _ a2 ⟨mI (by rw [Int64.toInt_toInt32, e0]; exact bmod32 a), b0⟩ a4)
theorem Wp.i2b {a : Int} (hd : decode M.2.1 pc = .ok (.i2b, 1)) (k : Wp M d (pc + 1) L ((0, a.bmod 256) :: S) h Q) : Wp M d pc L ((0, a) :: S) h Q := by
  refine k.step ?_
  intro D sz h0 p l e R s m args below meth c Qw C H locs cells slots ls st a2 a3 a4 a1 kk
  obtain ⟨_, r0, rfl, q0, b0⟩ := rSt_c a3
  obtain ⟨x0, rfl, e0⟩ := rV_i q0
  exact lv_i2b C.1 C.2.1 hd rfl (kk ls _ a2 ⟨mI (by rw [lg_i2b_toInt, e0]), b0⟩ a4)
theorem Wp.i2s {a : Int} (hd : decode M.2.1 pc = .ok (.i2s, 1)) (k : Wp M d (pc + 1) L ((0, a.bmod 65536) :: S) h Q) : Wp M d pc L ((0, a) :: S) h Q := by
  refine k.step ?_
  intro D sz h0 p l e R s m args below meth c Qw C H locs cells slots ls st a2 a3 a4 a1 kk
  obtain ⟨_, r0, rfl, q0, b0⟩ := rSt_c a3
  obtain ⟨x0, rfl, e0⟩ := rV_i q0
  exact lv_i2s C.1 C.2.1 hd rfl (kk ls _ a2 ⟨mI (by rw [lg_i2s_toInt, e0]), b0⟩ a4)
theorem Wp.dup {v : mV} (hd : decode M.2.1 pc = .ok (.dup, 1)) (ht : v.1 = 0 ∨ v.1 = 2) (k : Wp M d (pc + 1) L (v :: v :: S) h Q) : Wp M d pc L (v :: S) h Q := by
  refine k.step ?_
  intro D sz h0 p l e R s m args below meth c Qw C H locs cells slots ls st a2 a3 a4 a1 kk
  obtain ⟨x, r, rfl, q, b0⟩ := rSt_c a3
  exact lv_dup C.1 C.2.1 hd (rV_cat1 q ht) (kk ls _ a2 ⟨q, q, b0⟩ a4)
theorem Wp.pop {v : mV} (hd : decode M.2.1 pc = .ok (.pop, 1)) (ht : v.1 = 0 ∨ v.1 = 2) (k : Wp M d (pc + 1) L S h Q) : Wp M d pc L (v :: S) h Q := by
  refine k.step ?_
  intro D sz h0 p l e R s m args below meth c Qw C H locs cells slots ls st a2 a3 a4 a1 kk
  obtain ⟨x, r, rfl, q, b0⟩ := rSt_c a3
  exact lv_pop C.1 C.2.1 hd (rV_cat1 q ht) (kk ls _ a2 b0 a4)
theorem Wp.pop2 {v : mV} (hd : decode M.2.1 pc = .ok (.pop2, 1)) (ht : v.1 = 1) (k : Wp M d (pc + 1) L S h Q) : Wp M d pc L (v :: S) h Q := by
  refine k.step ?_
  intro D sz h0 p l e R s m args below meth c Qw C H locs cells slots ls st a2 a3 a4 a1 kk
  obtain ⟨x, r, rfl, q, b0⟩ := rSt_c a3
  exact lv_pop2_2 C.1 C.2.1 hd (rV_cat2 q ht) (kk ls _ a2 b0 a4)
theorem Wp.dup2 {v u : mV} (hd : decode M.2.1 pc = .ok (.dup2, 1)) (ht : v.1 = 0 ∨ v.1 = 2) (hu : u.1 = 0 ∨ u.1 = 2) (k : Wp M d (pc + 1) L (v :: u :: v :: u :: S) h Q) : Wp M d pc L (v :: u :: S) h Q := by
  refine k.step ?_
  intro D sz h0 p l e R s m args below meth c Qw C H locs cells slots ls st a2 a3 a4 a1 kk
  obtain ⟨x, r, rfl, q, b0⟩ := rSt_c a3
  obtain ⟨y, r2, rfl, q2, b1⟩ := rSt_c b0
  exact lv_dup2_11 C.1 C.2.1 hd (rV_cat1 q ht) (rV_cat1 q2 hu) (kk ls _ a2 ⟨q, q2, q, q2, b1⟩ a4)
theorem Wp.dup2L {v : mV} (hd : decode M.2.1 pc = .ok (.dup2, 1)) (ht : v.1 = 1) (k : Wp M d (pc + 1) L (v :: v :: S) h Q) : Wp M d pc L (v :: S) h Q := by
  refine k.step ?_
  intro D sz h0 p l e R s m args below meth c Qw C H locs cells slots ls st a2 a3 a4 a1 kk
  obtain ⟨x, r, rfl, q, b0⟩ := rSt_c a3
  exact lv_dup2_2 C.1 C.2.1 hd (rV_cat2 q ht) (kk ls _ a2 ⟨q, q, b0⟩ a4)
theorem Wp.iceq {a b : Int} {off : Int} {tgt : Nat} (hd : decode M.2.1 pc = .ok (.if_icmp .eq off, 3)) (ht : (pc : Int) + off = (tgt : Int)) (kt : a = b → Wp M d tgt L S h Q) (kf : ¬ a = b → Wp M d (pc + 3) L S h Q) : Wp M d pc L ((0, b) :: (0, a) :: S) h Q := by
  by_cases hc : a = b
  · refine (kt hc).step ?_
    intro D sz h0 p l e R s m args below meth c Qw C H locs cells slots ls st a2 a3 a4 a1 kk
    obtain ⟨_, r0, rfl, q0, b0⟩ := rSt_c a3
    obtain ⟨x0, rfl, e0⟩ := rV_i q0
    obtain ⟨_, r1, rfl, q1, b1⟩ := rSt_c b0
    obtain ⟨x1, rfl, e1⟩ := rV_i q1
    have hq : a = b ↔ x1 = x0 := by rw [← e1, ← e0]; exact Int32.toInt_inj
    exact lv_icmp_eq C.1 C.2.1 hd ht (fun _ => kk ls _ a2 b1 a4) (fun z => absurd (hq.mp hc) z)
  · refine (kf hc).step ?_
    intro D sz h0 p l e R s m args below meth c Qw C H locs cells slots ls st a2 a3 a4 a1 kk
    obtain ⟨_, r0, rfl, q0, b0⟩ := rSt_c a3
    obtain ⟨x0, rfl, e0⟩ := rV_i q0
    obtain ⟨_, r1, rfl, q1, b1⟩ := rSt_c b0
    obtain ⟨x1, rfl, e1⟩ := rV_i q1
    have hq : a = b ↔ x1 = x0 := by rw [← e1, ← e0]; exact Int32.toInt_inj
    exact lv_icmp_eq C.1 C.2.1 hd ht (fun z => absurd (hq.mpr z) hc) (fun _ => kk ls _ a2 b1 a4)
theorem Wp.ifeq {a : Int} {off : Int} {tgt : Nat} (hd : decode M.2.1 pc = .ok (.ifCond .eq off, 3)) (ht : (pc : Int) + off = (tgt : Int)) (kt : a = 0 → Wp M d tgt L S h Q) (kf : ¬ a = 0 → Wp M d (pc + 3) L S h Q) : Wp M d pc L ((0, a) :: S) h Q := by
  by_cases hc : a = 0
  · refine (kt hc).step ?_
    intro D sz h0 p l e R s m args below meth c Qw C H locs cells slots ls st a2 a3 a4 a1 kk
    obtain ⟨_, r0, rfl, q0, b0⟩ := rSt_c a3
    obtain ⟨x0, rfl, e0⟩ := rV_i q0
    have hq : a = 0 ↔ x0 = 0 := by rw [← e0]; exact Int32.toInt_inj (x := x0) (y := 0)
    exact lv_if_eq C.1 C.2.1 hd ht (fun _ => kk ls _ a2 b0 a4) (fun z => absurd (hq.mp hc) z)
  · refine (kf hc).step ?_
    intro D sz h0 p l e R s m args below meth c Qw C H locs cells slots ls st a2 a3 a4 a1 kk
    obtain ⟨_, r0, rfl, q0, b0⟩ := rSt_c a3
    obtain ⟨x0, rfl, e0⟩ := rV_i q0
    have hq : a = 0 ↔ x0 = 0 := by rw [← e0]; exact Int32.toInt_inj (x := x0) (y := 0)
    exact lv_if_eq C.1 C.2.1 hd ht (fun z => absurd (hq.mpr z) hc) (fun _ => kk ls _ a2 b0 a4)
theorem Wp.icne {a b : Int} {off : Int} {tgt : Nat} (hd : decode M.2.1 pc = .ok (.if_icmp .ne off, 3)) (ht : (pc : Int) + off = (tgt : Int)) (kt : a ≠ b → Wp M d tgt L S h Q) (kf : a = b → Wp M d (pc + 3) L S h Q) : Wp M d pc L ((0, b) :: (0, a) :: S) h Q := by
  by_cases hc : a = b
  · refine (kf hc).step ?_
    intro D sz h0 p l e R s m args below meth c Qw C H locs cells slots ls st a2 a3 a4 a1 kk
    obtain ⟨_, r0, rfl, q0, b0⟩ := rSt_c a3
    obtain ⟨x0, rfl, e0⟩ := rV_i q0
    obtain ⟨_, r1, rfl, q1, b1⟩ := rSt_c b0
    obtain ⟨x1, rfl, e1⟩ := rV_i q1
    have hq : a = b ↔ x1 = x0 := by rw [← e1, ← e0]; exact Int32.toInt_inj
    exact lv_icmp_ne C.1 C.2.1 hd ht (fun z => absurd (hq.mp hc) z) (fun _ => kk ls _ a2 b1 a4)
  · refine (kt hc).step ?_
    intro D sz h0 p l e R s m args below meth c Qw C H locs cells slots ls st a2 a3 a4 a1 kk
    obtain ⟨_, r0, rfl, q0, b0⟩ := rSt_c a3
    obtain ⟨x0, rfl, e0⟩ := rV_i q0
    obtain ⟨_, r1, rfl, q1, b1⟩ := rSt_c b0
    obtain ⟨x1, rfl, e1⟩ := rV_i q1
    have hq : a = b ↔ x1 = x0 := by rw [← e1, ← e0]; exact Int32.toInt_inj
    exact lv_icmp_ne C.1 C.2.1 hd ht (fun _ => kk ls _ a2 b1 a4) (fun z => absurd (hq.mpr z) hc)
theorem Wp.ifne {a : Int} {off : Int} {tgt : Nat} (hd : decode M.2.1 pc = .ok (.ifCond .ne off, 3)) (ht : (pc : Int) + off = (tgt : Int)) (kt : a ≠ 0 → Wp M d tgt L S h Q) (kf : a = 0 → Wp M d (pc + 3) L S h Q) : Wp M d pc L ((0, a) :: S) h Q := by
  by_cases hc : a = 0
  · refine (kf hc).step ?_
    intro D sz h0 p l e R s m args below meth c Qw C H locs cells slots ls st a2 a3 a4 a1 kk
    obtain ⟨_, r0, rfl, q0, b0⟩ := rSt_c a3
    obtain ⟨x0, rfl, e0⟩ := rV_i q0
    have hq : a = 0 ↔ x0 = 0 := by rw [← e0]; exact Int32.toInt_inj (x := x0) (y := 0)
    exact lv_if_ne C.1 C.2.1 hd ht (fun z => absurd (hq.mp hc) z) (fun _ => kk ls _ a2 b0 a4)
  · refine (kt hc).step ?_
    intro D sz h0 p l e R s m args below meth c Qw C H locs cells slots ls st a2 a3 a4 a1 kk
    obtain ⟨_, r0, rfl, q0, b0⟩ := rSt_c a3
    obtain ⟨x0, rfl, e0⟩ := rV_i q0
    have hq : a = 0 ↔ x0 = 0 := by rw [← e0]; exact Int32.toInt_inj (x := x0) (y := 0)
    exact lv_if_ne C.1 C.2.1 hd ht (fun _ => kk ls _ a2 b0 a4) (fun z => absurd (hq.mpr z) hc)
theorem Wp.iclt {a b : Int} {off : Int} {tgt : Nat} (hd : decode M.2.1 pc = .ok (.if_icmp .lt off, 3)) (ht : (pc : Int) + off = (tgt : Int)) (kt : a < b → Wp M d tgt L S h Q) (kf : ¬ a < b → Wp M d (pc + 3) L S h Q) : Wp M d pc L ((0, b) :: (0, a) :: S) h Q := by
  by_cases hc : a < b
  · refine (kt hc).step ?_
    intro D sz h0 p l e R s m args below meth c Qw C H locs cells slots ls st a2 a3 a4 a1 kk
    obtain ⟨_, r0, rfl, q0, b0⟩ := rSt_c a3
    obtain ⟨x0, rfl, e0⟩ := rV_i q0
    obtain ⟨_, r1, rfl, q1, b1⟩ := rSt_c b0
    obtain ⟨x1, rfl, e1⟩ := rV_i q1
    have hq : a < b ↔ x1 < x0 := by rw [← e1, ← e0]; exact Int32.lt_iff_toInt_lt.symm
    exact lv_icmp_lt C.1 C.2.1 hd ht (fun _ => kk ls _ a2 b1 a4) (fun z => absurd (hq.mp hc) z)
  · refine (kf hc).step ?_
    intro D sz h0 p l e R s m args below meth c Qw C H locs cells slots ls st a2 a3 a4 a1 kk
    obtain ⟨_, r0, rfl, q0, b0⟩ := rSt_c a3
    obtain ⟨x0, rfl, e0⟩ := rV_i q0
    obtain ⟨_, r1, rfl, q1, b1⟩ := rSt_c b0
    obtain ⟨x1, rfl, e1⟩ := rV_i q1
    have hq : a < b ↔ x1 < x0 := by rw [← e1, ← e0]; exact Int32.lt_iff_toInt_lt.symm
    exact lv_icmp_lt C.1 C.2.1 hd ht (fun z => absurd (hq.mpr z) hc) (fun _ => kk ls _ a2 b1 a4)
theorem Wp.iflt {a : Int} {off : Int} {tgt : Nat} (hd : decode M.2.1 pc = .ok (.ifCond .lt off, 3)) (ht : (pc : Int) + off = (tgt : Int)) (kt : a < 0 → Wp M d tgt L S h Q) (kf : ¬ a < 0 → Wp M d (pc + 3) L S h Q) : Wp M d pc L ((0, a) :: S) h Q := by
  by_cases hc : a < 0
  · refine (kt hc).step ?_
    intro D sz h0 p l e R s m args below meth c Qw C H locs cells slots ls st a2 a3 a4 a1 kk
    obtain ⟨_, r0, rfl, q0, b0⟩ := rSt_c a3
    obtain ⟨x0, rfl, e0⟩ := rV_i q0
    have hq : a < 0 ↔ x0 < 0 := by rw [← e0]; exact (Int32.lt_iff_toInt_lt (x := x0) (y := 0)).symm
    exact lv_if_lt C.1 C.2.1 hd ht (fun _ => kk ls _ a2 b0 a4) (fun z => absurd (hq.mp hc) z)
  · refine (kf hc).step ?_
    intro D sz h0 p l e R s m args below meth c Qw C H locs cells slots ls st a2 a3 a4 a1 kk
    obtain ⟨_, r0, rfl, q0, b0⟩ := rSt_c a3
    obtain ⟨x0, rfl, e0⟩ := rV_i q0
    have hq : a < 0 ↔ x0 < 0 := by rw [← e0]; exact (Int32.lt_iff_toInt_lt (x := x0) (y := 0)).symm
    exact lv_if_lt C.1 C.2.1 hd ht (fun z => absurd (hq.mpr z) hc) (fun _ => kk ls _ a2 b0 a4)
theorem Wp.icge {a b : Int} {off : Int} {tgt : Nat} (hd : decode M.2.1 pc = .ok (.if_icmp .ge off, 3)) (ht : (pc : Int) + off = (tgt : Int)) (kt : b ≤ a → Wp M d tgt L S h Q) (kf : ¬ b ≤ a → Wp M d (pc + 3) L S h Q) : Wp M d pc L ((0, b) :: (0, a) :: S) h Q := by
  by_cases hc : b ≤ a
  · refine (kt hc).step ?_
    intro D sz h0 p l e R s m args below meth c Qw C H locs cells slots ls st a2 a3 a4 a1 kk
    obtain ⟨_, r0, rfl, q0, b0⟩ := rSt_c a3
    obtain ⟨x0, rfl, e0⟩ := rV_i q0
    obtain ⟨_, r1, rfl, q1, b1⟩ := rSt_c b0
    obtain ⟨x1, rfl, e1⟩ := rV_i q1
    have hq : b ≤ a ↔ x0 ≤ x1 := by rw [← e1, ← e0]; exact Int32.le_iff_toInt_le.symm
    exact lv_icmp_ge C.1 C.2.1 hd ht (fun _ => kk ls _ a2 b1 a4) (fun z => absurd (hq.mp hc) z)
  · refine (kf hc).step ?_
    intro D sz h0 p l e R s m args below meth c Qw C H locs cells slots ls st a2 a3 a4 a1 kk
    obtain ⟨_, r0, rfl, q0, b0⟩ := rSt_c a3
    obtain ⟨x0, rfl, e0⟩ := rV_i q0
    obtain ⟨_, r1, rfl, q1, b1⟩ := rSt_c b0
    obtain ⟨x1, rfl, e1⟩ := rV_i q1
    have hq : b ≤ a ↔ x0 ≤ x1 := by rw [← e1, ← e0]; exact Int32.le_iff_toInt_le.symm
    exact lv_icmp_ge C.1 C.2.1 hd ht (fun z => absurd (hq.mpr z) hc) (fun _ => kk ls _ a2 b1 a4)
theorem Wp.ifge {a : Int} {off : Int} {tgt : Nat} (hd : decode M.2.1 pc = .ok (.ifCond .ge off, 3)) (ht : (pc : Int) + off = (tgt : Int)) (kt : 0 ≤ a → Wp M d tgt L S h Q) (kf : ¬ 0 ≤ a → Wp M d (pc + 3) L S h Q) : Wp M d pc L ((0, a) :: S) h Q := by
  by_cases hc : 0 ≤ a
  · refine (kt hc).step ?_
    intro D sz h0 p l e R s m args below meth c Qw C H locs cells slots ls st a2 a3 a4 a1 kk
    obtain ⟨_, r0, rfl, q0, b0⟩ := rSt_c a3
    obtain ⟨x0, rfl, e0⟩ := rV_i q0
    have hq : 0 ≤ a ↔ 0 ≤ x0 := by rw [← e0]; exact (Int32.le_iff_toInt_le (x := 0) (y := x0)).symm
    exact lv_if_ge C.1 C.2.1 hd ht (fun _ => kk ls _ a2 b0 a4) (fun z => absurd (hq.mp hc) z)
  · refine (kf hc).step ?_
    intro D sz h0 p l e R s m args below meth c Qw C H locs cells slots ls st a2 a3 a4 a1 kk
    obtain ⟨_, r0, rfl, q0, b0⟩ := rSt_c a3
    obtain ⟨x0, rfl, e0⟩ := rV_i q0
    have hq : 0 ≤ a ↔ 0 ≤ x0 := by rw [← e0]; exact (Int32.le_iff_toInt_le (x := 0) (y := x0)).symm
    exact lv_if_ge C.1 C.2.1 hd ht (fun z => absurd (hq.mpr z) hc) (fun _ => kk ls _ a2 b0 a4)
theorem Wp.icgt {a b : Int} {off : Int} {tgt : Nat} (hd : decode M.2.1 pc = .ok (.if_icmp .gt off, 3)) (ht : (pc : Int) + off = (tgt : Int)) (kt : b < a → Wp M d tgt L S h Q) (kf : ¬ b < a → Wp M d (pc + 3) L S h Q) : Wp M d pc L ((0, b) :: (0, a) :: S) h Q := by
  by_cases hc : b < a
  · refine (kt hc).step ?_
    intro D sz h0 p l e R s m args below meth c Qw C H locs cells slots ls st a2 a3 a4 a1 kk
    obtain ⟨_, r0, rfl, q0, b0⟩ := rSt_c a3
    obtain ⟨x0, rfl, e0⟩ := rV_i q0
    obtain ⟨_, r1, rfl, q1, b1⟩ := rSt_c b0
    obtain ⟨x1, rfl, e1⟩ := rV_i q1
    have hq : b < a ↔ x0 < x1 := by rw [← e1, ← e0]; exact Int32.lt_iff_toInt_lt.symm
    exact lv_icmp_gt C.1 C.2.1 hd ht (fun _ => kk ls _ a2 b1 a4) (fun z => absurd (hq.mp hc) z)
  · refine (kf hc).step ?_
    intro D sz h0 p l e R s m args below meth c Qw C H locs cells slots ls st a2 a3 a4 a1 kk
    obtain ⟨_, r0, rfl, q0, b0⟩ := rSt_c a3
    obtain ⟨x0, rfl, e0⟩ := rV_i q0
    obtain ⟨_, r1, rfl, q1, b1⟩ := rSt_c b0
    obtain ⟨x1, rfl, e1⟩ := rV_i q1
    have hq : b < a ↔ x0 < x1 := by rw [← e1, ← e0]; exact Int32.lt_iff_toInt_lt.symm
    exact lv_icmp_gt C.1 C.2.1 hd ht (fun z => absurd (hq.mpr z) hc) (fun _ => kk ls _ a2 b1 a4)
theorem Wp.ifgt {a : Int} {off : Int} {tgt : Nat} (hd : decode M.2.1 pc = .ok (.ifCond .gt off, 3)) (ht : (pc : Int) + off = (tgt : Int)) (kt : 0 < a → Wp M d tgt L S h Q) (kf : ¬ 0 < a → Wp M d (pc + 3) L S h Q) : Wp M d pc L ((0, a) :: S) h Q := by
  by_cases hc : 0 < a
  · refine (kt hc).step ?_
    intro D sz h0 p l e R s m args below meth c Qw C H locs cells slots ls st a2 a3 a4 a1 kk
    obtain ⟨_, r0, rfl, q0, b0⟩ := rSt_c a3
    obtain ⟨x0, rfl, e0⟩ := rV_i q0
    have hq : 0 < a ↔ 0 < x0 := by rw [← e0]; exact (Int32.lt_iff_toInt_lt (x := 0) (y := x0)).symm
    exact lv_if_gt C.1 C.2.1 hd ht (fun _ => kk ls _ a2 b0 a4) (fun z => absurd (hq.mp hc) z)
  · refine (kf hc).step ?_
    intro D sz h0 p l e R s m args below meth c Qw C H locs cells slots ls st a2 a3 a4 a1 kk
    obtain ⟨_, r0, rfl, q0, b0⟩ := rSt_c a3
    obtain ⟨x0, rfl, e0⟩ := rV_i q0
    have hq : 0 < a ↔ 0 < x0 := by rw [← e0]; exact (Int32.lt_iff_toInt_lt (x := 0) (y := x0)).symm
    exact lv_if_gt C.1 C.2.1 hd ht (fun z => absurd (hq.mpr z) hc) (fun _ => kk ls _ a2 b0 a4)
theorem Wp.icle {a b : Int} {off : Int} {tgt : Nat} (hd : decode M.2.1 pc = .ok (.if_icmp .le off, 3)) (ht : (pc : Int) + off = (tgt : Int)) (kt : a ≤ b → Wp M d tgt L S h Q) (kf : ¬ a ≤ b → Wp M d (pc + 3) L S h Q) : Wp M d pc L ((0, b) :: (0, a) :: S) h Q := by
  by_cases hc : a ≤ b
  · refine (kt hc).step ?_
    intro D sz h0 p l e R s m args below meth c Qw C H locs cells slots ls st a2 a3 a4 a1 kk
    obtain ⟨_, r0, rfl, q0, b0⟩ := rSt_c a3
    obtain ⟨x0, rfl, e0⟩ := rV_i q0
    obtain ⟨_, r1, rfl, q1, b1⟩ := rSt_c b0
    obtain ⟨x1, rfl, e1⟩ := rV_i q1
    have hq : a ≤ b ↔ x1 ≤ x0 := by rw [← e1, ← e0]; exact Int32.le_iff_toInt_le.symm
    exact lv_icmp_le C.1 C.2.1 hd ht (fun _ => kk ls _ a2 b1 a4) (fun z => absurd (hq.mp hc) z)
  · refine (kf hc).step ?_
    intro D sz h0 p l e R s m args below meth c Qw C H locs cells slots ls st a2 a3 a4 a1 kk
    obtain ⟨_, r0, rfl, q0, b0⟩ := rSt_c a3
    obtain ⟨x0, rfl, e0⟩ := rV_i q0
    obtain ⟨_, r1, rfl, q1, b1⟩ := rSt_c b0
    obtain ⟨x1, rfl, e1⟩ := rV_i q1
    have hq : a ≤ b ↔ x1 ≤ x0 := by rw [← e1, ← e0]; exact Int32.le_iff_toInt_le.symm
    exact lv_icmp_le C.1 C.2.1 hd ht (fun z => absurd (hq.mpr z) hc) (fun _ => kk ls _ a2 b1 a4)
theorem Wp.ifle {a : Int} {off : Int} {tgt : Nat} (hd : decode M.2.1 pc = .ok (.ifCond .le off, 3)) (ht : (pc : Int) + off = (tgt : Int)) (kt : a ≤ 0 → Wp M d tgt L S h Q) (kf : ¬ a ≤ 0 → Wp M d (pc + 3) L S h Q) : Wp M d pc L ((0, a) :: S) h Q := by
  by_cases hc : a ≤ 0
  · refine (kt hc).step ?_
    intro D sz h0 p l e R s m args below meth c Qw C H locs cells slots ls st a2 a3 a4 a1 kk
    obtain ⟨_, r0, rfl, q0, b0⟩ := rSt_c a3
    obtain ⟨x0, rfl, e0⟩ := rV_i q0
    have hq : a ≤ 0 ↔ x0 ≤ 0 := by rw [← e0]; exact (Int32.le_iff_toInt_le (x := x0) (y := 0)).symm
    exact lv_if_le C.1 C.2.1 hd ht (fun _ => kk ls _ a2 b0 a4) (fun z => absurd (hq.mp hc) z)
  · refine (kf hc).step ?_
    intro D sz h0 p l e R s m args below meth c Qw C H locs cells slots ls st a2 a3 a4 a1 kk
    obtain ⟨_, r0, rfl, q0, b0⟩ := rSt_c a3
    obtain ⟨x0, rfl, e0⟩ := rV_i q0
    have hq : a ≤ 0 ↔ x0 ≤ 0 := by rw [← e0]; exact (Int32.le_iff_toInt_le (x := x0) (y := 0)).symm
    exact lv_if_le C.1 C.2.1 hd ht (fun z => absurd (hq.mpr z) hc) (fun _ => kk ls _ a2 b0 a4)
theorem Wp.goto {off : Int} {tgt : Nat} (hd : decode M.2.1 pc = .ok (.goto off, 3)) (ht : (pc : Int) + off = (tgt : Int)) (k : Wp M d tgt L S h Q) : Wp M d pc L S h Q := by
  refine k.step ?_
  intro D sz h0 p l e R s m args below meth c Qw C H locs cells slots ls st a2 a3 a4 a1 kk
  exact lv_goto C.1 C.2.1 hd ht (kk ls _ a2 a3 a4)
theorem Wp.ifnonnull {a off : Int} {tgt : Nat} (hd : decode M.2.1 pc = .ok (.ifnonnull off, 3)) (ht : (pc : Int) + off = (tgt : Int)) (hne : a ≠ -1) (k : Wp M d tgt L S h Q) : Wp M d pc L ((2, a) :: S) h Q := by
  refine k.step ?_
  intro D sz h0 p l e R s m args below meth c Qw C H locs cells slots ls st a2 a3 a4 a1 kk
  obtain ⟨x, r, rfl, q, b0⟩ := rSt_c a3
  rcases rV_r q with ⟨z, rfl⟩ | ⟨-, rfl⟩
  · exact absurd z hne
  · exact lv_ifnonnull C.1 C.2.1 hd ht (kk ls _ a2 b0 a4)
theorem Wp.ifnonnullN {off : Int} (hd : decode M.2.1 pc = .ok (.ifnonnull off, 3)) (k : Wp M d (pc + 3) L S h Q) : Wp M d pc L ((2, -1) :: S) h Q := by
  refine k.step ?_
  intro D sz h0 p l e R s m args below meth c Qw C H locs cells slots ls st a2 a3 a4 a1 kk
  obtain ⟨x, r, rfl, q, b0⟩ := rSt_c a3
  rcases rV_r q with ⟨-, rfl⟩ | ⟨z, -⟩
  · exact lv_ifnonnullN C.1 C.2.1 hd (kk ls _ a2 b0 a4)
  · exact absurd z (by decide)
theorem Wp.ifnull {a off : Int} (hd : decode M.2.1 pc = .ok (.ifnull off, 3)) (hne : a ≠ -1) (k : Wp M d (pc + 3) L S h Q) : Wp M d pc L ((2, a) :: S) h Q := by
  refine k.step ?_
  intro D sz h0 p l e R s m args below meth c Qw C H locs cells slots ls st a2 a3 a4 a1 kk
  obtain ⟨x, r, rfl, q, b0⟩ := rSt_c a3
  rcases rV_r q with ⟨z, rfl⟩ | ⟨-, rfl⟩
  · exact absurd z hne
  · exact lv_ifnull C.1 C.2.1 hd (kk ls _ a2 b0 a4)
theorem Wp.ifnullN {off : Int} {tgt : Nat} (hd : decode M.2.1 pc = .ok (.ifnull off, 3)) (ht : (pc : Int) + off = (tgt : Int)) (k : Wp M d tgt L S h Q) : Wp M d pc L ((2, -1) :: S) h Q := by
  refine k.step ?_
  intro D sz h0 p l e R s m args below meth c Qw C H locs cells slots ls st a2 a3 a4 a1 kk
  obtain ⟨x, r, rfl, q, b0⟩ := rSt_c a3
  rcases rV_r q with ⟨-, rfl⟩ | ⟨z, -⟩
  · exact lv_ifnullN C.1 C.2.1 hd ht (kk ls _ a2 b0 a4)
  · exact absurd z (by decide)
theorem Wp.tabOut {a dflt lo hi : Int} {offs : Array Int} {len tgt : Nat} (hd : decode M.2.1 pc = .ok (.tableswitch dflt lo hi offs, len)) (hc : a < lo ∨ hi < a) (ht : (pc : Int) + dflt = (tgt : Int)) (k : Wp M d tgt L S h Q) : Wp M d pc L ((0, a) :: S) h Q := by
  refine k.step ?_
  intro D sz h0 p l e R s m args below meth c Qw C H locs cells slots ls st a2 a3 a4 a1 kk
  obtain ⟨_, r0, rfl, q0, b0⟩ := rSt_c a3
  obtain ⟨x0, rfl, e0⟩ := rV_i q0
  exact lv_tableOut C.1 C.2.1 hd (by rw [e0]; exact hc) ht (kk ls _ a2 b0 a4)
theorem Wp.tabIn {a dflt lo hi off : Int} {offs : Array Int} {len tgt : Nat} (hd : decode M.2.1 pc = .ok (.tableswitch dflt lo hi offs, len)) (h1 : ¬ a < lo) (h2 : ¬ hi < a) (ho : offs[(a - lo).toNat]? = some off) (ht : (pc : Int) + off = (tgt : Int)) (k : Wp M d tgt L S h Q) : Wp M d pc L ((0, a) :: S) h Q := by
  refine k.step ?_
  intro D sz h0 p l e R s m args below meth c Qw C H locs cells slots ls st a2 a3 a4 a1 kk
  obtain ⟨_, r0, rfl, q0, b0⟩ := rSt_c a3
  obtain ⟨x0, rfl, e0⟩ := rV_i q0
  exact lv_tableIn C.1 C.2.1 hd (by rw [e0]; exact h1) (by rw [e0]; exact h2) (by rw [e0]; exact ho) ht (kk ls _ a2 b0 a4)
theorem rLs_known {sz : Nat} {L : List mV} {ls : Array Slot} (hr : rLs sz L ls) : ∃ kn : List (Nat × Value), lv_has ls L.length kn ∧ ∀ (i : Nat) (v : mV), L[i]? = some v → v.1 < 3 → ∃ x, (i, x) ∈ kn ∧ rV sz v x := by
  refine ⟨(List.range ls.size).filterMap (fun (i : Nat) => match (ls[i]? : Option Slot) with | some (Slot.val x) => some (i, x) | _ => none), ⟨hr.1, hr.2.1, ?_⟩, ?_⟩
  · intro q hq
    obtain ⟨i, -, hi⟩ := List.mem_filterMap.mp hq
    split at hi
    · rename_i x hx
      cases hi
      exact hx
    · cases hi
  · intro i v hv ht
    obtain ⟨x, hx, q⟩ := hr.2.2 i v hv ht
    refine ⟨x, List.mem_filterMap.mpr ⟨i, List.mem_range.mpr (Array.getElem?_eq_some_iff.mp hx).1, ?_⟩, q⟩
    rw [hx]
/-- what may stand in the locals behind a store of one word at i -/
def stO (L L' : List mV) (i : Nat) : Prop := L'.length = L.length ∧ ∀ (j : Nat) (v : mV), j ≠ i → L'[j]? = some v → v.1 < 3 → L[j]? = some v ∧ ¬ (j + 1 = i ∧ v.1 = 1)
theorem st_one {sz : Nat} {L L' : List mV} {ls : Array Slot} {i : Nat} {v : mV} {x : Value} (hr : rLs sz L ls) (hs : stO L L' i) (hi : i < L.length) (hv : L'[i]? = some v) (hx : rV sz v x) (hc : x.category = 1) : ∃ ls', storeLocals ls i x = some ls' ∧ rLs sz L' ls' := by
  obtain ⟨kn, hk, hkn⟩ := rLs_known hr
  obtain ⟨ls', e1, e2⟩ := lv_store1 hk hi hc
  refine ⟨ls', e1, by rw [e2.1, hs.1], e2.2.1, fun j u hu ht => ?_⟩
  by_cases hj : j = i
  · subst hj
    cases hv.symm.trans hu
    exact ⟨x, e2.2.2 (j, x) List.mem_cons_self, hx⟩
  · obtain ⟨h1, h2⟩ := hs.2 j u hj hu ht
    obtain ⟨y, hy, q⟩ := hkn j u h1 ht
    refine ⟨y, e2.2.2 (j, y) (List.mem_cons_of_mem _ (List.mem_filter.mpr ⟨hy, ?_⟩)), q⟩
    have hcat : j + 1 = i → ¬ y.category = 2 := fun hz hy2 => by
      have h3 : ¬ u.1 = 1 := fun z => h2 ⟨hz, z⟩
      have h4 : u.1 = 0 ∨ u.1 = 2 := by omega
      rw [rV_cat1 q h4] at hy2
      cases hy2
    simp only [Bool.and_eq_true, Bool.not_eq_true', beq_eq_false_iff_ne, ne_eq, Bool.and_eq_false_imp, beq_iff_eq]
    exact ⟨hj, fun hz => hcat hz⟩
def stT (L L' : List mV) (i : Nat) : Prop := L'.length = L.length ∧ (∀ v : mV, L'[i + 1]? = some v → ¬ v.1 < 3) ∧ ∀ (j : Nat) (v : mV), j ≠ i → j ≠ i + 1 → L'[j]? = some v → v.1 < 3 → L[j]? = some v ∧ ¬ (j + 1 = i ∧ v.1 = 1)
theorem st_two {sz : Nat} {L L' : List mV} {ls : Array Slot} {i : Nat} {v : mV} {x : Value} (hr : rLs sz L ls) (hs : stT L L' i) (hi : i + 1 < L.length) (hv : L'[i]? = some v) (hx : rV sz v x) (hc : x.category = 2) : ∃ ls', storeLocals ls i x = some ls' ∧ rLs sz L' ls' := by
  obtain ⟨kn, hk, hkn⟩ := rLs_known hr
  obtain ⟨ls', e1, e2⟩ := lv_store2 hk hi hc
  refine ⟨ls', e1, by rw [e2.1, hs.1], e2.2.1, fun j u hu ht => ?_⟩
  by_cases hj : j = i
  · subst hj
    cases hv.symm.trans hu
    exact ⟨x, e2.2.2 (j, x) List.mem_cons_self, hx⟩
  · by_cases hj2 : j = i + 1
    · subst hj2
      exact absurd ht (hs.2.1 u hu)
    · obtain ⟨h1, h2⟩ := hs.2.2 j u hj hj2 hu ht
      obtain ⟨y, hy, q⟩ := hkn j u h1 ht
      refine ⟨y, e2.2.2 (j, y) (List.mem_cons_of_mem _ (List.mem_filter.mpr ⟨hy, ?_⟩)), q⟩
      have hcat : j + 1 = i → ¬ y.category = 2 := fun hz hy2 => by
        have h3 : ¬ u.1 = 1 := fun z => h2 ⟨hz, z⟩
        have h4 : u.1 = 0 ∨ u.1 = 2 := by omega
        rw [rV_cat1 q h4] at hy2
        cases hy2
      simp only [Bool.and_eq_true, Bool.not_eq_true', beq_eq_false_iff_ne, ne_eq, Bool.and_eq_false_imp, beq_iff_eq]
      exact ⟨hj, hj2, fun hz => hcat hz⟩
/-- which instruction stores at i: of one byte, or of two -/
def dSt (cc : ByteArray) (pc i len : Nat) (f : Fin 4 → Instr) (g : Nat → Instr) : Prop := (∃ j : Fin 4, (j : Nat) = i ∧ decode cc pc = .ok (f j, 1) ∧ len = 1) ∨ (decode cc pc = .ok (g i, 2) ∧ len = 2)
theorem dSt_n {cc : ByteArray} {pc : Nat} {j : Fin 4} {f : Fin 4 → Instr} {g : Nat → Instr} (hd : decode cc pc = .ok (f j, 1)) : dSt cc pc j 1 f g := Or.inl ⟨j, rfl, hd, rfl⟩
theorem dSt_w {cc : ByteArray} {pc i : Nat} {f : Fin 4 → Instr} {g : Nat → Instr} (hd : decode cc pc = .ok (g i, 2)) : dSt cc pc i 2 f g := Or.inr ⟨hd, rfl⟩
theorem Wp.ist {L' : List mV} {i len : Nat} {x : Int} (hd : dSt M.2.1 pc i len Instr.istore_n Instr.istore) (hs : stO L L' i) (hi : i < L.length) (hv : L'[i]? = some (0, x)) (k : Wp M d (pc + len) L' S h Q) : Wp M d pc L ((0, x) :: S) h Q := by
  refine k.step ?_
  intro D sz h0 p l e R s m args below meth c Qw C H locs cells slots ls st a2 a3 a4 a1 kk
  obtain ⟨_, r0, rfl, q0, b0⟩ := rSt_c a3
  obtain ⟨x0, rfl, e0⟩ := rV_i q0
  obtain ⟨ls', e', h'⟩ := st_one a2 hs hi hv q0 rfl
  have kk2 := kk ls' _ h' b0 (hs.1.trans a4)
  intro T hT X
  obtain ⟨t, a, b⟩ := kk2 T hT X
  refine ⟨t, ?_, b⟩
  obtain ⟨hexec, hb, -⟩ := C
  rcases hd with ⟨j, rfl, hdg, rfl⟩ | ⟨hdg, rfl⟩
  · jvm_step X.here [X.here.top, ↓top_set X.here.top, hexec, hb, hdg, e']
    exact a
  · jvm_step X.here [X.here.top, ↓top_set X.here.top, hexec, hb, hdg, e']
    exact a
theorem Wp.lst {L' : List mV} {i len : Nat} {x : Int} (hd : dSt M.2.1 pc i len Instr.lstore_n Instr.lstore) (hs : stT L L' i) (hi : i + 1 < L.length) (hv : L'[i]? = some (1, x)) (k : Wp M d (pc + len) L' S h Q) : Wp M d pc L ((1, x) :: S) h Q := by
  refine k.step ?_
  intro D sz h0 p l e R s m args below meth c Qw C H locs cells slots ls st a2 a3 a4 a1 kk
  obtain ⟨_, r0, rfl, q0, b0⟩ := rSt_c a3
  obtain ⟨x0, rfl, e0⟩ := rV_l q0
  obtain ⟨ls', e', h'⟩ := st_two a2 hs hi hv q0 rfl
  have kk2 := kk ls' _ h' b0 (hs.1.trans a4)
  intro T hT X
  obtain ⟨t, a, b⟩ := kk2 T hT X
  refine ⟨t, ?_, b⟩
  obtain ⟨hexec, hb, -⟩ := C
  rcases hd with ⟨j, rfl, hdg, rfl⟩ | ⟨hdg, rfl⟩
  · jvm_step X.here [X.here.top, ↓top_set X.here.top, hexec, hb, hdg, e']
    exact a
  · jvm_step X.here [X.here.top, ↓top_set X.here.top, hexec, hb, hdg, e']
    exact a
theorem Wp.ast {L' : List mV} {i len : Nat} {x : Int} (hd : dSt M.2.1 pc i len Instr.astore_n Instr.astore) (hs : stO L L' i) (hi : i < L.length) (hv : L'[i]? = some (2, x)) (k : Wp M d (pc + len) L' S h Q) : Wp M d pc L ((2, x) :: S) h Q := by
  refine k.step ?_
  intro D sz h0 p l e R s m args below meth c Qw C H locs cells slots ls st a2 a3 a4 a1 kk
  obtain ⟨_, r0, rfl, q0, b0⟩ := rSt_c a3
  obtain ⟨ls', e', h'⟩ := st_one a2 hs hi hv q0 (rV_cat1 q0 (Or.inr rfl))
  have kk2 := kk ls' _ h' b0 (hs.1.trans a4)
  intro T hT X
  obtain ⟨t, a, b⟩ := kk2 T hT X
  refine ⟨t, ?_, b⟩
  obtain ⟨hexec, hb, -⟩ := C
  rcases rV_r q0 with ⟨-, rfl⟩ | ⟨-, rfl⟩ <;> rcases hd with ⟨j, rfl, hdg, rfl⟩ | ⟨hdg, rfl⟩ <;>
  · jvm_step X.here [X.here.top, ↓top_set X.here.top, hexec, hb, hdg, e', Value.isRef]
    exact a
theorem Wp.iinc {L' : List mV} {i : Nat} {x n : Int} (hl : L[i]? = some (0, x)) (hd : decode M.2.1 pc = .ok (.iinc i n, 3)) (hs : stO L L' i) (hv : L'[i]? = some (0, w32 (x + n))) (k : Wp M d (pc + 3) L' S h Q) : Wp M d pc L S h Q := by
  refine k.step ?_
  intro D sz h0 p l e R s m args below meth c Qw C H locs cells slots ls st a2 a3 a4 a1 kk
  obtain ⟨v, hg, q⟩ := a2.2.2 _ _ hl (show 0 < 3 by decide)
  obtain ⟨y, rfl, ey⟩ := rV_i q
  have hi : i < L.length := (List.getElem?_eq_some_iff.mp hl).1
  obtain ⟨ls', e', h'⟩ := st_one a2 hs hi hv (x := .int (y + Int32.ofInt n)) (mI ((add32 ey (t32 n)).trans (by rw [w32_add]))) rfl
  have kk2 := kk ls' _ h' a3 (hs.1.trans a4)
  intro T hT X
  obtain ⟨t, a, b⟩ := kk2 T hT X
  refine ⟨t, ?_, b⟩
  obtain ⟨hexec, hb, -⟩ := C
  jvm_step X.here [X.here.top, ↓top_set X.here.top, hexec, hb, hd, hg, e']
  exact a
theorem stO_set {L : List mV} {i : Nat} {v : mV} (hc : ∀ u : mV, i ≠ 0 → L[i - 1]? = some u → u.1 ≠ 1) : stO L (L.set i v) i := by
  refine ⟨List.length_set, fun j u hj hu ht => ?_⟩
  rw [List.getElem?_set_ne (Ne.symm hj)] at hu
  refine ⟨hu, fun hz => hc u (by omega) ?_ hz.2⟩
  rw [show i - 1 = j by omega]
  exact hu
theorem stO_clr {L : List mV} {i : Nat} {v : mV} : stO L ((L.set (i - 1) (9, 0)).set i v) i := by
  refine ⟨by rw [List.length_set, List.length_set], fun j u hj hu ht => ?_⟩
  rw [List.getElem?_set_ne (Ne.symm hj)] at hu
  by_cases h1 : i - 1 = j
  · rw [h1] at hu
    rw [List.getElem?_set] at hu
    simp only [if_true] at hu
    split at hu
    · cases hu
      exact absurd ht (by decide)
    · cases hu
  · rw [List.getElem?_set_ne h1] at hu
    exact ⟨hu, fun hz => by omega⟩
theorem stT_set {L : List mV} {i : Nat} {v : mV} (hc : ∀ u : mV, i ≠ 0 → L[i - 1]? = some u → u.1 ≠ 1) : stT L ((L.set i v).set (i + 1) (9, 0)) i := by
  refine ⟨by rw [List.length_set, List.length_set], fun u hu ht => ?_, fun j u hj hj2 hu ht => ?_⟩
  · rw [List.getElem?_set] at hu
    simp only [if_true] at hu
    split at hu
    · cases hu
      exact absurd ht (by decide)
    · cases hu
  · rw [List.getElem?_set_ne (Ne.symm hj2), List.getElem?_set_ne (Ne.symm hj)] at hu
    refine ⟨hu, fun hz => hc u (by omega) ?_ hz.2⟩
    rw [show i - 1 = j by omega]
    exact hu
end VMC
end
section
section VMD
variable {M : mM} {d pc : Nat} {L S : List mV} {h : mH} {Q : Option mV → mH → Prop}
/-- a row that changes the heap -/
theorem Wp.stepH {pc' : Nat} {L' S' : List mV} {h2 : mH} (k : Wp M d pc' L' S' h2 Q) (hn : hN h ≤ hN h2) (hz : hZ h ≤ hZ h2)
    (f : ∀ (D : mD) (sz : Nat) (h0 : mH) (p : Program) (l : Launch) (e : Env) (R : Room) (s : State) (m : MethodId) (args : Array Value) (below : List Frame) (meth : Method) (c : Code) (Qw : State → Prop),
      cX M d D sz h0 p R s m args meth c → ∀ (H : Heap) (locs : List Loc) (ls : Array Slot) (st : List Value), rLs sz L ls → rSt sz S st → L.length = M.2.2.1 → rH D sz h H → hN h2 - hN h0 ≤ R.cells → hZ h2 - hZ h0 ≤ R.slots → hN h0 ≤ hN h → hZ h0 ≤ hZ h →
      (∀ (H' : Heap) (locs' : List Loc) (ls' : Array Slot) (st' : List Value), rLs sz L' ls' → rSt sz S' st' → L'.length = M.2.2.1 → rH D sz h2 H' → (∀ q ∈ locs', sz ≤ q.base ∨ q ∈ locs) → (∀ q : Nat, q < sz → H'[q]? = H[q]?) →
        W p l e R s m args below meth c H' locs' (hN h2 - hN h0) (hZ h2 - hZ h0) Qw (F0 m pc' ls' st')) → W p l e R s m args below meth c H locs (hN h - hN h0) (hZ h - hZ h0) Qw (F0 m pc ls st)) : Wp M d pc L S h Q := by
  obtain ⟨v, h', ⟨hle, k⟩, q⟩ := k
  refine ⟨v, h', ⟨⟨Nat.le_trans hn hle.1, Nat.le_trans hz hle.2⟩, ?_⟩, q⟩
  intro D sz h0 p l e R s m args below meth c C r1 r2 H locs ls st A
  obtain ⟨a1, a2, a3, a4, a5, a6, a7, a8⟩ := A
  refine f D sz h0 p l e R s m args below meth c _ C H locs ls st a2 a3 a4 a1 (by omega) (by omega) a7 a8 (fun H' locs' ls' st' b2 b3 b4 b1 b5 b6 => k D sz h0 p l e R s m args below meth c C r1 r2 H' locs' ls' st' ⟨b1, b2, b3, b4, ?_, fun q hq => (b6 q hq).trans (a6 q hq), by omega, by omega⟩)
  intro q hq
  rcases b5 q hq with z | z
  · exact z
  · exact a5 q z
theorem rH_at {D : mD} {sz : Nat} {h : mH} {H : Heap} (hr : rH D sz h H) {a : Int} (hk : hK h a ≠ 98) : ∃ n : Nat, a = n ∧ n < hN h ∧ rC D sz h n H := by
  by_cases h1 : a < 0 ∨ (hN h : Int) ≤ a
  · exact absurd (hr.2.2 a h1) hk
  · exact ⟨a.toNat, by omega, by omega, hr.2.1 _ (by omega)⟩
/-- a cell is changed, the others stay: the heap's picture with that cell's told anew -/
theorem rH_set {D : mD} {sz : Nat} {h h2 : mH} {H H' : Heap} {n : Nat} (hr : rH D sz h H) (e2 : H'.size = H.size) (e3 : ∀ q, q ≠ sz + n → H'[q]? = H[q]?) (hN2 : hN h2 = hN h) (hK2 : hK h2 = hK h) (hL2 : hL h2 = hL h) (hF2 : ∀ a : Nat, a ≠ n → hF h2 a = hF h a) (hA2 : ∀ a : Nat, a ≠ n → hA h2 a = hA h a) (hc : rC D sz h2 n H') : rH D sz h2 H' := by
  refine ⟨by rw [e2, hr.1, hN2], fun a ha => ?_, fun a ha => ?_⟩
  · by_cases hz : a = n
    · subst hz
      exact hc
    · obtain ⟨cell, c1, c2⟩ := hr.2.1 a (by omega)
      refine ⟨cell, (e3 (sz + a) (by omega)).trans c1, ?_⟩
      rw [hK2, hL2, hF2 a hz, hA2 a hz]
      exact c2
  · rw [hK2]
    exact hr.2.2 a (by omega)
/-- a new cell -/
theorem rH_push {D : mD} {sz : Nat} {h h2 : mH} {H H' : Heap} (hr : rH D sz h H) (z1 : H'.size = H.size + 1) (o1 : ∀ q, q < H.size → H'[q]? = H[q]?) (hN2 : hN h2 = hN h + 1) (hK2 : ∀ a : Int, a ≠ hN h → hK h2 a = hK h a) (hL2 : ∀ a : Int, a ≠ hN h → hL h2 a = hL h a) (hF2 : ∀ a : Int, a ≠ hN h → hF h2 a = hF h a) (hA2 : ∀ a : Int, a ≠ hN h → hA h2 a = hA h a) (hc : rC D sz h2 (hN h) H') : rH D sz h2 H' := by
  refine ⟨by rw [z1, hr.1, hN2]; omega, fun a ha => ?_, fun a ha => ?_⟩
  · by_cases hz : a = hN h
    · subst hz
      exact hc
    · obtain ⟨cell, c1, c2⟩ := hr.2.1 a (by omega)
      refine ⟨cell, (o1 (sz + a) (by rw [hr.1]; omega)).trans c1, ?_⟩
      have hne : (a : Int) ≠ (hN h : Int) := by omega
      rw [hK2 a hne, hL2 a hne, hF2 a hne, hA2 a hne]
      exact c2
  · rw [hK2 a (by omega)]
    exact hr.2.2 a (by omega)
def pTy : FieldType → Bool
  | .int => true
  | .long => true
  | .object _ => true
  | .array _ => true
  | _ => false
theorem pTy_fits {sz : Nat} {ty : FieldType} {i : Int} {x : Value} (hp : pTy ty = true) (hx : rV sz (tgT ty, i) x) : narrow ty x = x ∧ fits ty x = true := by
  cases ty <;> first | (simp [pTy] at hp; done) | skip
  all_goals
    cases x <;> first | exact ⟨rfl, rfl⟩ | (exact absurd (Prod.mk.inj hx).1 (by simp [tgT])) | (exact absurd (Prod.mk.inj hx.2).1 (by simp [tgT])) | exact hx.elim
theorem pTy_dfl {sz : Nat} {ty : FieldType} (hp : pTy ty = true ∨ ty = .boolean ∨ ty = .byte) : rV sz (tgT ty, dfl (tgT ty)) (defaultValue ty) := by
  rcases hp with hp | rfl | rfl
  · cases ty <;> first | (simp [pTy] at hp; done) | rfl
  · rfl
  · rfl
/-- what is known of an object's kind -/
def kC (c : Nat) (C : String) (T : u_T) (N : Nat) : Prop := vwCl[c]? = some (C, T, N) ∧ cNf c = N ∧ c < 7 ∧ (∀ w ∈ u_ws C T N, w ∈ tW) ∧ (∀ k, k < N → parseFieldDescriptor (T k).2.2.1 = some (cTy c k)) ∧ (∀ a, a < N → ∀ b, b < N → a ≠ b → (T a).2.1 ≠ (T b).2.1) ∧ (∀ k, k < N → (T k).1 = C) ∧ (∀ k, k < N → pTy (cTy c k) = true) ∧ Cond.instantiable C N ∈ tW ∧ Cond.initialized C ∈ tW
theorem kC_in {c N : Nat} {C : String} {T : u_T} (h : (u_ws C T N).all (fun w => decide (w ∈ lw_tbl) && goodWord w) = true) : ∀ w ∈ u_ws C T N, w ∈ tW := by
  intro w hw
  have h1 := List.all_eq_true.mp h w hw
  simp only [Bool.and_eq_true, decide_eq_true_eq] at h1
  exact List.mem_filter.mpr h1
theorem tW_d {w : Cond} (h : (decide (w ∈ lw_tbl) && goodWord w) = true) : w ∈ tW := by
  simp only [Bool.and_eq_true, decide_eq_true_eq] at h
  exact List.mem_filter.mpr h
/-- an object's cell -/
theorem rC_obj {D : mD} {sz : Nat} {h : mH} {H : Heap} {a : Int} {c : Nat} (hr : rH D sz h H) (ha : hK h a = c) (hc : c < 7) : ∃ (n : Nat) (cell : Cell), a = n ∧ n < hN h ∧ H[sz + n]? = some cell ∧ cell.vm = .none ∧ cell.cls = D.1 c ∧ ∀ k, k < cNf c → ∃ x, cell.slots[D.2.1 c k]? = some x ∧ rV sz (fTg c k, hF h a k) x := by
  obtain ⟨n, rfl, hn, cell, c1, c2⟩ := rH_at hr (a := a) (by omega)
  rw [ha] at c2
  rcases c2 with ⟨-, g1, g2, g3⟩ | ⟨z, -⟩ | z
  · exact ⟨n, cell, rfl, hn, c1, g1, g2, g3⟩
  · omega
  · omega
/-- an array's cell -/
theorem rC_arr {D : mD} {sz : Nat} {h : mH} {H : Heap} {a : Int} {t : Nat} (hr : rH D sz h H) (ha : hK h a = t) (h10 : 10 ≤ t) (h16 : t < 16) : ∃ (n : Nat) (cell : Cell), a = n ∧ n < hN h ∧ H[sz + n]? = some cell ∧ cell.vm = .none ∧ cell.cls = D.2.2 t ∧ (cell.slots.size : Int) = hL h a ∧ ∀ i : Nat, i < cell.slots.size → ∃ x, cell.slots[i]? = some x ∧ rV sz (aTg t, hA h a i) x := by
  obtain ⟨n, rfl, hn, cell, c1, c2⟩ := rH_at hr (a := a) (by omega)
  rw [ha] at c2
  rcases c2 with ⟨z, -⟩ | ⟨-, -, g1, g2, g3, g4⟩ | z
  · omega
  · exact ⟨n, cell, rfl, hn, c1, g1, g2, g3, g4⟩
  · omega
/-- a reference that is no null, as the machine has it -/
theorem rV_obj {sz : Nat} {n : Nat} {x : Value} (hx : rV sz (2, (n : Int)) x) : x = .ref (sz + n) := by
  rcases rV_r hx with ⟨z, -⟩ | ⟨-, z⟩
  · omega
  · exact z
theorem Wp.getf {a x : Int} {c k ix tg N : Nat} {C : String} {T : u_T} (hc : kC c C T N) (hk : k < N) (htg : fTg c k = tg) (hw : Cond.fieldLink M.1.cls ix C (T k).2.1 (T k).2.2.1 ∈ tW) (hd : decode M.2.1 pc = .ok (.getfield ix, 3)) (ha : hK h a = c) (hv : hF h a k = x) (k0 : Wp M d (pc + 3) L ((tg, x) :: S) h Q) : Wp M d pc L ((2, a) :: S) h Q := by
  subst htg
  subst hv
  refine k0.step ?_
  intro D sz h0 p l e R s m args below meth c0 Qw C H locs cells slots ls st a2 a3 a4 a1 kk
  obtain ⟨hx, hb, -, ho, ht, hnw, -, -, -, -, -, hkD, -⟩ := C
  obtain ⟨v, r, rfl, q, b0⟩ := rSt_c a3
  obtain ⟨hc1, hc2, hc3, hc4, hc5, hc6, hc7, -⟩ := hc
  obtain ⟨n, cell, rfl, hn, g1, g2, g3, g4⟩ := rC_obj a1 ha hc3
  have := rV_obj q
  subst this
  obtain ⟨hS, hfc, kC, hkC, hkind⟩ := hkD.1.1 c _ hc1
  obtain ⟨cf, kf, fi, f, hi, hsl⟩ := hS k hk
  obtain ⟨y, y1, y2⟩ := g4 k (by omega)
  dsimp only at hi hsl
  have hst := (u_facts hfc hkC (u_lays ht hc4 hk) hi).1
  rw [hc7 k hk] at hi
  refine W.getf hx hb ho (ht _ hw) hi hst g1 (by rw [g2]; exact fun z => by cases z) (v := y) (by rw [hsl]; exact y1) rfl rfl hd ?_
  exact kk ls _ a2 ⟨y2, b0⟩ a4
theorem Wp.getfN {a x : Int} {c k ix tg N : Nat} {C : String} {T : u_T} {host : String} (hc : kC c C T N) (hk : k < N) (htg : fTg c k = tg) (hw : Cond.fieldLinkNest M.1.cls ix C (T k).2.1 (T k).2.2.1 host ∈ nW) (hd : decode M.2.1 pc = .ok (.getfield ix, 3)) (ha : hK h a = c) (hv : hF h a k = x) (k0 : Wp M d (pc + 3) L ((tg, x) :: S) h Q) : Wp M d pc L ((2, a) :: S) h Q := by
  subst htg
  subst hv
  refine k0.step ?_
  intro D sz h0 p l e R s m args below meth c0 Qw C H locs cells slots ls st a2 a3 a4 a1 kk
  obtain ⟨hx, hb, -, ho, ht, hnw, -, -, -, -, -, hkD, -⟩ := C
  obtain ⟨v, r, rfl, q, b0⟩ := rSt_c a3
  obtain ⟨hc1, hc2, hc3, hc4, hc5, hc6, hc7, -⟩ := hc
  obtain ⟨n, cell, rfl, hn, g1, g2, g3, g4⟩ := rC_obj a1 ha hc3
  have := rV_obj q
  subst this
  obtain ⟨hS, hfc, kC, hkC, hkind⟩ := hkD.1.1 c _ hc1
  obtain ⟨cf, kf, fi, f, hi, hsl⟩ := hS k hk
  obtain ⟨y, y1, y2⟩ := g4 k (by omega)
  dsimp only at hi hsl
  have hst := (u_facts hfc hkC (u_lays ht hc4 hk) hi).1
  rw [hc7 k hk] at hi
  refine va_Wgetf hx hb ho (va_Nw.use rfl (hnw _ hw)) hi hst g1 (by rw [g2]; exact fun z => by cases z) (v := y) (by rw [hsl]; exact y1) rfl rfl hd ?_
  exact kk ls _ a2 ⟨y2, b0⟩ a4
end VMD
end
section
section VME
variable {M : mM} {d pc : Nat} {L S : List mV} {h : mH} {Q : Option mV → mH → Prop}
theorem slot_set {cell : Cell} {i j : Nat} {v x : Value} (hj : cell.slots[j]? = some x) : (cell.setSlot i v).slots[j]? = if i = j then some v else some x := by
  have hlt : j < cell.slots.size := (Array.getElem?_eq_some_iff.mp hj).1
  by_cases hij : i = j
  · subst hij
    rw [if_pos rfl]
    simp [Cell.setSlot, Array.getElem?_setIfInBounds, hlt]
  · rw [if_neg hij]
    simp [Cell.setSlot, Array.getElem?_setIfInBounds, hij, hj]
theorem Wp.putf {a x : Int} {c k ix tg N : Nat} {C : String} {T : u_T} (hc : kC c C T N) (hk : k < N) (htg : fTg c k = tg) (hfin : (T k).2.2.2 = false) (hw : Cond.fieldLink M.1.cls ix C (T k).2.1 (T k).2.2.1 ∈ tW) (hd : decode M.2.1 pc = .ok (.putfield ix, 3)) (ha : hK h a = c) (k0 : Wp M d (pc + 3) L S (sF h a k x) Q) : Wp M d pc L ((tg, x) :: (2, a) :: S) h Q := by
  subst htg
  refine k0.stepH (Nat.le_refl _) (Nat.le_refl _) ?_
  intro D sz h0 p l e R s m args below meth c0 Qw C H locs ls st a2 a3 a4 a1 r1 r2 n1 n2 kk
  obtain ⟨hx, hb, hml, ho, ht, hnw, hrt, hlk, hnm, hfr, hlo, hkD, hsz⟩ := C
  obtain ⟨v, r, rfl, qv, b0⟩ := rSt_c a3
  obtain ⟨v2, r2', rfl, q, b1⟩ := rSt_c b0
  obtain ⟨hc1, hc2, hc3, hc4, hc5, hc6, hc7, hc8, -⟩ := hc
  obtain ⟨n, cell, rfl, hn, g1, g2, g3, g4⟩ := rC_obj a1 ha hc3
  have := rV_obj q
  subst this
  have hap := va_apart (own := C) ht hc4 (cTy c) hc5 hc6 hkD.1 hc1
  obtain ⟨hS, hfc, kC, hkC, hkind⟩ := hkD.1.1 c _ hc1
  obtain ⟨cf, kf, fi, f, hi, hsl⟩ := hS k hk
  obtain ⟨y, y1, y2⟩ := g4 k (by omega)
  dsimp only at hi hsl
  have hlay := ht _ (hc4 _ (u_in_lay hk))
  unfold u_lay at hlay
  have hst := (u_facts hfc hkC (u_lays ht hc4 hk) hi).1
  obtain ⟨f1, f2⟩ := pTy_fits (hc8 k hk) (show rV sz (tgT (cTy c k), x) v from qv)
  rw [if_neg (by rw [hfin]; decide)] at hlay
  have h6 := u_store hfc hkC hkind hlay hi (hc5 k hk) f1 f2
  rw [hc7 k hk] at hi
  refine W.putK hx hb (f := f) ⟨ho, ht _ hw, ⟨_, _, _, hi⟩, hst⟩ (by rw [g3]; exact h6) g1 g2 (by rw [hsl]; exact k2_hasslot y1) rfl rfl hd fun H' e1 e2 e3 => ?_
  rw [hsl] at e1
  refine kk H' _ ls _ a2 b1 a4 (rH_set (n := n) a1 e2 e3 rfl rfl rfl (fun a hz => ?_) (fun a _ => rfl) ?_) ?_ (fun q hq => e3 q (Nat.ne_of_lt (Nat.lt_of_lt_of_le hq (Nat.le_add_right _ _))))
  · funext j
    show (if (a : Int) = (n : Int) ∧ j = k then x else _) = _
    rw [if_neg (by omega)]
    rfl
  · refine ⟨_, e1, Or.inl ?_⟩
    have hkk : hK (sF h n k x) n = c := ha
    rw [hkk]
    refine ⟨hc3, g2, g3, fun j hj => ?_⟩
    obtain ⟨z, z1, z2⟩ := g4 j hj
    rw [slot_set z1]
    by_cases hjk : j = k
    · subst hjk
      refine ⟨v, if_pos rfl, ?_⟩
      have : hF (sF h n j x) n j = x := if_pos ⟨rfl, rfl⟩
      rw [this]
      exact qv
    · refine ⟨z, if_neg (hap k j hk (by omega) (Ne.symm hjk)), ?_⟩
      have : hF (sF h n k x) n j = hF h n j := if_neg (fun q => hjk q.2)
      rw [this]
      exact z2
  · intro q hq
    rcases List.mem_append.mp hq with z | z
    · exact Or.inr z
    · rw [List.mem_singleton.mp z]
      exact Or.inl (Nat.le_add_right _ _)
theorem Wp.putfF {a x : Int} {c k ix tg N : Nat} {C : String} {T : u_T} (hc : kC c C T N) (hk : k < N) (htg : fTg c k = tg) (hfin : (T k).2.2.2 = true) (hctor : M.1.name = "<init>") (hown : M.1.cls = C) (hw : Cond.fieldLink M.1.cls ix C (T k).2.1 (T k).2.2.1 ∈ tW) (hd : decode M.2.1 pc = .ok (.putfield ix, 3)) (ha : hK h a = c) (k0 : Wp M d (pc + 3) L S (sF h a k x) Q) : Wp M d pc L ((tg, x) :: (2, a) :: S) h Q := by
  subst htg
  refine k0.stepH (Nat.le_refl _) (Nat.le_refl _) ?_
  intro D sz h0 p l e R s m args below meth c0 Qw C H locs ls st a2 a3 a4 a1 r1 r2 n1 n2 kk
  obtain ⟨hx, hb, hml, ho, ht, hnw, hrt, hlk, hnm, hfr, hlo, hkD, hsz⟩ := C
  obtain ⟨v, r, rfl, qv, b0⟩ := rSt_c a3
  obtain ⟨v2, r2', rfl, q, b1⟩ := rSt_c b0
  obtain ⟨hc1, hc2, hc3, hc4, hc5, hc6, hc7, hc8, -⟩ := hc
  obtain ⟨n, cell, rfl, hn, g1, g2, g3, g4⟩ := rC_obj a1 ha hc3
  have := rV_obj q
  subst this
  have hap := va_apart (own := C) ht hc4 (cTy c) hc5 hc6 hkD.1 hc1
  obtain ⟨hS, hfc, kC, hkC, hkind⟩ := hkD.1.1 c _ hc1
  obtain ⟨cf, kf, fi, f, hi, hsl⟩ := hS k hk
  obtain ⟨y, y1, y2⟩ := g4 k (by omega)
  dsimp only at hi hsl
  have hlay := ht _ (hc4 _ (u_in_lay hk))
  unfold u_lay at hlay
  have hst := (u_facts hfc hkC (u_lays ht hc4 hk) hi).1
  obtain ⟨f1, f2⟩ := pTy_fits (hc8 k hk) (show rV sz (tgT (cTy c k), x) v from qv)
  rw [if_pos hfin] at hlay
  have hcf : m.cls = cf := by
    obtain ⟨_, _, c', _, _, _, -, -, hf', -, -, -, hown2, -⟩ := Cond.laysFinal_spec hlay
    have e1 : c' = cf := by have := hi.symm.trans hf'; simp at this; exact this.1.symm
    rw [hc7 k hk, ← hown] at hown2
    rw [← e1]; exact Option.some.inj (ho.symm.trans hown2)
  have h6 := u_fits hfc hkC hkind (Or.inr hlay) hi (hc5 k hk) f1 f2
  rw [hc7 k hk] at hi
  refine W.putFinK hx hb ho (ht _ hw) hi hst hcf (hnm.trans hctor) (by rw [g3]; exact h6) g1 g2 (by rw [hsl]; exact k2_hasslot y1) rfl rfl hd fun H' e1 e2 e3 => ?_
  rw [hsl] at e1
  refine kk H' _ ls _ a2 b1 a4 (rH_set (n := n) a1 e2 e3 rfl rfl rfl (fun a hz => ?_) (fun a _ => rfl) ?_) ?_ (fun q hq => e3 q (Nat.ne_of_lt (Nat.lt_of_lt_of_le hq (Nat.le_add_right _ _))))
  · funext j
    show (if (a : Int) = (n : Int) ∧ j = k then x else _) = _
    rw [if_neg (by omega)]
    rfl
  · refine ⟨_, e1, Or.inl ?_⟩
    have hkk : hK (sF h n k x) n = c := ha
    rw [hkk]
    refine ⟨hc3, g2, g3, fun j hj => ?_⟩
    obtain ⟨z, z1, z2⟩ := g4 j hj
    rw [slot_set z1]
    by_cases hjk : j = k
    · subst hjk
      refine ⟨v, if_pos rfl, ?_⟩
      have : hF (sF h n j x) n j = x := if_pos ⟨rfl, rfl⟩
      rw [this]
      exact qv
    · refine ⟨z, if_neg (hap k j hk (by omega) (Ne.symm hjk)), ?_⟩
      have : hF (sF h n k x) n j = hF h n j := if_neg (fun q => hjk q.2)
      rw [this]
      exact z2
  · intro q hq
    rcases List.mem_append.mp hq with z | z
    · exact Or.inr z
    · rw [List.mem_singleton.mp z]
      exact Or.inl (Nat.le_add_right _ _)
theorem Wp.putfN {a x : Int} {c k ix tg N : Nat} {C : String} {T : u_T} {host : String} (hc : kC c C T N) (hk : k < N) (htg : fTg c k = tg) (hfin : (T k).2.2.2 = false) (hw : Cond.fieldLinkNest M.1.cls ix C (T k).2.1 (T k).2.2.1 host ∈ nW) (hd : decode M.2.1 pc = .ok (.putfield ix, 3)) (ha : hK h a = c) (k0 : Wp M d (pc + 3) L S (sF h a k x) Q) : Wp M d pc L ((tg, x) :: (2, a) :: S) h Q := by
  subst htg
  refine k0.stepH (Nat.le_refl _) (Nat.le_refl _) ?_
  intro D sz h0 p l e R s m args below meth c0 Qw C H locs ls st a2 a3 a4 a1 r1 r2 n1 n2 kk
  obtain ⟨hx, hb, hml, ho, ht, hnw, hrt, hlk, hnm, hfr, hlo, hkD, hsz⟩ := C
  obtain ⟨v, r, rfl, qv, b0⟩ := rSt_c a3
  obtain ⟨v2, r2', rfl, q, b1⟩ := rSt_c b0
  obtain ⟨hc1, hc2, hc3, hc4, hc5, hc6, hc7, hc8, -⟩ := hc
  obtain ⟨n, cell, rfl, hn, g1, g2, g3, g4⟩ := rC_obj a1 ha hc3
  have := rV_obj q
  subst this
  have hap := va_apart (own := C) ht hc4 (cTy c) hc5 hc6 hkD.1 hc1
  obtain ⟨hS, hfc, kC, hkC, hkind⟩ := hkD.1.1 c _ hc1
  obtain ⟨cf, kf, fi, f, hi, hsl⟩ := hS k hk
  obtain ⟨y, y1, y2⟩ := g4 k (by omega)
  dsimp only at hi hsl
  have hlay := ht _ (hc4 _ (u_in_lay hk))
  unfold u_lay at hlay
  have hst := (u_facts hfc hkC (u_lays ht hc4 hk) hi).1
  obtain ⟨f1, f2⟩ := pTy_fits (hc8 k hk) (show rV sz (tgT (cTy c k), x) v from qv)
  rw [if_neg (by rw [hfin]; decide)] at hlay
  have h6 := u_store hfc hkC hkind hlay hi (hc5 k hk) f1 f2
  rw [hc7 k hk] at hi
  refine va_WputK hx hb (f := f) ho (va_Nw.use rfl (hnw _ hw)) hi hst (by rw [g3]; exact h6) g1 g2 (by rw [hsl]; exact k2_hasslot y1) rfl rfl hd fun H' e1 e2 e3 => ?_
  rw [hsl] at e1
  refine kk H' _ ls _ a2 b1 a4 (rH_set (n := n) a1 e2 e3 rfl rfl rfl (fun a hz => ?_) (fun a _ => rfl) ?_) ?_ (fun q hq => e3 q (Nat.ne_of_lt (Nat.lt_of_lt_of_le hq (Nat.le_add_right _ _))))
  · funext j
    show (if (a : Int) = (n : Int) ∧ j = k then x else _) = _
    rw [if_neg (by omega)]
    rfl
  · refine ⟨_, e1, Or.inl ?_⟩
    have hkk : hK (sF h n k x) n = c := ha
    rw [hkk]
    refine ⟨hc3, g2, g3, fun j hj => ?_⟩
    obtain ⟨z, z1, z2⟩ := g4 j hj
    rw [slot_set z1]
    by_cases hjk : j = k
    · subst hjk
      refine ⟨v, if_pos rfl, ?_⟩
      have : hF (sF h n j x) n j = x := if_pos ⟨rfl, rfl⟩
      rw [this]
      exact qv
    · refine ⟨z, if_neg (hap k j hk (by omega) (Ne.symm hjk)), ?_⟩
      have : hF (sF h n k x) n j = hF h n j := if_neg (fun q => hjk q.2)
      rw [this]
      exact z2
  · intro q hq
    rcases List.mem_append.mp hq with z | z
    · exact Or.inr z
    · rw [List.mem_singleton.mp z]
      exact Or.inl (Nat.le_add_right _ _)
theorem arr_is {s : State} {cell : Cell} {cA : ClassId} {ty : FieldType} (h1 : cell.vm = .none) (h2 : cell.cls = cA) (h3 : ArrOfT s cA ty) : s.isArrayOf cell ty := by
  obtain ⟨k, z⟩ := (h3 0 (fun _ => .null)).2
  exact ⟨fun q hq => (by rw [h1] at hq; cases hq), k, by rw [h2]; exact z⟩
theorem idx32 {j : Int32} {i : Int} {n : Nat} (e : j.toInt = i) (h1 : 0 ≤ i) (h2 : i < n) : ¬ (j < 0 ∨ n ≤ j.toNatClampNeg) ∧ j.toNatClampNeg = i.toNat ∧ i.toNat < n := by
  have hc : j.toNatClampNeg = j.toInt.toNat := rfl
  have h0 : (0 : Int32).toInt = 0 := by decide
  rw [Int32.lt_iff_toInt_lt, hc, e, h0]
  omega
theorem Wp.iaload {a i x : Int} (hd : decode M.2.1 pc = .ok (.iaload, 1)) (ha : hK h a = 10) (h1 : 0 ≤ i) (h2 : i < hL h a) (hv : hA h a i = x) (k0 : Wp M d (pc + 1) L ((0, x) :: S) h Q) : Wp M d pc L ((0, i) :: (2, a) :: S) h Q := by
  subst hv
  refine k0.step ?_
  intro D sz h0 p l e R s m args below meth c0 Qw C H locs cells slots ls st a2 a3 a4 a1 kk
  obtain ⟨hx, hb, hml, ho, ht, hnw, hrt, hlk, hnm, hfr, hlo, hkD, hsz⟩ := C
  obtain ⟨v, r, rfl, qv, b0⟩ := rSt_c a3
  obtain ⟨v2, r2', rfl, q, b1⟩ := rSt_c b0
  obtain ⟨j, rfl, ej⟩ := rV_i qv
  obtain ⟨n, cell, rfl, hn, g1, g2, g3, g4, g5⟩ := rC_arr a1 ha (by decide) (by decide)
  have := rV_obj q
  subst this
  obtain ⟨i1, i2, i3⟩ := idx32 ej h1 (show i < (cell.slots.size : Int) by omega)
  obtain ⟨y, y1, y2⟩ := g5 i.toNat i3
  rw [show ((i.toNat : Nat) : Int) = i by omega] at y2
  exact W.iald hx hb g1 (arr_is g2 g3 (hkD.1.2 0 _ rfl).1) (by rw [g2]; exact fun z => by cases z) i1 (by rw [i2]; exact y1) rfl rfl hd (kk ls _ a2 ⟨y2, b1⟩ a4)
theorem Wp.laload {a i x : Int} (hd : decode M.2.1 pc = .ok (.laload, 1)) (ha : hK h a = 11) (h1 : 0 ≤ i) (h2 : i < hL h a) (hv : hA h a i = x) (k0 : Wp M d (pc + 1) L ((1, x) :: S) h Q) : Wp M d pc L ((0, i) :: (2, a) :: S) h Q := by
  subst hv
  refine k0.step ?_
  intro D sz h0 p l e R s m args below meth c0 Qw C H locs cells slots ls st a2 a3 a4 a1 kk
  obtain ⟨hx, hb, hml, ho, ht, hnw, hrt, hlk, hnm, hfr, hlo, hkD, hsz⟩ := C
  obtain ⟨v, r, rfl, qv, b0⟩ := rSt_c a3
  obtain ⟨v2, r2', rfl, q, b1⟩ := rSt_c b0
  obtain ⟨j, rfl, ej⟩ := rV_i qv
  obtain ⟨n, cell, rfl, hn, g1, g2, g3, g4, g5⟩ := rC_arr a1 ha (by decide) (by decide)
  have := rV_obj q
  subst this
  obtain ⟨i1, i2, i3⟩ := idx32 ej h1 (show i < (cell.slots.size : Int) by omega)
  obtain ⟨y, y1, y2⟩ := g5 i.toNat i3
  rw [show ((i.toNat : Nat) : Int) = i by omega] at y2
  exact W.lald hx hb g1 (arr_is g2 g3 (hkD.1.2 1 _ rfl).1) (by rw [g2]; exact fun z => by cases z) i1 (by rw [i2]; exact y1) rfl rfl hd (kk ls _ a2 ⟨y2, b1⟩ a4)
theorem Wp.zaload {a i x : Int} (hd : decode M.2.1 pc = .ok (.baload, 1)) (ha : hK h a = 12) (h1 : 0 ≤ i) (h2 : i < hL h a) (hv : hA h a i = x) (k0 : Wp M d (pc + 1) L ((0, x) :: S) h Q) : Wp M d pc L ((0, i) :: (2, a) :: S) h Q := by
  subst hv
  refine k0.step ?_
  intro D sz h0 p l e R s m args below meth c0 Qw C H locs cells slots ls st a2 a3 a4 a1 kk
  obtain ⟨hx, hb, hml, ho, ht, hnw, hrt, hlk, hnm, hfr, hlo, hkD, hsz⟩ := C
  obtain ⟨v, r, rfl, qv, b0⟩ := rSt_c a3
  obtain ⟨v2, r2', rfl, q, b1⟩ := rSt_c b0
  obtain ⟨j, rfl, ej⟩ := rV_i qv
  obtain ⟨n, cell, rfl, hn, g1, g2, g3, g4, g5⟩ := rC_arr a1 ha (by decide) (by decide)
  have := rV_obj q
  subst this
  obtain ⟨i1, i2, i3⟩ := idx32 ej h1 (show i < (cell.slots.size : Int) by omega)
  obtain ⟨y, y1, y2⟩ := g5 i.toNat i3
  rw [show ((i.toNat : Nat) : Int) = i by omega] at y2
  exact W.zald hx hb g1 (arr_is g2 g3 (hkD.1.2 2 _ rfl).1) (by rw [g2]; exact fun z => by cases z) i1 (by rw [i2]; exact y1) rfl rfl hd (kk ls _ a2 ⟨y2, b1⟩ a4)
theorem Wp.baload {a i x : Int} (hd : decode M.2.1 pc = .ok (.baload, 1)) (ha : hK h a = 13) (h1 : 0 ≤ i) (h2 : i < hL h a) (hv : hA h a i = x) (k0 : Wp M d (pc + 1) L ((0, x) :: S) h Q) : Wp M d pc L ((0, i) :: (2, a) :: S) h Q := by
  subst hv
  refine k0.step ?_
  intro D sz h0 p l e R s m args below meth c0 Qw C H locs cells slots ls st a2 a3 a4 a1 kk
  obtain ⟨hx, hb, hml, ho, ht, hnw, hrt, hlk, hnm, hfr, hlo, hkD, hsz⟩ := C
  obtain ⟨v, r, rfl, qv, b0⟩ := rSt_c a3
  obtain ⟨v2, r2', rfl, q, b1⟩ := rSt_c b0
  obtain ⟨j, rfl, ej⟩ := rV_i qv
  obtain ⟨n, cell, rfl, hn, g1, g2, g3, g4, g5⟩ := rC_arr a1 ha (by decide) (by decide)
  have := rV_obj q
  subst this
  obtain ⟨i1, i2, i3⟩ := idx32 ej h1 (show i < (cell.slots.size : Int) by omega)
  obtain ⟨y, y1, y2⟩ := g5 i.toNat i3
  rw [show ((i.toNat : Nat) : Int) = i by omega] at y2
  exact W.bald hx hb g1 (arr_is g2 g3 (hkD.1.2 3 _ rfl).1) (by rw [g2]; exact fun z => by cases z) i1 (by rw [i2]; exact y1) rfl rfl hd (kk ls _ a2 ⟨y2, b1⟩ a4)
theorem Wp.aaload {a i x : Int} {t : Nat} (hd : decode M.2.1 pc = .ok (.aaload, 1)) (ht5 : t = 14 ∨ t = 15) (ha : hK h a = t) (h1 : 0 ≤ i) (h2 : i < hL h a) (hv : hA h a i = x) (k0 : Wp M d (pc + 1) L ((2, x) :: S) h Q) : Wp M d pc L ((0, i) :: (2, a) :: S) h Q := by
  subst hv
  refine k0.step ?_
  intro D sz h0 p l e R s m args below meth c0 Qw C H locs cells slots ls st a2 a3 a4 a1 kk
  obtain ⟨hx, hb, hml, ho, ht, hnw, hrt, hlk, hnm, hfr, hlo, hkD, hsz⟩ := C
  obtain ⟨v, r, rfl, qv, b0⟩ := rSt_c a3
  obtain ⟨v2, r2', rfl, q, b1⟩ := rSt_c b0
  obtain ⟨j, rfl, ej⟩ := rV_i qv
  obtain ⟨n, cell, rfl, hn, g1, g2, g3, g4, g5⟩ := rC_arr a1 ha (by omega) (by omega)
  have := rV_obj q
  subst this
  obtain ⟨i1, i2, i3⟩ := idx32 ej h1 (show i < (cell.slots.size : Int) by omega)
  obtain ⟨y, y1, y2⟩ := g5 i.toNat i3
  rw [show ((i.toNat : Nat) : Int) = i by omega] at y2
  rcases ht5 with rfl | rfl
  · exact W.aald hx hb g1 (arr_is g2 g3 (hkD.1.2 4 _ rfl).1) rfl (by rw [g2]; exact fun z => by cases z) i1 (by rw [i2]; exact y1) rfl rfl hd (kk ls _ a2 ⟨y2, b1⟩ a4)
  · exact W.aald hx hb g1 (arr_is g2 g3 (hkD.1.2 5 _ rfl).1) rfl (by rw [g2]; exact fun z => by cases z) i1 (by rw [i2]; exact y1) rfl rfl hd (kk ls _ a2 ⟨y2, b1⟩ a4)
theorem Wp.alen {a x : Int} {t : Nat} (hd : decode M.2.1 pc = .ok (.arraylength, 1)) (h10 : 10 ≤ t) (h16 : t < 16) (ha : hK h a = t) (hv : hL h a = x) (hm : x < 2147483648) (k0 : Wp M d (pc + 1) L ((0, x) :: S) h Q) : Wp M d pc L ((2, a) :: S) h Q := by
  subst hv
  refine k0.step ?_
  intro D sz h0 p l e R s m args below meth c0 Qw C H locs cells slots ls st a2 a3 a4 a1 kk
  obtain ⟨hx, hb, hml, ho, ht, hnw, hrt, hlk, hnm, hfr, hlo, hkD, hsz⟩ := C
  obtain ⟨v2, r2', rfl, q, b1⟩ := rSt_c a3
  obtain ⟨n, cell, rfl, hn, g1, g2, g3, g4, g5⟩ := rC_arr a1 ha h10 h16
  have := rV_obj q
  subst this
  have hq : ∃ ty, s.isArrayOf cell ty := by
    have hz : t = 10 ∨ t = 11 ∨ t = 12 ∨ t = 13 ∨ t = 14 ∨ t = 15 := by omega
    rcases hz with rfl | rfl | rfl | rfl | rfl | rfl
    · exact ⟨_, arr_is g2 g3 (hkD.1.2 0 _ rfl).1⟩
    · exact ⟨_, arr_is g2 g3 (hkD.1.2 1 _ rfl).1⟩
    · exact ⟨_, arr_is g2 g3 (hkD.1.2 2 _ rfl).1⟩
    · exact ⟨_, arr_is g2 g3 (hkD.1.2 3 _ rfl).1⟩
    · exact ⟨_, arr_is g2 g3 (hkD.1.2 4 _ rfl).1⟩
    · exact ⟨_, arr_is g2 g3 (hkD.1.2 5 _ rfl).1⟩
  obtain ⟨ty, hty⟩ := hq
  refine W.alen hx hb g1 hty rfl rfl rfl hd (kk ls _ a2 ⟨mI ?_, b1⟩ a4)
  have : (cell.slots.size.toInt32).toInt = (cell.slots.size : Int) := nI_toInt (by omega)
  rw [this, g4]
/-- an element is written -/
theorem rH_elem {D : mD} {sz n i : Nat} {h : mH} {H H' : Heap} {cell : Cell} {t : Nat} {x : Int} {v : Value} (hr : rH D sz h H) (ha : hK h (n : Int) = t) (h10 : 10 ≤ t) (h16 : t < 16) (g2 : cell.vm = .none) (g3 : cell.cls = D.2.2 t) (g4 : (cell.slots.size : Int) = hL h n) (g5 : ∀ i : Nat, i < cell.slots.size → ∃ x, cell.slots[i]? = some x ∧ rV sz (aTg t, hA h n i) x)
    (hv : rV sz (aTg t, x) v) (e1 : H'[sz + n]? = some (cell.setSlot i v)) (e2 : H'.size = H.size) (e3 : ∀ q, q ≠ sz + n → H'[q]? = H[q]?) : rH D sz (sE h n i x) H' := by
  refine rH_set (n := n) hr e2 e3 rfl rfl rfl (fun a _ => rfl) (fun a hz => ?_) ?_
  · show (if (a : Int) = (n : Int) then _ else _) = _
    rw [if_neg (by omega)]
    rfl
  · refine ⟨_, e1, Or.inr (Or.inl ?_)⟩
    have hkk : hK (sE h n i x) n = t := ha
    rw [hkk]
    have hsz : (cell.setSlot i v).slots.size = cell.slots.size := k2_slotsz cell i v
    refine ⟨h10, h16, g2, g3, by rw [hsz]; exact g4, fun j hj => ?_⟩
    rw [hsz] at hj
    obtain ⟨z, z1, z2⟩ := g5 j hj
    rw [slot_set z1]
    have e : hA (sE h n i x) n = u1 (hA h n) i x := u1_s _ _ _
    rw [e]
    by_cases hij : i = j
    · subst hij
      exact ⟨v, if_pos rfl, by rw [u1_s]; exact hv⟩
    · refine ⟨z, if_neg hij, ?_⟩
      rw [u1_n _ _ (show (j : Int) ≠ (i : Int) by omega)]
      exact z2
theorem mem_loc {sz n : Nat} {locs : List Loc} {i : Nat} : ∀ q ∈ locs ++ [(⟨sz + n, i⟩ : Loc)], sz ≤ q.base ∨ q ∈ locs := by
  intro q hq
  rcases List.mem_append.mp hq with z | z
  · exact Or.inr z
  · rw [List.mem_singleton.mp z]
    exact Or.inl (Nat.le_add_right _ _)
theorem Wp.iastore {a i x : Int} (hd : decode M.2.1 pc = .ok (.iastore, 1)) (ha : hK h a = 10) (h1 : 0 ≤ i) (h2 : i < hL h a) (k0 : Wp M d (pc + 1) L S (sE h a i x) Q) : Wp M d pc L ((0, x) :: (0, i) :: (2, a) :: S) h Q := by
  refine k0.stepH (Nat.le_refl _) (Nat.le_refl _) ?_
  intro D sz h0 p l e R s m args below meth c0 Qw C H locs ls st a2 a3 a4 a1 r1 r2 n1 n2 kk
  obtain ⟨hx, hb', hml, ho, ht, hnw, hrt, hlk, hnm, hfr, hlo, hkD, hsz⟩ := C
  obtain ⟨vv, r, rfl, qx, b0⟩ := rSt_c a3
  obtain ⟨v, r2', rfl, qv, b1⟩ := rSt_c b0
  obtain ⟨v2, r3', rfl, q, b2⟩ := rSt_c b1
  obtain ⟨u, rfl, eu⟩ := rV_i qx
  obtain ⟨j, rfl, ej⟩ := rV_i qv
  obtain ⟨n, cell, rfl, hn, g1, g2, g3, g4, g5⟩ := rC_arr a1 ha (by decide) (by decide)
  have := rV_obj q
  subst this
  obtain ⟨i1, i2, i3⟩ := idx32 ej h1 (show i < (cell.slots.size : Int) by omega)
  refine W.iast hx hb' g1 (arr_is g2 g3 (hkD.1.2 0 _ rfl).1) (by rw [g2]; exact fun z => by cases z) i1 rfl rfl hd fun H' e1 e2 e3 => ?_
  rw [i2] at e1 ⊢
  have hrH := rH_elem (i := i.toNat) a1 ha (by decide) (by decide) g2 g3 g4 g5 qx e1 e2 e3
  rw [show ((i.toNat : Nat) : Int) = i by omega] at hrH
  exact kk H' _ ls _ a2 b2 a4 hrH mem_loc (fun q hq => e3 q (Nat.ne_of_lt (Nat.lt_of_lt_of_le hq (Nat.le_add_right _ _))))
theorem Wp.lastore {a i x : Int} (hd : decode M.2.1 pc = .ok (.lastore, 1)) (ha : hK h a = 11) (h1 : 0 ≤ i) (h2 : i < hL h a) (k0 : Wp M d (pc + 1) L S (sE h a i x) Q) : Wp M d pc L ((1, x) :: (0, i) :: (2, a) :: S) h Q := by
  refine k0.stepH (Nat.le_refl _) (Nat.le_refl _) ?_
  intro D sz h0 p l e R s m args below meth c0 Qw C H locs ls st a2 a3 a4 a1 r1 r2 n1 n2 kk
  obtain ⟨hx, hb', hml, ho, ht, hnw, hrt, hlk, hnm, hfr, hlo, hkD, hsz⟩ := C
  obtain ⟨vv, r, rfl, qx, b0⟩ := rSt_c a3
  obtain ⟨v, r2', rfl, qv, b1⟩ := rSt_c b0
  obtain ⟨v2, r3', rfl, q, b2⟩ := rSt_c b1
  obtain ⟨u, rfl, eu⟩ := rV_l qx
  obtain ⟨j, rfl, ej⟩ := rV_i qv
  obtain ⟨n, cell, rfl, hn, g1, g2, g3, g4, g5⟩ := rC_arr a1 ha (by decide) (by decide)
  have := rV_obj q
  subst this
  obtain ⟨i1, i2, i3⟩ := idx32 ej h1 (show i < (cell.slots.size : Int) by omega)
  refine W.last hx hb' g1 (arr_is g2 g3 (hkD.1.2 1 _ rfl).1) (by rw [g2]; exact fun z => by cases z) i1 rfl rfl hd fun H' e1 e2 e3 => ?_
  rw [i2] at e1 ⊢
  have hrH := rH_elem (i := i.toNat) a1 ha (by decide) (by decide) g2 g3 g4 g5 qx e1 e2 e3
  rw [show ((i.toNat : Nat) : Int) = i by omega] at hrH
  exact kk H' _ ls _ a2 b2 a4 hrH mem_loc (fun q hq => e3 q (Nat.ne_of_lt (Nat.lt_of_lt_of_le hq (Nat.le_add_right _ _))))
theorem Wp.zastore {a i x : Int} (hd : decode M.2.1 pc = .ok (.bastore, 1)) (ha : hK h a = 12) (h1 : 0 ≤ i) (h2 : i < hL h a) (hb : x = 0 ∨ x = 1) (k0 : Wp M d (pc + 1) L S (sE h a i x) Q) : Wp M d pc L ((0, x) :: (0, i) :: (2, a) :: S) h Q := by
  refine k0.stepH (Nat.le_refl _) (Nat.le_refl _) ?_
  intro D sz h0 p l e R s m args below meth c0 Qw C H locs ls st a2 a3 a4 a1 r1 r2 n1 n2 kk
  obtain ⟨hx, hb', hml, ho, ht, hnw, hrt, hlk, hnm, hfr, hlo, hkD, hsz⟩ := C
  obtain ⟨vv, r, rfl, qx, b0⟩ := rSt_c a3
  obtain ⟨v, r2', rfl, qv, b1⟩ := rSt_c b0
  obtain ⟨v2, r3', rfl, q, b2⟩ := rSt_c b1
  obtain ⟨u, rfl, eu⟩ := rV_i qx
  obtain ⟨j, rfl, ej⟩ := rV_i qv
  obtain ⟨n, cell, rfl, hn, g1, g2, g3, g4, g5⟩ := rC_arr a1 ha (by decide) (by decide)
  have := rV_obj q
  subst this
  obtain ⟨i1, i2, i3⟩ := idx32 ej h1 (show i < (cell.slots.size : Int) by omega)
  have hnar : narrow .boolean (.int u) = .int u := by
    have : u = 0 ∨ u = 1 := by
      rcases hb with z | z
      · exact Or.inl (Int32.toInt_inj.mp (by rw [eu, z]; rfl))
      · exact Or.inr (Int32.toInt_inj.mp (by rw [eu, z]; rfl))
    rcases this with rfl | rfl <;> rfl
  refine W.zast hx hb' g1 (arr_is g2 g3 (hkD.1.2 2 _ rfl).1) (by rw [g2]; exact fun z => by cases z) i1 rfl rfl hd fun H' e1 e2 e3 => ?_
  rw [i2] at e1 ⊢
  rw [hnar] at e1
  have hrH := rH_elem (i := i.toNat) a1 ha (by decide) (by decide) g2 g3 g4 g5 qx e1 e2 e3
  rw [show ((i.toNat : Nat) : Int) = i by omega] at hrH
  exact kk H' _ ls _ a2 b2 a4 hrH mem_loc (fun q hq => e3 q (Nat.ne_of_lt (Nat.lt_of_lt_of_le hq (Nat.le_add_right _ _))))
theorem Wp.bastore {a i x : Int} (hd : decode M.2.1 pc = .ok (.bastore, 1)) (ha : hK h a = 13) (h1 : 0 ≤ i) (h2 : i < hL h a) (hb : -128 ≤ x ∧ x < 128) (k0 : Wp M d (pc + 1) L S (sE h a i x) Q) : Wp M d pc L ((0, x) :: (0, i) :: (2, a) :: S) h Q := by
  refine k0.stepH (Nat.le_refl _) (Nat.le_refl _) ?_
  intro D sz h0 p l e R s m args below meth c0 Qw C H locs ls st a2 a3 a4 a1 r1 r2 n1 n2 kk
  obtain ⟨hx, hb', hml, ho, ht, hnw, hrt, hlk, hnm, hfr, hlo, hkD, hsz⟩ := C
  obtain ⟨vv, r, rfl, qx, b0⟩ := rSt_c a3
  obtain ⟨v, r2', rfl, qv, b1⟩ := rSt_c b0
  obtain ⟨v2, r3', rfl, q, b2⟩ := rSt_c b1
  obtain ⟨u, rfl, eu⟩ := rV_i qx
  obtain ⟨j, rfl, ej⟩ := rV_i qv
  obtain ⟨n, cell, rfl, hn, g1, g2, g3, g4, g5⟩ := rC_arr a1 ha (by decide) (by decide)
  have := rV_obj q
  subst this
  obtain ⟨i1, i2, i3⟩ := idx32 ej h1 (show i < (cell.slots.size : Int) by omega)
  have hnar : narrow .byte (.int u) = .int u := by
    show Value.int u.toInt8.toInt32 = _
    rw [lg_i2b_small (by omega) (by omega)]
  refine W.bast hx hb' g1 (arr_is g2 g3 (hkD.1.2 3 _ rfl).1) (by rw [g2]; exact fun z => by cases z) i1 rfl rfl hd fun H' e1 e2 e3 => ?_
  rw [i2] at e1 ⊢
  rw [hnar] at e1
  have hrH := rH_elem (i := i.toNat) a1 ha (by decide) (by decide) g2 g3 g4 g5 qx e1 e2 e3
  rw [show ((i.toNat : Nat) : Int) = i by omega] at hrH
  exact kk H' _ ls _ a2 b2 a4 hrH mem_loc (fun q hq => e3 q (Nat.ne_of_lt (Nat.lt_of_lt_of_le hq (Nat.le_add_right _ _))))
theorem Wp.aastore14 {a i x : Int} (hd : decode M.2.1 pc = .ok (.aastore, 1)) (ha : hK h a = 14) (h1 : 0 ≤ i) (h2 : i < hL h a) (hxk : hK h x = 2) (k0 : Wp M d (pc + 1) L S (sE h a i x) Q) : Wp M d pc L ((2, x) :: (0, i) :: (2, a) :: S) h Q := by
  refine k0.stepH (Nat.le_refl _) (Nat.le_refl _) ?_
  intro D sz h0 p l e R s m args below meth c0 Qw C H locs ls st a2 a3 a4 a1 r1 r2 n1 n2 kk
  obtain ⟨hx, hb, hml, ho, ht, hnw, hrt, hlk, hnm, hfr, hlo, hkD, hsz⟩ := C
  obtain ⟨vv, r, rfl, qx, b0⟩ := rSt_c a3
  obtain ⟨v, r2', rfl, qv, b1⟩ := rSt_c b0
  obtain ⟨v2, r3', rfl, q, b2⟩ := rSt_c b1
  obtain ⟨j, rfl, ej⟩ := rV_i qv
  obtain ⟨n, cell, rfl, hn, g1, g2, g3, g4, g5⟩ := rC_arr a1 ha (by decide) (by decide)
  have := rV_obj q
  subst this
  obtain ⟨nx, cx, rfl, hnx, f1, f2, f3, -⟩ := rC_obj a1 hxk (by decide)
  have := rV_obj qx
  subst this
  obtain ⟨i1, i2, i3⟩ := idx32 ej h1 (show i < (cell.slots.size : Int) by omega)
  obtain ⟨kA, comp, s1, s2, s3, s4⟩ := (hkD.1.2 4 _ rfl).2
  obtain ⟨-, hfc, kS, hkS, hkd⟩ := hkD.1.1 2 _ rfl
  have hcomp : comp = D.1 2 := Option.some.inj (s3.symm.trans hfc)
  have hcls : s.vm.classes[comp]? = some kS := by rw [hcomp]; exact hkS
  refine W.aast hx hb (comp := comp) (t := .object "BeatBench$Sheet") g1 (fun z hz => by rw [g2] at hz; cases hz) (by rw [g2]; exact fun z => by cases z) (by rw [g3]; exact s1) s2 rfl hcls ⟨fun z => i1 (Or.inl z), by rw [i2]; exact i3⟩ f1 (fun z hz => by rw [f2] at hz; cases hz) (by rw [f3]; exact hkS) ?_ rfl rfl hd fun H' e1 e2 e3 => ?_
  · rw [f3, hcomp]
    exact va_asg _ _
  rw [i2] at e1 ⊢
  have hrH := rH_elem (i := i.toNat) a1 ha (by decide) (by decide) g2 g3 g4 g5 qx e1 e2 e3
  rw [show ((i.toNat : Nat) : Int) = i by omega] at hrH
  exact kk H' _ ls _ a2 b2 a4 hrH mem_loc (fun q hq => e3 q (Nat.ne_of_lt (Nat.lt_of_lt_of_le hq (Nat.le_add_right _ _))))
end VME
end
section
section VMF
variable {M : mM} {d pc : Nat} {L S : List mV} {h : mH} {Q : Option mV → mH → Prop}
theorem Wp.new {c ix N : Nat} {C : String} {T : u_T} (hc : kC c C T N) (hw : Cond.classLink M.1.cls ix C ∈ tW) (hd : decode M.2.1 pc = .ok (.new ix, 3)) (k0 : Wp M d (pc + 3) L ((2, (hN h : Int)) :: S) (nO h c) Q) : Wp M d pc L S h Q := by
  refine k0.stepH (Nat.le_succ _) (Nat.le_add_right _ _) ?_
  intro D sz h0 p l e R s m args below meth c0 Qw C H locs ls st a2 a3 a4 a1 r1 r2 n1 n2 kk
  obtain ⟨hx, hb, hml, ho, ht, hnw, hrt, hlk, hnm, hfr, hlo, hkD, hsz⟩ := C
  obtain ⟨hc1, hc2, hc3, hc4, hc5, hc6, hc7, hc8, hc9, hc10⟩ := hc
  have hKn := hkD.1.1 c _ hc1
  have e1 : hN (nO h c) = hN h + 1 := rfl
  have e2 : hZ (nO h c) = hZ h + N := by rw [← hc2]; rfl
  rw [e1] at r1
  rw [e2] at r2
  refine W.newcK hx hb ho (ht _ hw) (ht _ hc9) (ht _ hc10) rfl hd (by omega) (by omega) hKn.2.1 rfl fun H1 kC hkC f1 z1 o1 => ?_
  refine W.cs (show hN h - hN h0 + 1 = hN (nO h c) - hN h0 by rw [e1]; omega) (show hZ h - hZ h0 + N = hZ (nO h c) - hZ h0 by rw [e2]; omega) ?_
  have hsz2 : H.size = sz + hN h := a1.1
  refine kk H1 locs ls _ a2 ⟨mR (by rw [hsz2]; omega) (by omega), a3⟩ a4 (rH_push a1 z1 o1 e1 (fun a ha => u1_n _ _ ha) (fun a _ => rfl) (fun a ha => u1_n _ _ ha) (fun a _ => rfl) ?_) (fun q hq => Or.inr hq) (fun q hq => o1 q (by omega))
  obtain ⟨cell, q1, q2, q3, q4⟩ := u_born (cTy c) ht hc4 hKn hkC f1 hc5
  rw [hsz2] at q1
  have hkk : hK (nO h c) (hN h : Int) = c := u1_s _ _ _
  refine ⟨cell, q1, Or.inl ?_⟩
  rw [hkk]
  refine ⟨hc3, q3, q2, fun k hk => ⟨_, q4 k (by omega), ?_⟩⟩
  have hff : hF (nO h c) (hN h : Int) k = dfl (fTg c k) := congrFun (u1_s _ _ _) k
  rw [hff]
  exact pTy_dfl (Or.inl (hc8 k (by omega)))
theorem Wp.newI {n : Int} (hw : Cond.arrayClass .int ∈ tW) (hd : decode M.2.1 pc = .ok (.newarray .int, 2)) (h1 : 0 ≤ n) (h2 : n ≤ 1000000) (k0 : Wp M d (pc + 2) L ((2, (hN h : Int)) :: S) (nA h 10 n) Q) : Wp M d pc L ((0, n) :: S) h Q := by
  refine k0.stepH (Nat.le_succ _) (Nat.le_add_right _ _) ?_
  intro D sz h0 p l e R s m args below meth c0 Qw C H locs ls st a2 a3 a4 a1 r1 r2 n1 n2 kk
  obtain ⟨hx, hb, hml, ho, ht, hnw, hrt, hlk, hnm, hfr, hlo, hkD, hsz⟩ := C
  obtain ⟨v, r, rfl, qv, b0⟩ := rSt_c a3
  obtain ⟨j, rfl, ej⟩ := rV_i qv
  have e1 : hN (nA h 10 n) = hN h + 1 := rfl
  have e2 : hZ (nA h 10 n) = hZ h + n.toNat := rfl
  rw [e1] at r1
  rw [e2] at r2
  have hj0 : ¬ j < 0 := fun z => by
    have := Int32.lt_iff_toInt_lt.mp z
    rw [ej] at this
    exact absurd this (by show ¬ n < 0; omega)
  have hjn : j.toNatClampNeg = n.toNat := by show j.toInt.toNat = _; rw [ej]
  have hsz2 : H.size = sz + hN h := a1.1
  refine va_newaK (atype := .int) hx hb (ht _ hw) rfl hd rfl hj0 hjn (by show n.toNat * 4 ≤ _; omega) (by omega) (by omega) hsz2 fun H1 cA f1 z1 o1 hArr hNm => ?_
  refine W.cs (show hN h - hN h0 + 1 = hN (nA h 10 n) - hN h0 by rw [e1]; omega) (show hZ h - hZ h0 + n.toNat = hZ (nA h 10 n) - hZ h0 by rw [e2]; omega) ?_
  have hcA : cA = D.2.2 10 := Option.some.inj (hNm.symm.trans (hkD.1.2 0 _ rfl).2)
  refine kk H1 locs ls _ a2 ⟨mR (by omega) (by omega), b0⟩ a4 (rH_push a1 (by rw [z1, hsz2]) (fun q hq => o1 q (by omega)) e1 (fun a ha => u1_n _ _ ha) (fun a ha => u1_n _ _ ha) (fun a _ => rfl) (fun a ha => u1_n _ _ ha) ?_) (fun q hq => Or.inr hq) (fun q hq => o1 q (by omega))
  have hkk : hK (nA h 10 n) (hN h : Int) = 10 := u1_s _ _ _
  have hll : hL (nA h 10 n) (hN h : Int) = n := u1_s _ _ _
  have haa : hA (nA h 10 n) (hN h : Int) = fun _ => dfl (aTg 10) := u1_s _ _ _
  refine ⟨_, f1, Or.inr (Or.inl ?_)⟩
  rw [hkk, hll, haa, arrV_size]
  refine ⟨by decide, by decide, rfl, hcA, by omega, fun i hi => ⟨_, arrV_read _ _ hi, ?_⟩⟩
  exact pTy_dfl (ty := .int) (by first | exact Or.inl rfl | exact Or.inr (Or.inl rfl) | exact Or.inr (Or.inr rfl))
theorem Wp.newJ {n : Int} (hw : Cond.arrayClass .long ∈ tW) (hd : decode M.2.1 pc = .ok (.newarray .long, 2)) (h1 : 0 ≤ n) (h2 : n ≤ 1000000) (k0 : Wp M d (pc + 2) L ((2, (hN h : Int)) :: S) (nA h 11 n) Q) : Wp M d pc L ((0, n) :: S) h Q := by
  refine k0.stepH (Nat.le_succ _) (Nat.le_add_right _ _) ?_
  intro D sz h0 p l e R s m args below meth c0 Qw C H locs ls st a2 a3 a4 a1 r1 r2 n1 n2 kk
  obtain ⟨hx, hb, hml, ho, ht, hnw, hrt, hlk, hnm, hfr, hlo, hkD, hsz⟩ := C
  obtain ⟨v, r, rfl, qv, b0⟩ := rSt_c a3
  obtain ⟨j, rfl, ej⟩ := rV_i qv
  have e1 : hN (nA h 11 n) = hN h + 1 := rfl
  have e2 : hZ (nA h 11 n) = hZ h + n.toNat := rfl
  rw [e1] at r1
  rw [e2] at r2
  have hj0 : ¬ j < 0 := fun z => by
    have := Int32.lt_iff_toInt_lt.mp z
    rw [ej] at this
    exact absurd this (by show ¬ n < 0; omega)
  have hjn : j.toNatClampNeg = n.toNat := by show j.toInt.toNat = _; rw [ej]
  have hsz2 : H.size = sz + hN h := a1.1
  refine va_newaK (atype := .long) hx hb (ht _ hw) rfl hd rfl hj0 hjn (by show n.toNat * 8 ≤ _; omega) (by omega) (by omega) hsz2 fun H1 cA f1 z1 o1 hArr hNm => ?_
  refine W.cs (show hN h - hN h0 + 1 = hN (nA h 11 n) - hN h0 by rw [e1]; omega) (show hZ h - hZ h0 + n.toNat = hZ (nA h 11 n) - hZ h0 by rw [e2]; omega) ?_
  have hcA : cA = D.2.2 11 := Option.some.inj (hNm.symm.trans (hkD.1.2 1 _ rfl).2)
  refine kk H1 locs ls _ a2 ⟨mR (by omega) (by omega), b0⟩ a4 (rH_push a1 (by rw [z1, hsz2]) (fun q hq => o1 q (by omega)) e1 (fun a ha => u1_n _ _ ha) (fun a ha => u1_n _ _ ha) (fun a _ => rfl) (fun a ha => u1_n _ _ ha) ?_) (fun q hq => Or.inr hq) (fun q hq => o1 q (by omega))
  have hkk : hK (nA h 11 n) (hN h : Int) = 11 := u1_s _ _ _
  have hll : hL (nA h 11 n) (hN h : Int) = n := u1_s _ _ _
  have haa : hA (nA h 11 n) (hN h : Int) = fun _ => dfl (aTg 11) := u1_s _ _ _
  refine ⟨_, f1, Or.inr (Or.inl ?_)⟩
  rw [hkk, hll, haa, arrV_size]
  refine ⟨by decide, by decide, rfl, hcA, by omega, fun i hi => ⟨_, arrV_read _ _ hi, ?_⟩⟩
  exact pTy_dfl (ty := .long) (by first | exact Or.inl rfl | exact Or.inr (Or.inl rfl) | exact Or.inr (Or.inr rfl))
theorem Wp.newZ {n : Int} (hw : Cond.arrayClass .boolean ∈ tW) (hd : decode M.2.1 pc = .ok (.newarray .boolean, 2)) (h1 : 0 ≤ n) (h2 : n ≤ 1000000) (k0 : Wp M d (pc + 2) L ((2, (hN h : Int)) :: S) (nA h 12 n) Q) : Wp M d pc L ((0, n) :: S) h Q := by
  refine k0.stepH (Nat.le_succ _) (Nat.le_add_right _ _) ?_
  intro D sz h0 p l e R s m args below meth c0 Qw C H locs ls st a2 a3 a4 a1 r1 r2 n1 n2 kk
  obtain ⟨hx, hb, hml, ho, ht, hnw, hrt, hlk, hnm, hfr, hlo, hkD, hsz⟩ := C
  obtain ⟨v, r, rfl, qv, b0⟩ := rSt_c a3
  obtain ⟨j, rfl, ej⟩ := rV_i qv
  have e1 : hN (nA h 12 n) = hN h + 1 := rfl
  have e2 : hZ (nA h 12 n) = hZ h + n.toNat := rfl
  rw [e1] at r1
  rw [e2] at r2
  have hj0 : ¬ j < 0 := fun z => by
    have := Int32.lt_iff_toInt_lt.mp z
    rw [ej] at this
    exact absurd this (by show ¬ n < 0; omega)
  have hjn : j.toNatClampNeg = n.toNat := by show j.toInt.toNat = _; rw [ej]
  have hsz2 : H.size = sz + hN h := a1.1
  refine va_newaK (atype := .boolean) hx hb (ht _ hw) rfl hd rfl hj0 hjn (by show n.toNat * 1 ≤ _; omega) (by omega) (by omega) hsz2 fun H1 cA f1 z1 o1 hArr hNm => ?_
  refine W.cs (show hN h - hN h0 + 1 = hN (nA h 12 n) - hN h0 by rw [e1]; omega) (show hZ h - hZ h0 + n.toNat = hZ (nA h 12 n) - hZ h0 by rw [e2]; omega) ?_
  have hcA : cA = D.2.2 12 := Option.some.inj (hNm.symm.trans (hkD.1.2 2 _ rfl).2)
  refine kk H1 locs ls _ a2 ⟨mR (by omega) (by omega), b0⟩ a4 (rH_push a1 (by rw [z1, hsz2]) (fun q hq => o1 q (by omega)) e1 (fun a ha => u1_n _ _ ha) (fun a ha => u1_n _ _ ha) (fun a _ => rfl) (fun a ha => u1_n _ _ ha) ?_) (fun q hq => Or.inr hq) (fun q hq => o1 q (by omega))
  have hkk : hK (nA h 12 n) (hN h : Int) = 12 := u1_s _ _ _
  have hll : hL (nA h 12 n) (hN h : Int) = n := u1_s _ _ _
  have haa : hA (nA h 12 n) (hN h : Int) = fun _ => dfl (aTg 12) := u1_s _ _ _
  refine ⟨_, f1, Or.inr (Or.inl ?_)⟩
  rw [hkk, hll, haa, arrV_size]
  refine ⟨by decide, by decide, rfl, hcA, by omega, fun i hi => ⟨_, arrV_read _ _ hi, ?_⟩⟩
  exact pTy_dfl (ty := .boolean) (by first | exact Or.inl rfl | exact Or.inr (Or.inl rfl) | exact Or.inr (Or.inr rfl))
theorem Wp.newB {n : Int} (hw : Cond.arrayClass .byte ∈ tW) (hd : decode M.2.1 pc = .ok (.newarray .byte, 2)) (h1 : 0 ≤ n) (h2 : n ≤ 1000000) (k0 : Wp M d (pc + 2) L ((2, (hN h : Int)) :: S) (nA h 13 n) Q) : Wp M d pc L ((0, n) :: S) h Q := by
  refine k0.stepH (Nat.le_succ _) (Nat.le_add_right _ _) ?_
  intro D sz h0 p l e R s m args below meth c0 Qw C H locs ls st a2 a3 a4 a1 r1 r2 n1 n2 kk
  obtain ⟨hx, hb, hml, ho, ht, hnw, hrt, hlk, hnm, hfr, hlo, hkD, hsz⟩ := C
  obtain ⟨v, r, rfl, qv, b0⟩ := rSt_c a3
  obtain ⟨j, rfl, ej⟩ := rV_i qv
  have e1 : hN (nA h 13 n) = hN h + 1 := rfl
  have e2 : hZ (nA h 13 n) = hZ h + n.toNat := rfl
  rw [e1] at r1
  rw [e2] at r2
  have hj0 : ¬ j < 0 := fun z => by
    have := Int32.lt_iff_toInt_lt.mp z
    rw [ej] at this
    exact absurd this (by show ¬ n < 0; omega)
  have hjn : j.toNatClampNeg = n.toNat := by show j.toInt.toNat = _; rw [ej]
  have hsz2 : H.size = sz + hN h := a1.1
  refine va_newaK (atype := .byte) hx hb (ht _ hw) rfl hd rfl hj0 hjn (by show n.toNat * 1 ≤ _; omega) (by omega) (by omega) hsz2 fun H1 cA f1 z1 o1 hArr hNm => ?_
  refine W.cs (show hN h - hN h0 + 1 = hN (nA h 13 n) - hN h0 by rw [e1]; omega) (show hZ h - hZ h0 + n.toNat = hZ (nA h 13 n) - hZ h0 by rw [e2]; omega) ?_
  have hcA : cA = D.2.2 13 := Option.some.inj (hNm.symm.trans (hkD.1.2 3 _ rfl).2)
  refine kk H1 locs ls _ a2 ⟨mR (by omega) (by omega), b0⟩ a4 (rH_push a1 (by rw [z1, hsz2]) (fun q hq => o1 q (by omega)) e1 (fun a ha => u1_n _ _ ha) (fun a ha => u1_n _ _ ha) (fun a _ => rfl) (fun a ha => u1_n _ _ ha) ?_) (fun q hq => Or.inr hq) (fun q hq => o1 q (by omega))
  have hkk : hK (nA h 13 n) (hN h : Int) = 13 := u1_s _ _ _
  have hll : hL (nA h 13 n) (hN h : Int) = n := u1_s _ _ _
  have haa : hA (nA h 13 n) (hN h : Int) = fun _ => dfl (aTg 13) := u1_s _ _ _
  refine ⟨_, f1, Or.inr (Or.inl ?_)⟩
  rw [hkk, hll, haa, arrV_size]
  refine ⟨by decide, by decide, rfl, hcA, by omega, fun i hi => ⟨_, arrV_read _ _ hi, ?_⟩⟩
  exact pTy_dfl (ty := .byte) (by first | exact Or.inl rfl | exact Or.inr (Or.inl rfl) | exact Or.inr (Or.inr rfl))
theorem Wp.newS {n : Int} {ix : Nat} (hw : Cond.classLink M.1.cls ix "BeatBench$Sheet" ∈ tW) (hd : decode M.2.1 pc = .ok (.anewarray ix, 3)) (h1 : 0 ≤ n) (h2 : n ≤ 1000000) (k0 : Wp M d (pc + 3) L ((2, (hN h : Int)) :: S) (nA h 14 n) Q) : Wp M d pc L ((0, n) :: S) h Q := by
  refine k0.stepH (Nat.le_succ _) (Nat.le_add_right _ _) ?_
  intro D sz h0 p l e R s m args below meth c0 Qw C H locs ls st a2 a3 a4 a1 r1 r2 n1 n2 kk
  obtain ⟨hx, hb, hml, ho, ht, hnw, hrt, hlk, hnm, hfr, hlo, hkD, hsz⟩ := C
  obtain ⟨v, r, rfl, qv, b0⟩ := rSt_c a3
  obtain ⟨j, rfl, ej⟩ := rV_i qv
  have e1 : hN (nA h 14 n) = hN h + 1 := rfl
  have e2 : hZ (nA h 14 n) = hZ h + n.toNat := rfl
  rw [e1] at r1
  rw [e2] at r2
  have hj0 : ¬ j < 0 := fun z => by
    have := Int32.lt_iff_toInt_lt.mp z
    rw [ej] at this
    exact absurd this (by show ¬ n < 0; omega)
  have hjn : j.toNatClampNeg = n.toNat := by show j.toInt.toNat = _; rw [ej]
  have hsz2 : H.size = sz + hN h := a1.1
  refine W.anew hx hb ho (ht _ hw) (va_AO.use hkD.2.1) rfl hd rfl hj0 (by rw [hjn]; omega) (by omega) (by rw [hjn]; omega) fun cA kA comp s1 s2 s3 s4 => ?_
  rw [hjn]
  refine W.cs (show hN h - hN h0 + 1 = hN (nA h 14 n) - hN h0 by rw [e1]; omega) (show hZ h - hZ h0 + n.toNat = hZ (nA h 14 n) - hZ h0 by rw [e2]; omega) ?_
  obtain ⟨kA', comp', t1, t2, t3, t4⟩ := (hkD.1.2 4 _ rfl).2
  have hcA : cA = D.2.2 14 := Option.some.inj (s1.symm.trans t4)
  have o1 : ∀ q : Nat, q < H.size → (H.push { cls := cA, slots := Array.replicate n.toNat .null, vm := .none })[q]? = H[q]? := fun q hq => by
    rw [Array.getElem?_push, if_neg (Nat.ne_of_lt hq)]
  refine kk _ locs ls _ a2 ⟨mR (by omega) (by omega), b0⟩ a4 (rH_push a1 (by simp) o1 e1 (fun a ha => u1_n _ _ ha) (fun a ha => u1_n _ _ ha) (fun a _ => rfl) (fun a ha => u1_n _ _ ha) ?_) (fun q hq => Or.inr hq) (fun q hq => o1 q (by omega))
  have hkk : hK (nA h 14 n) (hN h : Int) = 14 := u1_s _ _ _
  have hll : hL (nA h 14 n) (hN h : Int) = n := u1_s _ _ _
  have haa : hA (nA h 14 n) (hN h : Int) = fun _ => dfl (aTg 14) := u1_s _ _ _
  refine ⟨_, by rw [← hsz2, Array.getElem?_push, if_pos rfl], Or.inr (Or.inl ?_)⟩
  rw [hkk, hll, haa]
  refine ⟨by decide, by decide, rfl, hcA, by simp; omega, fun i hi => ⟨.null, ?_, rfl⟩⟩
  simp at hi
  simp [hi]
theorem Wp.newM {n k : Int} {ix : Nat} (hw : Cond.classLink M.1.cls ix "[[J" ∈ tW) (hwa : Cond.arrayClass .long ∈ tW) (hd : decode M.2.1 pc = .ok (.multianewarray ix 2, 4)) (h1 : 0 ≤ n) (h2 : n ≤ 1000000) (h3 : 0 ≤ k) (h4 : k ≤ 1000000) (k0 : Wp M d (pc + 4) L ((2, (hN h : Int)) :: S) (nM h n k) Q) : Wp M d pc L ((0, k) :: (0, n) :: S) h Q := by
  have e1 : hN (nM h n k) = hN h + 1 + n.toNat := rfl
  have e2 : hZ (nM h n k) = hZ h + n.toNat + n.toNat * k.toNat := rfl
  refine k0.stepH (by rw [e1]; omega) (by rw [e2]; omega) ?_
  intro D sz h0 p l e R s m args below meth c0 Qw C H locs ls st a2 a3 a4 a1 r1 r2 n1 n2 kk
  obtain ⟨hx, hb, hml, ho, ht, hnw, hrt, hlk, hnm, hfr, hlo, hkD, hsz⟩ := C
  obtain ⟨v, r, rfl, qv, b0⟩ := rSt_c a3
  obtain ⟨j, rfl, ej⟩ := rV_i qv
  obtain ⟨v2, r2', rfl, qv2, b1⟩ := rSt_c b0
  obtain ⟨i, rfl, ei⟩ := rV_i qv2
  rw [e1] at r1
  rw [e2] at r2
  have hneg : ∀ (x : Int32) (z : Int), x.toInt = z → 0 ≤ z → ¬ x < 0 := fun x z hz h0 q => by
    have := Int32.lt_iff_toInt_lt.mp q
    rw [hz] at this
    exact absurd this (by show ¬ z < 0; omega)
  have hjn : j.toNatClampNeg = k.toNat := by show j.toInt.toNat = _; rw [ej]
  have hin : i.toNatClampNeg = n.toNat := by show i.toInt.toNat = _; rw [ei]
  have hsz2 : H.size = sz + hN h := a1.1
  generalize hGe : n.toNat * k.toNat = G at *
  intro T hT Xs
  obtain ⟨vm₁, cA, comp, -, fA, fC, hO, -, X', step⟩ := Xs.multianewarray2F hx ho (ht _ hw) (va_AOA.use hkD.2.2) (ht _ hwa) (g := F0 m pc ls (.int j :: .int i :: r2')) rfl (by rw [hb]; exact hd) rfl (hneg i n ei h1) (hneg j k ej h3) (by rw [hin]; omega) (by rw [hjn]; show k.toNat * 8 ≤ _; omega) (by rw [hjn]; omega) (by decide) (by decide) (by rw [hin]; omega) (by rw [hin, hjn]; omega)
  rw [hin, hjn] at X' step
  have hcy : comp = D.2.2 11 := Option.some.inj (fC.symm.trans (hkD.1.2 1 _ rfl).2)
  have hcA : cA = D.2.2 15 := Option.some.inj (fA.symm.trans (hkD.1.2 5 _ rfl).2)
  generalize hF : Jvm.Free.Multi.fill (T.setVm vm₁) cA comp n.toNat k.toNat (defaultValue .long) n.toNat = F at X' step
  have hTh : (T.setVm vm₁).heap = H := hT
  obtain ⟨f1, f2, -, -⟩ := Jvm.Free.Multi.fill_facts (T.setVm vm₁) cA comp n.toNat k.toNat (defaultValue .long) n.toNat
  rw [hF, hTh] at f1 f2
  have hold : ∀ x : Nat, x < H.size → F.heap[x]? = H[x]? := fun x hx => by
    have := Jvm.Free.Multi.fill_old (T.setVm vm₁) cA comp n.toNat k.toNat (defaultValue .long) (a := x) (by rw [hTh]; exact hx) n.toNat
    rw [hF, hTh] at this
    exact this
  have hrow : ∀ j : Nat, j < n.toNat → F.heap[H.size + 1 + j]? = some (Jvm.Free.Multi.innerC comp k.toNat (defaultValue .long)) := fun j hj => by
    have := Jvm.Free.Multi.fill_inner (T.setVm vm₁) cA comp n.toNat k.toNat (defaultValue .long) n.toNat j hj
    rw [hF, hTh] at this
    exact this
  rw [vr_outer] at f2
  have hkk : ∀ b : Int, hK (nM h n k) b = if b = (hN h : Int) then 15 else if (hN h : Int) < b ∧ b ≤ (hN h : Int) + n then 11 else hK h b := fun b => rfl
  have hll : ∀ b : Int, hL (nM h n k) b = if b = (hN h : Int) then n else if (hN h : Int) < b ∧ b ≤ (hN h : Int) + n then k else hL h b := fun b => rfl
  have haa : ∀ b : Int, hA (nM h n k) b = if b = (hN h : Int) then (fun i => (hN h : Int) + 1 + i) else if (hN h : Int) < b ∧ b ≤ (hN h : Int) + n then (fun _ => 0) else hA h b := fun b => rfl
  have hrH : rH D sz (nM h n k) F.heap := by
    refine ⟨by rw [f1, e1]; omega, fun a ha => ?_, fun a ha => ?_⟩
    · rw [e1] at ha
      unfold rC
      rw [hkk, hll, haa]
      by_cases c1 : (a : Int) = (hN h : Int)
      · rw [if_pos c1, if_pos c1, if_pos c1]
        have ca : a = hN h := by omega
        rw [ca, ← hsz2]
        refine ⟨_, f2, Or.inr (Or.inl ?_)⟩
        rw [arrV_size]
        refine ⟨by decide, by decide, rfl, hcA, by omega, fun i hi => ⟨_, arrV_read _ _ hi, ?_⟩⟩
        rw [if_pos hi]
        exact mR (show ((H.size + 1 + i : Nat) : Int) = _ by omega) (by omega)
      · rw [if_neg c1, if_neg c1, if_neg c1]
        by_cases c2 : (hN h : Int) < (a : Int) ∧ (a : Int) ≤ (hN h : Int) + n
        · rw [if_pos c2, if_pos c2, if_pos c2]
          have := hrow (a - hN h - 1) (by omega)
          rw [show H.size + 1 + (a - hN h - 1) = sz + a by omega] at this
          refine ⟨_, this, Or.inr (Or.inl ?_)⟩
          have hin : Jvm.Free.Multi.innerC comp k.toNat (defaultValue .long) = arrV comp k.toNat (fun _ => defaultValue .long) := arrV_new comp k.toNat (defaultValue .long)
          rw [hin, arrV_size]
          exact ⟨by decide, by decide, rfl, hcy, by omega, fun i hi => ⟨_, arrV_read _ _ hi, rfl⟩⟩
        · rw [if_neg c2, if_neg c2, if_neg c2]
          obtain ⟨cell, g1, g2⟩ := a1.2.1 a (by omega)
          exact ⟨cell, (hold _ (by omega)).trans g1, g2⟩
    · rw [e1] at ha
      rw [hkk, if_neg (by omega), if_neg (by omega)]
      exact a1.2.2 a (by omega)
  have hk := kk F.heap locs ls (.ref H.size :: r2') a2 ⟨mR (show ((H.size : Nat) : Int) = (sz : Int) + (hN h : Int) by omega) (by omega), b1⟩ a4 hrH (fun q hq => Or.inr hq) (fun q hq => hold q (by omega))
  rw [e1, e2] at hk
  rw [hGe] at X'
  have hk2 := W.cs (cells := hN h - hN h0 + 1 + n.toNat) (slots := hZ h - hZ h0 + n.toNat + G) (by omega) (by omega) hk
  obtain ⟨t, t1, t2⟩ := hk2 F rfl X'
  exact ⟨t, step t (by rw [hT]; exact t1), t2⟩
end VMF
end
section
section VMG
variable {M : mM} {d pc : Nat} {L S : List mV} {h : mH} {Q : Option mV → mH → Prop}
theorem Wp.iret {x : Int} (hr : M.2.2.2 = some .int) (hd : decode M.2.1 pc = .ok (.ireturn, 1)) (hq : Q (some (0, x)) h) : Wp M d pc L [(0, x)] h Q := by
  refine ⟨some (0, x), h, ⟨⟨Nat.le_refl _, Nat.le_refl _⟩, ?_⟩, hq⟩
  intro D sz h0 p l e R s m args below meth c0 C r1 r2 H locs ls st A
  obtain ⟨a1, a2, a3, a4, a5, a6, a7, a8⟩ := A
  obtain ⟨hx, hb, hml, ho, ht, hnw, hrt, hlk, hnm, hfr, hlo, hkD, hsz⟩ := C
  obtain ⟨v, r, rfl, qv, b0⟩ := rSt_c a3
  obtain ⟨j, rfl, ej⟩ := rV_i qv
  cases r with
  | cons _ _ => exact b0.elim
  | nil => exact W.iret hx hb (hrt.trans hr) (fun t ht hw => ⟨⟨_, rfl, qv⟩, by rw [ht]; exact a1, fun q hq => by rw [ht]; exact a6 q hq⟩) a5 hd hlk
theorem Wp.lret {x : Int} (hr : M.2.2.2 = some .long) (hd : decode M.2.1 pc = .ok (.lreturn, 1)) (hq : Q (some (1, x)) h) : Wp M d pc L [(1, x)] h Q := by
  refine ⟨some (1, x), h, ⟨⟨Nat.le_refl _, Nat.le_refl _⟩, ?_⟩, hq⟩
  intro D sz h0 p l e R s m args below meth c0 C r1 r2 H locs ls st A
  obtain ⟨a1, a2, a3, a4, a5, a6, a7, a8⟩ := A
  obtain ⟨hx, hb, hml, ho, ht, hnw, hrt, hlk, hnm, hfr, hlo, hkD, hsz⟩ := C
  obtain ⟨v, r, rfl, qv, b0⟩ := rSt_c a3
  obtain ⟨j, rfl, ej⟩ := rV_l qv
  cases r with
  | cons _ _ => exact b0.elim
  | nil => exact W.lret hx hb (hrt.trans hr) (fun t ht hw => ⟨⟨_, rfl, qv⟩, by rw [ht]; exact a1, fun q hq => by rw [ht]; exact a6 q hq⟩) a5 hd hlk
theorem Wp.zret {x : Int} (hr : M.2.2.2 = some .boolean) (hd : decode M.2.1 pc = .ok (.ireturn, 1)) (hz : x = 0 ∨ x = 1) (hq : Q (some (0, x)) h) : Wp M d pc L [(0, x)] h Q := by
  refine ⟨some (0, x), h, ⟨⟨Nat.le_refl _, Nat.le_refl _⟩, ?_⟩, hq⟩
  intro D sz h0 p l e R s m args below meth c0 C r1 r2 H locs ls st A
  obtain ⟨a1, a2, a3, a4, a5, a6, a7, a8⟩ := A
  obtain ⟨hx, hb, hml, ho, ht, hnw, hrt, hlk, hnm, hfr, hlo, hkD, hsz⟩ := C
  obtain ⟨v, r, rfl, qv, b0⟩ := rSt_c a3
  obtain ⟨u, rfl, eu⟩ := rV_i qv
  have hnar : narrow .boolean (.int u) = .int u := by
    have : u = 0 ∨ u = 1 := by
      rcases hz with z | z
      · exact Or.inl (Int32.toInt_inj.mp (by rw [eu, z]; rfl))
      · exact Or.inr (Int32.toInt_inj.mp (by rw [eu, z]; rfl))
    rcases this with rfl | rfl <;> rfl
  cases r with
  | cons _ _ => exact b0.elim
  | nil => exact W.zret hx hb (hrt.trans hr) hnar (fun t ht hw => ⟨⟨_, rfl, qv⟩, by rw [ht]; exact a1, fun q hq => by rw [ht]; exact a6 q hq⟩) a5 hd hlk
theorem Wp.aret {x : Int} {rt : FieldType} (hr : M.2.2.2 = some rt) (hrf : (∃ n, rt = .object n) ∨ ∃ t, rt = .array t) (hd : decode M.2.1 pc = .ok (.areturn, 1)) (hq : Q (some (2, x)) h) : Wp M d pc L [(2, x)] h Q := by
  refine ⟨some (2, x), h, ⟨⟨Nat.le_refl _, Nat.le_refl _⟩, ?_⟩, hq⟩
  intro D sz h0 p l e R s m args below meth c0 C r1 r2 H locs ls st A
  obtain ⟨a1, a2, a3, a4, a5, a6, a7, a8⟩ := A
  obtain ⟨hx, hb, hml, ho, ht, hnw, hrt, hlk, hnm, hfr, hlo, hkD, hsz⟩ := C
  obtain ⟨v, r, rfl, qv, b0⟩ := rSt_c a3
  have hv : v = .null ∨ ∃ a, v = .ref a := by
    rcases rV_r qv with ⟨-, z⟩ | ⟨-, z⟩
    · exact Or.inl z
    · exact Or.inr ⟨_, z⟩
  cases r with
  | cons _ _ => exact b0.elim
  | nil => exact W.aret hx hb (hrt.trans hr) hrf hv (fun t ht hw => ⟨⟨_, rfl, qv⟩, by rw [ht]; exact a1, fun q hq => by rw [ht]; exact a6 q hq⟩) a5 hd hlk
theorem Wp.vret (hr : M.2.2.2 = none) (hd : decode M.2.1 pc = .ok (.return_, 1)) (hq : Q none h) : Wp M d pc L [] h Q := by
  refine ⟨none, h, ⟨⟨Nat.le_refl _, Nat.le_refl _⟩, ?_⟩, hq⟩
  intro D sz h0 p l e R s m args below meth c0 C r1 r2 H locs ls st A
  obtain ⟨a1, a2, a3, a4, a5, a6, a7, a8⟩ := A
  obtain ⟨hx, hb, hml, ho, ht, hnw, hrt, hlk, hnm, hfr, hlo, hkD, hsz⟩ := C
  cases st with
  | cons _ _ => exact a3.elim
  | nil => exact W.vret hx hb (hrt.trans hr) (fun t ht hw => ⟨⟨_, rfl, trivial⟩, by rw [ht]; exact a1, fun q hq => by rw [ht]; exact a6 q hq⟩) a5 hd hlk
theorem rV_nl {sz : Nat} {v : mV} {x : Value} (h : rV sz v x) (hv : ¬ v.1 = 1) : x.category = 1 := by
  cases x with
  | long k => exact absurd (by rw [show v = (1, k.toInt) from h]) hv
  | float k => exact h.elim
  | double k => exact h.elim
  | _ => rfl
/-! a method's entry -/
def eS : List mV → List mV
  | [] => []
  | v :: r => if v.1 = 1 then v :: (9, 0) :: eS r else v :: eS r
def enL (av : List mV) (n : Nat) : List mV := eS av ++ List.replicate (n - (eS av).length) (9, 0)
theorem eS_len {sz : Nat} : ∀ {av : List mV} {xs : List Value}, rSt sz av xs → (lg_sl xs).length = (eS av).length
  | [], [], _ => rfl
  | v :: r, x :: xs, hr => by
    have ih := eS_len (sz := sz) hr.2
    by_cases hv : v.1 = 1
    · have hc := rV_cat2 hr.1 hv
      simp only [eS, hv, if_true, lg_sl, List.flatMap_cons, hc, List.length_append, List.length_cons, List.length_nil]
      have : (List.flatMap (fun v => if v.category = 2 then [Slot.val v, Slot.second] else [Slot.val v]) xs).length = (lg_sl xs).length := rfl
      omega
    · have hc : ¬ x.category = 2 := fun z => by rw [rV_nl hr.1 hv] at z; cases z
      simp only [eS, hv, if_false, lg_sl, List.flatMap_cons, hc, List.length_append, List.length_cons, List.length_nil]
      have : (List.flatMap (fun v => if v.category = 2 then [Slot.val v, Slot.second] else [Slot.val v]) xs).length = (lg_sl xs).length := rfl
      omega
theorem eS_get {sz : Nat} : ∀ {av : List mV} {xs : List Value}, rSt sz av xs → ∀ (i : Nat) (v : mV), (eS av)[i]? = some v → v.1 < 3 → ∃ x, (lg_sl xs)[i]? = some (.val x) ∧ rV sz v x
  | [], [], _, i, v, hv, _ => by simp [eS] at hv
  | u :: r, x :: xs, hr, i, v, hv, ht => by
    have ih := eS_get (sz := sz) hr.2
    have hcons : lg_sl (x :: xs) = (if x.category = 2 then [Slot.val x, Slot.second] else [Slot.val x]) ++ lg_sl xs := by simp [lg_sl]
    rw [hcons]
    by_cases hu : u.1 = 1
    · have hc := rV_cat2 hr.1 hu
      rw [if_pos hc]
      simp only [eS, hu, if_true] at hv
      match i, hv with
      | 0, hv => simp at hv; subst hv; exact ⟨x, rfl, hr.1⟩
      | 1, hv => simp at hv; subst hv; exact absurd ht (by decide)
      | i + 2, hv =>
        simp at hv
        obtain ⟨y, y1, y2⟩ := ih i v hv ht
        exact ⟨y, by simpa using y1, y2⟩
    · have hc : ¬ x.category = 2 := fun z => by rw [rV_nl hr.1 hu] at z; cases z
      rw [if_neg hc]
      simp only [eS, hu, if_false] at hv
      match i, hv with
      | 0, hv => simp at hv; subst hv; exact ⟨x, rfl, hr.1⟩
      | i + 1, hv =>
        simp at hv
        obtain ⟨y, y1, y2⟩ := ih i v hv ht
        exact ⟨y, by simpa using y1, y2⟩
theorem enL_rls {sz n : Nat} {av : List mV} {xs : List Value} (hr : rSt sz av xs) (hn : (eS av).length ≤ n) : rLs sz (enL av n) ((lg_sl xs ++ List.replicate (n - (lg_sl xs).length) Slot.unset).toArray) := by
  have hl := eS_len hr
  obtain ⟨h1, h2, -⟩ := lv_entry xs (n := n) (by omega)
  refine ⟨by rw [h1]; simp [enL]; omega, h2, fun i v hv ht => ?_⟩
  unfold enL at hv
  by_cases hi : i < (eS av).length
  · rw [List.getElem?_append_left hi] at hv
    obtain ⟨x, x1, x2⟩ := eS_get hr i v hv ht
    refine ⟨x, ?_, x2⟩
    rw [List.getElem?_toArray, List.getElem?_append_left (by omega)]
    exact x1
  · rw [List.getElem?_append_right (by omega)] at hv
    have := (List.mem_replicate.mp (List.mem_of_getElem? hv)).2
    subst this
    exact absurd ht (by decide)
/-! a contract: the method, called with these values at this heap, ends with that answer and that heap -/
def Ct (M : mM) (d : Nat) (av : List mV) (h : mH) (v : Option mV) (h' : mH) : Prop := Rt M d 0 (enL av M.2.2.1) [] h v h'
def rM (d : Nat) (h h' : mH) : Room := { frames := d, cells := hN h' - hN h, slots := hZ h' - hZ h, locals := 34 * d }
def pM (D : mD) (sz : Nat) (av : List mV) (h : mH) : Array Value → State → Prop := fun a U => ∃ xs : List Value, a = xs.toArray ∧ rSt sz av xs ∧ rH D sz h U.heap ∧ kD D U ∧ ∀ w ∈ nW, va_Nw w U
theorem pM_blind {D : mD} {sz : Nat} {av : List mV} {h : mH} : FrameBlind (pM D sz av h) := by
  intro a U g mk q
  obtain ⟨xs, q1, q2, q3, q4, q5⟩ := q
  exact ⟨xs, q1, q2, q3, q4.moved (u := U) (U := U.calling g mk a) (Vm.Alike.refl U.vm), fun w hw => va_Nw.same (u := U) (U := U.calling g mk a) (by have := (List.mem_filter.mp hw).2; cases w <;> first | (simp [isNest] at this; done) | rfl) rfl (q5 w hw)⟩
abbrev wY (M : mM) : List Cond := Cond.code M.1 M.2.1 M.2.2.1 M.2.2.2 :: tW
theorem Ct.met {av : List mV} {h' : mH} {v : Option mV} (hF : Ct M d av h v h') (hlen : (eS av).length ≤ M.2.2.1) (hpn : plainName M.1.cls = true) (l : Launch) (D : mD) (sz : Nat) : Met l M.1 (wY M) (rM d h h') (pM D sz av h) (qM D sz v h') (hN h' - hN h) (hZ h' - hZ h) (fun q => sz ≤ q) := by
  refine Met.ofW (cc := M.2.1) (maxL := M.2.2.1) (ret := M.2.2.2) hpn rfl ?_
  intro p e s m args below meth c s₁ B hml hv
  obtain ⟨xs, rfl, hxs, hH, hkd, hnw⟩ := hv
  have hts := atoms_spec (ws := wY M) B.pre
  have C : cX M d D sz h p (rM d h h') s m xs.toArray meth c := ⟨B.exec, B.bytes, hml, findClass_of_methodNamed B.named, fun w hw => hts w (List.mem_cons_of_mem _ hw), hnw, B.returns, B.notSynchronized, (name_of_methodNamed B.named B.method).1, Nat.le_refl _, Nat.le_refl _, hkd, hH.1⟩
  have k := hF.2 D sz h p l e (rM d h h') s m xs.toArray below meth c C (Nat.le_refl _) (Nat.le_refl _) s.heap [] _ [] ⟨hH, enL_rls hxs hlen, trivial, by simp [enL]; omega, fun q hq => absurd hq List.not_mem_nil, fun _ _ => rfl, Nat.le_refl _, Nat.le_refl _⟩
  rw [Nat.sub_self, Nat.sub_self] at k
  rw [lg_entry_eq]
  exact k
theorem rSt_app {sz : Nat} : ∀ {X Y : List mV} {st : List Value}, rSt sz (X ++ Y) st → ∃ s1 s2, st = s1 ++ s2 ∧ rSt sz X s1 ∧ rSt sz Y s2
  | [], Y, st, h => ⟨[], st, rfl, trivial, h⟩
  | v :: X, Y, st, h => by
    obtain ⟨x, r, rfl, q, b⟩ := rSt_c h
    obtain ⟨s1, s2, rfl, h1, h2⟩ := rSt_app b
    exact ⟨x :: s1, s2, rfl, ⟨q, h1⟩, h2⟩
theorem rSt_snoc {sz : Nat} {v : mV} {x : Value} (hv : rV sz v x) : ∀ {X : List mV} {s1 : List Value}, rSt sz X s1 → rSt sz (X ++ [v]) (s1 ++ [x])
  | [], [], _ => ⟨hv, trivial⟩
  | _ :: _, _ :: _, h => ⟨h.1, rSt_snoc hv h.2⟩
theorem rSt_rev {sz : Nat} : ∀ {X : List mV} {s1 : List Value}, rSt sz X s1 → rSt sz X.reverse s1.reverse
  | [], [], _ => trivial
  | v :: X, x :: s1, h => by
    rw [List.reverse_cons, List.reverse_cons]
    exact rSt_snoc h.1 (rSt_rev h.2)
theorem rSt_len {sz : Nat} : ∀ {X : List mV} {s1 : List Value}, rSt sz X s1 → X.length = s1.length
  | [], [], _ => rfl
  | _ :: _, _ :: _, h => by rw [List.length_cons, List.length_cons, rSt_len h.2]
/-- how many words a stack holds, at most -/
def wSt : List mV → Nat
  | [] => 0
  | v :: r => (if v.1 = 1 then 2 else 1) + wSt r
theorem wSt_cat {sz : Nat} : ∀ {X : List mV} {s1 : List Value}, rSt sz X s1 → (s1.map fun v => v.category).sum = wSt X
  | [], [], _ => rfl
  | v :: X, x :: s1, h => by
    have ih := wSt_cat h.2
    rw [List.map_cons, List.sum_cons, ih]
    by_cases hv : v.1 = 1
    · rw [rV_cat2 h.1 hv, wSt, if_pos hv]
    · rw [rV_nl h.1 hv, wSt, if_neg hv]
/-- the words of a call -/
def wC (M M' : mM) (ix n : Nat) : Prop := Cond.methodLink M.1.cls ix M'.1 ∈ tW ∧ Cond.code M'.1 M'.2.1 M'.2.2.1 M'.2.2.2 ∈ tW ∧ Cond.initialized M'.1.cls ∈ tW ∧ (M'.1.cls ≠ "java/lang/invoke/MethodHandle" ∧ M'.1.cls ≠ "java/lang/invoke/VarHandle") ∧ (parseMethodDescriptor M'.1.desc).map (fun d => d.parameters.length) = some n ∧ M'.2.2.1 ≤ 15 ∧ plainName M'.1.cls = true
theorem callB_my {M' : mM} {ix n : Nat} {R : Room} {s : State} {args : Array Value} {h1 : mH} (hw : wC M M' ix n) (ht : ∀ w ∈ tW, w.before args s = true) (hfr : d + 1 ≤ R.frames) (hlo : 34 * (d + 1) ≤ R.locals) : CallB R s args M.1.cls ix M'.1 M'.2.1 M'.2.2.1 M'.2.2.2 (wY M') (rM d h h1) (hN h1 - hN h) (hZ h1 - hZ h) n := by
  obtain ⟨w1, w2, w3, w4, w5, w6, w7⟩ := hw
  refine ⟨rfl, rfl, hfr, by show 8 + (M'.2.2.1 + 11) + 34 * d ≤ _; omega, fun w hw a' U hW => ?_, List.mem_cons_self, ht _ w2, ht _ w3, w4, fun sig hs => ?_, ht _ w1⟩
  · rcases List.mem_cons.mp hw with rfl | hw
    · exact word_at hW (tW_good _ w2) (ht _ w2)
    · exact word_at hW (tW_good _ hw) (ht _ hw)
  · rw [hs] at w5
    exact (Option.some.inj w5).symm
theorem kD.nw {D : mD} {s U : State} (hW : s.WarmedH U.vm) (h : kD D s) : kD D U := h.moved hW.alike
/-- behind a call -/
theorem Wp.after {h1 : mH} {v : Option mV} {pc' : Nat} {S0 : List mV} (k : Wp M (d + 1) pc' L (v.toList ++ S) h1 Q) (hle : hN h ≤ hN h1 ∧ hZ h ≤ hZ h1)
    (f : ∀ (D : mD) (sz : Nat) (h0 : mH) (p : Program) (l : Launch) (e : Env) (R : Room) (s : State) (m : MethodId) (args : Array Value) (below : List Frame) (meth : Method) (c : Code),
      cX M (d + 1) D sz h0 p R s m args meth c → ∀ (H : Heap) (locs : List Loc) (ls : Array Slot) (st : List Value), rLs sz L ls → rSt sz S0 st → L.length = M.2.2.1 → rH D sz h H → (hN h - hN h0) + (hN h1 - hN h) ≤ R.cells → (hZ h - hZ h0) + (hZ h1 - hZ h) ≤ R.slots →
      ∃ (st' : List Value) (args' : Array Value), rSt sz S st' ∧ ∀ T : State, T.heap = H → Stand p l e R s m args below meth c T locs (hN h - hN h0) (hZ h - hZ h0) → ∃ (x : Option Value) (st₀ t T' : State) (L' : List Loc), st₀.heap = H ∧ Stand p l e R s m args below meth c T' (locs ++ L') (hN h - hN h0 + (hN h1 - hN h)) (hZ h - hZ h0 + (hZ h1 - hZ h)) ∧ (∀ q ∈ L', sz ≤ q.base) ∧ T'.heap = t.heap ∧ qM D sz v h1 args' st₀ (.returned x) t ∧
        Goes p e below T (F0 m pc ls st) T' (F0 m pc' ls (x.toList ++ st'))) : Wp M (d + 1) pc L S0 h Q := by
  obtain ⟨r, h', ⟨hl, k⟩, q⟩ := k
  refine ⟨r, h', ⟨⟨Nat.le_trans hle.1 hl.1, Nat.le_trans hle.2 hl.2⟩, ?_⟩, q⟩
  intro D sz h0 p l e R s m args below meth c C r1 r2 H locs ls st A
  obtain ⟨a1, a2, a3, a4, a5, a6, a7, a8⟩ := A
  obtain ⟨st', args', b3, f⟩ := f D sz h0 p l e R s m args below meth c C H locs ls st a2 a3 a4 a1 (by omega) (by omega)
  intro T hT X
  obtain ⟨x, st₀, t, T', L', g1, g2, g3, g4, g5, g6⟩ := f T hT X
  obtain ⟨⟨x', hx', hxr⟩, hH1, hold⟩ := g5
  cases hx'
  have hst : rSt sz (v.toList ++ S) (x.toList ++ st') := by
    cases v with
    | none =>
      cases x with
      | none => exact b3
      | some _ => exact hxr.elim
    | some v =>
      cases x with
      | none => exact hxr.elim
      | some x => exact ⟨hxr, b3⟩
  have hk := k D sz h0 p l e R s m args below meth c C r1 r2 t.heap (locs ++ L') ls (x.toList ++ st') ⟨hH1, a2, hst, a4, fun q hq => ?_, fun q hq => by rw [hold q hq, g1]; exact a6 q hq, by omega, by omega⟩
  · have hk2 := W.cs (show hN h - hN h0 + (hN h1 - hN h) = hN h1 - hN h0 by omega) (show hZ h - hZ h0 + (hZ h1 - hZ h) = hZ h1 - hZ h0 by omega) hk
    obtain ⟨t2, t3, t4⟩ := hk2 T' g4 g2
    exact ⟨t2, g6 t2 t3, t4⟩
  · rcases List.mem_append.mp hq with z | z
    · exact a5 q z
    · exact g3 q z
theorem pM_pre {D : mD} {sz : Nat} {av : List mV} {xs : List Value} {H : Heap} {s : State} (hxs : rSt sz av xs) (hH : rH D sz h H) (hkD : kD D s) (hnw : ∀ w ∈ nW, va_Nw w s) : ∀ U : State, U.heap = H → s.WarmedH U.vm → pM D sz av h xs.toArray U :=
  fun U hU hW => ⟨xs, rfl, hxs, by rw [hU]; exact hH, hkD.nw hW, nW_warm hW hnw⟩
theorem Wp.callV {M' : mM} {av S0 : List mV} {a : Int} {h1 : mH} {v : Option mV} {c ix n N : Nat} {T : u_T} (hF : Ct M' d ((2, a) :: av) h v h1) (hw : wC M M' ix n) (hin : Cond.instanceMethod M'.1 ∈ tW) (hse : Cond.selects M'.1.cls M'.1 M'.1 ∈ tW) (hc : kC c M'.1.cls T N) (ha : hK h a = c) (hd : decode M.2.1 pc = .ok (.invokevirtual ix, 3)) (hn : av.length = n) (hl : (eS ((2, a) :: av)).length ≤ M'.2.2.1) (hst : S0 = av.reverse ++ (2, a) :: S) (h8 : wSt S ≤ 8) (k : Wp M (d + 1) (pc + 3) L (v.toList ++ S) h1 Q) : Wp M (d + 1) pc L S0 h Q := by
  subst hst
  refine k.after hF.1 ?_
  intro D sz h0 p l e R s m args below meth c0 C H locs ls st a2 a3 a4 a1 r1 r2
  obtain ⟨hx, hb, hml, ho, ht, hnw, hrt, hlk, hnm, hfr, hlo, hkD, hsz⟩ := C
  obtain ⟨s1, s2, rfl, b1, b2⟩ := rSt_app a3
  obtain ⟨x, st', rfl, q, b3⟩ := rSt_c b2
  obtain ⟨na, cell, rfl, hna, g1, g2, g3, -⟩ := rC_obj a1 ha hc.2.2.1
  have := rV_obj q
  subst this
  have hav : rSt sz ((2, (na : Int)) :: av) (.ref (sz + na) :: s1.reverse) := ⟨q, by have := rSt_rev b1; rwa [List.reverse_reverse] at this⟩
  refine ⟨st', (Value.ref (sz + na) :: s1.reverse).toArray, b3, ?_⟩
  have hcls : s.vm.findClass M'.1.cls = some cell.cls := by rw [g3]; exact (hkD.1.1 c _ hc.1).2.1
  exact W.runV (Ts := tW) ⟨hx, hb, hml, ho, ht⟩ (hF.met hl hw.2.2.2.2.2.2 l D sz) ⟨callB_my hw ht hfr hlo, ht _ hin, ht _ hse⟩ ⟨pM_blind, ⟨cell, g1, by rw [g2]; rfl, hcls⟩, pM_pre hav a1 hkD hnw⟩ rfl (by rw [List.length_reverse, ← rSt_len b1, List.length_reverse]; exact hn) (by rw [a2.1, a4]) (by rw [List.reverse_reverse]) (by rw [wSt_cat b3]; exact Nat.le_trans (by show 2 * 0 + _ ≤ _; omega) h8) hd ⟨r1, r2⟩
theorem Wp.callS {M' : mM} {av S0 : List mV} {h1 : mH} {v : Option mV} {ix n : Nat} (hF : Ct M' d av h v h1) (hw : wC M M' ix n) (hsm : Cond.static M'.1 ∈ tW) (hd : decode M.2.1 pc = .ok (.invokestatic ix, 3)) (hn : av.length = n) (hl : (eS av).length ≤ M'.2.2.1) (hst : S0 = av.reverse ++ S) (h8 : wSt S ≤ 8) (k : Wp M (d + 1) (pc + 3) L (v.toList ++ S) h1 Q) : Wp M (d + 1) pc L S0 h Q := by
  subst hst
  refine k.after hF.1 ?_
  intro D sz h0 p l e R s m args below meth c0 C H locs ls st a2 a3 a4 a1 r1 r2
  obtain ⟨hx, hb, hml, ho, ht, hnw, hrt, hlk, hnm, hfr, hlo, hkD, hsz⟩ := C
  obtain ⟨s1, st', rfl, b1, b3⟩ := rSt_app a3
  have hav : rSt sz av s1.reverse := by have := rSt_rev b1; rwa [List.reverse_reverse] at this
  refine ⟨st', s1.reverse.toArray, b3, ?_⟩
  exact W.runS (Ts := tW) ⟨hx, hb, hml, ho, ht⟩ (hF.met hl hw.2.2.2.2.2.2 l D sz) ⟨callB_my hw ht hfr hlo, ht _ hsm⟩ ⟨pM_blind, pM_pre hav a1 hkD hnw⟩ rfl (by rw [List.length_reverse, ← rSt_len b1, List.length_reverse]; exact hn) (by rw [a2.1, a4]) (by rw [List.reverse_reverse]) (by rw [wSt_cat b3]; exact Nat.le_trans (by show 2 * 0 + _ ≤ _; omega) h8) hd ⟨r1, r2⟩
theorem Wp.callI {M' : mM} {av S0 : List mV} {a : Int} {h1 : mH} {c ix n : Nat} (hF : Ct M' d ((2, a) :: av) h none h1) (hw : wC M M' ix n) (hr : M'.2.2.2 = none) (hin : Cond.instanceMethod M'.1 ∈ tW) (hni : M'.1.name = "<init>") (ha : hK h a = c) (hc7 : c < 7) (hd : decode M.2.1 pc = .ok (.invokespecial ix, 3)) (hn : av.length = n) (hl : (eS ((2, a) :: av)).length ≤ M'.2.2.1) (hst : S0 = av.reverse ++ (2, a) :: S) (h8 : wSt S ≤ 8) (k : Wp M (d + 1) (pc + 3) L S h1 Q) : Wp M (d + 1) pc L S0 h Q := by
  subst hst
  refine Wp.after (v := none) (S := S) k hF.1 ?_
  intro D sz h0 p l e R s m args below meth c0 C H locs ls st a2 a3 a4 a1 r1 r2
  obtain ⟨hx, hb, hml, ho, ht, hnw, hrt, hlk, hnm, hfr, hlo, hkD, hsz⟩ := C
  obtain ⟨s1, s2, rfl, b1, b2⟩ := rSt_app a3
  obtain ⟨x, st', rfl, q, b3⟩ := rSt_c b2
  obtain ⟨na, cell, rfl, hna, g1, g2, g3, -⟩ := rC_obj a1 ha hc7
  have := rV_obj q
  subst this
  have hav : rSt sz ((2, (na : Int)) :: av) (.ref (sz + na) :: s1.reverse) := ⟨q, by have := rSt_rev b1; rwa [List.reverse_reverse] at this⟩
  refine ⟨st', (Value.ref (sz + na) :: s1.reverse).toArray, b3, ?_⟩
  have cb := callB_my (h := h) (h1 := h1) hw ht hfr hlo
  rw [hr] at cb
  exact W.runI (Ts := tW) ⟨hx, hb, hml, ho, ht⟩ (hF.met hl hw.2.2.2.2.2.2 l D sz) ⟨cb, hni, ht _ hin⟩ ⟨pM_blind, pM_pre hav a1 hkD hnw⟩ rfl (by rw [List.length_reverse, ← rSt_len b1, List.length_reverse]; exact hn) (by rw [a2.1, a4]) (by rw [List.reverse_reverse]) (by rw [wSt_cat b3]; exact Nat.le_trans (by show 2 * 0 + _ ≤ _; omega) h8) hd ⟨r1, r2⟩
/-- the words of a nest mate's call -/
def wN (M M' : mM) (ix n : Nat) (host : String) : Prop := Cond.methodLinkNest M.1.cls ix M'.1 host ∈ nW ∧ Cond.code M'.1 M'.2.1 M'.2.2.1 M'.2.2.2 ∈ tW ∧ Cond.initialized M'.1.cls ∈ tW ∧ (M'.1.cls ≠ "java/lang/invoke/MethodHandle" ∧ M'.1.cls ≠ "java/lang/invoke/VarHandle") ∧ (parseMethodDescriptor M'.1.desc).map (fun d => d.parameters.length) = some n ∧ M'.2.2.1 ≤ 15 ∧ plainName M'.1.cls = true
theorem Wp.callIN {M' : mM} {av S0 : List mV} {a : Int} {h1 : mH} {c ix n : Nat} {host : String} (hF : Ct M' d ((2, a) :: av) h none h1) (hw : wN M M' ix n host) (hr : M'.2.2.2 = none) (hin : Cond.instanceMethod M'.1 ∈ tW) (hni : M'.1.name = "<init>") (ha : hK h a = c) (hc7 : c < 7) (hd : decode M.2.1 pc = .ok (.invokespecial ix, 3)) (hn : av.length = n) (hl : (eS ((2, a) :: av)).length ≤ M'.2.2.1) (hst : S0 = av.reverse ++ (2, a) :: S) (h8 : wSt S ≤ 8) (k : Wp M (d + 1) (pc + 3) L S h1 Q) : Wp M (d + 1) pc L S0 h Q := by
  subst hst
  refine Wp.after (v := none) (S := S) k hF.1 ?_
  intro D sz h0 p l e R s m args below meth c0 C H locs ls st a2 a3 a4 a1 r1 r2
  obtain ⟨hx, hb, hml, ho, ht, hnw, hrt, hlk, hnm, hfr, hlo, hkD, hsz⟩ := C
  obtain ⟨s1, s2, rfl, b1, b2⟩ := rSt_app a3
  obtain ⟨x, st', rfl, q, b3⟩ := rSt_c b2
  obtain ⟨na, cell, rfl, hna, g1, g2, g3, -⟩ := rC_obj a1 ha hc7
  have := rV_obj q
  subst this
  have hav : rSt sz ((2, (na : Int)) :: av) (.ref (sz + na) :: s1.reverse) := ⟨q, by have := rSt_rev b1; rwa [List.reverse_reverse] at this⟩
  refine ⟨st', (Value.ref (sz + na) :: s1.reverse).toArray, b3, ?_⟩
  obtain ⟨w1, w2, w3, w4, w5, w6, w7⟩ := hw
  have cn : va_CN R s args M.1.cls ix M'.1 host M'.2.1 M'.2.2.1 none (wY M') (rM d h h1) (hN h1 - hN h) (hZ h1 - hZ h) n := by
    rw [hr] at w2
    refine ⟨⟨rfl, rfl, hfr, by show 8 + (M'.2.2.1 + 11) + 34 * d ≤ _; omega, fun w hw a' U hW => ?_, by unfold wY; rw [hr]; exact List.mem_cons_self⟩, ht _ w2, ht _ w3, w4, fun sig hs => ?_, va_Nw.use rfl (hnw _ w1)⟩
    · rcases List.mem_cons.mp hw with rfl | hw
      · rw [hr]
        exact word_at hW (tW_good _ w2) (ht _ w2)
      · exact word_at hW (tW_good _ hw) (ht _ hw)
    · rw [hs] at w5
      exact (Option.some.inj w5).symm
  intro T hT X
  obtain ⟨v, st₀, t, T', L', z1, z2, z3, z4, z5, z6, z7⟩ := va_runIN (Ts := tW) ⟨hx, hb, hml, ho, ht⟩ (hF.met hl w7 l D sz) ⟨cn, hni, ht _ hin⟩ ⟨pM_blind, pM_pre hav a1 hkD hnw⟩ (g := F0 m pc ls (s1 ++ .ref (sz + na) :: st')) rfl (by rw [List.length_reverse, ← rSt_len b1, List.length_reverse]; exact hn) (by show ls.size = _; rw [a2.1, a4]) (by rw [List.reverse_reverse]) (by rw [wSt_cat b3]; exact Nat.le_trans (by show 2 * 0 + _ ≤ _; omega) h8) hd ⟨r1, r2⟩ T hT X
  exact ⟨v, st₀, t, T', L', z1, z2, z3, z4, z6, z7⟩
theorem Wp.objInit {a : Int} {c ix : Nat} (h1 : Cond.methodLink M.1.cls ix Lib.objectInit ∈ tW) (h2 : Cond.instanceMethod Lib.objectInit ∈ tW) (h3 : Cond.code Lib.objectInit ⟨#[0xb1]⟩ 1 none ∈ tW) (hd : decode M.2.1 pc = .ok (.invokespecial ix, 3)) (ha : hK h a = c) (hc7 : c < 7) (h8 : wSt S ≤ 8) (k : Wp M (d + 1) (pc + 3) L S h Q) : Wp M (d + 1) pc L ((2, a) :: S) h Q := by
  refine k.step ?_
  intro D sz h0 p l e R s m args below meth c0 Qw C H locs cells slots ls st a2 a3 a4 a1 kk
  obtain ⟨hx, hb, hml, ho, ht, hnw, hrt, hlk, hnm, hfr, hlo, hkD, hsz⟩ := C
  obtain ⟨v, r, rfl, q, b0⟩ := rSt_c a3
  obtain ⟨n, cell, rfl, hn, g1, g2, g3, -⟩ := rC_obj a1 ha hc7
  have := rV_obj q
  subst this
  exact W.objInit hx hb ho (ht _ h1) (ht _ h2) (ht _ h3) rfl (by show ls.size = _; rw [a2.1, a4, hml]) rfl hd (by omega) (by rw [wSt_cat b0]; show 2 * 0 + _ + 12 ≤ _; omega) (kk ls _ a2 b0 a4)
end VMG
end
section
section VMH
variable {M : mM} {d pc : Nat} {L S : List mV} {h : mH} {Q : Option mV → mH → Prop}
/-- what a copied row holds -/
def cpF (f g : Int → Int) (sp dp n : Int) : Int → Int := fun j => if dp ≤ j ∧ j < dp + n then f (sp + (j - dp)) else g j
theorem Wp.acopy {src dst sp dp n : Int} {ix t : Nat} (ht5 : t = 10 ∨ t = 11) (hw1 : Cond.methodLink M.1.cls ix arraycopyName ∈ tW) (hw2 : Cond.native arraycopyName ∈ tW) (hw3 : Cond.static arraycopyName ∈ tW) (hw4 : Cond.initialized "java/lang/System" ∈ tW) (hd : decode M.2.1 pc = .ok (.invokestatic ix, 3))
    (hs : hK h src = t) (hdk : hK h dst = t) (h1 : 0 ≤ sp) (h2 : 0 ≤ dp) (h3 : 0 ≤ n) (h4 : sp + n ≤ hL h src) (h5 : dp + n ≤ hL h dst) (h8 : wSt S ≤ 8) (k : Wp M (d + 1) (pc + 3) L S (sA h dst (cpF (hA h src) (hA h dst) sp dp n)) Q) : Wp M (d + 1) pc L ((0, n) :: (0, dp) :: (2, dst) :: (0, sp) :: (2, src) :: S) h Q := by
  refine k.stepH (Nat.le_refl _) (Nat.le_refl _) ?_
  intro D sz h0 p l e R s m args below meth c0 Qw C H locs ls st a2 a3 a4 a1 r1 r2 n1 n2 kk
  obtain ⟨hx, hb, hml, ho, ht, hnw, hrt, hlk, hnm, hfr, hlo, hkD, hsz⟩ := C
  obtain ⟨_, z0, rfl, q0, b0⟩ := rSt_c a3
  obtain ⟨_, z1, rfl, q1, b1⟩ := rSt_c b0
  obtain ⟨_, z2, rfl, q2, b2⟩ := rSt_c b1
  obtain ⟨_, z3, rfl, q3, b3⟩ := rSt_c b2
  obtain ⟨_, z4, rfl, q4, b4⟩ := rSt_c b3
  obtain ⟨xn, rfl, en⟩ := rV_i q0
  obtain ⟨xd, rfl, ed⟩ := rV_i q1
  obtain ⟨xs, rfl, es⟩ := rV_i q3
  have t10 : 10 ≤ t := by omega
  have t16 : t < 16 := by omega
  obtain ⟨ns, cs, rfl, hns, s1, s2, s3, s4, s5⟩ := rC_arr a1 hs t10 t16
  obtain ⟨nd, cd, rfl, hnd, d1, d2, d3, d4, d5⟩ := rC_arr a1 hdk t10 t16
  have := rV_obj q2
  subst this
  have := rV_obj q4
  subst this
  have hneg : ∀ (x : Int32) (z : Int), x.toInt = z → 0 ≤ z → ¬ x < 0 ∧ x.toNatClampNeg = z.toNat := fun x z hz h0 => by
    refine ⟨fun q => ?_, by show x.toInt.toNat = _; rw [hz]⟩
    have := Int32.lt_iff_toInt_lt.mp q
    rw [hz] at this
    exact absurd this (by show ¬ z < 0; omega)
  obtain ⟨gn, en2⟩ := hneg xn n en h3
  obtain ⟨gd, ed2⟩ := hneg xd dp ed h2
  obtain ⟨gs, es2⟩ := hneg xs sp es h1
  have hty : ∃ ty, aTy t = ty ∧ pTy ty = true ∧ refKind ty = false ∧ ArrOfT s (D.2.2 t) ty := by
    rcases ht5 with rfl | rfl
    · exact ⟨_, rfl, rfl, rfl, (hkD.1.2 0 _ rfl).1⟩
    · exact ⟨_, rfl, rfl, rfl, (hkD.1.2 1 _ rfl).1⟩
  obtain ⟨ty, hta, htp, htr, hArr⟩ := hty
  obtain ⟨-, ks, hks, cms, hkks⟩ := arr_is s2 s3 hArr
  obtain ⟨-, kd, hkd, cmd, hkkd⟩ := arr_is d2 d3 hArr
  intro T hT X
  obtain ⟨vm', X', step⟩ := X.arraycopy hx ho (ht _ hw1) (ht _ hw2) (ht _ hw3) (ht _ hw4) (src := sz + ns) (dst := sz + nd) (cs := cs) (cd := cd) (srcPos := xs) (destPos := xd) (n := xn) (by rw [hT]; exact s1) (by rw [hT]; exact d1)
    (fun _ z => by rw [s2] at z; cases z) (fun _ z => by rw [d2] at z; cases z) (fun z => by rw [s2] at z; cases z) (fun z => by rw [d2] at z; cases z) hks hkd hkks hkkd (by simp [htr]) gs gd gn (by rw [es, en, s4]; omega) (by rw [ed, en, d4]; omega)
    (fun vm₁ _ i hi => by
      rw [en2] at hi
      rw [es2]
      obtain ⟨y, y1, y2⟩ := s5 (sp.toNat + i) (by omega)
      have e : cs.slots.getD (sp.toNat + i) .null = y := by rw [Array.getD_eq_getD_getElem?, y1]; rfl
      rw [e]
      refine ⟨(pTy_fits htp (by rw [← hta]; exact y2)).2, ?_⟩
      have hq : aTg t = 0 ∨ aTg t = 1 := by rcases ht5 with rfl | rfl <;> decide
      cases y with
      | ref a =>
        have := (Prod.mk.inj y2.2).1
        omega
      | null =>
        have := (Prod.mk.inj y2).1
        omega
      | _ => exact trivial)
    (g := F0 m pc ls (.int xn :: .int xd :: .ref (sz + nd) :: .int xs :: .ref (sz + ns) :: z4)) rfl (by show ls.size = _; rw [a2.1, a4, hml]) (rest := z4) rfl (by rw [hb]; exact hd) (by omega) (by
      rw [wSt_cat b4]
      have : nativeFrameWords "java/lang/System" "arraycopy" 5 ≤ 15 := by decide +kernel
      show 2 * 0 + _ + _ ≤ _
      omega)
  obtain ⟨k1, k2, k3, -⟩ := Cell.storeRun_facts cd xd.toNatClampNeg (cs.stretch xs.toNatClampNeg xn.toNatClampNeg)
  have hlen : (cs.stretch xs.toNatClampNeg xn.toNatClampNeg).length = n.toNat := by unfold Cell.stretch; rw [List.length_map, List.length_range, en2]
  have k4 := fun j => Cell.storeRun_get cd xd.toNatClampNeg (cs.stretch xs.toNatClampNeg xn.toNatClampNeg) j (by rw [hlen, ed2]; omega)
  rw [hlen, ed2] at k4
  have hget : ∀ i : Nat, i < n.toNat → (cs.stretch xs.toNatClampNeg xn.toNatClampNeg)[i]? = some (cs.slots.getD (sp.toNat + i) .null) := fun i hi => by
    unfold Cell.stretch
    rw [List.getElem?_map, en2, List.getElem?_range hi, es2]
    rfl
  generalize hCC : copied cs cd xs xd xn = CC at X' step
  have hCC' : cd.storeRun xd.toNatClampNeg (cs.stretch xs.toNatClampNeg xn.toNatClampNeg) = CC := hCC
  rw [hCC'] at k1 k2 k3
  rw [ed2] at hCC'
  rw [hCC'] at k4
  have hlt : sz + nd < T.heap.size := by rw [hT]; exact (Array.getElem?_eq_some_iff.mp d1).1
  have hat : ((T.setVm vm').setCell (sz + nd) CC).heap[sz + nd]? = some CC := heapAt_setCell_self _ hlt
  have hoff : ∀ q, q ≠ sz + nd → ((T.setVm vm').setCell (sz + nd) CC).heap[q]? = H[q]? := fun q hq => by
    rw [heapAt_setCell_ne _ (Ne.symm hq)]
    show T.heap[q]? = _
    rw [hT]
  have hsize : ((T.setVm vm').setCell (sz + nd) CC).heap.size = H.size := by
    rw [size_setCell]
    show T.heap.size = _
    rw [hT]
  have hrH : rH D sz (sA h nd (cpF (hA h ns) (hA h nd) sp dp n)) ((T.setVm vm').setCell (sz + nd) CC).heap := by
    refine rH_set (n := nd) a1 hsize hoff rfl rfl rfl (fun a _ => rfl) (fun a hz => u1_n _ _ (by omega)) ⟨CC, hat, Or.inr (Or.inl ?_)⟩
    have hkk : hK (sA h nd (cpF (hA h ns) (hA h nd) sp dp n)) nd = t := hdk
    have haa : hA (sA h nd (cpF (hA h ns) (hA h nd) sp dp n)) nd = cpF (hA h ns) (hA h nd) sp dp n := u1_s _ _ _
    rw [hkk, haa, k3]
    refine ⟨t10, t16, k2.trans d2, k1.trans d3, d4, fun j hj => ?_⟩
    rw [k4 j]
    unfold cpF
    by_cases hc : dp.toNat ≤ j ∧ j < dp.toNat + n.toNat
    · rw [if_pos hc, if_pos (by omega), hget _ (by omega)]
      obtain ⟨y, y1, y2⟩ := s5 (sp.toNat + (j - dp.toNat)) (by omega)
      rw [Array.getD_eq_getD_getElem?, y1]
      rw [show (sp + ((j : Int) - dp)) = ((sp.toNat + (j - dp.toNat) : Nat) : Int) by omega]
      exact ⟨y, rfl, y2⟩
    · rw [if_neg hc, if_neg (by omega)]
      exact d5 j hj
  obtain ⟨t1, t2, t3⟩ := kk _ _ ls z4 a2 b4 a4 hrH (fun q hq => by
    rcases List.mem_append.mp hq with z | z
    · exact Or.inr z
    · obtain ⟨y, -, hy⟩ := List.mem_map.mp z
      rw [← hy]
      exact Or.inl (Nat.le_add_right _ _)) (fun q hq => hoff q (Nat.ne_of_lt (Nat.lt_of_lt_of_le hq (Nat.le_add_right _ _)))) _ rfl X'
  exact ⟨t1, step t1 t2, t3⟩
end VMH
end
