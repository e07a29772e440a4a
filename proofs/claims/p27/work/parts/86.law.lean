abbrev m_L_law : mM := (yL_law, cL_law, 7, some .boolean)
abbrev m_L_out : mM := (yL_out, cL_out, 4, some .int)
theorem in_L : Cond.initialized RL ∈ tW := tW_in (i := 65) (by decide +kernel) rfl
theorem lc_L_8 : Cond.classLink RL 8 RX5 ∈ tW := tW_in (i := 81) (by decide +kernel) rfl
theorem wc_L_15 : wC RL m_X5_init 15 0 := ⟨tW_in (i := 83) (by decide +kernel) rfl, cd_X5_init, tW_in (i := 66) (by decide +kernel) rfl, ⟨by decide +kernel, by decide +kernel⟩, by decide +kernel, by decide, by decide +kernel⟩
theorem wc_L_19 : wC RL m_X5_status 19 0 := ⟨tW_in (i := 304) (by decide +kernel) rfl, cd_X5_status, tW_in (i := 66) (by decide +kernel) rfl, ⟨by decide +kernel, by decide +kernel⟩, by decide +kernel, by decide, by decide +kernel⟩
theorem wc_L_24 : wC RL m_X5_sheet 24 3 := ⟨tW_in (i := 308) (by decide +kernel) rfl, cd_X5_sheet, tW_in (i := 66) (by decide +kernel) rfl, ⟨by decide +kernel, by decide +kernel⟩, by decide +kernel, by decide, by decide +kernel⟩
theorem wc_L_31 : wC RL m_X5_write 31 3 := ⟨tW_in (i := 329) (by decide +kernel) rfl, cd_X5_write, tW_in (i := 66) (by decide +kernel) rfl, ⟨by decide +kernel, by decide +kernel⟩, by decide +kernel, by decide, by decide +kernel⟩
theorem wc_L_36 : wC RL m_X5_read 36 2 := ⟨tW_in (i := 350) (by decide +kernel) rfl, cd_X5_read, tW_in (i := 66) (by decide +kernel) rfl, ⟨by decide +kernel, by decide +kernel⟩, by decide +kernel, by decide, by decide +kernel⟩
theorem wc_L_41 : wC RL m_X5_pour 41 5 := ⟨tW_in (i := 362) (by decide +kernel) rfl, cd_X5_pour, tW_in (i := 66) (by decide +kernel) rfl, ⟨by decide +kernel, by decide +kernel⟩, by decide +kernel, by decide, by decide +kernel⟩
theorem wc_L_46 : wC RL m_X5_ring 46 1 := ⟨tW_in (i := 369) (by decide +kernel) rfl, cd_X5_ring, tW_in (i := 66) (by decide +kernel) rfl, ⟨by decide +kernel, by decide +kernel⟩, by decide +kernel, by decide, by decide +kernel⟩
theorem wc_L_51 : wC RL m_X5_beater 51 2 := ⟨tW_in (i := 377) (by decide +kernel) rfl, cd_X5_beater, tW_in (i := 66) (by decide +kernel) rfl, ⟨by decide +kernel, by decide +kernel⟩, by decide +kernel, by decide, by decide +kernel⟩
theorem wc_L_56 : wC RL m_X5_kind 56 2 := ⟨tW_in (i := 396) (by decide +kernel) rfl, cd_X5_kind, tW_in (i := 66) (by decide +kernel) rfl, ⟨by decide +kernel, by decide +kernel⟩, by decide +kernel, by decide, by decide +kernel⟩
theorem wc_L_61 : wC RL m_X5_turn 61 2 := ⟨tW_in (i := 404) (by decide +kernel) rfl, cd_X5_turn, tW_in (i := 66) (by decide +kernel) rfl, ⟨by decide +kernel, by decide +kernel⟩, by decide +kernel, by decide, by decide +kernel⟩
theorem wc_L_65 : wC RL m_X5_phases 65 1 := ⟨tW_in (i := 408) (by decide +kernel) rfl, cd_X5_phases, tW_in (i := 66) (by decide +kernel) rfl, ⟨by decide +kernel, by decide +kernel⟩, by decide +kernel, by decide, by decide +kernel⟩
theorem wc_L_69 : wC RL m_X5_road 69 3 := ⟨tW_in (i := 421) (by decide +kernel) rfl, cd_X5_road, tW_in (i := 66) (by decide +kernel) rfl, ⟨by decide +kernel, by decide +kernel⟩, by decide +kernel, by decide, by decide +kernel⟩
theorem wc_L_74 : wC RL m_X5_roads 74 1 := ⟨tW_in (i := 429) (by decide +kernel) rfl, cd_X5_roads, tW_in (i := 66) (by decide +kernel) rfl, ⟨by decide +kernel, by decide +kernel⟩, by decide +kernel, by decide, by decide +kernel⟩
theorem wc_L_78 : wC RL m_X5_push 78 2 := ⟨tW_in (i := 441) (by decide +kernel) rfl, cd_X5_push, tW_in (i := 66) (by decide +kernel) rfl, ⟨by decide +kernel, by decide +kernel⟩, by decide +kernel, by decide, by decide +kernel⟩
theorem wc_L_82 : wC RL m_X5_clear 82 0 := ⟨tW_in (i := 446) (by decide +kernel) rfl, cd_X5_clear, tW_in (i := 66) (by decide +kernel) rfl, ⟨by decide +kernel, by decide +kernel⟩, by decide +kernel, by decide, by decide +kernel⟩
theorem wc_L_87 : wC RL m_X5_go 87 1 := ⟨tW_in (i := 453) (by decide +kernel) rfl, cd_X5_go, tW_in (i := 66) (by decide +kernel) rfl, ⟨by decide +kernel, by decide +kernel⟩, by decide +kernel, by decide, by decide +kernel⟩
theorem wc_L_91 : wC RL m_X5_count 91 1 := ⟨tW_in (i := 481) (by decide +kernel) rfl, cd_X5_count, tW_in (i := 66) (by decide +kernel) rfl, ⟨by decide +kernel, by decide +kernel⟩, by decide +kernel, by decide, by decide +kernel⟩
theorem wc_L_95 : wC RL m_X5_beats 95 2 := ⟨tW_in (i := 495) (by decide +kernel) rfl, cd_X5_beats, tW_in (i := 66) (by decide +kernel) rfl, ⟨by decide +kernel, by decide +kernel⟩, by decide +kernel, by decide, by decide +kernel⟩
theorem wc_L_99 : wC RL m_X5_step 99 1 := ⟨tW_in (i := 500) (by decide +kernel) rfl, cd_X5_step, tW_in (i := 66) (by decide +kernel) rfl, ⟨by decide +kernel, by decide +kernel⟩, by decide +kernel, by decide, by decide +kernel⟩
theorem wc_L_103 : wC RL m_X5_arc 103 1 := ⟨tW_in (i := 512) (by decide +kernel) rfl, cd_X5_arc, tW_in (i := 66) (by decide +kernel) rfl, ⟨by decide +kernel, by decide +kernel⟩, by decide +kernel, by decide, by decide +kernel⟩
theorem wc_L_107 : wC RL m_X5_round 107 1 := ⟨tW_in (i := 530) (by decide +kernel) rfl, cd_X5_round, tW_in (i := 66) (by decide +kernel) rfl, ⟨by decide +kernel, by decide +kernel⟩, by decide +kernel, by decide, by decide +kernel⟩
theorem wc_L_111 : wC RL m_X5_meet 111 1 := ⟨tW_in (i := 590) (by decide +kernel) rfl, cd_X5_meet, tW_in (i := 66) (by decide +kernel) rfl, ⟨by decide +kernel, by decide +kernel⟩, by decide +kernel, by decide, by decide +kernel⟩
theorem wc_L_115 : wC RL m_X5_ends 115 0 := ⟨tW_in (i := 594) (by decide +kernel) rfl, cd_X5_ends, tW_in (i := 66) (by decide +kernel) rfl, ⟨by decide +kernel, by decide +kernel⟩, by decide +kernel, by decide, by decide +kernel⟩
theorem wc_L_119 : wC RL m_X5_end 119 2 := ⟨tW_in (i := 638) (by decide +kernel) rfl, cd_X5_end, tW_in (i := 66) (by decide +kernel) rfl, ⟨by decide +kernel, by decide +kernel⟩, by decide +kernel, by decide, by decide +kernel⟩
theorem wc_L_123 : wC RL m_X5_sure 123 1 := ⟨tW_in (i := 646) (by decide +kernel) rfl, cd_X5_sure, tW_in (i := 66) (by decide +kernel) rfl, ⟨by decide +kernel, by decide +kernel⟩, by decide +kernel, by decide, by decide +kernel⟩
theorem wc_L_127 : wC RL m_X5_lead 127 0 := ⟨tW_in (i := 663) (by decide +kernel) rfl, cd_X5_lead, tW_in (i := 66) (by decide +kernel) rfl, ⟨by decide +kernel, by decide +kernel⟩, by decide +kernel, by decide, by decide +kernel⟩
theorem wc_L_131 : wC RL m_X5_leader 131 1 := ⟨tW_in (i := 683) (by decide +kernel) rfl, cd_X5_leader, tW_in (i := 66) (by decide +kernel) rfl, ⟨by decide +kernel, by decide +kernel⟩, by decide +kernel, by decide, by decide +kernel⟩
theorem wc_L_135 : wC RL m_X5_table 135 1 := ⟨tW_in (i := 687) (by decide +kernel) rfl, cd_X5_table, tW_in (i := 66) (by decide +kernel) rfl, ⟨by decide +kernel, by decide +kernel⟩, by decide +kernel, by decide, by decide +kernel⟩
theorem wc_L_139 : wC RL m_X5_span 139 3 := ⟨tW_in (i := 695) (by decide +kernel) rfl, cd_X5_span, tW_in (i := 66) (by decide +kernel) rfl, ⟨by decide +kernel, by decide +kernel⟩, by decide +kernel, by decide, by decide +kernel⟩
theorem wc_L_143 : wC RL m_X5_cut 143 2 := ⟨tW_in (i := 712) (by decide +kernel) rfl, cd_X5_cut, tW_in (i := 66) (by decide +kernel) rfl, ⟨by decide +kernel, by decide +kernel⟩, by decide +kernel, by decide, by decide +kernel⟩
theorem wc_L_147 : wC RL m_X5_pace 147 1 := ⟨tW_in (i := 720) (by decide +kernel) rfl, cd_X5_pace, tW_in (i := 66) (by decide +kernel) rfl, ⟨by decide +kernel, by decide +kernel⟩, by decide +kernel, by decide, by decide +kernel⟩
theorem wc_L_152 : wC RL m_X5_critical 152 0 := ⟨tW_in (i := 749) (by decide +kernel) rfl, cd_X5_critical, tW_in (i := 66) (by decide +kernel) rfl, ⟨by decide +kernel, by decide +kernel⟩, by decide +kernel, by decide, by decide +kernel⟩
theorem wc_L_156 : wC RL m_X5_sums 156 3 := ⟨tW_in (i := 779) (by decide +kernel) rfl, cd_X5_sums, tW_in (i := 66) (by decide +kernel) rfl, ⟨by decide +kernel, by decide +kernel⟩, by decide +kernel, by decide, by decide +kernel⟩
theorem wc_L_161 : wC RL m_X5_longest 161 2 := ⟨tW_in (i := 802) (by decide +kernel) rfl, cd_X5_longest, tW_in (i := 66) (by decide +kernel) rfl, ⟨by decide +kernel, by decide +kernel⟩, by decide +kernel, by decide, by decide +kernel⟩
theorem wc_L_165 : wC RL m_X5_again 165 1 := ⟨tW_in (i := 810) (by decide +kernel) rfl, cd_X5_again, tW_in (i := 66) (by decide +kernel) rfl, ⟨by decide +kernel, by decide +kernel⟩, by decide +kernel, by decide, by decide +kernel⟩
theorem ml_L_out : Cond.methodLink RL 169 yL_out ∈ tW := tW_in (i := 822) (by decide +kernel) rfl
theorem sM_L_out : Cond.static yL_out ∈ tW := tW_in (i := 823) (by decide +kernel) rfl
theorem cd_L_out : Cond.codeWith yL_out cL_out 4 (some .int) [(0, 9, 12, 13)] ∈ tW := tW_in (i := 824) (by decide +kernel) rfl
theorem lc_L_13 : Cond.classLink RL 13 "java/util/NoSuchElementException" ∈ tW := tW_in (i := 825) (by decide +kernel) rfl
theorem wc_L_7 : wC RL m_X5_out 7 1 := ⟨tW_in (i := 826) (by decide +kernel) rfl, cd_X5_out, tW_in (i := 66) (by decide +kernel) rfl, ⟨by decide +kernel, by decide +kernel⟩, by decide +kernel, by decide, by decide +kernel⟩
theorem lc_L_16 : Cond.classLink RL 16 RX6 ∈ tW := tW_in (i := 896) (by decide +kernel) rfl
theorem wc_L_18 : wC RL m_X6_init 18 0 := ⟨tW_in (i := 898) (by decide +kernel) rfl, cd_X6_init, tW_in (i := 73) (by decide +kernel) rfl, ⟨by decide +kernel, by decide +kernel⟩, by decide +kernel, by decide, by decide +kernel⟩
theorem wc_L_23 : wC RL m_X6_status 23 0 := ⟨tW_in (i := 1040) (by decide +kernel) rfl, cd_X6_status, tW_in (i := 73) (by decide +kernel) rfl, ⟨by decide +kernel, by decide +kernel⟩, by decide +kernel, by decide, by decide +kernel⟩
theorem wc_L_28 : wC RL m_X6_sheet 28 3 := ⟨tW_in (i := 1044) (by decide +kernel) rfl, cd_X6_sheet, tW_in (i := 73) (by decide +kernel) rfl, ⟨by decide +kernel, by decide +kernel⟩, by decide +kernel, by decide, by decide +kernel⟩
theorem wc_L_35 : wC RL m_X6_write 35 3 := ⟨tW_in (i := 1052) (by decide +kernel) rfl, cd_X6_write, tW_in (i := 73) (by decide +kernel) rfl, ⟨by decide +kernel, by decide +kernel⟩, by decide +kernel, by decide, by decide +kernel⟩
theorem wc_L_40 : wC RL m_X6_read 40 2 := ⟨tW_in (i := 1067) (by decide +kernel) rfl, cd_X6_read, tW_in (i := 73) (by decide +kernel) rfl, ⟨by decide +kernel, by decide +kernel⟩, by decide +kernel, by decide, by decide +kernel⟩
theorem wc_L_45 : wC RL m_X6_pour 45 5 := ⟨tW_in (i := 1072) (by decide +kernel) rfl, cd_X6_pour, tW_in (i := 73) (by decide +kernel) rfl, ⟨by decide +kernel, by decide +kernel⟩, by decide +kernel, by decide, by decide +kernel⟩
theorem wc_L_50 : wC RL m_X6_ring 50 1 := ⟨tW_in (i := 1076) (by decide +kernel) rfl, cd_X6_ring, tW_in (i := 73) (by decide +kernel) rfl, ⟨by decide +kernel, by decide +kernel⟩, by decide +kernel, by decide, by decide +kernel⟩
theorem wc_L_55 : wC RL m_X6_beater 55 2 := ⟨tW_in (i := 1080) (by decide +kernel) rfl, cd_X6_beater, tW_in (i := 73) (by decide +kernel) rfl, ⟨by decide +kernel, by decide +kernel⟩, by decide +kernel, by decide, by decide +kernel⟩
theorem wc_L_60 : wC RL m_X6_kind 60 2 := ⟨tW_in (i := 1092) (by decide +kernel) rfl, cd_X6_kind, tW_in (i := 73) (by decide +kernel) rfl, ⟨by decide +kernel, by decide +kernel⟩, by decide +kernel, by decide, by decide +kernel⟩
theorem wc_L_64 : wC RL m_X6_turn 64 2 := ⟨tW_in (i := 1100) (by decide +kernel) rfl, cd_X6_turn, tW_in (i := 73) (by decide +kernel) rfl, ⟨by decide +kernel, by decide +kernel⟩, by decide +kernel, by decide, by decide +kernel⟩
theorem wc_L_68 : wC RL m_X6_phases 68 1 := ⟨tW_in (i := 1104) (by decide +kernel) rfl, cd_X6_phases, tW_in (i := 73) (by decide +kernel) rfl, ⟨by decide +kernel, by decide +kernel⟩, by decide +kernel, by decide, by decide +kernel⟩
theorem wc_L_73 : wC RL m_X6_road 73 3 := ⟨tW_in (i := 1108) (by decide +kernel) rfl, cd_X6_road, tW_in (i := 73) (by decide +kernel) rfl, ⟨by decide +kernel, by decide +kernel⟩, by decide +kernel, by decide, by decide +kernel⟩
theorem wc_L_77 : wC RL m_X6_roads 77 1 := ⟨tW_in (i := 1112) (by decide +kernel) rfl, cd_X6_roads, tW_in (i := 73) (by decide +kernel) rfl, ⟨by decide +kernel, by decide +kernel⟩, by decide +kernel, by decide, by decide +kernel⟩
theorem wc_L_81 : wC RL m_X6_push 81 2 := ⟨tW_in (i := 1116) (by decide +kernel) rfl, cd_X6_push, tW_in (i := 73) (by decide +kernel) rfl, ⟨by decide +kernel, by decide +kernel⟩, by decide +kernel, by decide, by decide +kernel⟩
theorem wc_L_86 : wC RL m_X6_clear 86 0 := ⟨tW_in (i := 1121) (by decide +kernel) rfl, cd_X6_clear, tW_in (i := 73) (by decide +kernel) rfl, ⟨by decide +kernel, by decide +kernel⟩, by decide +kernel, by decide, by decide +kernel⟩
theorem wc_L_90 : wC RL m_X6_go 90 1 := ⟨tW_in (i := 1129) (by decide +kernel) rfl, cd_X6_go, tW_in (i := 73) (by decide +kernel) rfl, ⟨by decide +kernel, by decide +kernel⟩, by decide +kernel, by decide, by decide +kernel⟩
theorem wc_L_94 : wC RL m_X6_count 94 1 := ⟨tW_in (i := 1141) (by decide +kernel) rfl, cd_X6_count, tW_in (i := 73) (by decide +kernel) rfl, ⟨by decide +kernel, by decide +kernel⟩, by decide +kernel, by decide, by decide +kernel⟩
theorem wc_L_98 : wC RL m_X6_beats 98 2 := ⟨tW_in (i := 1149) (by decide +kernel) rfl, cd_X6_beats, tW_in (i := 73) (by decide +kernel) rfl, ⟨by decide +kernel, by decide +kernel⟩, by decide +kernel, by decide, by decide +kernel⟩
theorem wc_L_102 : wC RL m_X6_step 102 1 := ⟨tW_in (i := 1153) (by decide +kernel) rfl, cd_X6_step, tW_in (i := 73) (by decide +kernel) rfl, ⟨by decide +kernel, by decide +kernel⟩, by decide +kernel, by decide, by decide +kernel⟩
theorem wc_L_106 : wC RL m_X6_arc 106 1 := ⟨tW_in (i := 1165) (by decide +kernel) rfl, cd_X6_arc, tW_in (i := 73) (by decide +kernel) rfl, ⟨by decide +kernel, by decide +kernel⟩, by decide +kernel, by decide, by decide +kernel⟩
theorem wc_L_110 : wC RL m_X6_round 110 1 := ⟨tW_in (i := 1171) (by decide +kernel) rfl, cd_X6_round, tW_in (i := 73) (by decide +kernel) rfl, ⟨by decide +kernel, by decide +kernel⟩, by decide +kernel, by decide, by decide +kernel⟩
theorem wc_L_114 : wC RL m_X6_meet 114 1 := ⟨tW_in (i := 1188) (by decide +kernel) rfl, cd_X6_meet, tW_in (i := 73) (by decide +kernel) rfl, ⟨by decide +kernel, by decide +kernel⟩, by decide +kernel, by decide, by decide +kernel⟩
theorem wc_L_118 : wC RL m_X6_ends 118 0 := ⟨tW_in (i := 1192) (by decide +kernel) rfl, cd_X6_ends, tW_in (i := 73) (by decide +kernel) rfl, ⟨by decide +kernel, by decide +kernel⟩, by decide +kernel, by decide, by decide +kernel⟩
theorem wc_L_122 : wC RL m_X6_end 122 2 := ⟨tW_in (i := 1213) (by decide +kernel) rfl, cd_X6_end, tW_in (i := 73) (by decide +kernel) rfl, ⟨by decide +kernel, by decide +kernel⟩, by decide +kernel, by decide, by decide +kernel⟩
theorem wc_L_126 : wC RL m_X6_sure 126 1 := ⟨tW_in (i := 1217) (by decide +kernel) rfl, cd_X6_sure, tW_in (i := 73) (by decide +kernel) rfl, ⟨by decide +kernel, by decide +kernel⟩, by decide +kernel, by decide, by decide +kernel⟩
theorem wc_L_130 : wC RL m_X6_lead 130 0 := ⟨tW_in (i := 1221) (by decide +kernel) rfl, cd_X6_lead, tW_in (i := 73) (by decide +kernel) rfl, ⟨by decide +kernel, by decide +kernel⟩, by decide +kernel, by decide, by decide +kernel⟩
theorem wc_L_134 : wC RL m_X6_leader 134 1 := ⟨tW_in (i := 1225) (by decide +kernel) rfl, cd_X6_leader, tW_in (i := 73) (by decide +kernel) rfl, ⟨by decide +kernel, by decide +kernel⟩, by decide +kernel, by decide, by decide +kernel⟩
theorem wc_L_138 : wC RL m_X6_table 138 1 := ⟨tW_in (i := 1229) (by decide +kernel) rfl, cd_X6_table, tW_in (i := 73) (by decide +kernel) rfl, ⟨by decide +kernel, by decide +kernel⟩, by decide +kernel, by decide, by decide +kernel⟩
theorem wc_L_142 : wC RL m_X6_span 142 3 := ⟨tW_in (i := 1233) (by decide +kernel) rfl, cd_X6_span, tW_in (i := 73) (by decide +kernel) rfl, ⟨by decide +kernel, by decide +kernel⟩, by decide +kernel, by decide, by decide +kernel⟩
theorem wc_L_146 : wC RL m_X6_cut_ 146 2 := ⟨tW_in (i := 1243) (by decide +kernel) rfl, cd_X6_cut_, tW_in (i := 73) (by decide +kernel) rfl, ⟨by decide +kernel, by decide +kernel⟩, by decide +kernel, by decide, by decide +kernel⟩
theorem wc_L_151 : wC RL m_X6_pace 151 1 := ⟨tW_in (i := 1247) (by decide +kernel) rfl, cd_X6_pace, tW_in (i := 73) (by decide +kernel) rfl, ⟨by decide +kernel, by decide +kernel⟩, by decide +kernel, by decide, by decide +kernel⟩
theorem wc_L_155 : wC RL m_X6_critical 155 0 := ⟨tW_in (i := 1274) (by decide +kernel) rfl, cd_X6_critical, tW_in (i := 73) (by decide +kernel) rfl, ⟨by decide +kernel, by decide +kernel⟩, by decide +kernel, by decide, by decide +kernel⟩
theorem wc_L_160 : wC RL m_X6_sums 160 3 := ⟨tW_in (i := 1286) (by decide +kernel) rfl, cd_X6_sums, tW_in (i := 73) (by decide +kernel) rfl, ⟨by decide +kernel, by decide +kernel⟩, by decide +kernel, by decide, by decide +kernel⟩
theorem wc_L_164 : wC RL m_X6_longest 164 2 := ⟨tW_in (i := 1291) (by decide +kernel) rfl, cd_X6_longest, tW_in (i := 73) (by decide +kernel) rfl, ⟨by decide +kernel, by decide +kernel⟩, by decide +kernel, by decide, by decide +kernel⟩
theorem wc_L_168 : wC RL m_X6_again 168 1 := ⟨tW_in (i := 1295) (by decide +kernel) rfl, cd_X6_again, tW_in (i := 73) (by decide +kernel) rfl, ⟨by decide +kernel, by decide +kernel⟩, by decide +kernel, by decide, by decide +kernel⟩
theorem wc_L_174 : wC RL m_X6_out 174 1 := ⟨tW_in (i := 1303) (by decide +kernel) rfl, cd_X6_out, tW_in (i := 73) (by decide +kernel) rfl, ⟨by decide +kernel, by decide +kernel⟩, by decide +kernel, by decide, by decide +kernel⟩
abbrev nSE : String := "java/util/NoSuchElementException"
theorem ox_k : Cond.classLink RX5 288 nSE ∈ tW := tW_in (i := 830) (by decide +kernel) rfl
theorem ox_i : Cond.initialized nSE ∈ tW := tW_in (i := 80) (by decide +kernel) rfl
/-- the words of a throw whose constructor hands on by the link ix -/
def oxAt (own : String) (ic : Nat) (X Y : String) (ix : Nat) (rx : ByteArray) (r : List String) : List Cond :=
  Bundle.throwableAtoms ++ Bundle.throwableSAtoms ++ (Bundle.passSAtoms X Y ix rx ++ Bundle.chainSAtoms Y r) ++
  [.methodLink own ic (Bundle.initS X), .instantiable X 6, .castable X X, .selects X Bundle.tFill0 Bundle.tFill0, .selects X Bundle.tFill Bundle.tFill, .lays X Bundle.tN "cause" "Ljava/lang/Throwable;", .lays X Bundle.tN "stackTrace" Bundle.steD, .lays X Bundle.tN "suppressedExceptions" Bundle.listD, .lays X Bundle.tN "detailMessage" "Ljava/lang/String;",
   .isRef (.static Bundle.tN "UNASSIGNED_STACK" Bundle.steD), .isRef (.static Bundle.tN "SUPPRESSED_SENTINEL" Bundle.listD), .fieldLink Bundle.tN 198 Bundle.tN "backtrace" "Ljava/lang/Object;", .lays Bundle.tN Bundle.tN "backtrace" "Ljava/lang/Object;", .lays X Bundle.tN "backtrace" "Ljava/lang/Object;"]
abbrev oxY : String := "java/lang/RuntimeException"
abbrev oxR : List String := ["java/lang/Exception"]
abbrev oxL : List Cond := (oxAt RX5 292 nSE oxY 13 prog_18_method_4_code oxR).filter vx_no
theorem ox_all : (oxL.filter goodWord).all (fun w => decide (w ∈ lw_tbl)) = true := by decide +kernel
theorem ox_good : ∀ w ∈ oxL.filter goodWord, w ∈ tW := fun w hw => List.mem_filter.mpr ⟨of_decide_eq_true (List.all_eq_true.mp ox_all w hw), (List.mem_filter.mp hw).2⟩
def oxB : List Cond := [Cond.castable nSE nSE, Cond.declares (Bundle.initS "java/lang/RuntimeException"), Cond.declares (Bundle.initS "java/lang/Exception"), Cond.declares (Bundle.initS "java/lang/Throwable")]
theorem ox_bad : ∀ w ∈ oxL.filter (fun w => !goodWord w), w ∈ oxB := by decide +kernel
theorem ox_ot : ∀ w ∈ Cond.classLink RX5 288 nSE :: Cond.initialized nSE :: oxL, vx_ot w = true := by decide +kernel
theorem ox_inB : oxB.all (fun w => decide (w ∈ lw_tbl)) = true := by decide +kernel
