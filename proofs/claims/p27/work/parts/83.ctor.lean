theorem Wp.newIA {M : mM} {d pc : Nat} {L S : List mV} {h h2 : mH} {Q : Option mV → mH → Prop} {n a : Int} (ha : ((hN h : Nat) : Int) = a) (e : nA h 10 n = h2) (hw : Cond.arrayClass .int ∈ tW) (hd : decode M.2.1 pc = .ok (.newarray .int, 2)) (h1 : 0 ≤ n) (h3 : n ≤ 1000000) (k0 : Wp M d (pc + 2) L ((2, a) :: S) h2 Q) : Wp M d pc L ((0, n) :: S) h Q := by
  subst ha; subst e; exact Wp.newI hw hd h1 h3 k0
theorem Wp.newJA {M : mM} {d pc : Nat} {L S : List mV} {h h2 : mH} {Q : Option mV → mH → Prop} {n a : Int} (ha : ((hN h : Nat) : Int) = a) (e : nA h 11 n = h2) (hw : Cond.arrayClass .long ∈ tW) (hd : decode M.2.1 pc = .ok (.newarray .long, 2)) (h1 : 0 ≤ n) (h3 : n ≤ 1000000) (k0 : Wp M d (pc + 2) L ((2, a) :: S) h2 Q) : Wp M d pc L ((0, n) :: S) h Q := by
  subst ha; subst e; exact Wp.newJ hw hd h1 h3 k0
theorem Wp.newZA {M : mM} {d pc : Nat} {L S : List mV} {h h2 : mH} {Q : Option mV → mH → Prop} {n a : Int} (ha : ((hN h : Nat) : Int) = a) (e : nA h 12 n = h2) (hw : Cond.arrayClass .boolean ∈ tW) (hd : decode M.2.1 pc = .ok (.newarray .boolean, 2)) (h1 : 0 ≤ n) (h3 : n ≤ 1000000) (k0 : Wp M d (pc + 2) L ((2, a) :: S) h2 Q) : Wp M d pc L ((0, n) :: S) h Q := by
  subst ha; subst e; exact Wp.newZ hw hd h1 h3 k0
theorem Wp.newBA {M : mM} {d pc : Nat} {L S : List mV} {h h2 : mH} {Q : Option mV → mH → Prop} {n a : Int} (ha : ((hN h : Nat) : Int) = a) (e : nA h 13 n = h2) (hw : Cond.arrayClass .byte ∈ tW) (hd : decode M.2.1 pc = .ok (.newarray .byte, 2)) (h1 : 0 ≤ n) (h3 : n ≤ 1000000) (k0 : Wp M d (pc + 2) L ((2, a) :: S) h2 Q) : Wp M d pc L ((0, n) :: S) h Q := by
  subst ha; subst e; exact Wp.newB hw hd h1 h3 k0
theorem Wp.newSA {M : mM} {d pc : Nat} {L S : List mV} {h h2 : mH} {Q : Option mV → mH → Prop} {n a : Int} {ix : Nat} (ha : ((hN h : Nat) : Int) = a) (e : nA h 14 n = h2) (hw : Cond.classLink M.1.cls ix "BeatBench$Sheet" ∈ tW) (hd : decode M.2.1 pc = .ok (.anewarray ix, 3)) (h1 : 0 ≤ n) (h3 : n ≤ 1000000) (k0 : Wp M d (pc + 3) L ((2, a) :: S) h2 Q) : Wp M d pc L ((0, n) :: S) h Q := by
  subst ha; subst e; exact Wp.newS hw hd h1 h3 k0
theorem Wp.newMA {M : mM} {d pc : Nat} {L S : List mV} {h h2 : mH} {Q : Option mV → mH → Prop} {n k a : Int} {ix : Nat} (ha : ((hN h : Nat) : Int) = a) (e : nM h n k = h2) (hw : Cond.classLink M.1.cls ix "[[J" ∈ tW) (hwa : Cond.arrayClass .long ∈ tW) (hd : decode M.2.1 pc = .ok (.multianewarray ix 2, 4)) (h1 : 0 ≤ n) (h3 : n ≤ 1000000) (h4 : 0 ≤ k) (h5 : k ≤ 1000000) (k0 : Wp M d (pc + 4) L ((2, a) :: S) h2 Q) : Wp M d pc L ((0, k) :: (0, n) :: S) h Q := by
  subst ha; subst e; exact Wp.newM hw hwa hd h1 h3 h4 h5 k0
theorem Wp.newOA {M : mM} {d pc : Nat} {L S : List mV} {h h2 : mH} {Q : Option mV → mH → Prop} {a : Int} {c ix N : Nat} {C : String} {T : u_T} (ha : ((hN h : Nat) : Int) = a) (e : nO h c = h2) (hc : kC c C T N) (hw : Cond.classLink M.1.cls ix C ∈ tW) (hd : decode M.2.1 pc = .ok (.new ix, 3)) (k0 : Wp M d (pc + 3) L ((2, a) :: S) h2 Q) : Wp M d pc L S h Q := by
  subst ha; subst e; exact Wp.new hc hw hd k0
theorem Wp.hp {M : mM} {d pc : Nat} {L S : List mV} {h h2 : mH} {Q : Option mV → mH → Prop} (e : h = h2) (k : Wp M d pc L S h2 Q) : Wp M d pc L S h Q := by subst e; exact k
def e9_0 : mH := ((0, 0), fun _ => 98, fun _ => 0, fun _ _ => 0, fun _ _ => 0)
def e9_1 : mH := nO e9_0 5
def e9_2 : mH := sF e9_1 0 0 (0)
def e9_3 : mH := nA e9_2 14 4
def e9_4 : mH := sF e9_3 0 1 (1)
def e9_5 : mH := nO e9_4 0
def e9_6 : mH := sF e9_5 2 0 (12)
def e9_7 : mH := sF e9_6 2 1 (0)
def e9_8 : mH := sF e9_7 2 2 (0)
def e9_9 : mH := nA e9_8 10 24
def e9_10 : mH := sF e9_9 2 3 (3)
def e9_11 : mH := nA e9_10 10 24
def e9_12 : mH := sF e9_11 2 4 (4)
def e9_13 : mH := nA e9_12 10 24
def e9_14 : mH := sF e9_13 2 5 (5)
def e9_15 : mH := nA e9_14 10 24
def e9_16 : mH := sF e9_15 2 6 (6)
def e9_17 : mH := nA e9_16 10 16
def e9_18 : mH := sF e9_17 2 7 (7)
def e9_19 : mH := sF e9_18 2 8 (1)
def e9_20 : mH := nA e9_19 10 24
def e9_21 : mH := sF e9_20 2 9 (8)
def e9_22 : mH := nA e9_21 10 24
def e9_23 : mH := sF e9_22 2 10 (9)
def e9_24 : mH := nA e9_23 10 24
def e9_25 : mH := sF e9_24 2 11 (10)
def e9_26 : mH := nA e9_25 10 24
def e9_27 : mH := sF e9_26 2 12 (11)
def e9_28 : mH := nA e9_27 10 24
def e9_29 : mH := sF e9_28 2 13 (12)
def e9_30 : mH := sE e9_29 7 0 (1)
def e9_31 : mH := sF e9_30 0 2 (2)
def e9_32 : mH := nO e9_31 4
def e9_33 : mH := nA e9_32 10 0
def e9_34 : mH := sF e9_33 13 0 (14)
def e9_35 : mH := nA e9_34 10 0
def e9_36 : mH := sF e9_35 13 1 (15)
def e9_37 : mH := nA e9_36 11 0
def e9_38 : mH := sF e9_37 13 2 (16)
def e9_39 : mH := sF e9_38 13 3 (0)
def e9_40 : mH := sF e9_39 13 4 (0)
def e9_41 : mH := sF e9_40 0 3 (13)
def e9_42 : mH := nO e9_41 1
def e9_43 : mH := nA e9_42 10 0
def e9_44 : mH := sF e9_43 17 0 (18)
def e9_45 : mH := nA e9_44 10 0
def e9_46 : mH := sF e9_45 17 1 (19)
def e9_47 : mH := nA e9_46 10 0
def e9_48 : mH := sF e9_47 17 2 (20)
def e9_49 : mH := nA e9_48 10 0
def e9_50 : mH := sF e9_49 17 3 (21)
def e9_51 : mH := sF e9_50 17 4 (0)
def e9_52 : mH := sF e9_51 0 4 (17)
def e9_53 : mH := nO e9_52 3
def e9_54 : mH := sF e9_53 22 0 (10)
def e9_55 : mH := nA e9_54 11 100
def e9_56 : mH := sF e9_55 22 1 (23)
def e9_57 : mH := nA e9_56 11 100
def e9_58 : mH := sF e9_57 22 2 (24)
def e9_59 : mH := nA e9_58 11 100
def e9_60 : mH := sF e9_59 22 3 (25)
def e9_61 : mH := nA e9_60 11 100
def e9_62 : mH := sF e9_61 22 4 (26)
def e9_63 : mH := nA e9_62 11 10
def e9_64 : mH := sF e9_63 22 5 (27)
def e9_65 : mH := nA e9_64 11 10
def e9_66 : mH := sF e9_65 22 6 (28)
def e9_67 : mH := nA e9_66 11 110
def e9_68 : mH := sF e9_67 22 7 (29)
def e9_69 : mH := nM e9_68 0 0
def e9_70 : mH := sF e9_69 22 8 (30)
def e9_71 : mH := sF e9_70 22 9 (0)
def e9_72 : mH := sF e9_71 22 10 (1)
def e9_73 : mH := sF e9_72 22 11 (0)
def e9_74 : mH := sF e9_73 22 12 (0)
def e9_75 : mH := sF e9_74 22 13 (0)
def e9_76 : mH := sA e9_75 23 (flF (hA e9_75 23) 100 (-9223372036854775808))
def e9_77 : mH := sF e9_76 0 5 (22)
def e9_78 : mH := nA e9_77 10 24
def e9_79 : mH := sF e9_78 0 6 (31)
def e9_80 : mH := sF e9_79 0 7 (0)
def e9_81 : mH := nA e9_80 10 10
def e9_82 : mH := sF e9_81 0 8 (32)
def e9_83 : mH := sF e9_82 0 9 (0)
def e9_84 : mH := nO e9_83 2
def e9_85 : mH := sF e9_84 33 0 (0)
def e9_86 : mH := sF e9_85 33 1 (-1)
def e9_87 : mH := nA e9_86 11 100
def e9_88 : mH := sF e9_87 33 2 (34)
def e9_89 : mH := sE e9_88 1 0 33
def e9_90 : mH := nO e9_89 2
def e9_91 : mH := sF e9_90 35 0 (0)
def e9_92 : mH := sF e9_91 35 1 (-1)
def e9_93 : mH := nA e9_92 11 100
def e9_94 : mH := sF e9_93 35 2 (36)
def e9_95 : mH := sE e9_94 1 1 35
def e9_96 : mH := nO e9_95 2
def e9_97 : mH := sF e9_96 37 0 (0)
def e9_98 : mH := sF e9_97 37 1 (-1)
def e9_99 : mH := nA e9_98 11 100
def e9_100 : mH := sF e9_99 37 2 (38)
def e9_101 : mH := sE e9_100 1 2 37
def e9_102 : mH := nO e9_101 2
def e9_103 : mH := sF e9_102 39 0 (0)
def e9_104 : mH := sF e9_103 39 1 (-1)
def e9_105 : mH := nA e9_104 11 100
def e9_106 : mH := sF e9_105 39 2 (40)
def e9_107 : mH := sE e9_106 1 3 39
def e9_108 : mH := nO e9_107 6
def e9_109 : mH := nA e9_108 10 4
def e9_110 : mH := sF e9_109 41 2 (42)
def e9_111 : mH := nA e9_110 10 4
def e9_112 : mH := sF e9_111 41 3 (43)
def e9_113 : mH := nA e9_112 11 400
def e9_114 : mH := sF e9_113 41 4 (44)
def e9_115 : mH := sF e9_114 41 5 (12)
def e9_116 : mH := sF e9_115 41 8 (1)
def e9_117 : mH := nA e9_116 10 24
def e9_118 : mH := sF e9_117 41 9 (45)
def e9_119 : mH := nA e9_118 10 24
def e9_120 : mH := sF e9_119 41 10 (46)
def e9_121 : mH := nA e9_120 10 16
def e9_122 : mH := sF e9_121 41 11 (47)
def e9_123 : mH := nA e9_122 11 24
def e9_124 : mH := sF e9_123 41 12 (48)
def e9_125 : mH := nA e9_124 12 576
def e9_126 : mH := sF e9_125 41 13 (49)
def e9_127 : mH := nA e9_126 10 24
def e9_128 : mH := sF e9_127 41 14 (50)
def e9_129 : mH := nA e9_128 10 24
def e9_130 : mH := sF e9_129 41 15 (51)
def e9_131 : mH := nA e9_130 12 24
def e9_132 : mH := sF e9_131 41 16 (52)
def e9_133 : mH := nA e9_132 12 24
def e9_134 : mH := sF e9_133 41 17 (53)
def e9_135 : mH := nA e9_134 10 24
def e9_136 : mH := sF e9_135 41 18 (54)
def e9_137 : mH := nA e9_136 10 24
def e9_138 : mH := sF e9_137 41 19 (55)
def e9_139 : mH := nA e9_138 10 24
def e9_140 : mH := sF e9_139 41 20 (56)
def e9_141 : mH := nA e9_140 10 24
def e9_142 : mH := sF e9_141 41 21 (57)
def e9_143 : mH := nA e9_142 10 20736
def e9_144 : mH := sF e9_143 41 22 (58)
def e9_145 : mH := nA e9_144 10 20736
def e9_146 : mH := sF e9_145 41 23 (59)
def e9_147 : mH := nA e9_146 10 20736
def e9_148 : mH := sF e9_147 41 24 (60)
def e9_149 : mH := nA e9_148 10 20736
def e9_150 : mH := sF e9_149 41 25 (61)
def e9_151 : mH := nA e9_150 10 20736
def e9_152 : mH := sF e9_151 41 26 (62)
def e9_153 : mH := nA e9_152 10 24
def e9_154 : mH := sF e9_153 41 29 (63)
def e9_155 : mH := nA e9_154 11 100
def e9_156 : mH := sF e9_155 41 31 (64)
def e9_157 : mH := nA e9_156 11 100
def e9_158 : mH := sF e9_157 41 32 (65)
def e9_159 : mH := nA e9_158 11 100
def e9_160 : mH := sF e9_159 41 33 (66)
def e9_161 : mH := nA e9_160 11 100
def e9_162 : mH := sF e9_161 41 34 (67)
def e9_163 : mH := nA e9_162 11 20100
def e9_164 : mH := sF e9_163 41 35 (68)
def e9_165 : mH := nA e9_164 13 10
def e9_166 : mH := sF e9_165 41 38 (69)
def e9_167 : mH := nA e9_166 10 20736
def e9_168 : mH := sF e9_167 41 42 (70)
def e9_169 : mH := nA e9_168 10 20736
def e9_170 : mH := sF e9_169 41 43 (71)
def e9_171 : mH := nA e9_170 10 24
def e9_172 : mH := sF e9_171 41 44 (72)
def e9_173 : mH := sE e9_172 43 0 (-1)
def e9_174 : mH := sE e9_173 43 1 (-1)
def e9_175 : mH := sE e9_174 43 2 (-1)
def e9_176 : mH := sE e9_175 43 3 (-1)
def e9_177 : mH := sE e9_176 47 0 (1)
theorem cti_X0_init_2 : Ct m_X0_init 8 [(2, 2)] e9_5 none e9_30 := by
  refine Ct.of ?_
  show Wp m_X0_init 8 0 [(2, 2)] [] e9_5 _
  refine Wp.ald_n (j := 0) rfl dX0_init_0 ?_
  refine Wp.objInit wo_X0_3 wO2 wO3 dX0_init_1 (show hK e9_5 2 = 0 by decide +kernel) (by decide) (Nat.le_of_ble_eq_true rfl) ?_
  refine Wp.ald_n (j := 0) rfl dX0_init_4 ?_
  refine Wp.bipush dX0_init_5 (by decide) ?_
  refine Wp.putf (k := 0) (tg := 0) kC0 (by decide) rfl rfl lf_X0_9 dX0_init_7 (show hK e9_5 2 = 0 by decide +kernel) ?_
  refine Wp.hp (h2 := e9_6) rfl ?_
  refine Wp.ald_n (j := 0) rfl dX0_init_10 ?_
  refine Wp.iconst dX0_init_11 (by decide) ?_
  refine Wp.putf (k := 1) (tg := 0) kC0 (by decide) rfl rfl lf_X0_15 dX0_init_12 (show hK e9_6 2 = 0 by decide +kernel) ?_
  refine Wp.hp (h2 := e9_7) rfl ?_
  refine Wp.ald_n (j := 0) rfl dX0_init_15 ?_
  refine Wp.iconst dX0_init_16 (by decide) ?_
  refine Wp.putf (k := 2) (tg := 0) kC0 (by decide) rfl rfl lf_X0_18 dX0_init_17 (show hK e9_7 2 = 0 by decide +kernel) ?_
  refine Wp.hp (h2 := e9_8) rfl ?_
  refine Wp.ald_n (j := 0) rfl dX0_init_20 ?_
  refine Wp.bipush dX0_init_21 (by decide) ?_
  refine Wp.newIA (a := 3) (h2 := e9_9) (by decide +kernel) rfl wT_int dX0_init_23 (by decide) (by decide) ?_
  refine Wp.putfF (k := 3) (tg := 2) kC0 (by decide) rfl rfl rfl rfl lf_X0_21 dX0_init_25 (show hK e9_9 2 = 0 by decide +kernel) ?_
  refine Wp.hp (h2 := e9_10) rfl ?_
  refine Wp.ald_n (j := 0) rfl dX0_init_28 ?_
  refine Wp.bipush dX0_init_29 (by decide) ?_
  refine Wp.newIA (a := 4) (h2 := e9_11) (by decide +kernel) rfl wT_int dX0_init_31 (by decide) (by decide) ?_
  refine Wp.putfF (k := 4) (tg := 2) kC0 (by decide) rfl rfl rfl rfl lf_X0_25 dX0_init_33 (show hK e9_11 2 = 0 by decide +kernel) ?_
  refine Wp.hp (h2 := e9_12) rfl ?_
  refine Wp.ald_n (j := 0) rfl dX0_init_36 ?_
  refine Wp.bipush dX0_init_37 (by decide) ?_
  refine Wp.newIA (a := 5) (h2 := e9_13) (by decide +kernel) rfl wT_int dX0_init_39 (by decide) (by decide) ?_
  refine Wp.putfF (k := 5) (tg := 2) kC0 (by decide) rfl rfl rfl rfl lf_X0_28 dX0_init_41 (show hK e9_13 2 = 0 by decide +kernel) ?_
  refine Wp.hp (h2 := e9_14) rfl ?_
  refine Wp.ald_n (j := 0) rfl dX0_init_44 ?_
  refine Wp.bipush dX0_init_45 (by decide) ?_
  refine Wp.newIA (a := 6) (h2 := e9_15) (by decide +kernel) rfl wT_int dX0_init_47 (by decide) (by decide) ?_
  refine Wp.putfF (k := 6) (tg := 2) kC0 (by decide) rfl rfl rfl rfl lf_X0_31 dX0_init_49 (show hK e9_15 2 = 0 by decide +kernel) ?_
  refine Wp.hp (h2 := e9_16) rfl ?_
  refine Wp.ald_n (j := 0) rfl dX0_init_52 ?_
  refine Wp.bipush dX0_init_53 (by decide) ?_
  refine Wp.newIA (a := 7) (h2 := e9_17) (by decide +kernel) rfl wT_int dX0_init_55 (by decide) (by decide) ?_
  refine Wp.putfF (k := 7) (tg := 2) kC0 (by decide) rfl rfl rfl rfl lf_X0_34 dX0_init_57 (show hK e9_17 2 = 0 by decide +kernel) ?_
  refine Wp.hp (h2 := e9_18) rfl ?_
  refine Wp.ald_n (j := 0) rfl dX0_init_60 ?_
  refine Wp.iconst dX0_init_61 (by decide) ?_
  refine Wp.putf (k := 8) (tg := 0) kC0 (by decide) rfl rfl lf_X0_37 dX0_init_62 (show hK e9_18 2 = 0 by decide +kernel) ?_
  refine Wp.hp (h2 := e9_19) rfl ?_
  refine Wp.ald_n (j := 0) rfl dX0_init_65 ?_
  refine Wp.bipush dX0_init_66 (by decide) ?_
  refine Wp.newIA (a := 8) (h2 := e9_20) (by decide +kernel) rfl wT_int dX0_init_68 (by decide) (by decide) ?_
  refine Wp.putfF (k := 9) (tg := 2) kC0 (by decide) rfl rfl rfl rfl lf_X0_40 dX0_init_70 (show hK e9_20 2 = 0 by decide +kernel) ?_
  refine Wp.hp (h2 := e9_21) rfl ?_
  refine Wp.ald_n (j := 0) rfl dX0_init_73 ?_
  refine Wp.bipush dX0_init_74 (by decide) ?_
  refine Wp.newIA (a := 9) (h2 := e9_22) (by decide +kernel) rfl wT_int dX0_init_76 (by decide) (by decide) ?_
  refine Wp.putfF (k := 10) (tg := 2) kC0 (by decide) rfl rfl rfl rfl lf_X0_43 dX0_init_78 (show hK e9_22 2 = 0 by decide +kernel) ?_
  refine Wp.hp (h2 := e9_23) rfl ?_
  refine Wp.ald_n (j := 0) rfl dX0_init_81 ?_
  refine Wp.bipush dX0_init_82 (by decide) ?_
  refine Wp.newIA (a := 10) (h2 := e9_24) (by decide +kernel) rfl wT_int dX0_init_84 (by decide) (by decide) ?_
  refine Wp.putfF (k := 11) (tg := 2) kC0 (by decide) rfl rfl rfl rfl lf_X0_46 dX0_init_86 (show hK e9_24 2 = 0 by decide +kernel) ?_
  refine Wp.hp (h2 := e9_25) rfl ?_
  refine Wp.ald_n (j := 0) rfl dX0_init_89 ?_
  refine Wp.bipush dX0_init_90 (by decide) ?_
  refine Wp.newIA (a := 11) (h2 := e9_26) (by decide +kernel) rfl wT_int dX0_init_92 (by decide) (by decide) ?_
  refine Wp.putfF (k := 12) (tg := 2) kC0 (by decide) rfl rfl rfl rfl lf_X0_49 dX0_init_94 (show hK e9_26 2 = 0 by decide +kernel) ?_
  refine Wp.hp (h2 := e9_27) rfl ?_
  refine Wp.ald_n (j := 0) rfl dX0_init_97 ?_
  refine Wp.bipush dX0_init_98 (by decide) ?_
  refine Wp.newIA (a := 12) (h2 := e9_28) (by decide +kernel) rfl wT_int dX0_init_100 (by decide) (by decide) ?_
  refine Wp.putfF (k := 13) (tg := 2) kC0 (by decide) rfl rfl rfl rfl lf_X0_52 dX0_init_102 (show hK e9_28 2 = 0 by decide +kernel) ?_
  refine Wp.hp (h2 := e9_29) rfl ?_
  refine Wp.ald_n (j := 0) rfl dX0_init_105 ?_
  refine Wp.getf (k := 7) (tg := 2) kC0 (by decide) rfl lf_X0_34 dX0_init_106 (show hK e9_29 2 = 0 by decide +kernel) (show hF e9_29 2 7 = 7 by decide +kernel) ?_
  refine Wp.iconst dX0_init_109 (by decide) ?_
  refine Wp.iconst dX0_init_110 (by decide) ?_
  refine Wp.iastore dX0_init_111 (show hK e9_29 7 = 10 by decide +kernel) (by decide) (ilt (show hL e9_29 7 = 16 by decide +kernel) (by decide)) ?_
  refine Wp.hp (h2 := e9_30) rfl ?_
  refine Wp.vret rfl dX0_init_112 ?_
  exact ⟨rfl, rfl⟩
theorem cti_X4_init_13 : Ct m_X4_init 8 [(2, 13)] e9_32 none e9_40 := by
  refine Ct.of ?_
  show Wp m_X4_init 8 0 [(2, 13)] [] e9_32 _
  refine Wp.ald_n (j := 0) rfl dX4_init_0 ?_
  refine Wp.objInit wo_X4_3 wO2 wO3 dX4_init_1 (show hK e9_32 13 = 4 by decide +kernel) (by decide) (Nat.le_of_ble_eq_true rfl) ?_
  refine Wp.ald_n (j := 0) rfl dX4_init_4 ?_
  refine Wp.iconst dX4_init_5 (by decide) ?_
  refine Wp.newIA (a := 14) (h2 := e9_33) (by decide +kernel) rfl wT_int dX4_init_6 (by decide) (by decide) ?_
  refine Wp.putf (k := 0) (tg := 2) kC4 (by decide) rfl rfl lf_X4_9 dX4_init_8 (show hK e9_33 13 = 4 by decide +kernel) ?_
  refine Wp.hp (h2 := e9_34) rfl ?_
  refine Wp.ald_n (j := 0) rfl dX4_init_11 ?_
  refine Wp.iconst dX4_init_12 (by decide) ?_
  refine Wp.newIA (a := 15) (h2 := e9_35) (by decide +kernel) rfl wT_int dX4_init_13 (by decide) (by decide) ?_
  refine Wp.putf (k := 1) (tg := 2) kC4 (by decide) rfl rfl lf_X4_15 dX4_init_15 (show hK e9_35 13 = 4 by decide +kernel) ?_
  refine Wp.hp (h2 := e9_36) rfl ?_
  refine Wp.ald_n (j := 0) rfl dX4_init_18 ?_
  refine Wp.iconst dX4_init_19 (by decide) ?_
  refine Wp.newJA (a := 16) (h2 := e9_37) (by decide +kernel) rfl wT_long dX4_init_20 (by decide) (by decide) ?_
  refine Wp.putf (k := 2) (tg := 2) kC4 (by decide) rfl rfl lf_X4_18 dX4_init_22 (show hK e9_37 13 = 4 by decide +kernel) ?_
  refine Wp.hp (h2 := e9_38) rfl ?_
  refine Wp.ald_n (j := 0) rfl dX4_init_25 ?_
  refine Wp.iconst dX4_init_26 (by decide) ?_
  refine Wp.putf (k := 3) (tg := 0) kC4 (by decide) rfl rfl lf_X4_22 dX4_init_27 (show hK e9_38 13 = 4 by decide +kernel) ?_
  refine Wp.hp (h2 := e9_39) rfl ?_
  refine Wp.ald_n (j := 0) rfl dX4_init_30 ?_
  refine Wp.iconst dX4_init_31 (by decide) ?_
  refine Wp.putf (k := 4) (tg := 0) kC4 (by decide) rfl rfl lf_X4_26 dX4_init_32 (show hK e9_39 13 = 4 by decide +kernel) ?_
  refine Wp.hp (h2 := e9_40) rfl ?_
  refine Wp.vret rfl dX4_init_35 ?_
  exact ⟨rfl, rfl⟩
theorem cti_X1_init_17 : Ct m_X1_init 8 [(2, 17)] e9_42 none e9_51 := by
  refine Ct.of ?_
  show Wp m_X1_init 8 0 [(2, 17)] [] e9_42 _
  refine Wp.ald_n (j := 0) rfl dX1_init_0 ?_
  refine Wp.objInit wo_X1_3 wO2 wO3 dX1_init_1 (show hK e9_42 17 = 1 by decide +kernel) (by decide) (Nat.le_of_ble_eq_true rfl) ?_
  refine Wp.ald_n (j := 0) rfl dX1_init_4 ?_
  refine Wp.iconst dX1_init_5 (by decide) ?_
  refine Wp.newIA (a := 18) (h2 := e9_43) (by decide +kernel) rfl wT_int dX1_init_6 (by decide) (by decide) ?_
  refine Wp.putf (k := 0) (tg := 2) kC1 (by decide) rfl rfl lf_X1_9 dX1_init_8 (show hK e9_43 17 = 1 by decide +kernel) ?_
  refine Wp.hp (h2 := e9_44) rfl ?_
  refine Wp.ald_n (j := 0) rfl dX1_init_11 ?_
  refine Wp.iconst dX1_init_12 (by decide) ?_
  refine Wp.newIA (a := 19) (h2 := e9_45) (by decide +kernel) rfl wT_int dX1_init_13 (by decide) (by decide) ?_
  refine Wp.putf (k := 1) (tg := 2) kC1 (by decide) rfl rfl lf_X1_15 dX1_init_15 (show hK e9_45 17 = 1 by decide +kernel) ?_
  refine Wp.hp (h2 := e9_46) rfl ?_
  refine Wp.ald_n (j := 0) rfl dX1_init_18 ?_
  refine Wp.iconst dX1_init_19 (by decide) ?_
  refine Wp.newIA (a := 20) (h2 := e9_47) (by decide +kernel) rfl wT_int dX1_init_20 (by decide) (by decide) ?_
  refine Wp.putf (k := 2) (tg := 2) kC1 (by decide) rfl rfl lf_X1_18 dX1_init_22 (show hK e9_47 17 = 1 by decide +kernel) ?_
  refine Wp.hp (h2 := e9_48) rfl ?_
  refine Wp.ald_n (j := 0) rfl dX1_init_25 ?_
  refine Wp.iconst dX1_init_26 (by decide) ?_
  refine Wp.newIA (a := 21) (h2 := e9_49) (by decide +kernel) rfl wT_int dX1_init_27 (by decide) (by decide) ?_
  refine Wp.putf (k := 3) (tg := 2) kC1 (by decide) rfl rfl lf_X1_21 dX1_init_29 (show hK e9_49 17 = 1 by decide +kernel) ?_
  refine Wp.hp (h2 := e9_50) rfl ?_
  refine Wp.ald_n (j := 0) rfl dX1_init_32 ?_
  refine Wp.iconst dX1_init_33 (by decide) ?_
  refine Wp.putf (k := 4) (tg := 0) kC1 (by decide) rfl rfl lf_X1_24 dX1_init_34 (show hK e9_50 17 = 1 by decide +kernel) ?_
  refine Wp.hp (h2 := e9_51) rfl ?_
  refine Wp.vret rfl dX1_init_37 ?_
  exact ⟨rfl, rfl⟩
theorem cti_X3_init_22 : Ct m_X3_init 8 [(2, 22)] e9_53 none e9_76 := by
  refine Ct.of ?_
  show Wp m_X3_init 8 0 [(2, 22)] [] e9_53 _
  refine Wp.ald_n (j := 0) rfl dX3_init_0 ?_
  refine Wp.objInit wo_X3_3 wO2 wO3 dX3_init_1 (show hK e9_53 22 = 3 by decide +kernel) (by decide) (Nat.le_of_ble_eq_true rfl) ?_
  refine Wp.ald_n (j := 0) rfl dX3_init_4 ?_
  refine Wp.bipush dX3_init_5 (by decide) ?_
  refine Wp.putf (k := 0) (tg := 0) kC3 (by decide) rfl rfl lf_X3_9 dX3_init_7 (show hK e9_53 22 = 3 by decide +kernel) ?_
  refine Wp.hp (h2 := e9_54) rfl ?_
  refine Wp.ald_n (j := 0) rfl dX3_init_10 ?_
  refine Wp.bipush dX3_init_11 (by decide) ?_
  refine Wp.newJA (a := 23) (h2 := e9_55) (by decide +kernel) rfl wT_long dX3_init_13 (by decide) (by decide) ?_
  refine Wp.putfF (k := 1) (tg := 2) kC3 (by decide) rfl rfl rfl rfl lf_X3_15 dX3_init_15 (show hK e9_55 22 = 3 by decide +kernel) ?_
  refine Wp.hp (h2 := e9_56) rfl ?_
  refine Wp.ald_n (j := 0) rfl dX3_init_18 ?_
  refine Wp.bipush dX3_init_19 (by decide) ?_
  refine Wp.newJA (a := 24) (h2 := e9_57) (by decide +kernel) rfl wT_long dX3_init_21 (by decide) (by decide) ?_
  refine Wp.putf (k := 2) (tg := 2) kC3 (by decide) rfl rfl lf_X3_19 dX3_init_23 (show hK e9_57 22 = 3 by decide +kernel) ?_
  refine Wp.hp (h2 := e9_58) rfl ?_
  refine Wp.ald_n (j := 0) rfl dX3_init_26 ?_
  refine Wp.bipush dX3_init_27 (by decide) ?_
  refine Wp.newJA (a := 25) (h2 := e9_59) (by decide +kernel) rfl wT_long dX3_init_29 (by decide) (by decide) ?_
  refine Wp.putf (k := 3) (tg := 2) kC3 (by decide) rfl rfl lf_X3_22 dX3_init_31 (show hK e9_59 22 = 3 by decide +kernel) ?_
  refine Wp.hp (h2 := e9_60) rfl ?_
  refine Wp.ald_n (j := 0) rfl dX3_init_34 ?_
  refine Wp.bipush dX3_init_35 (by decide) ?_
  refine Wp.newJA (a := 26) (h2 := e9_61) (by decide +kernel) rfl wT_long dX3_init_37 (by decide) (by decide) ?_
  refine Wp.putfF (k := 4) (tg := 2) kC3 (by decide) rfl rfl rfl rfl lf_X3_25 dX3_init_39 (show hK e9_61 22 = 3 by decide +kernel) ?_
  refine Wp.hp (h2 := e9_62) rfl ?_
  refine Wp.ald_n (j := 0) rfl dX3_init_42 ?_
  refine Wp.bipush dX3_init_43 (by decide) ?_
  refine Wp.newJA (a := 27) (h2 := e9_63) (by decide +kernel) rfl wT_long dX3_init_45 (by decide) (by decide) ?_
  refine Wp.putf (k := 5) (tg := 2) kC3 (by decide) rfl rfl lf_X3_28 dX3_init_47 (show hK e9_63 22 = 3 by decide +kernel) ?_
  refine Wp.hp (h2 := e9_64) rfl ?_
  refine Wp.ald_n (j := 0) rfl dX3_init_50 ?_
  refine Wp.bipush dX3_init_51 (by decide) ?_
  refine Wp.newJA (a := 28) (h2 := e9_65) (by decide +kernel) rfl wT_long dX3_init_53 (by decide) (by decide) ?_
  refine Wp.putf (k := 6) (tg := 2) kC3 (by decide) rfl rfl lf_X3_31 dX3_init_55 (show hK e9_65 22 = 3 by decide +kernel) ?_
  refine Wp.hp (h2 := e9_66) rfl ?_
  refine Wp.ald_n (j := 0) rfl dX3_init_58 ?_
  refine Wp.bipush dX3_init_59 (by decide) ?_
  refine Wp.newJA (a := 29) (h2 := e9_67) (by decide +kernel) rfl wT_long dX3_init_61 (by decide) (by decide) ?_
  refine Wp.putfF (k := 7) (tg := 2) kC3 (by decide) rfl rfl rfl rfl lf_X3_34 dX3_init_63 (show hK e9_67 22 = 3 by decide +kernel) ?_
  refine Wp.hp (h2 := e9_68) rfl ?_
  refine Wp.ald_n (j := 0) rfl dX3_init_66 ?_
  refine Wp.iconst dX3_init_67 (by decide) ?_
  refine Wp.iconst dX3_init_68 (by decide) ?_
  refine Wp.newMA (a := 30) (h2 := e9_69) (by decide +kernel) rfl lc_X3_37 wT_long dX3_init_69 (by decide) (by decide) (by decide) (by decide) ?_
  refine Wp.putf (k := 8) (tg := 2) kC3 (by decide) rfl rfl lf_X3_39 dX3_init_73 (show hK e9_69 22 = 3 by decide +kernel) ?_
  refine Wp.hp (h2 := e9_70) rfl ?_
  refine Wp.ald_n (j := 0) rfl dX3_init_76 ?_
  refine Wp.lconst (z := 0) dX3_init_77 (by decide) ?_
  refine Wp.putf (k := 9) (tg := 1) kC3 (by decide) rfl rfl lf_X3_42 dX3_init_78 (show hK e9_70 22 = 3 by decide +kernel) ?_
  refine Wp.hp (h2 := e9_71) rfl ?_
  refine Wp.ald_n (j := 0) rfl dX3_init_81 ?_
  refine Wp.lconst (z := 1) dX3_init_82 (by decide) ?_
  refine Wp.putf (k := 10) (tg := 1) kC3 (by decide) rfl rfl lf_X3_46 dX3_init_83 (show hK e9_71 22 = 3 by decide +kernel) ?_
  refine Wp.hp (h2 := e9_72) rfl ?_
  refine Wp.ald_n (j := 0) rfl dX3_init_86 ?_
  refine Wp.iconst dX3_init_87 (by decide) ?_
  refine Wp.putf (k := 11) (tg := 0) kC3 (by decide) rfl rfl lf_X3_49 dX3_init_88 (show hK e9_72 22 = 3 by decide +kernel) ?_
  refine Wp.hp (h2 := e9_73) rfl ?_
  refine Wp.ald_n (j := 0) rfl dX3_init_91 ?_
  refine Wp.iconst dX3_init_92 (by decide) ?_
  refine Wp.putf (k := 12) (tg := 0) kC3 (by decide) rfl rfl lf_X3_52 dX3_init_93 (show hK e9_73 22 = 3 by decide +kernel) ?_
  refine Wp.hp (h2 := e9_74) rfl ?_
  refine Wp.ald_n (j := 0) rfl dX3_init_96 ?_
  refine Wp.iconst dX3_init_97 (by decide) ?_
  refine Wp.putf (k := 13) (tg := 0) kC3 (by decide) rfl rfl lf_X3_55 dX3_init_98 (show hK e9_74 22 = 3 by decide +kernel) ?_
  refine Wp.hp (h2 := e9_75) rfl ?_
  refine Wp.ald_n (j := 0) rfl dX3_init_101 ?_
  refine Wp.getf (k := 1) (tg := 2) kC3 (by decide) rfl lf_X3_15 dX3_init_102 (show hK e9_75 22 = 3 by decide +kernel) (show hF e9_75 22 1 = 23 by decide +kernel) ?_
  refine Wp.ldc2 (z := -9223372036854775808) lk_X3_58 (by decide) dX3_init_105 ?_
  refine Wp.callS0 (ct_fillJ 7 e9_75 23 (-9223372036854775808) 100 (show hK e9_75 23 = 11 by decide +kernel) (by decide +kernel) (by decide) (by decide)) wc_X3_60 sM_J7_fill_d0a16 dX3_init_108 rfl (Nat.le_of_ble_eq_true rfl) rfl (Nat.le_of_ble_eq_true rfl) ?_
  refine Wp.hp (h2 := e9_76) rfl ?_
  refine Wp.vret rfl dX3_init_111 ?_
  exact ⟨rfl, rfl⟩
theorem cti_X2_init_33 : Ct m_X2_init 8 [(2, 33)] e9_84 none e9_88 := by
  refine Ct.of ?_
  show Wp m_X2_init 8 0 [(2, 33)] [] e9_84 _
  refine Wp.ald_n (j := 0) rfl dX2_init_0 ?_
  refine Wp.objInit wo_X2_3 wO2 wO3 dX2_init_1 (show hK e9_84 33 = 2 by decide +kernel) (by decide) (Nat.le_of_ble_eq_true rfl) ?_
  refine Wp.ald_n (j := 0) rfl dX2_init_4 ?_
  refine Wp.iconst dX2_init_5 (by decide) ?_
  refine Wp.putf (k := 0) (tg := 0) kC2 (by decide) rfl rfl lf_X2_9 dX2_init_6 (show hK e9_84 33 = 2 by decide +kernel) ?_
  refine Wp.hp (h2 := e9_85) rfl ?_
  refine Wp.ald_n (j := 0) rfl dX2_init_9 ?_
  refine Wp.iconst dX2_init_10 (by decide) ?_
  refine Wp.putf (k := 1) (tg := 0) kC2 (by decide) rfl rfl lf_X2_15 dX2_init_11 (show hK e9_85 33 = 2 by decide +kernel) ?_
  refine Wp.hp (h2 := e9_86) rfl ?_
  refine Wp.ald_n (j := 0) rfl dX2_init_14 ?_
  refine Wp.bipush dX2_init_15 (by decide) ?_
  refine Wp.newJA (a := 34) (h2 := e9_87) (by decide +kernel) rfl wT_long dX2_init_17 (by decide) (by decide) ?_
  refine Wp.putfF (k := 2) (tg := 2) kC2 (by decide) rfl rfl rfl rfl lf_X2_18 dX2_init_19 (show hK e9_87 33 = 2 by decide +kernel) ?_
  refine Wp.hp (h2 := e9_88) rfl ?_
  refine Wp.vret rfl dX2_init_22 ?_
  exact ⟨rfl, rfl⟩
theorem cti_X2_init_35 : Ct m_X2_init 8 [(2, 35)] e9_90 none e9_94 := by
  refine Ct.of ?_
  show Wp m_X2_init 8 0 [(2, 35)] [] e9_90 _
  refine Wp.ald_n (j := 0) rfl dX2_init_0 ?_
  refine Wp.objInit wo_X2_3 wO2 wO3 dX2_init_1 (show hK e9_90 35 = 2 by decide +kernel) (by decide) (Nat.le_of_ble_eq_true rfl) ?_
  refine Wp.ald_n (j := 0) rfl dX2_init_4 ?_
  refine Wp.iconst dX2_init_5 (by decide) ?_
  refine Wp.putf (k := 0) (tg := 0) kC2 (by decide) rfl rfl lf_X2_9 dX2_init_6 (show hK e9_90 35 = 2 by decide +kernel) ?_
  refine Wp.hp (h2 := e9_91) rfl ?_
  refine Wp.ald_n (j := 0) rfl dX2_init_9 ?_
  refine Wp.iconst dX2_init_10 (by decide) ?_
  refine Wp.putf (k := 1) (tg := 0) kC2 (by decide) rfl rfl lf_X2_15 dX2_init_11 (show hK e9_91 35 = 2 by decide +kernel) ?_
  refine Wp.hp (h2 := e9_92) rfl ?_
  refine Wp.ald_n (j := 0) rfl dX2_init_14 ?_
  refine Wp.bipush dX2_init_15 (by decide) ?_
  refine Wp.newJA (a := 36) (h2 := e9_93) (by decide +kernel) rfl wT_long dX2_init_17 (by decide) (by decide) ?_
  refine Wp.putfF (k := 2) (tg := 2) kC2 (by decide) rfl rfl rfl rfl lf_X2_18 dX2_init_19 (show hK e9_93 35 = 2 by decide +kernel) ?_
  refine Wp.hp (h2 := e9_94) rfl ?_
  refine Wp.vret rfl dX2_init_22 ?_
  exact ⟨rfl, rfl⟩
theorem cti_X2_init_37 : Ct m_X2_init 8 [(2, 37)] e9_96 none e9_100 := by
  refine Ct.of ?_
  show Wp m_X2_init 8 0 [(2, 37)] [] e9_96 _
  refine Wp.ald_n (j := 0) rfl dX2_init_0 ?_
  refine Wp.objInit wo_X2_3 wO2 wO3 dX2_init_1 (show hK e9_96 37 = 2 by decide +kernel) (by decide) (Nat.le_of_ble_eq_true rfl) ?_
  refine Wp.ald_n (j := 0) rfl dX2_init_4 ?_
  refine Wp.iconst dX2_init_5 (by decide) ?_
  refine Wp.putf (k := 0) (tg := 0) kC2 (by decide) rfl rfl lf_X2_9 dX2_init_6 (show hK e9_96 37 = 2 by decide +kernel) ?_
  refine Wp.hp (h2 := e9_97) rfl ?_
  refine Wp.ald_n (j := 0) rfl dX2_init_9 ?_
  refine Wp.iconst dX2_init_10 (by decide) ?_
  refine Wp.putf (k := 1) (tg := 0) kC2 (by decide) rfl rfl lf_X2_15 dX2_init_11 (show hK e9_97 37 = 2 by decide +kernel) ?_
  refine Wp.hp (h2 := e9_98) rfl ?_
  refine Wp.ald_n (j := 0) rfl dX2_init_14 ?_
  refine Wp.bipush dX2_init_15 (by decide) ?_
  refine Wp.newJA (a := 38) (h2 := e9_99) (by decide +kernel) rfl wT_long dX2_init_17 (by decide) (by decide) ?_
  refine Wp.putfF (k := 2) (tg := 2) kC2 (by decide) rfl rfl rfl rfl lf_X2_18 dX2_init_19 (show hK e9_99 37 = 2 by decide +kernel) ?_
  refine Wp.hp (h2 := e9_100) rfl ?_
  refine Wp.vret rfl dX2_init_22 ?_
  exact ⟨rfl, rfl⟩
theorem cti_X2_init_39 : Ct m_X2_init 8 [(2, 39)] e9_102 none e9_106 := by
  refine Ct.of ?_
  show Wp m_X2_init 8 0 [(2, 39)] [] e9_102 _
  refine Wp.ald_n (j := 0) rfl dX2_init_0 ?_
  refine Wp.objInit wo_X2_3 wO2 wO3 dX2_init_1 (show hK e9_102 39 = 2 by decide +kernel) (by decide) (Nat.le_of_ble_eq_true rfl) ?_
  refine Wp.ald_n (j := 0) rfl dX2_init_4 ?_
  refine Wp.iconst dX2_init_5 (by decide) ?_
  refine Wp.putf (k := 0) (tg := 0) kC2 (by decide) rfl rfl lf_X2_9 dX2_init_6 (show hK e9_102 39 = 2 by decide +kernel) ?_
  refine Wp.hp (h2 := e9_103) rfl ?_
  refine Wp.ald_n (j := 0) rfl dX2_init_9 ?_
  refine Wp.iconst dX2_init_10 (by decide) ?_
  refine Wp.putf (k := 1) (tg := 0) kC2 (by decide) rfl rfl lf_X2_15 dX2_init_11 (show hK e9_103 39 = 2 by decide +kernel) ?_
  refine Wp.hp (h2 := e9_104) rfl ?_
  refine Wp.ald_n (j := 0) rfl dX2_init_14 ?_
  refine Wp.bipush dX2_init_15 (by decide) ?_
  refine Wp.newJA (a := 40) (h2 := e9_105) (by decide +kernel) rfl wT_long dX2_init_17 (by decide) (by decide) ?_
  refine Wp.putfF (k := 2) (tg := 2) kC2 (by decide) rfl rfl rfl rfl lf_X2_18 dX2_init_19 (show hK e9_105 39 = 2 by decide +kernel) ?_
  refine Wp.hp (h2 := e9_106) rfl ?_
  refine Wp.vret rfl dX2_init_22 ?_
  exact ⟨rfl, rfl⟩
theorem cti_X5 : Ct m_X5_init 9 [(2, 0)] e9_1 none e9_107 := by
  refine Ct.of ?_
  show Wp m_X5_init 9 0 [(2, 0), (9, 0)] [] e9_1 _
  refine Wp.ald_n (j := 0) rfl dX5_init_0 ?_
  refine Wp.objInit wo_X5_1 wO2 wO3 dX5_init_1 (show hK e9_1 0 = 5 by decide +kernel) (by decide) (Nat.le_of_ble_eq_true rfl) ?_
  refine Wp.ald_n (j := 0) rfl dX5_init_4 ?_
  refine Wp.iconst dX5_init_5 (by decide) ?_
  refine Wp.putf (k := 0) (tg := 0) kC5 (by decide) rfl rfl lf_X5_9 dX5_init_6 (show hK e9_1 0 = 5 by decide +kernel) ?_
  refine Wp.hp (h2 := e9_2) rfl ?_
  refine Wp.ald_n (j := 0) rfl dX5_init_9 ?_
  refine Wp.iconst dX5_init_10 (by decide) ?_
  refine Wp.newSA (a := 1) (h2 := e9_3) (by decide +kernel) rfl lc_X5_13 dX5_init_11 (by decide) (by decide) ?_
  refine Wp.putfF (k := 1) (tg := 2) kC5 (by decide) rfl rfl rfl rfl lf_X5_15 dX5_init_14 (show hK e9_3 0 = 5 by decide +kernel) ?_
  refine Wp.hp (h2 := e9_4) rfl ?_
  refine Wp.ald_n (j := 0) rfl dX5_init_17 ?_
  refine Wp.newOA (a := 2) (h2 := e9_5) (by decide +kernel) rfl kC0 lc_X5_19 dX5_init_18 ?_
  refine Wp.dup dX5_init_21 (Or.inr rfl) ?_
  refine Wp.callI cti_X0_init_2 wc_X5_21 rfl iM_X0_init rfl (show hK e9_5 2 = 0 by decide +kernel) (by decide) dX5_init_22 rfl (Nat.le_of_ble_eq_true rfl) rfl (Nat.le_of_ble_eq_true rfl) ?_
  refine Wp.putfF (k := 2) (tg := 2) kC5 (by decide) rfl rfl rfl rfl lf_X5_22 dX5_init_25 (show hK e9_30 0 = 5 by decide +kernel) ?_
  refine Wp.hp (h2 := e9_31) rfl ?_
  refine Wp.ald_n (j := 0) rfl dX5_init_28 ?_
  refine Wp.newOA (a := 13) (h2 := e9_32) (by decide +kernel) rfl kC4 lc_X5_26 dX5_init_29 ?_
  refine Wp.dup dX5_init_32 (Or.inr rfl) ?_
  refine Wp.callIN cti_X4_init_13 wc_X5_28 rfl iM_X4_init rfl (show hK e9_32 13 = 4 by decide +kernel) (by decide) dX5_init_33 rfl (Nat.le_of_ble_eq_true rfl) rfl (Nat.le_of_ble_eq_true rfl) ?_
  refine Wp.putfF (k := 3) (tg := 2) kC5 (by decide) rfl rfl rfl rfl lf_X5_29 dX5_init_36 (show hK e9_40 0 = 5 by decide +kernel) ?_
  refine Wp.hp (h2 := e9_41) rfl ?_
  refine Wp.ald_n (j := 0) rfl dX5_init_39 ?_
  refine Wp.newOA (a := 17) (h2 := e9_42) (by decide +kernel) rfl kC1 lc_X5_33 dX5_init_40 ?_
  refine Wp.dup dX5_init_43 (Or.inr rfl) ?_
  refine Wp.callIN cti_X1_init_17 wc_X5_35 rfl iM_X1_init rfl (show hK e9_42 17 = 1 by decide +kernel) (by decide) dX5_init_44 rfl (Nat.le_of_ble_eq_true rfl) rfl (Nat.le_of_ble_eq_true rfl) ?_
  refine Wp.putfF (k := 4) (tg := 2) kC5 (by decide) rfl rfl rfl rfl lf_X5_36 dX5_init_47 (show hK e9_51 0 = 5 by decide +kernel) ?_
  refine Wp.hp (h2 := e9_52) rfl ?_
  refine Wp.ald_n (j := 0) rfl dX5_init_50 ?_
  refine Wp.newOA (a := 22) (h2 := e9_53) (by decide +kernel) rfl kC3 lc_X5_40 dX5_init_51 ?_
  refine Wp.dup dX5_init_54 (Or.inr rfl) ?_
  refine Wp.callI cti_X3_init_22 wc_X5_42 rfl iM_X3_init rfl (show hK e9_53 22 = 3 by decide +kernel) (by decide) dX5_init_55 rfl (Nat.le_of_ble_eq_true rfl) rfl (Nat.le_of_ble_eq_true rfl) ?_
  refine Wp.putfF (k := 5) (tg := 2) kC5 (by decide) rfl rfl rfl rfl lf_X5_43 dX5_init_58 (show hK e9_76 0 = 5 by decide +kernel) ?_
  refine Wp.hp (h2 := e9_77) rfl ?_
  refine Wp.ald_n (j := 0) rfl dX5_init_61 ?_
  refine Wp.bipush dX5_init_62 (by decide) ?_
  refine Wp.newIA (a := 31) (h2 := e9_78) (by decide +kernel) rfl wT_int dX5_init_64 (by decide) (by decide) ?_
  refine Wp.putfF (k := 6) (tg := 2) kC5 (by decide) rfl rfl rfl rfl lf_X5_47 dX5_init_66 (show hK e9_78 0 = 5 by decide +kernel) ?_
  refine Wp.hp (h2 := e9_79) rfl ?_
  refine Wp.ald_n (j := 0) rfl dX5_init_69 ?_
  refine Wp.iconst dX5_init_70 (by decide) ?_
  refine Wp.putf (k := 7) (tg := 0) kC5 (by decide) rfl rfl lf_X5_51 dX5_init_71 (show hK e9_79 0 = 5 by decide +kernel) ?_
  refine Wp.hp (h2 := e9_80) rfl ?_
  refine Wp.ald_n (j := 0) rfl dX5_init_74 ?_
  refine Wp.bipush dX5_init_75 (by decide) ?_
  refine Wp.newIA (a := 32) (h2 := e9_81) (by decide +kernel) rfl wT_int dX5_init_77 (by decide) (by decide) ?_
  refine Wp.putfF (k := 8) (tg := 2) kC5 (by decide) rfl rfl rfl rfl lf_X5_54 dX5_init_79 (show hK e9_81 0 = 5 by decide +kernel) ?_
  refine Wp.hp (h2 := e9_82) rfl ?_
  refine Wp.ald_n (j := 0) rfl dX5_init_82 ?_
  refine Wp.iconst dX5_init_83 (by decide) ?_
  refine Wp.putf (k := 9) (tg := 0) kC5 (by decide) rfl rfl lf_X5_57 dX5_init_84 (show hK e9_82 0 = 5 by decide +kernel) ?_
  refine Wp.hp (h2 := e9_83) rfl ?_
  refine Wp.iconst dX5_init_87 (by decide) ?_
  refine sti_2_1 rfl (dSt_n dX5_init_88) ?_
  refine Wp.ild_n (j := 1) rfl dX5_init_89 ?_
  refine Wp.ald_n (j := 0) rfl dX5_init_90 ?_
  refine Wp.getf (k := 1) (tg := 2) kC5 (by decide) rfl lf_X5_15 dX5_init_91 (show hK e9_83 0 = 5 by decide +kernel) (show hF e9_83 0 1 = 1 by decide +kernel) ?_
  refine Wp.alen dX5_init_94 (by decide) (by decide) (show hK e9_83 1 = 14 by decide +kernel) (show hL e9_83 1 = 4 by decide +kernel) (by decide) ?_
  refine Wp.icge dX5_init_95 (by decide) (tgt := 117) (fun c => absurd c (by decide)) (fun _ => ?_)
  refine Wp.ald_n (j := 0) rfl dX5_init_98 ?_
  refine Wp.getf (k := 1) (tg := 2) kC5 (by decide) rfl lf_X5_15 dX5_init_99 (show hK e9_83 0 = 5 by decide +kernel) (show hF e9_83 0 1 = 1 by decide +kernel) ?_
  refine Wp.ild_n (j := 1) rfl dX5_init_102 ?_
  refine Wp.newOA (a := 33) (h2 := e9_84) (by decide +kernel) rfl kC2 lc_X5_13 dX5_init_103 ?_
  refine Wp.dup dX5_init_106 (Or.inr rfl) ?_
  refine Wp.callIN cti_X2_init_33 wc_X5_60 rfl iM_X2_init rfl (show hK e9_84 33 = 2 by decide +kernel) (by decide) dX5_init_107 rfl (Nat.le_of_ble_eq_true rfl) rfl (Nat.le_of_ble_eq_true rfl) ?_
  refine Wp.aastore14 dX5_init_110 (show hK e9_88 1 = 14 by decide +kernel) (by decide) (ilt (show hL e9_88 1 = 4 by decide +kernel) (by decide)) (show hK e9_88 33 = 2 by decide +kernel) ?_
  refine Wp.hp (h2 := e9_89) rfl ?_
  refine inc_2_1 rfl dX5_init_111 (show w32 (0 + 1) = 1 by decide) ?_
  refine Wp.goto (tgt := 89) dX5_init_114 (by decide) ?_
  refine Wp.ild_n (j := 1) rfl dX5_init_89 ?_
  refine Wp.ald_n (j := 0) rfl dX5_init_90 ?_
  refine Wp.getf (k := 1) (tg := 2) kC5 (by decide) rfl lf_X5_15 dX5_init_91 (show hK e9_89 0 = 5 by decide +kernel) (show hF e9_89 0 1 = 1 by decide +kernel) ?_
  refine Wp.alen dX5_init_94 (by decide) (by decide) (show hK e9_89 1 = 14 by decide +kernel) (show hL e9_89 1 = 4 by decide +kernel) (by decide) ?_
  refine Wp.icge dX5_init_95 (by decide) (tgt := 117) (fun c => absurd c (by decide)) (fun _ => ?_)
  refine Wp.ald_n (j := 0) rfl dX5_init_98 ?_
  refine Wp.getf (k := 1) (tg := 2) kC5 (by decide) rfl lf_X5_15 dX5_init_99 (show hK e9_89 0 = 5 by decide +kernel) (show hF e9_89 0 1 = 1 by decide +kernel) ?_
  refine Wp.ild_n (j := 1) rfl dX5_init_102 ?_
  refine Wp.newOA (a := 35) (h2 := e9_90) (by decide +kernel) rfl kC2 lc_X5_13 dX5_init_103 ?_
  refine Wp.dup dX5_init_106 (Or.inr rfl) ?_
  refine Wp.callIN cti_X2_init_35 wc_X5_60 rfl iM_X2_init rfl (show hK e9_90 35 = 2 by decide +kernel) (by decide) dX5_init_107 rfl (Nat.le_of_ble_eq_true rfl) rfl (Nat.le_of_ble_eq_true rfl) ?_
  refine Wp.aastore14 dX5_init_110 (show hK e9_94 1 = 14 by decide +kernel) (by decide) (ilt (show hL e9_94 1 = 4 by decide +kernel) (by decide)) (show hK e9_94 35 = 2 by decide +kernel) ?_
  refine Wp.hp (h2 := e9_95) rfl ?_
  refine inc_2_1 rfl dX5_init_111 (show w32 (1 + 1) = 2 by decide) ?_
  refine Wp.goto (tgt := 89) dX5_init_114 (by decide) ?_
  refine Wp.ild_n (j := 1) rfl dX5_init_89 ?_
  refine Wp.ald_n (j := 0) rfl dX5_init_90 ?_
  refine Wp.getf (k := 1) (tg := 2) kC5 (by decide) rfl lf_X5_15 dX5_init_91 (show hK e9_95 0 = 5 by decide +kernel) (show hF e9_95 0 1 = 1 by decide +kernel) ?_
  refine Wp.alen dX5_init_94 (by decide) (by decide) (show hK e9_95 1 = 14 by decide +kernel) (show hL e9_95 1 = 4 by decide +kernel) (by decide) ?_
  refine Wp.icge dX5_init_95 (by decide) (tgt := 117) (fun c => absurd c (by decide)) (fun _ => ?_)
  refine Wp.ald_n (j := 0) rfl dX5_init_98 ?_
  refine Wp.getf (k := 1) (tg := 2) kC5 (by decide) rfl lf_X5_15 dX5_init_99 (show hK e9_95 0 = 5 by decide +kernel) (show hF e9_95 0 1 = 1 by decide +kernel) ?_
  refine Wp.ild_n (j := 1) rfl dX5_init_102 ?_
  refine Wp.newOA (a := 37) (h2 := e9_96) (by decide +kernel) rfl kC2 lc_X5_13 dX5_init_103 ?_
  refine Wp.dup dX5_init_106 (Or.inr rfl) ?_
  refine Wp.callIN cti_X2_init_37 wc_X5_60 rfl iM_X2_init rfl (show hK e9_96 37 = 2 by decide +kernel) (by decide) dX5_init_107 rfl (Nat.le_of_ble_eq_true rfl) rfl (Nat.le_of_ble_eq_true rfl) ?_
  refine Wp.aastore14 dX5_init_110 (show hK e9_100 1 = 14 by decide +kernel) (by decide) (ilt (show hL e9_100 1 = 4 by decide +kernel) (by decide)) (show hK e9_100 37 = 2 by decide +kernel) ?_
  refine Wp.hp (h2 := e9_101) rfl ?_
  refine inc_2_1 rfl dX5_init_111 (show w32 (2 + 1) = 3 by decide) ?_
  refine Wp.goto (tgt := 89) dX5_init_114 (by decide) ?_
  refine Wp.ild_n (j := 1) rfl dX5_init_89 ?_
  refine Wp.ald_n (j := 0) rfl dX5_init_90 ?_
  refine Wp.getf (k := 1) (tg := 2) kC5 (by decide) rfl lf_X5_15 dX5_init_91 (show hK e9_101 0 = 5 by decide +kernel) (show hF e9_101 0 1 = 1 by decide +kernel) ?_
  refine Wp.alen dX5_init_94 (by decide) (by decide) (show hK e9_101 1 = 14 by decide +kernel) (show hL e9_101 1 = 4 by decide +kernel) (by decide) ?_
  refine Wp.icge dX5_init_95 (by decide) (tgt := 117) (fun c => absurd c (by decide)) (fun _ => ?_)
  refine Wp.ald_n (j := 0) rfl dX5_init_98 ?_
  refine Wp.getf (k := 1) (tg := 2) kC5 (by decide) rfl lf_X5_15 dX5_init_99 (show hK e9_101 0 = 5 by decide +kernel) (show hF e9_101 0 1 = 1 by decide +kernel) ?_
  refine Wp.ild_n (j := 1) rfl dX5_init_102 ?_
  refine Wp.newOA (a := 39) (h2 := e9_102) (by decide +kernel) rfl kC2 lc_X5_13 dX5_init_103 ?_
  refine Wp.dup dX5_init_106 (Or.inr rfl) ?_
  refine Wp.callIN cti_X2_init_39 wc_X5_60 rfl iM_X2_init rfl (show hK e9_102 39 = 2 by decide +kernel) (by decide) dX5_init_107 rfl (Nat.le_of_ble_eq_true rfl) rfl (Nat.le_of_ble_eq_true rfl) ?_
  refine Wp.aastore14 dX5_init_110 (show hK e9_106 1 = 14 by decide +kernel) (by decide) (ilt (show hL e9_106 1 = 4 by decide +kernel) (by decide)) (show hK e9_106 39 = 2 by decide +kernel) ?_
  refine Wp.hp (h2 := e9_107) rfl ?_
  refine inc_2_1 rfl dX5_init_111 (show w32 (3 + 1) = 4 by decide) ?_
  refine Wp.goto (tgt := 89) dX5_init_114 (by decide) ?_
  refine Wp.ild_n (j := 1) rfl dX5_init_89 ?_
  refine Wp.ald_n (j := 0) rfl dX5_init_90 ?_
  refine Wp.getf (k := 1) (tg := 2) kC5 (by decide) rfl lf_X5_15 dX5_init_91 (show hK e9_107 0 = 5 by decide +kernel) (show hF e9_107 0 1 = 1 by decide +kernel) ?_
  refine Wp.alen dX5_init_94 (by decide) (by decide) (show hK e9_107 1 = 14 by decide +kernel) (show hL e9_107 1 = 4 by decide +kernel) (by decide) ?_
  refine Wp.icge dX5_init_95 (by decide) (tgt := 117) (fun _ => ?_) (fun c => absurd (by decide) c)
  refine Wp.vret rfl dX5_init_117 ?_
  exact ⟨rfl, rfl⟩
theorem cti_X6a (Q : Option mV → mH → Prop) (kq : Wp m_X6_init 9 300 [(2, 41), (0, 0)] [] e9_177 Q) : Wp m_X6_init 9 0 [(2, 41), (9, 0)] [] e9_108 Q := by
  refine Wp.ald_n (j := 0) rfl dX6_init_0 ?_
  refine Wp.objInit wo_X6_3 wO2 wO3 dX6_init_1 (show hK e9_108 41 = 6 by decide +kernel) (by decide) (Nat.le_of_ble_eq_true rfl) ?_
  refine Wp.ald_n (j := 0) rfl dX6_init_4 ?_
  refine Wp.iconst dX6_init_5 (by decide) ?_
  refine Wp.newIA (a := 42) (h2 := e9_109) (by decide +kernel) rfl wT_int dX6_init_6 (by decide) (by decide) ?_
  refine Wp.putfF (k := 2) (tg := 2) kC6 (by decide) rfl rfl rfl rfl lf_X6_9 dX6_init_8 (show hK e9_109 41 = 6 by decide +kernel) ?_
  refine Wp.hp (h2 := e9_110) rfl ?_
  refine Wp.ald_n (j := 0) rfl dX6_init_11 ?_
  refine Wp.iconst dX6_init_12 (by decide) ?_
  refine Wp.newIA (a := 43) (h2 := e9_111) (by decide +kernel) rfl wT_int dX6_init_13 (by decide) (by decide) ?_
  refine Wp.putfF (k := 3) (tg := 2) kC6 (by decide) rfl rfl rfl rfl lf_X6_15 dX6_init_15 (show hK e9_111 41 = 6 by decide +kernel) ?_
  refine Wp.hp (h2 := e9_112) rfl ?_
  refine Wp.ald_n (j := 0) rfl dX6_init_18 ?_
  refine Wp.sipush dX6_init_19 (by decide) ?_
  refine Wp.newJA (a := 44) (h2 := e9_113) (by decide +kernel) rfl wT_long dX6_init_22 (by decide) (by decide) ?_
  refine Wp.putfF (k := 4) (tg := 2) kC6 (by decide) rfl rfl rfl rfl lf_X6_18 dX6_init_24 (show hK e9_113 41 = 6 by decide +kernel) ?_
  refine Wp.hp (h2 := e9_114) rfl ?_
  refine Wp.ald_n (j := 0) rfl dX6_init_27 ?_
  refine Wp.bipush dX6_init_28 (by decide) ?_
  refine Wp.putf (k := 5) (tg := 0) kC6 (by decide) rfl rfl lf_X6_22 dX6_init_30 (show hK e9_114 41 = 6 by decide +kernel) ?_
  refine Wp.hp (h2 := e9_115) rfl ?_
  refine Wp.ald_n (j := 0) rfl dX6_init_33 ?_
  refine Wp.iconst dX6_init_34 (by decide) ?_
  refine Wp.putf (k := 8) (tg := 0) kC6 (by decide) rfl rfl lf_X6_26 dX6_init_35 (show hK e9_115 41 = 6 by decide +kernel) ?_
  refine Wp.hp (h2 := e9_116) rfl ?_
  refine Wp.ald_n (j := 0) rfl dX6_init_38 ?_
  refine Wp.bipush dX6_init_39 (by decide) ?_
  refine Wp.newIA (a := 45) (h2 := e9_117) (by decide +kernel) rfl wT_int dX6_init_41 (by decide) (by decide) ?_
  refine Wp.putfF (k := 9) (tg := 2) kC6 (by decide) rfl rfl rfl rfl lf_X6_29 dX6_init_43 (show hK e9_117 41 = 6 by decide +kernel) ?_
  refine Wp.hp (h2 := e9_118) rfl ?_
  refine Wp.ald_n (j := 0) rfl dX6_init_46 ?_
  refine Wp.bipush dX6_init_47 (by decide) ?_
  refine Wp.newIA (a := 46) (h2 := e9_119) (by decide +kernel) rfl wT_int dX6_init_49 (by decide) (by decide) ?_
  refine Wp.putfF (k := 10) (tg := 2) kC6 (by decide) rfl rfl rfl rfl lf_X6_32 dX6_init_51 (show hK e9_119 41 = 6 by decide +kernel) ?_
  refine Wp.hp (h2 := e9_120) rfl ?_
  refine Wp.ald_n (j := 0) rfl dX6_init_54 ?_
  refine Wp.bipush dX6_init_55 (by decide) ?_
  refine Wp.newIA (a := 47) (h2 := e9_121) (by decide +kernel) rfl wT_int dX6_init_57 (by decide) (by decide) ?_
  refine Wp.putfF (k := 11) (tg := 2) kC6 (by decide) rfl rfl rfl rfl lf_X6_35 dX6_init_59 (show hK e9_121 41 = 6 by decide +kernel) ?_
  refine Wp.hp (h2 := e9_122) rfl ?_
  refine Wp.ald_n (j := 0) rfl dX6_init_62 ?_
  refine Wp.bipush dX6_init_63 (by decide) ?_
  refine Wp.newJA (a := 48) (h2 := e9_123) (by decide +kernel) rfl wT_long dX6_init_65 (by decide) (by decide) ?_
  refine Wp.putfF (k := 12) (tg := 2) kC6 (by decide) rfl rfl rfl rfl lf_X6_38 dX6_init_67 (show hK e9_123 41 = 6 by decide +kernel) ?_
  refine Wp.hp (h2 := e9_124) rfl ?_
  refine Wp.ald_n (j := 0) rfl dX6_init_70 ?_
  refine Wp.sipush dX6_init_71 (by decide) ?_
  refine Wp.newZA (a := 49) (h2 := e9_125) (by decide +kernel) rfl wT_boolean dX6_init_74 (by decide) (by decide) ?_
  refine Wp.putfF (k := 13) (tg := 2) kC6 (by decide) rfl rfl rfl rfl lf_X6_41 dX6_init_76 (show hK e9_125 41 = 6 by decide +kernel) ?_
  refine Wp.hp (h2 := e9_126) rfl ?_
  refine Wp.ald_n (j := 0) rfl dX6_init_79 ?_
  refine Wp.bipush dX6_init_80 (by decide) ?_
  refine Wp.newIA (a := 50) (h2 := e9_127) (by decide +kernel) rfl wT_int dX6_init_82 (by decide) (by decide) ?_
  refine Wp.putfF (k := 14) (tg := 2) kC6 (by decide) rfl rfl rfl rfl lf_X6_45 dX6_init_84 (show hK e9_127 41 = 6 by decide +kernel) ?_
  refine Wp.hp (h2 := e9_128) rfl ?_
  refine Wp.ald_n (j := 0) rfl dX6_init_87 ?_
  refine Wp.bipush dX6_init_88 (by decide) ?_
  refine Wp.newIA (a := 51) (h2 := e9_129) (by decide +kernel) rfl wT_int dX6_init_90 (by decide) (by decide) ?_
  refine Wp.putfF (k := 15) (tg := 2) kC6 (by decide) rfl rfl rfl rfl lf_X6_48 dX6_init_92 (show hK e9_129 41 = 6 by decide +kernel) ?_
  refine Wp.hp (h2 := e9_130) rfl ?_
  refine Wp.ald_n (j := 0) rfl dX6_init_95 ?_
  refine Wp.bipush dX6_init_96 (by decide) ?_
  refine Wp.newZA (a := 52) (h2 := e9_131) (by decide +kernel) rfl wT_boolean dX6_init_98 (by decide) (by decide) ?_
  refine Wp.putfF (k := 16) (tg := 2) kC6 (by decide) rfl rfl rfl rfl lf_X6_51 dX6_init_100 (show hK e9_131 41 = 6 by decide +kernel) ?_
  refine Wp.hp (h2 := e9_132) rfl ?_
  refine Wp.ald_n (j := 0) rfl dX6_init_103 ?_
  refine Wp.bipush dX6_init_104 (by decide) ?_
  refine Wp.newZA (a := 53) (h2 := e9_133) (by decide +kernel) rfl wT_boolean dX6_init_106 (by decide) (by decide) ?_
  refine Wp.putfF (k := 17) (tg := 2) kC6 (by decide) rfl rfl rfl rfl lf_X6_54 dX6_init_108 (show hK e9_133 41 = 6 by decide +kernel) ?_
  refine Wp.hp (h2 := e9_134) rfl ?_
  refine Wp.ald_n (j := 0) rfl dX6_init_111 ?_
  refine Wp.bipush dX6_init_112 (by decide) ?_
  refine Wp.newIA (a := 54) (h2 := e9_135) (by decide +kernel) rfl wT_int dX6_init_114 (by decide) (by decide) ?_
  refine Wp.putfF (k := 18) (tg := 2) kC6 (by decide) rfl rfl rfl rfl lf_X6_57 dX6_init_116 (show hK e9_135 41 = 6 by decide +kernel) ?_
  refine Wp.hp (h2 := e9_136) rfl ?_
  refine Wp.ald_n (j := 0) rfl dX6_init_119 ?_
  refine Wp.bipush dX6_init_120 (by decide) ?_
  refine Wp.newIA (a := 55) (h2 := e9_137) (by decide +kernel) rfl wT_int dX6_init_122 (by decide) (by decide) ?_
  refine Wp.putfF (k := 19) (tg := 2) kC6 (by decide) rfl rfl rfl rfl lf_X6_60 dX6_init_124 (show hK e9_137 41 = 6 by decide +kernel) ?_
  refine Wp.hp (h2 := e9_138) rfl ?_
  refine Wp.ald_n (j := 0) rfl dX6_init_127 ?_
  refine Wp.bipush dX6_init_128 (by decide) ?_
  refine Wp.newIA (a := 56) (h2 := e9_139) (by decide +kernel) rfl wT_int dX6_init_130 (by decide) (by decide) ?_
  refine Wp.putfF (k := 20) (tg := 2) kC6 (by decide) rfl rfl rfl rfl lf_X6_63 dX6_init_132 (show hK e9_139 41 = 6 by decide +kernel) ?_
  refine Wp.hp (h2 := e9_140) rfl ?_
  refine Wp.ald_n (j := 0) rfl dX6_init_135 ?_
  refine Wp.bipush dX6_init_136 (by decide) ?_
  refine Wp.newIA (a := 57) (h2 := e9_141) (by decide +kernel) rfl wT_int dX6_init_138 (by decide) (by decide) ?_
  refine Wp.putfF (k := 21) (tg := 2) kC6 (by decide) rfl rfl rfl rfl lf_X6_66 dX6_init_140 (show hK e9_141 41 = 6 by decide +kernel) ?_
  refine Wp.hp (h2 := e9_142) rfl ?_
  refine Wp.ald_n (j := 0) rfl dX6_init_143 ?_
  refine Wp.sipush dX6_init_144 (by decide) ?_
  refine Wp.newIA (a := 58) (h2 := e9_143) (by decide +kernel) rfl wT_int dX6_init_147 (by decide) (by decide) ?_
  refine Wp.putfF (k := 22) (tg := 2) kC6 (by decide) rfl rfl rfl rfl lf_X6_69 dX6_init_149 (show hK e9_143 41 = 6 by decide +kernel) ?_
  refine Wp.hp (h2 := e9_144) rfl ?_
  refine Wp.ald_n (j := 0) rfl dX6_init_152 ?_
  refine Wp.sipush dX6_init_153 (by decide) ?_
  refine Wp.newIA (a := 59) (h2 := e9_145) (by decide +kernel) rfl wT_int dX6_init_156 (by decide) (by decide) ?_
  refine Wp.putfF (k := 23) (tg := 2) kC6 (by decide) rfl rfl rfl rfl lf_X6_72 dX6_init_158 (show hK e9_145 41 = 6 by decide +kernel) ?_
  refine Wp.hp (h2 := e9_146) rfl ?_
  refine Wp.ald_n (j := 0) rfl dX6_init_161 ?_
  refine Wp.sipush dX6_init_162 (by decide) ?_
  refine Wp.newIA (a := 60) (h2 := e9_147) (by decide +kernel) rfl wT_int dX6_init_165 (by decide) (by decide) ?_
  refine Wp.putfF (k := 24) (tg := 2) kC6 (by decide) rfl rfl rfl rfl lf_X6_75 dX6_init_167 (show hK e9_147 41 = 6 by decide +kernel) ?_
  refine Wp.hp (h2 := e9_148) rfl ?_
  refine Wp.ald_n (j := 0) rfl dX6_init_170 ?_
  refine Wp.sipush dX6_init_171 (by decide) ?_
  refine Wp.newIA (a := 61) (h2 := e9_149) (by decide +kernel) rfl wT_int dX6_init_174 (by decide) (by decide) ?_
  refine Wp.putfF (k := 25) (tg := 2) kC6 (by decide) rfl rfl rfl rfl lf_X6_78 dX6_init_176 (show hK e9_149 41 = 6 by decide +kernel) ?_
  refine Wp.hp (h2 := e9_150) rfl ?_
  refine Wp.ald_n (j := 0) rfl dX6_init_179 ?_
  refine Wp.sipush dX6_init_180 (by decide) ?_
  refine Wp.newIA (a := 62) (h2 := e9_151) (by decide +kernel) rfl wT_int dX6_init_183 (by decide) (by decide) ?_
  refine Wp.putfF (k := 26) (tg := 2) kC6 (by decide) rfl rfl rfl rfl lf_X6_81 dX6_init_185 (show hK e9_151 41 = 6 by decide +kernel) ?_
  refine Wp.hp (h2 := e9_152) rfl ?_
  refine Wp.ald_n (j := 0) rfl dX6_init_188 ?_
  refine Wp.bipush dX6_init_189 (by decide) ?_
  refine Wp.newIA (a := 63) (h2 := e9_153) (by decide +kernel) rfl wT_int dX6_init_191 (by decide) (by decide) ?_
  refine Wp.putfF (k := 29) (tg := 2) kC6 (by decide) rfl rfl rfl rfl lf_X6_84 dX6_init_193 (show hK e9_153 41 = 6 by decide +kernel) ?_
  refine Wp.hp (h2 := e9_154) rfl ?_
  refine Wp.ald_n (j := 0) rfl dX6_init_196 ?_
  refine Wp.bipush dX6_init_197 (by decide) ?_
  refine Wp.newJA (a := 64) (h2 := e9_155) (by decide +kernel) rfl wT_long dX6_init_199 (by decide) (by decide) ?_
  refine Wp.putfF (k := 31) (tg := 2) kC6 (by decide) rfl rfl rfl rfl lf_X6_87 dX6_init_201 (show hK e9_155 41 = 6 by decide +kernel) ?_
  refine Wp.hp (h2 := e9_156) rfl ?_
  refine Wp.ald_n (j := 0) rfl dX6_init_204 ?_
  refine Wp.bipush dX6_init_205 (by decide) ?_
  refine Wp.newJA (a := 65) (h2 := e9_157) (by decide +kernel) rfl wT_long dX6_init_207 (by decide) (by decide) ?_
  refine Wp.putfF (k := 32) (tg := 2) kC6 (by decide) rfl rfl rfl rfl lf_X6_90 dX6_init_209 (show hK e9_157 41 = 6 by decide +kernel) ?_
  refine Wp.hp (h2 := e9_158) rfl ?_
  refine Wp.ald_n (j := 0) rfl dX6_init_212 ?_
  refine Wp.bipush dX6_init_213 (by decide) ?_
  refine Wp.newJA (a := 66) (h2 := e9_159) (by decide +kernel) rfl wT_long dX6_init_215 (by decide) (by decide) ?_
  refine Wp.putfF (k := 33) (tg := 2) kC6 (by decide) rfl rfl rfl rfl lf_X6_93 dX6_init_217 (show hK e9_159 41 = 6 by decide +kernel) ?_
  refine Wp.hp (h2 := e9_160) rfl ?_
  refine Wp.ald_n (j := 0) rfl dX6_init_220 ?_
  refine Wp.bipush dX6_init_221 (by decide) ?_
  refine Wp.newJA (a := 67) (h2 := e9_161) (by decide +kernel) rfl wT_long dX6_init_223 (by decide) (by decide) ?_
  refine Wp.putfF (k := 34) (tg := 2) kC6 (by decide) rfl rfl rfl rfl lf_X6_96 dX6_init_225 (show hK e9_161 41 = 6 by decide +kernel) ?_
  refine Wp.hp (h2 := e9_162) rfl ?_
  refine Wp.ald_n (j := 0) rfl dX6_init_228 ?_
  refine Wp.sipush dX6_init_229 (by decide) ?_
  refine Wp.newJA (a := 68) (h2 := e9_163) (by decide +kernel) rfl wT_long dX6_init_232 (by decide) (by decide) ?_
  refine Wp.putfF (k := 35) (tg := 2) kC6 (by decide) rfl rfl rfl rfl lf_X6_99 dX6_init_234 (show hK e9_163 41 = 6 by decide +kernel) ?_
  refine Wp.hp (h2 := e9_164) rfl ?_
  refine Wp.ald_n (j := 0) rfl dX6_init_237 ?_
  refine Wp.bipush dX6_init_238 (by decide) ?_
  refine Wp.newBA (a := 69) (h2 := e9_165) (by decide +kernel) rfl wT_byte dX6_init_240 (by decide) (by decide) ?_
  refine Wp.putfF (k := 38) (tg := 2) kC6 (by decide) rfl rfl rfl rfl lf_X6_102 dX6_init_242 (show hK e9_165 41 = 6 by decide +kernel) ?_
  refine Wp.hp (h2 := e9_166) rfl ?_
  refine Wp.ald_n (j := 0) rfl dX6_init_245 ?_
  refine Wp.sipush dX6_init_246 (by decide) ?_
  refine Wp.newIA (a := 70) (h2 := e9_167) (by decide +kernel) rfl wT_int dX6_init_249 (by decide) (by decide) ?_
  refine Wp.putfF (k := 42) (tg := 2) kC6 (by decide) rfl rfl rfl rfl lf_X6_106 dX6_init_251 (show hK e9_167 41 = 6 by decide +kernel) ?_
  refine Wp.hp (h2 := e9_168) rfl ?_
  refine Wp.ald_n (j := 0) rfl dX6_init_254 ?_
  refine Wp.sipush dX6_init_255 (by decide) ?_
  refine Wp.newIA (a := 71) (h2 := e9_169) (by decide +kernel) rfl wT_int dX6_init_258 (by decide) (by decide) ?_
  refine Wp.putfF (k := 43) (tg := 2) kC6 (by decide) rfl rfl rfl rfl lf_X6_109 dX6_init_260 (show hK e9_169 41 = 6 by decide +kernel) ?_
  refine Wp.hp (h2 := e9_170) rfl ?_
  refine Wp.ald_n (j := 0) rfl dX6_init_263 ?_
  refine Wp.bipush dX6_init_264 (by decide) ?_
  refine Wp.newIA (a := 72) (h2 := e9_171) (by decide +kernel) rfl wT_int dX6_init_266 (by decide) (by decide) ?_
  refine Wp.putfF (k := 44) (tg := 2) kC6 (by decide) rfl rfl rfl rfl lf_X6_112 dX6_init_268 (show hK e9_171 41 = 6 by decide +kernel) ?_
  refine Wp.hp (h2 := e9_172) rfl ?_
  refine Wp.iconst dX6_init_271 (by decide) ?_
  refine sti_2_1 rfl (dSt_n dX6_init_272) ?_
  refine Wp.ild_n (j := 1) rfl dX6_init_273 ?_
  refine Wp.iconst dX6_init_274 (by decide) ?_
  refine Wp.icge dX6_init_275 (by decide) (tgt := 291) (fun c => absurd c (by decide)) (fun _ => ?_)
  refine Wp.ald_n (j := 0) rfl dX6_init_278 ?_
  refine Wp.getf (k := 3) (tg := 2) kC6 (by decide) rfl lf_X6_15 dX6_init_279 (show hK e9_172 41 = 6 by decide +kernel) (show hF e9_172 41 3 = 43 by decide +kernel) ?_
  refine Wp.ild_n (j := 1) rfl dX6_init_282 ?_
  refine Wp.iconst dX6_init_283 (by decide) ?_
  refine Wp.iastore dX6_init_284 (show hK e9_172 43 = 10 by decide +kernel) (by decide) (ilt (show hL e9_172 43 = 4 by decide +kernel) (by decide)) ?_
  refine Wp.hp (h2 := e9_173) rfl ?_
  refine inc_2_1 rfl dX6_init_285 (show w32 (0 + 1) = 1 by decide) ?_
  refine Wp.goto (tgt := 273) dX6_init_288 (by decide) ?_
  refine Wp.ild_n (j := 1) rfl dX6_init_273 ?_
  refine Wp.iconst dX6_init_274 (by decide) ?_
  refine Wp.icge dX6_init_275 (by decide) (tgt := 291) (fun c => absurd c (by decide)) (fun _ => ?_)
  refine Wp.ald_n (j := 0) rfl dX6_init_278 ?_
  refine Wp.getf (k := 3) (tg := 2) kC6 (by decide) rfl lf_X6_15 dX6_init_279 (show hK e9_173 41 = 6 by decide +kernel) (show hF e9_173 41 3 = 43 by decide +kernel) ?_
  refine Wp.ild_n (j := 1) rfl dX6_init_282 ?_
  refine Wp.iconst dX6_init_283 (by decide) ?_
  refine Wp.iastore dX6_init_284 (show hK e9_173 43 = 10 by decide +kernel) (by decide) (ilt (show hL e9_173 43 = 4 by decide +kernel) (by decide)) ?_
  refine Wp.hp (h2 := e9_174) rfl ?_
  refine inc_2_1 rfl dX6_init_285 (show w32 (1 + 1) = 2 by decide) ?_
  refine Wp.goto (tgt := 273) dX6_init_288 (by decide) ?_
  refine Wp.ild_n (j := 1) rfl dX6_init_273 ?_
  refine Wp.iconst dX6_init_274 (by decide) ?_
  refine Wp.icge dX6_init_275 (by decide) (tgt := 291) (fun c => absurd c (by decide)) (fun _ => ?_)
  refine Wp.ald_n (j := 0) rfl dX6_init_278 ?_
  refine Wp.getf (k := 3) (tg := 2) kC6 (by decide) rfl lf_X6_15 dX6_init_279 (show hK e9_174 41 = 6 by decide +kernel) (show hF e9_174 41 3 = 43 by decide +kernel) ?_
  refine Wp.ild_n (j := 1) rfl dX6_init_282 ?_
  refine Wp.iconst dX6_init_283 (by decide) ?_
  refine Wp.iastore dX6_init_284 (show hK e9_174 43 = 10 by decide +kernel) (by decide) (ilt (show hL e9_174 43 = 4 by decide +kernel) (by decide)) ?_
  refine Wp.hp (h2 := e9_175) rfl ?_
  refine inc_2_1 rfl dX6_init_285 (show w32 (2 + 1) = 3 by decide) ?_
  refine Wp.goto (tgt := 273) dX6_init_288 (by decide) ?_
  refine Wp.ild_n (j := 1) rfl dX6_init_273 ?_
  refine Wp.iconst dX6_init_274 (by decide) ?_
  refine Wp.icge dX6_init_275 (by decide) (tgt := 291) (fun c => absurd c (by decide)) (fun _ => ?_)
  refine Wp.ald_n (j := 0) rfl dX6_init_278 ?_
  refine Wp.getf (k := 3) (tg := 2) kC6 (by decide) rfl lf_X6_15 dX6_init_279 (show hK e9_175 41 = 6 by decide +kernel) (show hF e9_175 41 3 = 43 by decide +kernel) ?_
  refine Wp.ild_n (j := 1) rfl dX6_init_282 ?_
  refine Wp.iconst dX6_init_283 (by decide) ?_
  refine Wp.iastore dX6_init_284 (show hK e9_175 43 = 10 by decide +kernel) (by decide) (ilt (show hL e9_175 43 = 4 by decide +kernel) (by decide)) ?_
  refine Wp.hp (h2 := e9_176) rfl ?_
  refine inc_2_1 rfl dX6_init_285 (show w32 (3 + 1) = 4 by decide) ?_
  refine Wp.goto (tgt := 273) dX6_init_288 (by decide) ?_
  refine Wp.ild_n (j := 1) rfl dX6_init_273 ?_
  refine Wp.iconst dX6_init_274 (by decide) ?_
  refine Wp.icge dX6_init_275 (by decide) (tgt := 291) (fun _ => ?_) (fun c => absurd (by decide) c)
  refine Wp.ald_n (j := 0) rfl dX6_init_291 ?_
  refine Wp.getf (k := 11) (tg := 2) kC6 (by decide) rfl lf_X6_35 dX6_init_292 (show hK e9_176 41 = 6 by decide +kernel) (show hF e9_176 41 11 = 47 by decide +kernel) ?_
  refine Wp.iconst dX6_init_295 (by decide) ?_
  refine Wp.iconst dX6_init_296 (by decide) ?_
  refine Wp.iastore dX6_init_297 (show hK e9_176 47 = 10 by decide +kernel) (by decide) (ilt (show hL e9_176 47 = 16 by decide +kernel) (by decide)) ?_
  refine Wp.hp (h2 := e9_177) rfl ?_
  refine Wp.iconst dX6_init_298 (by decide) ?_
  refine sti_2_1 rfl (dSt_n dX6_init_299) ?_
  exact kq
theorem cti_X6b (h : mH) (sh : hK h 41 = 6 ∧ hF h 41 31 = 64 ∧ hK h 64 = 11 ∧ hL h 64 = 100) (Q : Option mV → mH → Prop) (kq : ∀ (t : mH) (k : Int), Fr [64] [] h t → (∀ j, 0 ≤ j → j < 100 → hA t 64 j = gNO) → Wp m_X6_init 9 321 [(2, 41), (0, k)] [] t Q) : ∀ (m : Nat) (k : Int) (h' : mH), (100 - k).toNat < m → (Fr [64] [] h h') → (0 ≤ k) → (∀ j, 0 ≤ j → j < k → hA h' 64 j = gNO) → Wp m_X6_init 9 300 [(2, 41), (0, k)] [] h' Q := by
  intro m
  induction m with
  | zero => intro k h' hm; exact absurd hm (Nat.not_lt_zero _)
  | succ m ih =>
    intro k h' hm fr k0 hj
    have k41 : hK h' 41 = 6 := by rw [fr.2.2.1]; exact sh.1
    have f31 : hF h' 41 31 = 64 := (fr.2.2.2.2.1 41 31 (by simp)).trans sh.2.1
    have k64 : hK h' 64 = 11 := by rw [fr.2.2.1]; exact sh.2.2.1
    have l64 : hL h' 64 = 100 := by rw [fr.2.2.2.1]; exact sh.2.2.2
    refine Wp.ild_n (j := 1) rfl dX6_init_300 ?_
    refine Wp.bipush dX6_init_301 (by decide) ?_
    refine Wp.icge dX6_init_303 (by decide) (tgt := 321) (fun c303 => ?_) (fun c303 => ?_)
    · exact kq _ _ fr (fun j j0 j1 => hj j j0 (by omega))
    · refine Wp.ald_n (j := 0) rfl dX6_init_306 ?_
      refine Wp.getf (k := 31) (tg := 2) kC6 (by decide) rfl lf_X6_87 dX6_init_307 k41 f31 ?_
      refine Wp.ild_n (j := 1) rfl dX6_init_310 ?_
      refine Wp.ldc2 (z := -9223372036854775808) lk_X6_115 (by decide) dX6_init_311 ?_
      refine Wp.lastore dX6_init_314 k64 (by omega) (ilt l64 (by omega)) ?_
      refine inc_2_1 rfl dX6_init_315 (by first | exact w32_of (by omega) (by omega) | rfl) ?_
      refine Wp.goto (tgt := 300) dX6_init_318 (by decide) ?_
      refine ih (k + 1) _ (by omega) (fr.tr (Fr.e (by decide))) (by omega) (fun j j0 j1 => ?_)
      rw [hA_sEs]
      by_cases e : j = k
      · rw [e, u1_s]
      · rw [u1_n _ _ e]
        exact hj j j0 (by omega)

theorem cti_X6 : Cq m_X6_init 9 [(2, 41)] e9_108 (fun r t => r = none ∧ Fr [64] [] e9_177 t ∧ ∀ j, 0 ≤ j → j < 100 → hA t 64 j = gNO) := by
  refine Cq.of ?_
  show Wp m_X6_init 9 0 [(2, 41), (9, 0)] [] e9_108 _
  refine cti_X6a _ ?_
  refine cti_X6b e9_177 ⟨by decide +kernel, by decide +kernel, by decide +kernel, by decide +kernel⟩ _ (fun t k frt ht => ?_) _ 0 e9_177 (Nat.lt_succ_self _) Fr.rf (by decide) (fun j j0 j1 => absurd j1 (by omega))
  refine Wp.vret rfl dX6_init_321 ?_
  exact ⟨rfl, frt, ht⟩
