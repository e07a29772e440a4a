theorem dX6_init_0 : decode cX6_init 0 = .ok (.aload_n 0, 1) := by decide +kernel
theorem dX6_init_1 : decode cX6_init 1 = .ok (.invokespecial 3, 3) := by decide +kernel
theorem dX6_init_4 : decode cX6_init 4 = .ok (.aload_n 0, 1) := by decide +kernel
theorem dX6_init_5 : decode cX6_init 5 = .ok (.iconst 4, 1) := by decide +kernel
theorem dX6_init_6 : decode cX6_init 6 = .ok (.newarray .int, 2) := by decide +kernel
theorem dX6_init_8 : decode cX6_init 8 = .ok (.putfield 9, 3) := by decide +kernel
theorem dX6_init_11 : decode cX6_init 11 = .ok (.aload_n 0, 1) := by decide +kernel
theorem dX6_init_12 : decode cX6_init 12 = .ok (.iconst 4, 1) := by decide +kernel
theorem dX6_init_13 : decode cX6_init 13 = .ok (.newarray .int, 2) := by decide +kernel
theorem dX6_init_15 : decode cX6_init 15 = .ok (.putfield 15, 3) := by decide +kernel
theorem dX6_init_18 : decode cX6_init 18 = .ok (.aload_n 0, 1) := by decide +kernel
theorem dX6_init_19 : decode cX6_init 19 = .ok (.sipush 400, 3) := by decide +kernel
theorem dX6_init_22 : decode cX6_init 22 = .ok (.newarray .long, 2) := by decide +kernel
theorem dX6_init_24 : decode cX6_init 24 = .ok (.putfield 18, 3) := by decide +kernel
theorem dX6_init_27 : decode cX6_init 27 = .ok (.aload_n 0, 1) := by decide +kernel
theorem dX6_init_28 : decode cX6_init 28 = .ok (.bipush 12, 2) := by decide +kernel
theorem dX6_init_30 : decode cX6_init 30 = .ok (.putfield 22, 3) := by decide +kernel
theorem dX6_init_33 : decode cX6_init 33 = .ok (.aload_n 0, 1) := by decide +kernel
theorem dX6_init_34 : decode cX6_init 34 = .ok (.iconst 1, 1) := by decide +kernel
theorem dX6_init_35 : decode cX6_init 35 = .ok (.putfield 26, 3) := by decide +kernel
theorem dX6_init_38 : decode cX6_init 38 = .ok (.aload_n 0, 1) := by decide +kernel
theorem dX6_init_39 : decode cX6_init 39 = .ok (.bipush 24, 2) := by decide +kernel
theorem dX6_init_41 : decode cX6_init 41 = .ok (.newarray .int, 2) := by decide +kernel
theorem dX6_init_43 : decode cX6_init 43 = .ok (.putfield 29, 3) := by decide +kernel
theorem dX6_init_46 : decode cX6_init 46 = .ok (.aload_n 0, 1) := by decide +kernel
theorem dX6_init_47 : decode cX6_init 47 = .ok (.bipush 24, 2) := by decide +kernel
theorem dX6_init_49 : decode cX6_init 49 = .ok (.newarray .int, 2) := by decide +kernel
theorem dX6_init_51 : decode cX6_init 51 = .ok (.putfield 32, 3) := by decide +kernel
theorem dX6_init_54 : decode cX6_init 54 = .ok (.aload_n 0, 1) := by decide +kernel
theorem dX6_init_55 : decode cX6_init 55 = .ok (.bipush 16, 2) := by decide +kernel
theorem dX6_init_57 : decode cX6_init 57 = .ok (.newarray .int, 2) := by decide +kernel
theorem dX6_init_59 : decode cX6_init 59 = .ok (.putfield 35, 3) := by decide +kernel
theorem dX6_init_62 : decode cX6_init 62 = .ok (.aload_n 0, 1) := by decide +kernel
theorem dX6_init_63 : decode cX6_init 63 = .ok (.bipush 24, 2) := by decide +kernel
theorem dX6_init_65 : decode cX6_init 65 = .ok (.newarray .long, 2) := by decide +kernel
theorem dX6_init_67 : decode cX6_init 67 = .ok (.putfield 38, 3) := by decide +kernel
theorem dX6_init_70 : decode cX6_init 70 = .ok (.aload_n 0, 1) := by decide +kernel
theorem dX6_init_71 : decode cX6_init 71 = .ok (.sipush 576, 3) := by decide +kernel
theorem dX6_init_74 : decode cX6_init 74 = .ok (.newarray .boolean, 2) := by decide +kernel
theorem dX6_init_76 : decode cX6_init 76 = .ok (.putfield 41, 3) := by decide +kernel
theorem dX6_init_79 : decode cX6_init 79 = .ok (.aload_n 0, 1) := by decide +kernel
theorem dX6_init_80 : decode cX6_init 80 = .ok (.bipush 24, 2) := by decide +kernel
theorem dX6_init_82 : decode cX6_init 82 = .ok (.newarray .int, 2) := by decide +kernel
theorem dX6_init_84 : decode cX6_init 84 = .ok (.putfield 45, 3) := by decide +kernel
theorem dX6_init_87 : decode cX6_init 87 = .ok (.aload_n 0, 1) := by decide +kernel
theorem dX6_init_88 : decode cX6_init 88 = .ok (.bipush 24, 2) := by decide +kernel
theorem dX6_init_90 : decode cX6_init 90 = .ok (.newarray .int, 2) := by decide +kernel
theorem dX6_init_92 : decode cX6_init 92 = .ok (.putfield 48, 3) := by decide +kernel
theorem dX6_init_95 : decode cX6_init 95 = .ok (.aload_n 0, 1) := by decide +kernel
theorem dX6_init_96 : decode cX6_init 96 = .ok (.bipush 24, 2) := by decide +kernel
theorem dX6_init_98 : decode cX6_init 98 = .ok (.newarray .boolean, 2) := by decide +kernel
theorem dX6_init_100 : decode cX6_init 100 = .ok (.putfield 51, 3) := by decide +kernel
theorem dX6_init_103 : decode cX6_init 103 = .ok (.aload_n 0, 1) := by decide +kernel
theorem dX6_init_104 : decode cX6_init 104 = .ok (.bipush 24, 2) := by decide +kernel
theorem dX6_init_106 : decode cX6_init 106 = .ok (.newarray .boolean, 2) := by decide +kernel
theorem dX6_init_108 : decode cX6_init 108 = .ok (.putfield 54, 3) := by decide +kernel
theorem dX6_init_111 : decode cX6_init 111 = .ok (.aload_n 0, 1) := by decide +kernel
theorem dX6_init_112 : decode cX6_init 112 = .ok (.bipush 24, 2) := by decide +kernel
theorem dX6_init_114 : decode cX6_init 114 = .ok (.newarray .int, 2) := by decide +kernel
theorem dX6_init_116 : decode cX6_init 116 = .ok (.putfield 57, 3) := by decide +kernel
theorem dX6_init_119 : decode cX6_init 119 = .ok (.aload_n 0, 1) := by decide +kernel
theorem dX6_init_120 : decode cX6_init 120 = .ok (.bipush 24, 2) := by decide +kernel
theorem dX6_init_122 : decode cX6_init 122 = .ok (.newarray .int, 2) := by decide +kernel
theorem dX6_init_124 : decode cX6_init 124 = .ok (.putfield 60, 3) := by decide +kernel
theorem dX6_init_127 : decode cX6_init 127 = .ok (.aload_n 0, 1) := by decide +kernel
theorem dX6_init_128 : decode cX6_init 128 = .ok (.bipush 24, 2) := by decide +kernel
theorem dX6_init_130 : decode cX6_init 130 = .ok (.newarray .int, 2) := by decide +kernel
theorem dX6_init_132 : decode cX6_init 132 = .ok (.putfield 63, 3) := by decide +kernel
theorem dX6_init_135 : decode cX6_init 135 = .ok (.aload_n 0, 1) := by decide +kernel
theorem dX6_init_136 : decode cX6_init 136 = .ok (.bipush 24, 2) := by decide +kernel
theorem dX6_init_138 : decode cX6_init 138 = .ok (.newarray .int, 2) := by decide +kernel
theorem dX6_init_140 : decode cX6_init 140 = .ok (.putfield 66, 3) := by decide +kernel
theorem dX6_init_143 : decode cX6_init 143 = .ok (.aload_n 0, 1) := by decide +kernel
theorem dX6_init_144 : decode cX6_init 144 = .ok (.sipush 20736, 3) := by decide +kernel
theorem dX6_init_147 : decode cX6_init 147 = .ok (.newarray .int, 2) := by decide +kernel
theorem dX6_init_149 : decode cX6_init 149 = .ok (.putfield 69, 3) := by decide +kernel
theorem dX6_init_152 : decode cX6_init 152 = .ok (.aload_n 0, 1) := by decide +kernel
theorem dX6_init_153 : decode cX6_init 153 = .ok (.sipush 20736, 3) := by decide +kernel
theorem dX6_init_156 : decode cX6_init 156 = .ok (.newarray .int, 2) := by decide +kernel
theorem dX6_init_158 : decode cX6_init 158 = .ok (.putfield 72, 3) := by decide +kernel
theorem dX6_init_161 : decode cX6_init 161 = .ok (.aload_n 0, 1) := by decide +kernel
theorem dX6_init_162 : decode cX6_init 162 = .ok (.sipush 20736, 3) := by decide +kernel
theorem dX6_init_165 : decode cX6_init 165 = .ok (.newarray .int, 2) := by decide +kernel
theorem dX6_init_167 : decode cX6_init 167 = .ok (.putfield 75, 3) := by decide +kernel
theorem dX6_init_170 : decode cX6_init 170 = .ok (.aload_n 0, 1) := by decide +kernel
theorem dX6_init_171 : decode cX6_init 171 = .ok (.sipush 20736, 3) := by decide +kernel
theorem dX6_init_174 : decode cX6_init 174 = .ok (.newarray .int, 2) := by decide +kernel
theorem dX6_init_176 : decode cX6_init 176 = .ok (.putfield 78, 3) := by decide +kernel
theorem dX6_init_179 : decode cX6_init 179 = .ok (.aload_n 0, 1) := by decide +kernel
theorem dX6_init_180 : decode cX6_init 180 = .ok (.sipush 20736, 3) := by decide +kernel
theorem dX6_init_183 : decode cX6_init 183 = .ok (.newarray .int, 2) := by decide +kernel
theorem dX6_init_185 : decode cX6_init 185 = .ok (.putfield 81, 3) := by decide +kernel
theorem dX6_init_188 : decode cX6_init 188 = .ok (.aload_n 0, 1) := by decide +kernel
theorem dX6_init_189 : decode cX6_init 189 = .ok (.bipush 24, 2) := by decide +kernel
theorem dX6_init_191 : decode cX6_init 191 = .ok (.newarray .int, 2) := by decide +kernel
theorem dX6_init_193 : decode cX6_init 193 = .ok (.putfield 84, 3) := by decide +kernel
theorem dX6_init_196 : decode cX6_init 196 = .ok (.aload_n 0, 1) := by decide +kernel
theorem dX6_init_197 : decode cX6_init 197 = .ok (.bipush 100, 2) := by decide +kernel
theorem dX6_init_199 : decode cX6_init 199 = .ok (.newarray .long, 2) := by decide +kernel
theorem dX6_init_201 : decode cX6_init 201 = .ok (.putfield 87, 3) := by decide +kernel
theorem dX6_init_204 : decode cX6_init 204 = .ok (.aload_n 0, 1) := by decide +kernel
theorem dX6_init_205 : decode cX6_init 205 = .ok (.bipush 100, 2) := by decide +kernel
theorem dX6_init_207 : decode cX6_init 207 = .ok (.newarray .long, 2) := by decide +kernel
theorem dX6_init_209 : decode cX6_init 209 = .ok (.putfield 90, 3) := by decide +kernel
theorem dX6_init_212 : decode cX6_init 212 = .ok (.aload_n 0, 1) := by decide +kernel
theorem dX6_init_213 : decode cX6_init 213 = .ok (.bipush 100, 2) := by decide +kernel
theorem dX6_init_215 : decode cX6_init 215 = .ok (.newarray .long, 2) := by decide +kernel
theorem dX6_init_217 : decode cX6_init 217 = .ok (.putfield 93, 3) := by decide +kernel
theorem dX6_init_220 : decode cX6_init 220 = .ok (.aload_n 0, 1) := by decide +kernel
theorem dX6_init_221 : decode cX6_init 221 = .ok (.bipush 100, 2) := by decide +kernel
theorem dX6_init_223 : decode cX6_init 223 = .ok (.newarray .long, 2) := by decide +kernel
theorem dX6_init_225 : decode cX6_init 225 = .ok (.putfield 96, 3) := by decide +kernel
theorem dX6_init_228 : decode cX6_init 228 = .ok (.aload_n 0, 1) := by decide +kernel
theorem dX6_init_229 : decode cX6_init 229 = .ok (.sipush 20100, 3) := by decide +kernel
theorem dX6_init_232 : decode cX6_init 232 = .ok (.newarray .long, 2) := by decide +kernel
theorem dX6_init_234 : decode cX6_init 234 = .ok (.putfield 99, 3) := by decide +kernel
theorem dX6_init_237 : decode cX6_init 237 = .ok (.aload_n 0, 1) := by decide +kernel
theorem dX6_init_238 : decode cX6_init 238 = .ok (.bipush 10, 2) := by decide +kernel
theorem dX6_init_240 : decode cX6_init 240 = .ok (.newarray .byte, 2) := by decide +kernel
theorem dX6_init_242 : decode cX6_init 242 = .ok (.putfield 102, 3) := by decide +kernel
theorem dX6_init_245 : decode cX6_init 245 = .ok (.aload_n 0, 1) := by decide +kernel
theorem dX6_init_246 : decode cX6_init 246 = .ok (.sipush 20736, 3) := by decide +kernel
theorem dX6_init_249 : decode cX6_init 249 = .ok (.newarray .int, 2) := by decide +kernel
theorem dX6_init_251 : decode cX6_init 251 = .ok (.putfield 106, 3) := by decide +kernel
theorem dX6_init_254 : decode cX6_init 254 = .ok (.aload_n 0, 1) := by decide +kernel
theorem dX6_init_255 : decode cX6_init 255 = .ok (.sipush 20736, 3) := by decide +kernel
theorem dX6_init_258 : decode cX6_init 258 = .ok (.newarray .int, 2) := by decide +kernel
theorem dX6_init_260 : decode cX6_init 260 = .ok (.putfield 109, 3) := by decide +kernel
theorem dX6_init_263 : decode cX6_init 263 = .ok (.aload_n 0, 1) := by decide +kernel
theorem dX6_init_264 : decode cX6_init 264 = .ok (.bipush 24, 2) := by decide +kernel
theorem dX6_init_266 : decode cX6_init 266 = .ok (.newarray .int, 2) := by decide +kernel
theorem dX6_init_268 : decode cX6_init 268 = .ok (.putfield 112, 3) := by decide +kernel
theorem dX6_init_271 : decode cX6_init 271 = .ok (.iconst 0, 1) := by decide +kernel
theorem dX6_init_272 : decode cX6_init 272 = .ok (.istore_n 1, 1) := by decide +kernel
theorem dX6_init_273 : decode cX6_init 273 = .ok (.iload_n 1, 1) := by decide +kernel
theorem dX6_init_274 : decode cX6_init 274 = .ok (.iconst 4, 1) := by decide +kernel
theorem dX6_init_275 : decode cX6_init 275 = .ok (.if_icmp .ge 16, 3) := by decide +kernel
theorem dX6_init_278 : decode cX6_init 278 = .ok (.aload_n 0, 1) := by decide +kernel
theorem dX6_init_279 : decode cX6_init 279 = .ok (.getfield 15, 3) := by decide +kernel
theorem dX6_init_282 : decode cX6_init 282 = .ok (.iload_n 1, 1) := by decide +kernel
theorem dX6_init_283 : decode cX6_init 283 = .ok (.iconst (-1), 1) := by decide +kernel
theorem dX6_init_284 : decode cX6_init 284 = .ok (.iastore, 1) := by decide +kernel
theorem dX6_init_285 : decode cX6_init 285 = .ok (.iinc 1 1, 3) := by decide +kernel
theorem dX6_init_288 : decode cX6_init 288 = .ok (.goto (-15), 3) := by decide +kernel
theorem dX6_init_291 : decode cX6_init 291 = .ok (.aload_n 0, 1) := by decide +kernel
theorem dX6_init_292 : decode cX6_init 292 = .ok (.getfield 35, 3) := by decide +kernel
theorem dX6_init_295 : decode cX6_init 295 = .ok (.iconst 0, 1) := by decide +kernel
theorem dX6_init_296 : decode cX6_init 296 = .ok (.iconst 1, 1) := by decide +kernel
theorem dX6_init_297 : decode cX6_init 297 = .ok (.iastore, 1) := by decide +kernel
theorem dX6_init_298 : decode cX6_init 298 = .ok (.iconst 0, 1) := by decide +kernel
theorem dX6_init_299 : decode cX6_init 299 = .ok (.istore_n 1, 1) := by decide +kernel
theorem dX6_init_300 : decode cX6_init 300 = .ok (.iload_n 1, 1) := by decide +kernel
theorem dX6_init_301 : decode cX6_init 301 = .ok (.bipush 100, 2) := by decide +kernel
theorem dX6_init_303 : decode cX6_init 303 = .ok (.if_icmp .ge 18, 3) := by decide +kernel
theorem dX6_init_306 : decode cX6_init 306 = .ok (.aload_n 0, 1) := by decide +kernel
theorem dX6_init_307 : decode cX6_init 307 = .ok (.getfield 87, 3) := by decide +kernel
theorem dX6_init_310 : decode cX6_init 310 = .ok (.iload_n 1, 1) := by decide +kernel
theorem dX6_init_311 : decode cX6_init 311 = .ok (.ldc2_w 115, 3) := by decide +kernel
theorem dX6_init_314 : decode cX6_init 314 = .ok (.lastore, 1) := by decide +kernel
theorem dX6_init_315 : decode cX6_init 315 = .ok (.iinc 1 1, 3) := by decide +kernel
theorem dX6_init_318 : decode cX6_init 318 = .ok (.goto (-18), 3) := by decide +kernel
theorem dX6_init_321 : decode cX6_init 321 = .ok (.return_, 1) := by decide +kernel
theorem dX6_status_0 : decode cX6_status 0 = .ok (.aload_n 0, 1) := by decide +kernel
theorem dX6_status_1 : decode cX6_status 1 = .ok (.iconst 0, 1) := by decide +kernel
theorem dX6_status_2 : decode cX6_status 2 = .ok (.putfield 117, 3) := by decide +kernel
theorem dX6_status_5 : decode cX6_status 5 = .ok (.aload_n 0, 1) := by decide +kernel
theorem dX6_status_6 : decode cX6_status 6 = .ok (.getfield 120, 3) := by decide +kernel
theorem dX6_status_9 : decode cX6_status 9 = .ok (.ireturn, 1) := by decide +kernel
theorem dX6_refuse_0 : decode cX6_refuse 0 = .ok (.aload_n 0, 1) := by decide +kernel
theorem dX6_refuse_1 : decode cX6_refuse 1 = .ok (.iload_n 1, 1) := by decide +kernel
theorem dX6_refuse_2 : decode cX6_refuse 2 = .ok (.putfield 120, 3) := by decide +kernel
theorem dX6_refuse_5 : decode cX6_refuse 5 = .ok (.iconst (-1), 1) := by decide +kernel
theorem dX6_refuse_6 : decode cX6_refuse 6 = .ok (.ireturn, 1) := by decide +kernel
theorem dX6_no_0 : decode cX6_no 0 = .ok (.aload_n 0, 1) := by decide +kernel
theorem dX6_no_1 : decode cX6_no 1 = .ok (.iload_n 1, 1) := by decide +kernel
theorem dX6_no_2 : decode cX6_no 2 = .ok (.putfield 120, 3) := by decide +kernel
theorem dX6_no_5 : decode cX6_no 5 = .ok (.iconst 0, 1) := by decide +kernel
theorem dX6_no_6 : decode cX6_no 6 = .ok (.ireturn, 1) := by decide +kernel
theorem dX6_cut_0 : decode cX6_cut 0 = .ok (.iload_n 0, 1) := by decide +kernel
theorem dX6_cut_1 : decode cX6_cut 1 = .ok (.ifCond .ne 10, 3) := by decide +kernel
theorem dX6_cut_4 : decode cX6_cut 4 = .ok (.lload_n 1, 1) := by decide +kernel
theorem dX6_cut_5 : decode cX6_cut 5 = .ok (.l2i, 1) := by decide +kernel
theorem dX6_cut_6 : decode cX6_cut 6 = .ok (.i2b, 1) := by decide +kernel
theorem dX6_cut_7 : decode cX6_cut 7 = .ok (.i2l, 1) := by decide +kernel
theorem dX6_cut_8 : decode cX6_cut 8 = .ok (.goto 27, 3) := by decide +kernel
theorem dX6_cut_11 : decode cX6_cut 11 = .ok (.iload_n 0, 1) := by decide +kernel
theorem dX6_cut_12 : decode cX6_cut 12 = .ok (.iconst 1, 1) := by decide +kernel
theorem dX6_cut_13 : decode cX6_cut 13 = .ok (.if_icmp .ne 10, 3) := by decide +kernel
theorem dX6_cut_16 : decode cX6_cut 16 = .ok (.lload_n 1, 1) := by decide +kernel
theorem dX6_cut_17 : decode cX6_cut 17 = .ok (.l2i, 1) := by decide +kernel
theorem dX6_cut_18 : decode cX6_cut 18 = .ok (.i2s, 1) := by decide +kernel
theorem dX6_cut_19 : decode cX6_cut 19 = .ok (.i2l, 1) := by decide +kernel
theorem dX6_cut_20 : decode cX6_cut 20 = .ok (.goto 15, 3) := by decide +kernel
theorem dX6_cut_23 : decode cX6_cut 23 = .ok (.iload_n 0, 1) := by decide +kernel
theorem dX6_cut_24 : decode cX6_cut 24 = .ok (.iconst 2, 1) := by decide +kernel
theorem dX6_cut_25 : decode cX6_cut 25 = .ok (.if_icmp .ne 9, 3) := by decide +kernel
theorem dX6_cut_28 : decode cX6_cut 28 = .ok (.lload_n 1, 1) := by decide +kernel
theorem dX6_cut_29 : decode cX6_cut 29 = .ok (.l2i, 1) := by decide +kernel
theorem dX6_cut_30 : decode cX6_cut 30 = .ok (.i2l, 1) := by decide +kernel
theorem dX6_cut_31 : decode cX6_cut 31 = .ok (.goto 4, 3) := by decide +kernel
theorem dX6_cut_34 : decode cX6_cut 34 = .ok (.lload_n 1, 1) := by decide +kernel
theorem dX6_cut_35 : decode cX6_cut 35 = .ok (.lreturn, 1) := by decide +kernel
theorem dX6_sheet_0 : decode cX6_sheet 0 = .ok (.aload_n 0, 1) := by decide +kernel
theorem dX6_sheet_1 : decode cX6_sheet 1 = .ok (.iconst 0, 1) := by decide +kernel
theorem dX6_sheet_2 : decode cX6_sheet 2 = .ok (.putfield 117, 3) := by decide +kernel
theorem dX6_sheet_5 : decode cX6_sheet 5 = .ok (.aload_n 0, 1) := by decide +kernel
theorem dX6_sheet_6 : decode cX6_sheet 6 = .ok (.iconst 0, 1) := by decide +kernel
theorem dX6_sheet_7 : decode cX6_sheet 7 = .ok (.putfield 120, 3) := by decide +kernel
theorem dX6_sheet_10 : decode cX6_sheet 10 = .ok (.iload_n 1, 1) := by decide +kernel
theorem dX6_sheet_11 : decode cX6_sheet 11 = .ok (.ifCond .lt 17, 3) := by decide +kernel
theorem dX6_sheet_14 : decode cX6_sheet 14 = .ok (.iload_n 1, 1) := by decide +kernel
theorem dX6_sheet_15 : decode cX6_sheet 15 = .ok (.iconst 4, 1) := by decide +kernel
theorem dX6_sheet_16 : decode cX6_sheet 16 = .ok (.if_icmp .ge 12, 3) := by decide +kernel
theorem dX6_sheet_19 : decode cX6_sheet 19 = .ok (.iload_n 2, 1) := by decide +kernel
theorem dX6_sheet_20 : decode cX6_sheet 20 = .ok (.ifCond .lt 8, 3) := by decide +kernel
theorem dX6_sheet_23 : decode cX6_sheet 23 = .ok (.iload_n 2, 1) := by decide +kernel
theorem dX6_sheet_24 : decode cX6_sheet 24 = .ok (.iconst 3, 1) := by decide +kernel
theorem dX6_sheet_25 : decode cX6_sheet 25 = .ok (.if_icmp .le 9, 3) := by decide +kernel
theorem dX6_sheet_28 : decode cX6_sheet 28 = .ok (.aload_n 0, 1) := by decide +kernel
theorem dX6_sheet_29 : decode cX6_sheet 29 = .ok (.iconst 1, 1) := by decide +kernel
theorem dX6_sheet_30 : decode cX6_sheet 30 = .ok (.invokevirtual 123, 3) := by decide +kernel
theorem dX6_sheet_33 : decode cX6_sheet 33 = .ok (.ireturn, 1) := by decide +kernel
theorem dX6_sheet_34 : decode cX6_sheet 34 = .ok (.iload_n 3, 1) := by decide +kernel
theorem dX6_sheet_35 : decode cX6_sheet 35 = .ok (.bipush 100, 2) := by decide +kernel
theorem dX6_sheet_37 : decode cX6_sheet 37 = .ok (.if_icmp .le 9, 3) := by decide +kernel
theorem dX6_sheet_40 : decode cX6_sheet 40 = .ok (.aload_n 0, 1) := by decide +kernel
theorem dX6_sheet_41 : decode cX6_sheet 41 = .ok (.iconst 2, 1) := by decide +kernel
theorem dX6_sheet_42 : decode cX6_sheet 42 = .ok (.invokevirtual 123, 3) := by decide +kernel
theorem dX6_sheet_45 : decode cX6_sheet 45 = .ok (.ireturn, 1) := by decide +kernel
theorem dX6_sheet_46 : decode cX6_sheet 46 = .ok (.iload_n 3, 1) := by decide +kernel
theorem dX6_sheet_47 : decode cX6_sheet 47 = .ok (.ifCond .ge 10, 3) := by decide +kernel
theorem dX6_sheet_50 : decode cX6_sheet 50 = .ok (.aload_n 0, 1) := by decide +kernel
theorem dX6_sheet_51 : decode cX6_sheet 51 = .ok (.bipush 6, 2) := by decide +kernel
theorem dX6_sheet_53 : decode cX6_sheet 53 = .ok (.invokevirtual 123, 3) := by decide +kernel
theorem dX6_sheet_56 : decode cX6_sheet 56 = .ok (.ireturn, 1) := by decide +kernel
theorem dX6_sheet_57 : decode cX6_sheet 57 = .ok (.aload_n 0, 1) := by decide +kernel
theorem dX6_sheet_58 : decode cX6_sheet 58 = .ok (.getfield 9, 3) := by decide +kernel
theorem dX6_sheet_61 : decode cX6_sheet 61 = .ok (.iload_n 1, 1) := by decide +kernel
theorem dX6_sheet_62 : decode cX6_sheet 62 = .ok (.iload_n 2, 1) := by decide +kernel
theorem dX6_sheet_63 : decode cX6_sheet 63 = .ok (.iastore, 1) := by decide +kernel
theorem dX6_sheet_64 : decode cX6_sheet 64 = .ok (.aload_n 0, 1) := by decide +kernel
theorem dX6_sheet_65 : decode cX6_sheet 65 = .ok (.getfield 15, 3) := by decide +kernel
theorem dX6_sheet_68 : decode cX6_sheet 68 = .ok (.iload_n 1, 1) := by decide +kernel
theorem dX6_sheet_69 : decode cX6_sheet 69 = .ok (.iload_n 3, 1) := by decide +kernel
theorem dX6_sheet_70 : decode cX6_sheet 70 = .ok (.iastore, 1) := by decide +kernel
theorem dX6_sheet_71 : decode cX6_sheet 71 = .ok (.iconst 0, 1) := by decide +kernel
theorem dX6_sheet_72 : decode cX6_sheet 72 = .ok (.istore 4, 2) := by decide +kernel
theorem dX6_sheet_74 : decode cX6_sheet 74 = .ok (.iload 4, 2) := by decide +kernel
theorem dX6_sheet_76 : decode cX6_sheet 76 = .ok (.iload_n 3, 1) := by decide +kernel
theorem dX6_sheet_77 : decode cX6_sheet 77 = .ok (.if_icmp .ge 22, 3) := by decide +kernel
theorem dX6_sheet_80 : decode cX6_sheet 80 = .ok (.aload_n 0, 1) := by decide +kernel
theorem dX6_sheet_81 : decode cX6_sheet 81 = .ok (.getfield 18, 3) := by decide +kernel
theorem dX6_sheet_84 : decode cX6_sheet 84 = .ok (.bipush 100, 2) := by decide +kernel
theorem dX6_sheet_86 : decode cX6_sheet 86 = .ok (.iload_n 1, 1) := by decide +kernel
theorem dX6_sheet_87 : decode cX6_sheet 87 = .ok (.imul, 1) := by decide +kernel
theorem dX6_sheet_88 : decode cX6_sheet 88 = .ok (.iload 4, 2) := by decide +kernel
theorem dX6_sheet_90 : decode cX6_sheet 90 = .ok (.iadd, 1) := by decide +kernel
theorem dX6_sheet_91 : decode cX6_sheet 91 = .ok (.lconst 0, 1) := by decide +kernel
theorem dX6_sheet_92 : decode cX6_sheet 92 = .ok (.lastore, 1) := by decide +kernel
theorem dX6_sheet_93 : decode cX6_sheet 93 = .ok (.iinc 4 1, 3) := by decide +kernel
theorem dX6_sheet_96 : decode cX6_sheet 96 = .ok (.goto (-22), 3) := by decide +kernel
theorem dX6_sheet_99 : decode cX6_sheet 99 = .ok (.iconst 1, 1) := by decide +kernel
theorem dX6_sheet_100 : decode cX6_sheet 100 = .ok (.ireturn, 1) := by decide +kernel
theorem dX6_sheeted_0 : decode cX6_sheeted 0 = .ok (.iload_n 1, 1) := by decide +kernel
theorem dX6_sheeted_1 : decode cX6_sheeted 1 = .ok (.ifCond .lt 8, 3) := by decide +kernel
theorem dX6_sheeted_4 : decode cX6_sheeted 4 = .ok (.iload_n 1, 1) := by decide +kernel
theorem dX6_sheeted_5 : decode cX6_sheeted 5 = .ok (.iconst 4, 1) := by decide +kernel
theorem dX6_sheeted_6 : decode cX6_sheeted 6 = .ok (.if_icmp .lt 7, 3) := by decide +kernel
theorem dX6_sheeted_9 : decode cX6_sheeted 9 = .ok (.iconst 1, 1) := by decide +kernel
theorem dX6_sheeted_10 : decode cX6_sheeted 10 = .ok (.goto 17, 3) := by decide +kernel
theorem dX6_sheeted_13 : decode cX6_sheeted 13 = .ok (.aload_n 0, 1) := by decide +kernel
theorem dX6_sheeted_14 : decode cX6_sheeted 14 = .ok (.getfield 15, 3) := by decide +kernel
theorem dX6_sheeted_17 : decode cX6_sheeted 17 = .ok (.iload_n 1, 1) := by decide +kernel
theorem dX6_sheeted_18 : decode cX6_sheeted 18 = .ok (.iaload, 1) := by decide +kernel
theorem dX6_sheeted_19 : decode cX6_sheeted 19 = .ok (.ifCond .ge 7, 3) := by decide +kernel
theorem dX6_sheeted_22 : decode cX6_sheeted 22 = .ok (.iconst 3, 1) := by decide +kernel
theorem dX6_sheeted_23 : decode cX6_sheeted 23 = .ok (.goto 4, 3) := by decide +kernel
theorem dX6_sheeted_26 : decode cX6_sheeted 26 = .ok (.iconst 0, 1) := by decide +kernel
theorem dX6_sheeted_27 : decode cX6_sheeted 27 = .ok (.ireturn, 1) := by decide +kernel
theorem dX6_placed_0 : decode cX6_placed 0 = .ok (.aload_n 0, 1) := by decide +kernel
theorem dX6_placed_1 : decode cX6_placed 1 = .ok (.iload_n 1, 1) := by decide +kernel
theorem dX6_placed_2 : decode cX6_placed 2 = .ok (.invokevirtual 127, 3) := by decide +kernel
theorem dX6_placed_5 : decode cX6_placed 5 = .ok (.istore_n 3, 1) := by decide +kernel
theorem dX6_placed_6 : decode cX6_placed 6 = .ok (.iload_n 3, 1) := by decide +kernel
theorem dX6_placed_7 : decode cX6_placed 7 = .ok (.ifCond .le 7, 3) := by decide +kernel
theorem dX6_placed_10 : decode cX6_placed 10 = .ok (.iload_n 3, 1) := by decide +kernel
theorem dX6_placed_11 : decode cX6_placed 11 = .ok (.goto 22, 3) := by decide +kernel
theorem dX6_placed_14 : decode cX6_placed 14 = .ok (.iload_n 2, 1) := by decide +kernel
theorem dX6_placed_15 : decode cX6_placed 15 = .ok (.ifCond .lt 13, 3) := by decide +kernel
theorem dX6_placed_18 : decode cX6_placed 18 = .ok (.iload_n 2, 1) := by decide +kernel
theorem dX6_placed_19 : decode cX6_placed 19 = .ok (.aload_n 0, 1) := by decide +kernel
theorem dX6_placed_20 : decode cX6_placed 20 = .ok (.getfield 15, 3) := by decide +kernel
theorem dX6_placed_23 : decode cX6_placed 23 = .ok (.iload_n 1, 1) := by decide +kernel
theorem dX6_placed_24 : decode cX6_placed 24 = .ok (.iaload, 1) := by decide +kernel
theorem dX6_placed_25 : decode cX6_placed 25 = .ok (.if_icmp .lt 7, 3) := by decide +kernel
theorem dX6_placed_28 : decode cX6_placed 28 = .ok (.iconst 4, 1) := by decide +kernel
theorem dX6_placed_29 : decode cX6_placed 29 = .ok (.goto 4, 3) := by decide +kernel
theorem dX6_placed_32 : decode cX6_placed 32 = .ok (.iconst 0, 1) := by decide +kernel
theorem dX6_placed_33 : decode cX6_placed 33 = .ok (.ireturn, 1) := by decide +kernel
theorem dX6_write_0 : decode cX6_write 0 = .ok (.aload_n 0, 1) := by decide +kernel
theorem dX6_write_1 : decode cX6_write 1 = .ok (.iconst 0, 1) := by decide +kernel
theorem dX6_write_2 : decode cX6_write 2 = .ok (.putfield 117, 3) := by decide +kernel
theorem dX6_write_5 : decode cX6_write 5 = .ok (.aload_n 0, 1) := by decide +kernel
theorem dX6_write_6 : decode cX6_write 6 = .ok (.aload_n 0, 1) := by decide +kernel
theorem dX6_write_7 : decode cX6_write 7 = .ok (.iload_n 1, 1) := by decide +kernel
theorem dX6_write_8 : decode cX6_write 8 = .ok (.iload_n 2, 1) := by decide +kernel
theorem dX6_write_9 : decode cX6_write 9 = .ok (.invokevirtual 131, 3) := by decide +kernel
theorem dX6_write_12 : decode cX6_write 12 = .ok (.putfield 120, 3) := by decide +kernel
theorem dX6_write_15 : decode cX6_write 15 = .ok (.aload_n 0, 1) := by decide +kernel
theorem dX6_write_16 : decode cX6_write 16 = .ok (.getfield 120, 3) := by decide +kernel
theorem dX6_write_19 : decode cX6_write 19 = .ok (.ifCond .le 5, 3) := by decide +kernel
theorem dX6_write_22 : decode cX6_write 22 = .ok (.iconst 0, 1) := by decide +kernel
theorem dX6_write_23 : decode cX6_write 23 = .ok (.ireturn, 1) := by decide +kernel
theorem dX6_write_24 : decode cX6_write 24 = .ok (.aload_n 0, 1) := by decide +kernel
theorem dX6_write_25 : decode cX6_write 25 = .ok (.getfield 18, 3) := by decide +kernel
theorem dX6_write_28 : decode cX6_write 28 = .ok (.bipush 100, 2) := by decide +kernel
theorem dX6_write_30 : decode cX6_write 30 = .ok (.iload_n 1, 1) := by decide +kernel
theorem dX6_write_31 : decode cX6_write 31 = .ok (.imul, 1) := by decide +kernel
theorem dX6_write_32 : decode cX6_write 32 = .ok (.iload_n 2, 1) := by decide +kernel
theorem dX6_write_33 : decode cX6_write 33 = .ok (.iadd, 1) := by decide +kernel
theorem dX6_write_34 : decode cX6_write 34 = .ok (.aload_n 0, 1) := by decide +kernel
theorem dX6_write_35 : decode cX6_write 35 = .ok (.getfield 9, 3) := by decide +kernel
theorem dX6_write_38 : decode cX6_write 38 = .ok (.iload_n 1, 1) := by decide +kernel
theorem dX6_write_39 : decode cX6_write 39 = .ok (.iaload, 1) := by decide +kernel
theorem dX6_write_40 : decode cX6_write 40 = .ok (.lload_n 3, 1) := by decide +kernel
theorem dX6_write_41 : decode cX6_write 41 = .ok (.invokestatic 135, 3) := by decide +kernel
theorem dX6_write_44 : decode cX6_write 44 = .ok (.lastore, 1) := by decide +kernel
theorem dX6_write_45 : decode cX6_write 45 = .ok (.iconst 1, 1) := by decide +kernel
theorem dX6_write_46 : decode cX6_write 46 = .ok (.ireturn, 1) := by decide +kernel
theorem dX6_read_0 : decode cX6_read 0 = .ok (.aload_n 0, 1) := by decide +kernel
theorem dX6_read_1 : decode cX6_read 1 = .ok (.iconst 0, 1) := by decide +kernel
theorem dX6_read_2 : decode cX6_read 2 = .ok (.putfield 117, 3) := by decide +kernel
theorem dX6_read_5 : decode cX6_read 5 = .ok (.aload_n 0, 1) := by decide +kernel
theorem dX6_read_6 : decode cX6_read 6 = .ok (.aload_n 0, 1) := by decide +kernel
theorem dX6_read_7 : decode cX6_read 7 = .ok (.iload_n 1, 1) := by decide +kernel
theorem dX6_read_8 : decode cX6_read 8 = .ok (.iload_n 2, 1) := by decide +kernel
theorem dX6_read_9 : decode cX6_read 9 = .ok (.invokevirtual 131, 3) := by decide +kernel
theorem dX6_read_12 : decode cX6_read 12 = .ok (.putfield 120, 3) := by decide +kernel
theorem dX6_read_15 : decode cX6_read 15 = .ok (.aload_n 0, 1) := by decide +kernel
theorem dX6_read_16 : decode cX6_read 16 = .ok (.getfield 120, 3) := by decide +kernel
theorem dX6_read_19 : decode cX6_read 19 = .ok (.ifCond .le 9, 3) := by decide +kernel
theorem dX6_read_22 : decode cX6_read 22 = .ok (.ldc2_w 139, 3) := by decide +kernel
theorem dX6_read_25 : decode cX6_read 25 = .ok (.goto 14, 3) := by decide +kernel
theorem dX6_read_28 : decode cX6_read 28 = .ok (.aload_n 0, 1) := by decide +kernel
theorem dX6_read_29 : decode cX6_read 29 = .ok (.getfield 18, 3) := by decide +kernel
theorem dX6_read_32 : decode cX6_read 32 = .ok (.bipush 100, 2) := by decide +kernel
theorem dX6_read_34 : decode cX6_read 34 = .ok (.iload_n 1, 1) := by decide +kernel
theorem dX6_read_35 : decode cX6_read 35 = .ok (.imul, 1) := by decide +kernel
theorem dX6_read_36 : decode cX6_read 36 = .ok (.iload_n 2, 1) := by decide +kernel
theorem dX6_read_37 : decode cX6_read 37 = .ok (.iadd, 1) := by decide +kernel
theorem dX6_read_38 : decode cX6_read 38 = .ok (.laload, 1) := by decide +kernel
theorem dX6_read_39 : decode cX6_read 39 = .ok (.lreturn, 1) := by decide +kernel
theorem dX6_pour_0 : decode cX6_pour 0 = .ok (.aload_n 0, 1) := by decide +kernel
theorem dX6_pour_1 : decode cX6_pour 1 = .ok (.iconst 0, 1) := by decide +kernel
theorem dX6_pour_2 : decode cX6_pour 2 = .ok (.putfield 117, 3) := by decide +kernel
theorem dX6_pour_5 : decode cX6_pour 5 = .ok (.aload_n 0, 1) := by decide +kernel
theorem dX6_pour_6 : decode cX6_pour 6 = .ok (.iconst 0, 1) := by decide +kernel
theorem dX6_pour_7 : decode cX6_pour 7 = .ok (.putfield 120, 3) := by decide +kernel
theorem dX6_pour_10 : decode cX6_pour 10 = .ok (.iload_n 1, 1) := by decide +kernel
theorem dX6_pour_11 : decode cX6_pour 11 = .ok (.ifCond .lt 17, 3) := by decide +kernel
theorem dX6_pour_14 : decode cX6_pour 14 = .ok (.iload_n 1, 1) := by decide +kernel
theorem dX6_pour_15 : decode cX6_pour 15 = .ok (.iconst 4, 1) := by decide +kernel
theorem dX6_pour_16 : decode cX6_pour 16 = .ok (.if_icmp .ge 12, 3) := by decide +kernel
theorem dX6_pour_19 : decode cX6_pour 19 = .ok (.iload_n 3, 1) := by decide +kernel
theorem dX6_pour_20 : decode cX6_pour 20 = .ok (.ifCond .lt 8, 3) := by decide +kernel
theorem dX6_pour_23 : decode cX6_pour 23 = .ok (.iload_n 3, 1) := by decide +kernel
theorem dX6_pour_24 : decode cX6_pour 24 = .ok (.iconst 4, 1) := by decide +kernel
theorem dX6_pour_25 : decode cX6_pour 25 = .ok (.if_icmp .lt 9, 3) := by decide +kernel
theorem dX6_pour_28 : decode cX6_pour 28 = .ok (.aload_n 0, 1) := by decide +kernel
theorem dX6_pour_29 : decode cX6_pour 29 = .ok (.iconst 1, 1) := by decide +kernel
theorem dX6_pour_30 : decode cX6_pour 30 = .ok (.invokevirtual 123, 3) := by decide +kernel
theorem dX6_pour_33 : decode cX6_pour 33 = .ok (.ireturn, 1) := by decide +kernel
theorem dX6_pour_34 : decode cX6_pour 34 = .ok (.aload_n 0, 1) := by decide +kernel
theorem dX6_pour_35 : decode cX6_pour 35 = .ok (.getfield 15, 3) := by decide +kernel
theorem dX6_pour_38 : decode cX6_pour 38 = .ok (.iload_n 1, 1) := by decide +kernel
theorem dX6_pour_39 : decode cX6_pour 39 = .ok (.iaload, 1) := by decide +kernel
theorem dX6_pour_40 : decode cX6_pour 40 = .ok (.ifCond .lt 12, 3) := by decide +kernel
theorem dX6_pour_43 : decode cX6_pour 43 = .ok (.aload_n 0, 1) := by decide +kernel
theorem dX6_pour_44 : decode cX6_pour 44 = .ok (.getfield 15, 3) := by decide +kernel
theorem dX6_pour_47 : decode cX6_pour 47 = .ok (.iload_n 3, 1) := by decide +kernel
theorem dX6_pour_48 : decode cX6_pour 48 = .ok (.iaload, 1) := by decide +kernel
theorem dX6_pour_49 : decode cX6_pour 49 = .ok (.ifCond .ge 9, 3) := by decide +kernel
theorem dX6_pour_52 : decode cX6_pour 52 = .ok (.aload_n 0, 1) := by decide +kernel
theorem dX6_pour_53 : decode cX6_pour 53 = .ok (.iconst 3, 1) := by decide +kernel
theorem dX6_pour_54 : decode cX6_pour 54 = .ok (.invokevirtual 123, 3) := by decide +kernel
theorem dX6_pour_57 : decode cX6_pour 57 = .ok (.ireturn, 1) := by decide +kernel
theorem dX6_pour_58 : decode cX6_pour 58 = .ok (.aload_n 0, 1) := by decide +kernel
theorem dX6_pour_59 : decode cX6_pour 59 = .ok (.getfield 9, 3) := by decide +kernel
theorem dX6_pour_62 : decode cX6_pour 62 = .ok (.iload_n 1, 1) := by decide +kernel
theorem dX6_pour_63 : decode cX6_pour 63 = .ok (.iaload, 1) := by decide +kernel
theorem dX6_pour_64 : decode cX6_pour 64 = .ok (.aload_n 0, 1) := by decide +kernel
theorem dX6_pour_65 : decode cX6_pour 65 = .ok (.getfield 9, 3) := by decide +kernel
theorem dX6_pour_68 : decode cX6_pour 68 = .ok (.iload_n 3, 1) := by decide +kernel
theorem dX6_pour_69 : decode cX6_pour 69 = .ok (.iaload, 1) := by decide +kernel
theorem dX6_pour_70 : decode cX6_pour 70 = .ok (.if_icmp .eq 10, 3) := by decide +kernel
theorem dX6_pour_73 : decode cX6_pour 73 = .ok (.aload_n 0, 1) := by decide +kernel
theorem dX6_pour_74 : decode cX6_pour 74 = .ok (.bipush 11, 2) := by decide +kernel
theorem dX6_pour_76 : decode cX6_pour 76 = .ok (.invokevirtual 123, 3) := by decide +kernel
theorem dX6_pour_79 : decode cX6_pour 79 = .ok (.ireturn, 1) := by decide +kernel
theorem dX6_pour_80 : decode cX6_pour 80 = .ok (.iload 5, 2) := by decide +kernel
theorem dX6_pour_82 : decode cX6_pour 82 = .ok (.ifCond .ge 10, 3) := by decide +kernel
theorem dX6_pour_85 : decode cX6_pour 85 = .ok (.aload_n 0, 1) := by decide +kernel
theorem dX6_pour_86 : decode cX6_pour 86 = .ok (.bipush 6, 2) := by decide +kernel
theorem dX6_pour_88 : decode cX6_pour 88 = .ok (.invokevirtual 123, 3) := by decide +kernel
theorem dX6_pour_91 : decode cX6_pour 91 = .ok (.ireturn, 1) := by decide +kernel
theorem dX6_pour_92 : decode cX6_pour 92 = .ok (.iload_n 2, 1) := by decide +kernel
theorem dX6_pour_93 : decode cX6_pour 93 = .ok (.ifCond .lt 43, 3) := by decide +kernel
theorem dX6_pour_96 : decode cX6_pour 96 = .ok (.iload 4, 2) := by decide +kernel
theorem dX6_pour_98 : decode cX6_pour 98 = .ok (.ifCond .lt 38, 3) := by decide +kernel
theorem dX6_pour_101 : decode cX6_pour 101 = .ok (.iload_n 2, 1) := by decide +kernel
theorem dX6_pour_102 : decode cX6_pour 102 = .ok (.i2l, 1) := by decide +kernel
theorem dX6_pour_103 : decode cX6_pour 103 = .ok (.iload 5, 2) := by decide +kernel
theorem dX6_pour_105 : decode cX6_pour 105 = .ok (.i2l, 1) := by decide +kernel
theorem dX6_pour_106 : decode cX6_pour 106 = .ok (.ladd, 1) := by decide +kernel
theorem dX6_pour_107 : decode cX6_pour 107 = .ok (.aload_n 0, 1) := by decide +kernel
theorem dX6_pour_108 : decode cX6_pour 108 = .ok (.getfield 15, 3) := by decide +kernel
theorem dX6_pour_111 : decode cX6_pour 111 = .ok (.iload_n 1, 1) := by decide +kernel
theorem dX6_pour_112 : decode cX6_pour 112 = .ok (.iaload, 1) := by decide +kernel
theorem dX6_pour_113 : decode cX6_pour 113 = .ok (.i2l, 1) := by decide +kernel
theorem dX6_pour_114 : decode cX6_pour 114 = .ok (.lcmp, 1) := by decide +kernel
theorem dX6_pour_115 : decode cX6_pour 115 = .ok (.ifCond .gt 21, 3) := by decide +kernel
theorem dX6_pour_118 : decode cX6_pour 118 = .ok (.iload 4, 2) := by decide +kernel
theorem dX6_pour_120 : decode cX6_pour 120 = .ok (.i2l, 1) := by decide +kernel
theorem dX6_pour_121 : decode cX6_pour 121 = .ok (.iload 5, 2) := by decide +kernel
theorem dX6_pour_123 : decode cX6_pour 123 = .ok (.i2l, 1) := by decide +kernel
theorem dX6_pour_124 : decode cX6_pour 124 = .ok (.ladd, 1) := by decide +kernel
theorem dX6_pour_125 : decode cX6_pour 125 = .ok (.aload_n 0, 1) := by decide +kernel
theorem dX6_pour_126 : decode cX6_pour 126 = .ok (.getfield 15, 3) := by decide +kernel
theorem dX6_pour_129 : decode cX6_pour 129 = .ok (.iload_n 3, 1) := by decide +kernel
theorem dX6_pour_130 : decode cX6_pour 130 = .ok (.iaload, 1) := by decide +kernel
theorem dX6_pour_131 : decode cX6_pour 131 = .ok (.i2l, 1) := by decide +kernel
theorem dX6_pour_132 : decode cX6_pour 132 = .ok (.lcmp, 1) := by decide +kernel
theorem dX6_pour_133 : decode cX6_pour 133 = .ok (.ifCond .le 9, 3) := by decide +kernel
theorem dX6_pour_136 : decode cX6_pour 136 = .ok (.aload_n 0, 1) := by decide +kernel
theorem dX6_pour_137 : decode cX6_pour 137 = .ok (.iconst 4, 1) := by decide +kernel
theorem dX6_pour_138 : decode cX6_pour 138 = .ok (.invokevirtual 123, 3) := by decide +kernel
theorem dX6_pour_141 : decode cX6_pour 141 = .ok (.ireturn, 1) := by decide +kernel
theorem dX6_pour_142 : decode cX6_pour 142 = .ok (.iload_n 2, 1) := by decide +kernel
theorem dX6_pour_143 : decode cX6_pour 143 = .ok (.iload 4, 2) := by decide +kernel
theorem dX6_pour_145 : decode cX6_pour 145 = .ok (.if_icmp .ge 7, 3) := by decide +kernel
theorem dX6_pour_148 : decode cX6_pour 148 = .ok (.iconst 1, 1) := by decide +kernel
theorem dX6_pour_149 : decode cX6_pour 149 = .ok (.goto 4, 3) := by decide +kernel
theorem dX6_pour_152 : decode cX6_pour 152 = .ok (.iconst 0, 1) := by decide +kernel
theorem dX6_pour_153 : decode cX6_pour 153 = .ok (.istore 6, 2) := by decide +kernel
theorem dX6_pour_155 : decode cX6_pour 155 = .ok (.iconst 0, 1) := by decide +kernel
theorem dX6_pour_156 : decode cX6_pour 156 = .ok (.istore 7, 2) := by decide +kernel
theorem dX6_pour_158 : decode cX6_pour 158 = .ok (.iload 7, 2) := by decide +kernel
theorem dX6_pour_160 : decode cX6_pour 160 = .ok (.iload 5, 2) := by decide +kernel
theorem dX6_pour_162 : decode cX6_pour 162 = .ok (.if_icmp .ge 57, 3) := by decide +kernel
theorem dX6_pour_165 : decode cX6_pour 165 = .ok (.iload 6, 2) := by decide +kernel
theorem dX6_pour_167 : decode cX6_pour 167 = .ok (.ifCond .eq 13, 3) := by decide +kernel
theorem dX6_pour_170 : decode cX6_pour 170 = .ok (.iload 5, 2) := by decide +kernel
theorem dX6_pour_172 : decode cX6_pour 172 = .ok (.iconst 1, 1) := by decide +kernel
theorem dX6_pour_173 : decode cX6_pour 173 = .ok (.isub, 1) := by decide +kernel
theorem dX6_pour_174 : decode cX6_pour 174 = .ok (.iload 7, 2) := by decide +kernel
theorem dX6_pour_176 : decode cX6_pour 176 = .ok (.isub, 1) := by decide +kernel
theorem dX6_pour_177 : decode cX6_pour 177 = .ok (.goto 5, 3) := by decide +kernel
theorem dX6_pour_180 : decode cX6_pour 180 = .ok (.iload 7, 2) := by decide +kernel
theorem dX6_pour_182 : decode cX6_pour 182 = .ok (.istore 8, 2) := by decide +kernel
theorem dX6_pour_184 : decode cX6_pour 184 = .ok (.aload_n 0, 1) := by decide +kernel
theorem dX6_pour_185 : decode cX6_pour 185 = .ok (.getfield 18, 3) := by decide +kernel
theorem dX6_pour_188 : decode cX6_pour 188 = .ok (.bipush 100, 2) := by decide +kernel
theorem dX6_pour_190 : decode cX6_pour 190 = .ok (.iload_n 3, 1) := by decide +kernel
theorem dX6_pour_191 : decode cX6_pour 191 = .ok (.imul, 1) := by decide +kernel
theorem dX6_pour_192 : decode cX6_pour 192 = .ok (.iload 4, 2) := by decide +kernel
theorem dX6_pour_194 : decode cX6_pour 194 = .ok (.iadd, 1) := by decide +kernel
theorem dX6_pour_195 : decode cX6_pour 195 = .ok (.iload 8, 2) := by decide +kernel
theorem dX6_pour_197 : decode cX6_pour 197 = .ok (.iadd, 1) := by decide +kernel
theorem dX6_pour_198 : decode cX6_pour 198 = .ok (.aload_n 0, 1) := by decide +kernel
theorem dX6_pour_199 : decode cX6_pour 199 = .ok (.getfield 18, 3) := by decide +kernel
theorem dX6_pour_202 : decode cX6_pour 202 = .ok (.bipush 100, 2) := by decide +kernel
theorem dX6_pour_204 : decode cX6_pour 204 = .ok (.iload_n 1, 1) := by decide +kernel
theorem dX6_pour_205 : decode cX6_pour 205 = .ok (.imul, 1) := by decide +kernel
theorem dX6_pour_206 : decode cX6_pour 206 = .ok (.iload_n 2, 1) := by decide +kernel
theorem dX6_pour_207 : decode cX6_pour 207 = .ok (.iadd, 1) := by decide +kernel
theorem dX6_pour_208 : decode cX6_pour 208 = .ok (.iload 8, 2) := by decide +kernel
theorem dX6_pour_210 : decode cX6_pour 210 = .ok (.iadd, 1) := by decide +kernel
theorem dX6_pour_211 : decode cX6_pour 211 = .ok (.laload, 1) := by decide +kernel
theorem dX6_pour_212 : decode cX6_pour 212 = .ok (.lastore, 1) := by decide +kernel
theorem dX6_pour_213 : decode cX6_pour 213 = .ok (.iinc 7 1, 3) := by decide +kernel
theorem dX6_pour_216 : decode cX6_pour 216 = .ok (.goto (-58), 3) := by decide +kernel
theorem dX6_pour_219 : decode cX6_pour 219 = .ok (.iconst 1, 1) := by decide +kernel
theorem dX6_pour_220 : decode cX6_pour 220 = .ok (.ireturn, 1) := by decide +kernel
theorem dX6_ring_0 : decode cX6_ring 0 = .ok (.aload_n 0, 1) := by decide +kernel
theorem dX6_ring_1 : decode cX6_ring 1 = .ok (.iconst 0, 1) := by decide +kernel
theorem dX6_ring_2 : decode cX6_ring 2 = .ok (.putfield 117, 3) := by decide +kernel
theorem dX6_ring_5 : decode cX6_ring 5 = .ok (.aload_n 0, 1) := by decide +kernel
theorem dX6_ring_6 : decode cX6_ring 6 = .ok (.iconst 0, 1) := by decide +kernel
theorem dX6_ring_7 : decode cX6_ring 7 = .ok (.putfield 120, 3) := by decide +kernel
theorem dX6_ring_10 : decode cX6_ring 10 = .ok (.iload_n 1, 1) := by decide +kernel
theorem dX6_ring_11 : decode cX6_ring 11 = .ok (.iconst 2, 1) := by decide +kernel
theorem dX6_ring_12 : decode cX6_ring 12 = .ok (.if_icmp .lt 10, 3) := by decide +kernel
theorem dX6_ring_15 : decode cX6_ring 15 = .ok (.iload_n 1, 1) := by decide +kernel
theorem dX6_ring_16 : decode cX6_ring 16 = .ok (.sipush 4096, 3) := by decide +kernel
theorem dX6_ring_19 : decode cX6_ring 19 = .ok (.if_icmp .le 9, 3) := by decide +kernel
theorem dX6_ring_22 : decode cX6_ring 22 = .ok (.aload_n 0, 1) := by decide +kernel
theorem dX6_ring_23 : decode cX6_ring 23 = .ok (.iconst 2, 1) := by decide +kernel
theorem dX6_ring_24 : decode cX6_ring 24 = .ok (.invokevirtual 123, 3) := by decide +kernel
theorem dX6_ring_27 : decode cX6_ring 27 = .ok (.ireturn, 1) := by decide +kernel
theorem dX6_ring_28 : decode cX6_ring 28 = .ok (.aload_n 0, 1) := by decide +kernel
theorem dX6_ring_29 : decode cX6_ring 29 = .ok (.iload_n 1, 1) := by decide +kernel
theorem dX6_ring_30 : decode cX6_ring 30 = .ok (.putfield 22, 3) := by decide +kernel
theorem dX6_ring_33 : decode cX6_ring 33 = .ok (.aload_n 0, 1) := by decide +kernel
theorem dX6_ring_34 : decode cX6_ring 34 = .ok (.iconst 0, 1) := by decide +kernel
theorem dX6_ring_35 : decode cX6_ring 35 = .ok (.putfield 141, 3) := by decide +kernel
theorem dX6_ring_38 : decode cX6_ring 38 = .ok (.iconst 0, 1) := by decide +kernel
theorem dX6_ring_39 : decode cX6_ring 39 = .ok (.istore_n 2, 1) := by decide +kernel
theorem dX6_ring_40 : decode cX6_ring 40 = .ok (.iload_n 2, 1) := by decide +kernel
theorem dX6_ring_41 : decode cX6_ring 41 = .ok (.sipush 576, 3) := by decide +kernel
theorem dX6_ring_44 : decode cX6_ring 44 = .ok (.if_icmp .ge 16, 3) := by decide +kernel
theorem dX6_ring_47 : decode cX6_ring 47 = .ok (.aload_n 0, 1) := by decide +kernel
theorem dX6_ring_48 : decode cX6_ring 48 = .ok (.getfield 41, 3) := by decide +kernel
theorem dX6_ring_51 : decode cX6_ring 51 = .ok (.iload_n 2, 1) := by decide +kernel
theorem dX6_ring_52 : decode cX6_ring 52 = .ok (.iconst 0, 1) := by decide +kernel
theorem dX6_ring_53 : decode cX6_ring 53 = .ok (.bastore, 1) := by decide +kernel
theorem dX6_ring_54 : decode cX6_ring 54 = .ok (.iinc 2 1, 3) := by decide +kernel
theorem dX6_ring_57 : decode cX6_ring 57 = .ok (.goto (-17), 3) := by decide +kernel
theorem dX6_ring_60 : decode cX6_ring 60 = .ok (.iconst 1, 1) := by decide +kernel
theorem dX6_ring_61 : decode cX6_ring 61 = .ok (.ireturn, 1) := by decide +kernel
theorem dX6_clears_0 : decode cX6_clears 0 = .ok (.aload_n 0, 1) := by decide +kernel
theorem dX6_clears_1 : decode cX6_clears 1 = .ok (.iconst 0, 1) := by decide +kernel
theorem dX6_clears_2 : decode cX6_clears 2 = .ok (.putfield 144, 3) := by decide +kernel
theorem dX6_clears_5 : decode cX6_clears 5 = .ok (.iconst 0, 1) := by decide +kernel
theorem dX6_clears_6 : decode cX6_clears 6 = .ok (.istore_n 1, 1) := by decide +kernel
theorem dX6_clears_7 : decode cX6_clears 7 = .ok (.iload_n 1, 1) := by decide +kernel
theorem dX6_clears_8 : decode cX6_clears 8 = .ok (.bipush 24, 2) := by decide +kernel
theorem dX6_clears_10 : decode cX6_clears 10 = .ok (.if_icmp .ge 16, 3) := by decide +kernel
theorem dX6_clears_13 : decode cX6_clears 13 = .ok (.aload_n 0, 1) := by decide +kernel
theorem dX6_clears_14 : decode cX6_clears 14 = .ok (.getfield 38, 3) := by decide +kernel
theorem dX6_clears_17 : decode cX6_clears 17 = .ok (.iload_n 1, 1) := by decide +kernel
theorem dX6_clears_18 : decode cX6_clears 18 = .ok (.lconst 0, 1) := by decide +kernel
theorem dX6_clears_19 : decode cX6_clears 19 = .ok (.lastore, 1) := by decide +kernel
theorem dX6_clears_20 : decode cX6_clears 20 = .ok (.iinc 1 1, 3) := by decide +kernel
theorem dX6_clears_23 : decode cX6_clears 23 = .ok (.goto (-16), 3) := by decide +kernel
theorem dX6_clears_26 : decode cX6_clears 26 = .ok (.return_, 1) := by decide +kernel
theorem dX6_isBeater_0 : decode cX6_isBeater 0 = .ok (.iload_n 1, 1) := by decide +kernel
theorem dX6_isBeater_1 : decode cX6_isBeater 1 = .ok (.ifCond .lt 15, 3) := by decide +kernel
theorem dX6_isBeater_4 : decode cX6_isBeater 4 = .ok (.iload_n 1, 1) := by decide +kernel
theorem dX6_isBeater_5 : decode cX6_isBeater 5 = .ok (.aload_n 0, 1) := by decide +kernel
theorem dX6_isBeater_6 : decode cX6_isBeater 6 = .ok (.getfield 141, 3) := by decide +kernel
theorem dX6_isBeater_9 : decode cX6_isBeater 9 = .ok (.if_icmp .ge 7, 3) := by decide +kernel
theorem dX6_isBeater_12 : decode cX6_isBeater 12 = .ok (.iconst 1, 1) := by decide +kernel
theorem dX6_isBeater_13 : decode cX6_isBeater 13 = .ok (.goto 4, 3) := by decide +kernel
theorem dX6_isBeater_16 : decode cX6_isBeater 16 = .ok (.iconst 0, 1) := by decide +kernel
theorem dX6_isBeater_17 : decode cX6_isBeater 17 = .ok (.ireturn, 1) := by decide +kernel
theorem dX6_isPhase_0 : decode cX6_isPhase 0 = .ok (.lload_n 1, 1) := by decide +kernel
theorem dX6_isPhase_1 : decode cX6_isPhase 1 = .ok (.lconst 0, 1) := by decide +kernel
theorem dX6_isPhase_2 : decode cX6_isPhase 2 = .ok (.lcmp, 1) := by decide +kernel
theorem dX6_isPhase_3 : decode cX6_isPhase 3 = .ok (.ifCond .lt 17, 3) := by decide +kernel
theorem dX6_isPhase_6 : decode cX6_isPhase 6 = .ok (.lload_n 1, 1) := by decide +kernel
theorem dX6_isPhase_7 : decode cX6_isPhase 7 = .ok (.aload_n 0, 1) := by decide +kernel
theorem dX6_isPhase_8 : decode cX6_isPhase 8 = .ok (.getfield 22, 3) := by decide +kernel
theorem dX6_isPhase_11 : decode cX6_isPhase 11 = .ok (.i2l, 1) := by decide +kernel
theorem dX6_isPhase_12 : decode cX6_isPhase 12 = .ok (.lcmp, 1) := by decide +kernel
theorem dX6_isPhase_13 : decode cX6_isPhase 13 = .ok (.ifCond .ge 7, 3) := by decide +kernel
theorem dX6_isPhase_16 : decode cX6_isPhase 16 = .ok (.iconst 1, 1) := by decide +kernel
theorem dX6_isPhase_17 : decode cX6_isPhase 17 = .ok (.goto 4, 3) := by decide +kernel
theorem dX6_isPhase_20 : decode cX6_isPhase 20 = .ok (.iconst 0, 1) := by decide +kernel
theorem dX6_isPhase_21 : decode cX6_isPhase 21 = .ok (.ireturn, 1) := by decide +kernel
theorem dX6_beater_0 : decode cX6_beater 0 = .ok (.aload_n 0, 1) := by decide +kernel
theorem dX6_beater_1 : decode cX6_beater 1 = .ok (.iconst 0, 1) := by decide +kernel
theorem dX6_beater_2 : decode cX6_beater 2 = .ok (.putfield 117, 3) := by decide +kernel
theorem dX6_beater_5 : decode cX6_beater 5 = .ok (.aload_n 0, 1) := by decide +kernel
theorem dX6_beater_6 : decode cX6_beater 6 = .ok (.iconst 0, 1) := by decide +kernel
theorem dX6_beater_7 : decode cX6_beater 7 = .ok (.putfield 120, 3) := by decide +kernel
theorem dX6_beater_10 : decode cX6_beater 10 = .ok (.iload_n 1, 1) := by decide +kernel
theorem dX6_beater_11 : decode cX6_beater 11 = .ok (.ifCond .lt 17, 3) := by decide +kernel
theorem dX6_beater_14 : decode cX6_beater 14 = .ok (.iload_n 1, 1) := by decide +kernel
theorem dX6_beater_15 : decode cX6_beater 15 = .ok (.iconst 3, 1) := by decide +kernel
theorem dX6_beater_16 : decode cX6_beater 16 = .ok (.if_icmp .gt 12, 3) := by decide +kernel
theorem dX6_beater_19 : decode cX6_beater 19 = .ok (.aload_n 0, 1) := by decide +kernel
theorem dX6_beater_20 : decode cX6_beater 20 = .ok (.iload_n 2, 1) := by decide +kernel
theorem dX6_beater_21 : decode cX6_beater 21 = .ok (.i2l, 1) := by decide +kernel
theorem dX6_beater_22 : decode cX6_beater 22 = .ok (.invokevirtual 147, 3) := by decide +kernel
theorem dX6_beater_25 : decode cX6_beater 25 = .ok (.ifCond .ne 9, 3) := by decide +kernel
theorem dX6_beater_28 : decode cX6_beater 28 = .ok (.aload_n 0, 1) := by decide +kernel
theorem dX6_beater_29 : decode cX6_beater 29 = .ok (.iconst 2, 1) := by decide +kernel
theorem dX6_beater_30 : decode cX6_beater 30 = .ok (.invokevirtual 151, 3) := by decide +kernel
theorem dX6_beater_33 : decode cX6_beater 33 = .ok (.ireturn, 1) := by decide +kernel
theorem dX6_beater_34 : decode cX6_beater 34 = .ok (.aload_n 0, 1) := by decide +kernel
theorem dX6_beater_35 : decode cX6_beater 35 = .ok (.getfield 141, 3) := by decide +kernel
theorem dX6_beater_38 : decode cX6_beater 38 = .ok (.bipush 24, 2) := by decide +kernel
theorem dX6_beater_40 : decode cX6_beater 40 = .ok (.if_icmp .ne 10, 3) := by decide +kernel
theorem dX6_beater_43 : decode cX6_beater 43 = .ok (.aload_n 0, 1) := by decide +kernel
theorem dX6_beater_44 : decode cX6_beater 44 = .ok (.bipush 7, 2) := by decide +kernel
theorem dX6_beater_46 : decode cX6_beater 46 = .ok (.invokevirtual 151, 3) := by decide +kernel
theorem dX6_beater_49 : decode cX6_beater 49 = .ok (.ireturn, 1) := by decide +kernel
theorem dX6_beater_50 : decode cX6_beater 50 = .ok (.aload_n 0, 1) := by decide +kernel
theorem dX6_beater_51 : decode cX6_beater 51 = .ok (.getfield 29, 3) := by decide +kernel
theorem dX6_beater_54 : decode cX6_beater 54 = .ok (.aload_n 0, 1) := by decide +kernel
theorem dX6_beater_55 : decode cX6_beater 55 = .ok (.getfield 141, 3) := by decide +kernel
theorem dX6_beater_58 : decode cX6_beater 58 = .ok (.iload_n 1, 1) := by decide +kernel
theorem dX6_beater_59 : decode cX6_beater 59 = .ok (.iastore, 1) := by decide +kernel
theorem dX6_beater_60 : decode cX6_beater 60 = .ok (.aload_n 0, 1) := by decide +kernel
theorem dX6_beater_61 : decode cX6_beater 61 = .ok (.getfield 32, 3) := by decide +kernel
theorem dX6_beater_64 : decode cX6_beater 64 = .ok (.aload_n 0, 1) := by decide +kernel
theorem dX6_beater_65 : decode cX6_beater 65 = .ok (.getfield 141, 3) := by decide +kernel
theorem dX6_beater_68 : decode cX6_beater 68 = .ok (.iload_n 2, 1) := by decide +kernel
theorem dX6_beater_69 : decode cX6_beater 69 = .ok (.iastore, 1) := by decide +kernel
theorem dX6_beater_70 : decode cX6_beater 70 = .ok (.aload_n 0, 1) := by decide +kernel
theorem dX6_beater_71 : decode cX6_beater 71 = .ok (.getfield 38, 3) := by decide +kernel
theorem dX6_beater_74 : decode cX6_beater 74 = .ok (.aload_n 0, 1) := by decide +kernel
theorem dX6_beater_75 : decode cX6_beater 75 = .ok (.getfield 141, 3) := by decide +kernel
theorem dX6_beater_78 : decode cX6_beater 78 = .ok (.lconst 0, 1) := by decide +kernel
theorem dX6_beater_79 : decode cX6_beater 79 = .ok (.lastore, 1) := by decide +kernel
theorem dX6_beater_80 : decode cX6_beater 80 = .ok (.aload_n 0, 1) := by decide +kernel
theorem dX6_beater_81 : decode cX6_beater 81 = .ok (.dup, 1) := by decide +kernel
theorem dX6_beater_82 : decode cX6_beater 82 = .ok (.getfield 141, 3) := by decide +kernel
theorem dX6_beater_85 : decode cX6_beater 85 = .ok (.iconst 1, 1) := by decide +kernel
theorem dX6_beater_86 : decode cX6_beater 86 = .ok (.iadd, 1) := by decide +kernel
theorem dX6_beater_87 : decode cX6_beater 87 = .ok (.putfield 141, 3) := by decide +kernel
theorem dX6_beater_90 : decode cX6_beater 90 = .ok (.aload_n 0, 1) := by decide +kernel
theorem dX6_beater_91 : decode cX6_beater 91 = .ok (.getfield 141, 3) := by decide +kernel
theorem dX6_beater_94 : decode cX6_beater 94 = .ok (.iconst 1, 1) := by decide +kernel
theorem dX6_beater_95 : decode cX6_beater 95 = .ok (.isub, 1) := by decide +kernel
theorem dX6_beater_96 : decode cX6_beater 96 = .ok (.ireturn, 1) := by decide +kernel
theorem dX6_kind_0 : decode cX6_kind 0 = .ok (.aload_n 0, 1) := by decide +kernel
theorem dX6_kind_1 : decode cX6_kind 1 = .ok (.iconst 0, 1) := by decide +kernel
theorem dX6_kind_2 : decode cX6_kind 2 = .ok (.putfield 117, 3) := by decide +kernel
theorem dX6_kind_5 : decode cX6_kind 5 = .ok (.aload_n 0, 1) := by decide +kernel
theorem dX6_kind_6 : decode cX6_kind 6 = .ok (.iconst 0, 1) := by decide +kernel
theorem dX6_kind_7 : decode cX6_kind 7 = .ok (.putfield 120, 3) := by decide +kernel
theorem dX6_kind_10 : decode cX6_kind 10 = .ok (.aload_n 0, 1) := by decide +kernel
theorem dX6_kind_11 : decode cX6_kind 11 = .ok (.iload_n 1, 1) := by decide +kernel
theorem dX6_kind_12 : decode cX6_kind 12 = .ok (.invokevirtual 154, 3) := by decide +kernel
theorem dX6_kind_15 : decode cX6_kind 15 = .ok (.ifCond .eq 12, 3) := by decide +kernel
theorem dX6_kind_18 : decode cX6_kind 18 = .ok (.iload_n 2, 1) := by decide +kernel
theorem dX6_kind_19 : decode cX6_kind 19 = .ok (.ifCond .lt 8, 3) := by decide +kernel
theorem dX6_kind_22 : decode cX6_kind 22 = .ok (.iload_n 2, 1) := by decide +kernel
theorem dX6_kind_23 : decode cX6_kind 23 = .ok (.iconst 3, 1) := by decide +kernel
theorem dX6_kind_24 : decode cX6_kind 24 = .ok (.if_icmp .le 9, 3) := by decide +kernel
theorem dX6_kind_27 : decode cX6_kind 27 = .ok (.aload_n 0, 1) := by decide +kernel
theorem dX6_kind_28 : decode cX6_kind 28 = .ok (.iconst 2, 1) := by decide +kernel
theorem dX6_kind_29 : decode cX6_kind 29 = .ok (.invokevirtual 123, 3) := by decide +kernel
theorem dX6_kind_32 : decode cX6_kind 32 = .ok (.ireturn, 1) := by decide +kernel
theorem dX6_kind_33 : decode cX6_kind 33 = .ok (.aload_n 0, 1) := by decide +kernel
theorem dX6_kind_34 : decode cX6_kind 34 = .ok (.getfield 29, 3) := by decide +kernel
theorem dX6_kind_37 : decode cX6_kind 37 = .ok (.iload_n 1, 1) := by decide +kernel
theorem dX6_kind_38 : decode cX6_kind 38 = .ok (.iload_n 2, 1) := by decide +kernel
theorem dX6_kind_39 : decode cX6_kind 39 = .ok (.iastore, 1) := by decide +kernel
theorem dX6_kind_40 : decode cX6_kind 40 = .ok (.iconst 1, 1) := by decide +kernel
theorem dX6_kind_41 : decode cX6_kind 41 = .ok (.ireturn, 1) := by decide +kernel
theorem dX6_turn_0 : decode cX6_turn 0 = .ok (.aload_n 0, 1) := by decide +kernel
theorem dX6_turn_1 : decode cX6_turn 1 = .ok (.iconst 0, 1) := by decide +kernel
theorem dX6_turn_2 : decode cX6_turn 2 = .ok (.putfield 117, 3) := by decide +kernel
theorem dX6_turn_5 : decode cX6_turn 5 = .ok (.aload_n 0, 1) := by decide +kernel
theorem dX6_turn_6 : decode cX6_turn 6 = .ok (.iconst 0, 1) := by decide +kernel
theorem dX6_turn_7 : decode cX6_turn 7 = .ok (.putfield 120, 3) := by decide +kernel
theorem dX6_turn_10 : decode cX6_turn 10 = .ok (.aload_n 0, 1) := by decide +kernel
theorem dX6_turn_11 : decode cX6_turn 11 = .ok (.iload_n 1, 1) := by decide +kernel
theorem dX6_turn_12 : decode cX6_turn 12 = .ok (.invokevirtual 154, 3) := by decide +kernel
theorem dX6_turn_15 : decode cX6_turn 15 = .ok (.ifCond .eq 12, 3) := by decide +kernel
theorem dX6_turn_18 : decode cX6_turn 18 = .ok (.aload_n 0, 1) := by decide +kernel
theorem dX6_turn_19 : decode cX6_turn 19 = .ok (.iload_n 2, 1) := by decide +kernel
theorem dX6_turn_20 : decode cX6_turn 20 = .ok (.i2l, 1) := by decide +kernel
theorem dX6_turn_21 : decode cX6_turn 21 = .ok (.invokevirtual 147, 3) := by decide +kernel
theorem dX6_turn_24 : decode cX6_turn 24 = .ok (.ifCond .ne 9, 3) := by decide +kernel
theorem dX6_turn_27 : decode cX6_turn 27 = .ok (.aload_n 0, 1) := by decide +kernel
theorem dX6_turn_28 : decode cX6_turn 28 = .ok (.iconst 2, 1) := by decide +kernel
theorem dX6_turn_29 : decode cX6_turn 29 = .ok (.invokevirtual 123, 3) := by decide +kernel
theorem dX6_turn_32 : decode cX6_turn 32 = .ok (.ireturn, 1) := by decide +kernel
theorem dX6_turn_33 : decode cX6_turn 33 = .ok (.aload_n 0, 1) := by decide +kernel
theorem dX6_turn_34 : decode cX6_turn 34 = .ok (.getfield 32, 3) := by decide +kernel
theorem dX6_turn_37 : decode cX6_turn 37 = .ok (.iload_n 1, 1) := by decide +kernel
theorem dX6_turn_38 : decode cX6_turn 38 = .ok (.iload_n 2, 1) := by decide +kernel
theorem dX6_turn_39 : decode cX6_turn 39 = .ok (.iastore, 1) := by decide +kernel
theorem dX6_turn_40 : decode cX6_turn 40 = .ok (.iconst 1, 1) := by decide +kernel
theorem dX6_turn_41 : decode cX6_turn 41 = .ok (.ireturn, 1) := by decide +kernel
theorem dX6_phases_0 : decode cX6_phases 0 = .ok (.aload_n 0, 1) := by decide +kernel
theorem dX6_phases_1 : decode cX6_phases 1 = .ok (.iconst 0, 1) := by decide +kernel
theorem dX6_phases_2 : decode cX6_phases 2 = .ok (.putfield 117, 3) := by decide +kernel
theorem dX6_phases_5 : decode cX6_phases 5 = .ok (.aload_n 0, 1) := by decide +kernel
theorem dX6_phases_6 : decode cX6_phases 6 = .ok (.aload_n 0, 1) := by decide +kernel
theorem dX6_phases_7 : decode cX6_phases 7 = .ok (.iload_n 1, 1) := by decide +kernel
theorem dX6_phases_8 : decode cX6_phases 8 = .ok (.invokevirtual 127, 3) := by decide +kernel
theorem dX6_phases_11 : decode cX6_phases 11 = .ok (.putfield 120, 3) := by decide +kernel
theorem dX6_phases_14 : decode cX6_phases 14 = .ok (.aload_n 0, 1) := by decide +kernel
theorem dX6_phases_15 : decode cX6_phases 15 = .ok (.getfield 120, 3) := by decide +kernel
theorem dX6_phases_18 : decode cX6_phases 18 = .ok (.ifCond .le 5, 3) := by decide +kernel
theorem dX6_phases_21 : decode cX6_phases 21 = .ok (.iconst 0, 1) := by decide +kernel
theorem dX6_phases_22 : decode cX6_phases 22 = .ok (.ireturn, 1) := by decide +kernel
theorem dX6_phases_23 : decode cX6_phases 23 = .ok (.aload_n 0, 1) := by decide +kernel
theorem dX6_phases_24 : decode cX6_phases 24 = .ok (.getfield 15, 3) := by decide +kernel
theorem dX6_phases_27 : decode cX6_phases 27 = .ok (.iload_n 1, 1) := by decide +kernel
theorem dX6_phases_28 : decode cX6_phases 28 = .ok (.iaload, 1) := by decide +kernel
theorem dX6_phases_29 : decode cX6_phases 29 = .ok (.aload_n 0, 1) := by decide +kernel
theorem dX6_phases_30 : decode cX6_phases 30 = .ok (.getfield 141, 3) := by decide +kernel
theorem dX6_phases_33 : decode cX6_phases 33 = .ok (.if_icmp .ge 9, 3) := by decide +kernel
theorem dX6_phases_36 : decode cX6_phases 36 = .ok (.aload_n 0, 1) := by decide +kernel
theorem dX6_phases_37 : decode cX6_phases 37 = .ok (.iconst 4, 1) := by decide +kernel
theorem dX6_phases_38 : decode cX6_phases 38 = .ok (.invokevirtual 123, 3) := by decide +kernel
theorem dX6_phases_41 : decode cX6_phases 41 = .ok (.ireturn, 1) := by decide +kernel
theorem dX6_phases_42 : decode cX6_phases 42 = .ok (.iconst 0, 1) := by decide +kernel
theorem dX6_phases_43 : decode cX6_phases 43 = .ok (.istore_n 2, 1) := by decide +kernel
theorem dX6_phases_44 : decode cX6_phases 44 = .ok (.iload_n 2, 1) := by decide +kernel
theorem dX6_phases_45 : decode cX6_phases 45 = .ok (.aload_n 0, 1) := by decide +kernel
theorem dX6_phases_46 : decode cX6_phases 46 = .ok (.getfield 141, 3) := by decide +kernel
theorem dX6_phases_49 : decode cX6_phases 49 = .ok (.if_icmp .ge 33, 3) := by decide +kernel
theorem dX6_phases_52 : decode cX6_phases 52 = .ok (.aload_n 0, 1) := by decide +kernel
theorem dX6_phases_53 : decode cX6_phases 53 = .ok (.aload_n 0, 1) := by decide +kernel
theorem dX6_phases_54 : decode cX6_phases 54 = .ok (.getfield 18, 3) := by decide +kernel
theorem dX6_phases_57 : decode cX6_phases 57 = .ok (.bipush 100, 2) := by decide +kernel
theorem dX6_phases_59 : decode cX6_phases 59 = .ok (.iload_n 1, 1) := by decide +kernel
theorem dX6_phases_60 : decode cX6_phases 60 = .ok (.imul, 1) := by decide +kernel
theorem dX6_phases_61 : decode cX6_phases 61 = .ok (.iload_n 2, 1) := by decide +kernel
theorem dX6_phases_62 : decode cX6_phases 62 = .ok (.iadd, 1) := by decide +kernel
theorem dX6_phases_63 : decode cX6_phases 63 = .ok (.laload, 1) := by decide +kernel
theorem dX6_phases_64 : decode cX6_phases 64 = .ok (.invokevirtual 147, 3) := by decide +kernel
theorem dX6_phases_67 : decode cX6_phases 67 = .ok (.ifCond .ne 9, 3) := by decide +kernel
theorem dX6_phases_70 : decode cX6_phases 70 = .ok (.aload_n 0, 1) := by decide +kernel
theorem dX6_phases_71 : decode cX6_phases 71 = .ok (.iconst 2, 1) := by decide +kernel
theorem dX6_phases_72 : decode cX6_phases 72 = .ok (.invokevirtual 123, 3) := by decide +kernel
theorem dX6_phases_75 : decode cX6_phases 75 = .ok (.ireturn, 1) := by decide +kernel
theorem dX6_phases_76 : decode cX6_phases 76 = .ok (.iinc 2 1, 3) := by decide +kernel
theorem dX6_phases_79 : decode cX6_phases 79 = .ok (.goto (-35), 3) := by decide +kernel
theorem dX6_phases_82 : decode cX6_phases 82 = .ok (.iconst 0, 1) := by decide +kernel
theorem dX6_phases_83 : decode cX6_phases 83 = .ok (.istore_n 2, 1) := by decide +kernel
theorem dX6_phases_84 : decode cX6_phases 84 = .ok (.iload_n 2, 1) := by decide +kernel
theorem dX6_phases_85 : decode cX6_phases 85 = .ok (.aload_n 0, 1) := by decide +kernel
theorem dX6_phases_86 : decode cX6_phases 86 = .ok (.getfield 141, 3) := by decide +kernel
theorem dX6_phases_89 : decode cX6_phases 89 = .ok (.if_icmp .ge 27, 3) := by decide +kernel
theorem dX6_phases_92 : decode cX6_phases 92 = .ok (.aload_n 0, 1) := by decide +kernel
theorem dX6_phases_93 : decode cX6_phases 93 = .ok (.getfield 32, 3) := by decide +kernel
theorem dX6_phases_96 : decode cX6_phases 96 = .ok (.iload_n 2, 1) := by decide +kernel
theorem dX6_phases_97 : decode cX6_phases 97 = .ok (.aload_n 0, 1) := by decide +kernel
theorem dX6_phases_98 : decode cX6_phases 98 = .ok (.getfield 18, 3) := by decide +kernel
theorem dX6_phases_101 : decode cX6_phases 101 = .ok (.bipush 100, 2) := by decide +kernel
theorem dX6_phases_103 : decode cX6_phases 103 = .ok (.iload_n 1, 1) := by decide +kernel
theorem dX6_phases_104 : decode cX6_phases 104 = .ok (.imul, 1) := by decide +kernel
theorem dX6_phases_105 : decode cX6_phases 105 = .ok (.iload_n 2, 1) := by decide +kernel
theorem dX6_phases_106 : decode cX6_phases 106 = .ok (.iadd, 1) := by decide +kernel
theorem dX6_phases_107 : decode cX6_phases 107 = .ok (.laload, 1) := by decide +kernel
theorem dX6_phases_108 : decode cX6_phases 108 = .ok (.l2i, 1) := by decide +kernel
theorem dX6_phases_109 : decode cX6_phases 109 = .ok (.iastore, 1) := by decide +kernel
theorem dX6_phases_110 : decode cX6_phases 110 = .ok (.iinc 2 1, 3) := by decide +kernel
theorem dX6_phases_113 : decode cX6_phases 113 = .ok (.goto (-29), 3) := by decide +kernel
theorem dX6_phases_116 : decode cX6_phases 116 = .ok (.iconst 1, 1) := by decide +kernel
theorem dX6_phases_117 : decode cX6_phases 117 = .ok (.ireturn, 1) := by decide +kernel
theorem dX6_road_0 : decode cX6_road 0 = .ok (.aload_n 0, 1) := by decide +kernel
theorem dX6_road_1 : decode cX6_road 1 = .ok (.iconst 0, 1) := by decide +kernel
theorem dX6_road_2 : decode cX6_road 2 = .ok (.putfield 117, 3) := by decide +kernel
theorem dX6_road_5 : decode cX6_road 5 = .ok (.aload_n 0, 1) := by decide +kernel
theorem dX6_road_6 : decode cX6_road 6 = .ok (.iconst 0, 1) := by decide +kernel
theorem dX6_road_7 : decode cX6_road 7 = .ok (.putfield 120, 3) := by decide +kernel
theorem dX6_road_10 : decode cX6_road 10 = .ok (.aload_n 0, 1) := by decide +kernel
theorem dX6_road_11 : decode cX6_road 11 = .ok (.iload_n 1, 1) := by decide +kernel
theorem dX6_road_12 : decode cX6_road 12 = .ok (.invokevirtual 154, 3) := by decide +kernel
theorem dX6_road_15 : decode cX6_road 15 = .ok (.ifCond .eq 11, 3) := by decide +kernel
theorem dX6_road_18 : decode cX6_road 18 = .ok (.aload_n 0, 1) := by decide +kernel
theorem dX6_road_19 : decode cX6_road 19 = .ok (.iload_n 2, 1) := by decide +kernel
theorem dX6_road_20 : decode cX6_road 20 = .ok (.invokevirtual 154, 3) := by decide +kernel
theorem dX6_road_23 : decode cX6_road 23 = .ok (.ifCond .ne 9, 3) := by decide +kernel
theorem dX6_road_26 : decode cX6_road 26 = .ok (.aload_n 0, 1) := by decide +kernel
theorem dX6_road_27 : decode cX6_road 27 = .ok (.iconst 2, 1) := by decide +kernel
theorem dX6_road_28 : decode cX6_road 28 = .ok (.invokevirtual 123, 3) := by decide +kernel
theorem dX6_road_31 : decode cX6_road 31 = .ok (.ireturn, 1) := by decide +kernel
theorem dX6_road_32 : decode cX6_road 32 = .ok (.aload_n 0, 1) := by decide +kernel
theorem dX6_road_33 : decode cX6_road 33 = .ok (.getfield 41, 3) := by decide +kernel
theorem dX6_road_36 : decode cX6_road 36 = .ok (.bipush 24, 2) := by decide +kernel
theorem dX6_road_38 : decode cX6_road 38 = .ok (.iload_n 1, 1) := by decide +kernel
theorem dX6_road_39 : decode cX6_road 39 = .ok (.imul, 1) := by decide +kernel
theorem dX6_road_40 : decode cX6_road 40 = .ok (.iload_n 2, 1) := by decide +kernel
theorem dX6_road_41 : decode cX6_road 41 = .ok (.iadd, 1) := by decide +kernel
theorem dX6_road_42 : decode cX6_road 42 = .ok (.iload_n 3, 1) := by decide +kernel
theorem dX6_road_43 : decode cX6_road 43 = .ok (.bastore, 1) := by decide +kernel
theorem dX6_road_44 : decode cX6_road 44 = .ok (.iconst 1, 1) := by decide +kernel
theorem dX6_road_45 : decode cX6_road 45 = .ok (.ireturn, 1) := by decide +kernel
theorem dX6_roads_0 : decode cX6_roads 0 = .ok (.aload_n 0, 1) := by decide +kernel
theorem dX6_roads_1 : decode cX6_roads 1 = .ok (.iconst 0, 1) := by decide +kernel
theorem dX6_roads_2 : decode cX6_roads 2 = .ok (.putfield 117, 3) := by decide +kernel
theorem dX6_roads_5 : decode cX6_roads 5 = .ok (.aload_n 0, 1) := by decide +kernel
theorem dX6_roads_6 : decode cX6_roads 6 = .ok (.iconst 0, 1) := by decide +kernel
theorem dX6_roads_7 : decode cX6_roads 7 = .ok (.putfield 120, 3) := by decide +kernel
theorem dX6_roads_10 : decode cX6_roads 10 = .ok (.iload_n 1, 1) := by decide +kernel
theorem dX6_roads_11 : decode cX6_roads 11 = .ok (.ifCond .lt 8, 3) := by decide +kernel
theorem dX6_roads_14 : decode cX6_roads 14 = .ok (.iload_n 1, 1) := by decide +kernel
theorem dX6_roads_15 : decode cX6_roads 15 = .ok (.iconst 3, 1) := by decide +kernel
theorem dX6_roads_16 : decode cX6_roads 16 = .ok (.if_icmp .le 9, 3) := by decide +kernel
theorem dX6_roads_19 : decode cX6_roads 19 = .ok (.aload_n 0, 1) := by decide +kernel
theorem dX6_roads_20 : decode cX6_roads 20 = .ok (.iconst 2, 1) := by decide +kernel
theorem dX6_roads_21 : decode cX6_roads 21 = .ok (.invokevirtual 123, 3) := by decide +kernel
theorem dX6_roads_24 : decode cX6_roads 24 = .ok (.ireturn, 1) := by decide +kernel
theorem dX6_roads_25 : decode cX6_roads 25 = .ok (.iconst 0, 1) := by decide +kernel
theorem dX6_roads_26 : decode cX6_roads 26 = .ok (.istore_n 2, 1) := by decide +kernel
theorem dX6_roads_27 : decode cX6_roads 27 = .ok (.iload_n 2, 1) := by decide +kernel
theorem dX6_roads_28 : decode cX6_roads 28 = .ok (.aload_n 0, 1) := by decide +kernel
theorem dX6_roads_29 : decode cX6_roads 29 = .ok (.getfield 141, 3) := by decide +kernel
theorem dX6_roads_32 : decode cX6_roads 32 = .ok (.if_icmp .ge 132, 3) := by decide +kernel
theorem dX6_roads_35 : decode cX6_roads 35 = .ok (.iconst 0, 1) := by decide +kernel
theorem dX6_roads_36 : decode cX6_roads 36 = .ok (.istore_n 3, 1) := by decide +kernel
theorem dX6_roads_37 : decode cX6_roads 37 = .ok (.iload_n 3, 1) := by decide +kernel
theorem dX6_roads_38 : decode cX6_roads 38 = .ok (.aload_n 0, 1) := by decide +kernel
theorem dX6_roads_39 : decode cX6_roads 39 = .ok (.getfield 141, 3) := by decide +kernel
theorem dX6_roads_42 : decode cX6_roads 42 = .ok (.if_icmp .ge 116, 3) := by decide +kernel
theorem dX6_roads_45 : decode cX6_roads 45 = .ok (.iload_n 3, 1) := by decide +kernel
theorem dX6_roads_46 : decode cX6_roads 46 = .ok (.iload_n 2, 1) := by decide +kernel
theorem dX6_roads_47 : decode cX6_roads 47 = .ok (.aload_n 0, 1) := by decide +kernel
theorem dX6_roads_48 : decode cX6_roads 48 = .ok (.getfield 141, 3) := by decide +kernel
theorem dX6_roads_51 : decode cX6_roads 51 = .ok (.iadd, 1) := by decide +kernel
theorem dX6_roads_52 : decode cX6_roads 52 = .ok (.iconst 1, 1) := by decide +kernel
theorem dX6_roads_53 : decode cX6_roads 53 = .ok (.isub, 1) := by decide +kernel
theorem dX6_roads_54 : decode cX6_roads 54 = .ok (.aload_n 0, 1) := by decide +kernel
theorem dX6_roads_55 : decode cX6_roads 55 = .ok (.getfield 141, 3) := by decide +kernel
theorem dX6_roads_58 : decode cX6_roads 58 = .ok (.irem, 1) := by decide +kernel
theorem dX6_roads_59 : decode cX6_roads 59 = .ok (.if_icmp .ne 7, 3) := by decide +kernel
theorem dX6_roads_62 : decode cX6_roads 62 = .ok (.iconst 1, 1) := by decide +kernel
theorem dX6_roads_63 : decode cX6_roads 63 = .ok (.goto 4, 3) := by decide +kernel
theorem dX6_roads_66 : decode cX6_roads 66 = .ok (.iconst 0, 1) := by decide +kernel
theorem dX6_roads_67 : decode cX6_roads 67 = .ok (.istore 4, 2) := by decide +kernel
theorem dX6_roads_69 : decode cX6_roads 69 = .ok (.iload_n 2, 1) := by decide +kernel
theorem dX6_roads_70 : decode cX6_roads 70 = .ok (.iload_n 3, 1) := by decide +kernel
theorem dX6_roads_71 : decode cX6_roads 71 = .ok (.aload_n 0, 1) := by decide +kernel
theorem dX6_roads_72 : decode cX6_roads 72 = .ok (.getfield 141, 3) := by decide +kernel
theorem dX6_roads_75 : decode cX6_roads 75 = .ok (.iadd, 1) := by decide +kernel
theorem dX6_roads_76 : decode cX6_roads 76 = .ok (.iconst 1, 1) := by decide +kernel
theorem dX6_roads_77 : decode cX6_roads 77 = .ok (.isub, 1) := by decide +kernel
theorem dX6_roads_78 : decode cX6_roads 78 = .ok (.aload_n 0, 1) := by decide +kernel
theorem dX6_roads_79 : decode cX6_roads 79 = .ok (.getfield 141, 3) := by decide +kernel
theorem dX6_roads_82 : decode cX6_roads 82 = .ok (.irem, 1) := by decide +kernel
theorem dX6_roads_83 : decode cX6_roads 83 = .ok (.if_icmp .ne 7, 3) := by decide +kernel
theorem dX6_roads_86 : decode cX6_roads 86 = .ok (.iconst 1, 1) := by decide +kernel
theorem dX6_roads_87 : decode cX6_roads 87 = .ok (.goto 4, 3) := by decide +kernel
theorem dX6_roads_90 : decode cX6_roads 90 = .ok (.iconst 0, 1) := by decide +kernel
theorem dX6_roads_91 : decode cX6_roads 91 = .ok (.istore 5, 2) := by decide +kernel
theorem dX6_roads_93 : decode cX6_roads 93 = .ok (.aload_n 0, 1) := by decide +kernel
theorem dX6_roads_94 : decode cX6_roads 94 = .ok (.getfield 41, 3) := by decide +kernel
theorem dX6_roads_97 : decode cX6_roads 97 = .ok (.bipush 24, 2) := by decide +kernel
theorem dX6_roads_99 : decode cX6_roads 99 = .ok (.iload_n 2, 1) := by decide +kernel
theorem dX6_roads_100 : decode cX6_roads 100 = .ok (.imul, 1) := by decide +kernel
theorem dX6_roads_101 : decode cX6_roads 101 = .ok (.iload_n 3, 1) := by decide +kernel
theorem dX6_roads_102 : decode cX6_roads 102 = .ok (.iadd, 1) := by decide +kernel
theorem dX6_roads_103 : decode cX6_roads 103 = .ok (.iload_n 1, 1) := by decide +kernel
theorem dX6_roads_104 : decode cX6_roads 104 = .ok (.iconst 1, 1) := by decide +kernel
theorem dX6_roads_105 : decode cX6_roads 105 = .ok (.if_icmp .ne 16, 3) := by decide +kernel
theorem dX6_roads_108 : decode cX6_roads 108 = .ok (.iload_n 2, 1) := by decide +kernel
theorem dX6_roads_109 : decode cX6_roads 109 = .ok (.iload_n 3, 1) := by decide +kernel
theorem dX6_roads_110 : decode cX6_roads 110 = .ok (.if_icmp .eq 7, 3) := by decide +kernel
theorem dX6_roads_113 : decode cX6_roads 113 = .ok (.iconst 1, 1) := by decide +kernel
theorem dX6_roads_114 : decode cX6_roads 114 = .ok (.goto 37, 3) := by decide +kernel
theorem dX6_roads_117 : decode cX6_roads 117 = .ok (.iconst 0, 1) := by decide +kernel
theorem dX6_roads_118 : decode cX6_roads 118 = .ok (.goto 33, 3) := by decide +kernel
theorem dX6_roads_121 : decode cX6_roads 121 = .ok (.iload_n 1, 1) := by decide +kernel
theorem dX6_roads_122 : decode cX6_roads 122 = .ok (.iconst 2, 1) := by decide +kernel
theorem dX6_roads_123 : decode cX6_roads 123 = .ok (.if_icmp .ne 8, 3) := by decide +kernel
theorem dX6_roads_126 : decode cX6_roads 126 = .ok (.iload 4, 2) := by decide +kernel
theorem dX6_roads_128 : decode cX6_roads 128 = .ok (.goto 23, 3) := by decide +kernel
theorem dX6_roads_131 : decode cX6_roads 131 = .ok (.iload_n 1, 1) := by decide +kernel
theorem dX6_roads_132 : decode cX6_roads 132 = .ok (.iconst 3, 1) := by decide +kernel
theorem dX6_roads_133 : decode cX6_roads 133 = .ok (.if_icmp .ne 17, 3) := by decide +kernel
theorem dX6_roads_136 : decode cX6_roads 136 = .ok (.iload 4, 2) := by decide +kernel
theorem dX6_roads_138 : decode cX6_roads 138 = .ok (.ifCond .ne 8, 3) := by decide +kernel
theorem dX6_roads_141 : decode cX6_roads 141 = .ok (.iload 5, 2) := by decide +kernel
theorem dX6_roads_143 : decode cX6_roads 143 = .ok (.ifCond .eq 7, 3) := by decide +kernel
theorem dX6_roads_146 : decode cX6_roads 146 = .ok (.iconst 1, 1) := by decide +kernel
theorem dX6_roads_147 : decode cX6_roads 147 = .ok (.goto 4, 3) := by decide +kernel
theorem dX6_roads_150 : decode cX6_roads 150 = .ok (.iconst 0, 1) := by decide +kernel
theorem dX6_roads_151 : decode cX6_roads 151 = .ok (.bastore, 1) := by decide +kernel
theorem dX6_roads_152 : decode cX6_roads 152 = .ok (.iinc 3 1, 3) := by decide +kernel
theorem dX6_roads_155 : decode cX6_roads 155 = .ok (.goto (-118), 3) := by decide +kernel
theorem dX6_roads_158 : decode cX6_roads 158 = .ok (.iinc 2 1, 3) := by decide +kernel
theorem dX6_roads_161 : decode cX6_roads 161 = .ok (.goto (-134), 3) := by decide +kernel
theorem dX6_roads_164 : decode cX6_roads 164 = .ok (.iconst 1, 1) := by decide +kernel
theorem dX6_roads_165 : decode cX6_roads 165 = .ok (.ireturn, 1) := by decide +kernel
theorem dX6_push_0 : decode cX6_push 0 = .ok (.aload_n 0, 1) := by decide +kernel
theorem dX6_push_1 : decode cX6_push 1 = .ok (.iconst 0, 1) := by decide +kernel
theorem dX6_push_2 : decode cX6_push 2 = .ok (.putfield 117, 3) := by decide +kernel
theorem dX6_push_5 : decode cX6_push 5 = .ok (.aload_n 0, 1) := by decide +kernel
theorem dX6_push_6 : decode cX6_push 6 = .ok (.aload_n 0, 1) := by decide +kernel
theorem dX6_push_7 : decode cX6_push 7 = .ok (.iload_n 1, 1) := by decide +kernel
theorem dX6_push_8 : decode cX6_push 8 = .ok (.invokevirtual 127, 3) := by decide +kernel
theorem dX6_push_11 : decode cX6_push 11 = .ok (.putfield 120, 3) := by decide +kernel
theorem dX6_push_14 : decode cX6_push 14 = .ok (.aload_n 0, 1) := by decide +kernel
theorem dX6_push_15 : decode cX6_push 15 = .ok (.getfield 120, 3) := by decide +kernel
theorem dX6_push_18 : decode cX6_push 18 = .ok (.ifCond .le 5, 3) := by decide +kernel
theorem dX6_push_21 : decode cX6_push 21 = .ok (.iconst 0, 1) := by decide +kernel
theorem dX6_push_22 : decode cX6_push 22 = .ok (.ireturn, 1) := by decide +kernel
theorem dX6_push_23 : decode cX6_push 23 = .ok (.iload_n 2, 1) := by decide +kernel
theorem dX6_push_24 : decode cX6_push 24 = .ok (.iconst 1, 1) := by decide +kernel
theorem dX6_push_25 : decode cX6_push 25 = .ok (.if_icmp .lt 9, 3) := by decide +kernel
theorem dX6_push_28 : decode cX6_push 28 = .ok (.iload_n 2, 1) := by decide +kernel
theorem dX6_push_29 : decode cX6_push 29 = .ok (.bipush 16, 2) := by decide +kernel
theorem dX6_push_31 : decode cX6_push 31 = .ok (.if_icmp .le 9, 3) := by decide +kernel
theorem dX6_push_34 : decode cX6_push 34 = .ok (.aload_n 0, 1) := by decide +kernel
theorem dX6_push_35 : decode cX6_push 35 = .ok (.iconst 2, 1) := by decide +kernel
theorem dX6_push_36 : decode cX6_push 36 = .ok (.invokevirtual 123, 3) := by decide +kernel
theorem dX6_push_39 : decode cX6_push 39 = .ok (.ireturn, 1) := by decide +kernel
theorem dX6_push_40 : decode cX6_push 40 = .ok (.iload_n 2, 1) := by decide +kernel
theorem dX6_push_41 : decode cX6_push 41 = .ok (.aload_n 0, 1) := by decide +kernel
theorem dX6_push_42 : decode cX6_push 42 = .ok (.getfield 15, 3) := by decide +kernel
theorem dX6_push_45 : decode cX6_push 45 = .ok (.iload_n 1, 1) := by decide +kernel
theorem dX6_push_46 : decode cX6_push 46 = .ok (.iaload, 1) := by decide +kernel
theorem dX6_push_47 : decode cX6_push 47 = .ok (.if_icmp .le 9, 3) := by decide +kernel
theorem dX6_push_50 : decode cX6_push 50 = .ok (.aload_n 0, 1) := by decide +kernel
theorem dX6_push_51 : decode cX6_push 51 = .ok (.iconst 4, 1) := by decide +kernel
theorem dX6_push_52 : decode cX6_push 52 = .ok (.invokevirtual 123, 3) := by decide +kernel
theorem dX6_push_55 : decode cX6_push 55 = .ok (.ireturn, 1) := by decide +kernel
theorem dX6_push_56 : decode cX6_push 56 = .ok (.iconst 0, 1) := by decide +kernel
theorem dX6_push_57 : decode cX6_push 57 = .ok (.istore_n 3, 1) := by decide +kernel
theorem dX6_push_58 : decode cX6_push 58 = .ok (.iload_n 3, 1) := by decide +kernel
theorem dX6_push_59 : decode cX6_push 59 = .ok (.iload_n 2, 1) := by decide +kernel
theorem dX6_push_60 : decode cX6_push 60 = .ok (.if_icmp .ge 49, 3) := by decide +kernel
theorem dX6_push_63 : decode cX6_push 63 = .ok (.aload_n 0, 1) := by decide +kernel
theorem dX6_push_64 : decode cX6_push 64 = .ok (.getfield 18, 3) := by decide +kernel
theorem dX6_push_67 : decode cX6_push 67 = .ok (.bipush 100, 2) := by decide +kernel
theorem dX6_push_69 : decode cX6_push 69 = .ok (.iload_n 1, 1) := by decide +kernel
theorem dX6_push_70 : decode cX6_push 70 = .ok (.imul, 1) := by decide +kernel
theorem dX6_push_71 : decode cX6_push 71 = .ok (.iload_n 3, 1) := by decide +kernel
theorem dX6_push_72 : decode cX6_push 72 = .ok (.iadd, 1) := by decide +kernel
theorem dX6_push_73 : decode cX6_push 73 = .ok (.laload, 1) := by decide +kernel
theorem dX6_push_74 : decode cX6_push 74 = .ok (.lconst 0, 1) := by decide +kernel
theorem dX6_push_75 : decode cX6_push 75 = .ok (.lcmp, 1) := by decide +kernel
theorem dX6_push_76 : decode cX6_push 76 = .ok (.ifCond .lt 21, 3) := by decide +kernel
theorem dX6_push_79 : decode cX6_push 79 = .ok (.aload_n 0, 1) := by decide +kernel
theorem dX6_push_80 : decode cX6_push 80 = .ok (.getfield 18, 3) := by decide +kernel
theorem dX6_push_83 : decode cX6_push 83 = .ok (.bipush 100, 2) := by decide +kernel
theorem dX6_push_85 : decode cX6_push 85 = .ok (.iload_n 1, 1) := by decide +kernel
theorem dX6_push_86 : decode cX6_push 86 = .ok (.imul, 1) := by decide +kernel
theorem dX6_push_87 : decode cX6_push 87 = .ok (.iload_n 3, 1) := by decide +kernel
theorem dX6_push_88 : decode cX6_push 88 = .ok (.iadd, 1) := by decide +kernel
theorem dX6_push_89 : decode cX6_push 89 = .ok (.laload, 1) := by decide +kernel
theorem dX6_push_90 : decode cX6_push 90 = .ok (.ldc2_w 157, 3) := by decide +kernel
theorem dX6_push_93 : decode cX6_push 93 = .ok (.lcmp, 1) := by decide +kernel
theorem dX6_push_94 : decode cX6_push 94 = .ok (.ifCond .le 9, 3) := by decide +kernel
theorem dX6_push_97 : decode cX6_push 97 = .ok (.aload_n 0, 1) := by decide +kernel
theorem dX6_push_98 : decode cX6_push 98 = .ok (.iconst 2, 1) := by decide +kernel
theorem dX6_push_99 : decode cX6_push 99 = .ok (.invokevirtual 123, 3) := by decide +kernel
theorem dX6_push_102 : decode cX6_push 102 = .ok (.ireturn, 1) := by decide +kernel
theorem dX6_push_103 : decode cX6_push 103 = .ok (.iinc 3 1, 3) := by decide +kernel
theorem dX6_push_106 : decode cX6_push 106 = .ok (.goto (-48), 3) := by decide +kernel
theorem dX6_push_109 : decode cX6_push 109 = .ok (.aload_n 0, 1) := by decide +kernel
theorem dX6_push_110 : decode cX6_push 110 = .ok (.iload_n 2, 1) := by decide +kernel
theorem dX6_push_111 : decode cX6_push 111 = .ok (.putfield 26, 3) := by decide +kernel
theorem dX6_push_114 : decode cX6_push 114 = .ok (.iconst 0, 1) := by decide +kernel
theorem dX6_push_115 : decode cX6_push 115 = .ok (.istore_n 3, 1) := by decide +kernel
theorem dX6_push_116 : decode cX6_push 116 = .ok (.iload_n 3, 1) := by decide +kernel
theorem dX6_push_117 : decode cX6_push 117 = .ok (.iload_n 2, 1) := by decide +kernel
theorem dX6_push_118 : decode cX6_push 118 = .ok (.if_icmp .ge 27, 3) := by decide +kernel
theorem dX6_push_121 : decode cX6_push 121 = .ok (.aload_n 0, 1) := by decide +kernel
theorem dX6_push_122 : decode cX6_push 122 = .ok (.getfield 35, 3) := by decide +kernel
theorem dX6_push_125 : decode cX6_push 125 = .ok (.iload_n 3, 1) := by decide +kernel
theorem dX6_push_126 : decode cX6_push 126 = .ok (.aload_n 0, 1) := by decide +kernel
theorem dX6_push_127 : decode cX6_push 127 = .ok (.getfield 18, 3) := by decide +kernel
theorem dX6_push_130 : decode cX6_push 130 = .ok (.bipush 100, 2) := by decide +kernel
theorem dX6_push_132 : decode cX6_push 132 = .ok (.iload_n 1, 1) := by decide +kernel
theorem dX6_push_133 : decode cX6_push 133 = .ok (.imul, 1) := by decide +kernel
theorem dX6_push_134 : decode cX6_push 134 = .ok (.iload_n 3, 1) := by decide +kernel
theorem dX6_push_135 : decode cX6_push 135 = .ok (.iadd, 1) := by decide +kernel
theorem dX6_push_136 : decode cX6_push 136 = .ok (.laload, 1) := by decide +kernel
theorem dX6_push_137 : decode cX6_push 137 = .ok (.l2i, 1) := by decide +kernel
theorem dX6_push_138 : decode cX6_push 138 = .ok (.iastore, 1) := by decide +kernel
theorem dX6_push_139 : decode cX6_push 139 = .ok (.iinc 3 1, 3) := by decide +kernel
theorem dX6_push_142 : decode cX6_push 142 = .ok (.goto (-26), 3) := by decide +kernel
theorem dX6_push_145 : decode cX6_push 145 = .ok (.iconst 1, 1) := by decide +kernel
theorem dX6_push_146 : decode cX6_push 146 = .ok (.ireturn, 1) := by decide +kernel
theorem dX6_clear_0 : decode cX6_clear 0 = .ok (.aload_n 0, 1) := by decide +kernel
theorem dX6_clear_1 : decode cX6_clear 1 = .ok (.iconst 0, 1) := by decide +kernel
theorem dX6_clear_2 : decode cX6_clear 2 = .ok (.putfield 117, 3) := by decide +kernel
theorem dX6_clear_5 : decode cX6_clear 5 = .ok (.aload_n 0, 1) := by decide +kernel
theorem dX6_clear_6 : decode cX6_clear 6 = .ok (.iconst 0, 1) := by decide +kernel
theorem dX6_clear_7 : decode cX6_clear 7 = .ok (.putfield 120, 3) := by decide +kernel
theorem dX6_clear_10 : decode cX6_clear 10 = .ok (.aload_n 0, 1) := by decide +kernel
theorem dX6_clear_11 : decode cX6_clear 11 = .ok (.invokevirtual 159, 3) := by decide +kernel
theorem dX6_clear_14 : decode cX6_clear 14 = .ok (.iconst 1, 1) := by decide +kernel
theorem dX6_clear_15 : decode cX6_clear 15 = .ok (.ireturn, 1) := by decide +kernel
theorem dX6_pulled_0 : decode cX6_pulled 0 = .ok (.lconst 0, 1) := by decide +kernel
theorem dX6_pulled_1 : decode cX6_pulled 1 = .ok (.lstore_n 3, 1) := by decide +kernel
theorem dX6_pulled_2 : decode cX6_pulled 2 = .ok (.iconst 0, 1) := by decide +kernel
theorem dX6_pulled_3 : decode cX6_pulled 3 = .ok (.istore 5, 2) := by decide +kernel
theorem dX6_pulled_5 : decode cX6_pulled 5 = .ok (.iconst 0, 1) := by decide +kernel
theorem dX6_pulled_6 : decode cX6_pulled 6 = .ok (.istore 6, 2) := by decide +kernel
theorem dX6_pulled_8 : decode cX6_pulled 8 = .ok (.iload 6, 2) := by decide +kernel
theorem dX6_pulled_10 : decode cX6_pulled 10 = .ok (.aload_n 0, 1) := by decide +kernel
theorem dX6_pulled_11 : decode cX6_pulled 11 = .ok (.getfield 141, 3) := by decide +kernel
theorem dX6_pulled_14 : decode cX6_pulled 14 = .ok (.if_icmp .ge 82, 3) := by decide +kernel
theorem dX6_pulled_17 : decode cX6_pulled 17 = .ok (.iload 6, 2) := by decide +kernel
theorem dX6_pulled_19 : decode cX6_pulled 19 = .ok (.iload_n 2, 1) := by decide +kernel
theorem dX6_pulled_20 : decode cX6_pulled 20 = .ok (.if_icmp .eq 70, 3) := by decide +kernel
theorem dX6_pulled_23 : decode cX6_pulled 23 = .ok (.aload_n 0, 1) := by decide +kernel
theorem dX6_pulled_24 : decode cX6_pulled 24 = .ok (.getfield 41, 3) := by decide +kernel
theorem dX6_pulled_27 : decode cX6_pulled 27 = .ok (.bipush 24, 2) := by decide +kernel
theorem dX6_pulled_29 : decode cX6_pulled 29 = .ok (.iload_n 2, 1) := by decide +kernel
theorem dX6_pulled_30 : decode cX6_pulled 30 = .ok (.imul, 1) := by decide +kernel
theorem dX6_pulled_31 : decode cX6_pulled 31 = .ok (.iload 6, 2) := by decide +kernel
theorem dX6_pulled_33 : decode cX6_pulled 33 = .ok (.iadd, 1) := by decide +kernel
theorem dX6_pulled_34 : decode cX6_pulled 34 = .ok (.baload, 1) := by decide +kernel
theorem dX6_pulled_35 : decode cX6_pulled 35 = .ok (.ifCond .ne 6, 3) := by decide +kernel
theorem dX6_pulled_38 : decode cX6_pulled 38 = .ok (.goto 52, 3) := by decide +kernel
theorem dX6_pulled_41 : decode cX6_pulled 41 = .ok (.aload_n 1, 1) := by decide +kernel
theorem dX6_pulled_42 : decode cX6_pulled 42 = .ok (.iload 6, 2) := by decide +kernel
theorem dX6_pulled_44 : decode cX6_pulled 44 = .ok (.iaload, 1) := by decide +kernel
theorem dX6_pulled_45 : decode cX6_pulled 45 = .ok (.aload_n 1, 1) := by decide +kernel
theorem dX6_pulled_46 : decode cX6_pulled 46 = .ok (.iload_n 2, 1) := by decide +kernel
theorem dX6_pulled_47 : decode cX6_pulled 47 = .ok (.iaload, 1) := by decide +kernel
theorem dX6_pulled_48 : decode cX6_pulled 48 = .ok (.isub, 1) := by decide +kernel
theorem dX6_pulled_49 : decode cX6_pulled 49 = .ok (.aload_n 0, 1) := by decide +kernel
theorem dX6_pulled_50 : decode cX6_pulled 50 = .ok (.getfield 22, 3) := by decide +kernel
theorem dX6_pulled_53 : decode cX6_pulled 53 = .ok (.iadd, 1) := by decide +kernel
theorem dX6_pulled_54 : decode cX6_pulled 54 = .ok (.aload_n 0, 1) := by decide +kernel
theorem dX6_pulled_55 : decode cX6_pulled 55 = .ok (.getfield 22, 3) := by decide +kernel
theorem dX6_pulled_58 : decode cX6_pulled 58 = .ok (.irem, 1) := by decide +kernel
theorem dX6_pulled_59 : decode cX6_pulled 59 = .ok (.istore 7, 2) := by decide +kernel
theorem dX6_pulled_61 : decode cX6_pulled 61 = .ok (.iconst 2, 1) := by decide +kernel
theorem dX6_pulled_62 : decode cX6_pulled 62 = .ok (.iload 7, 2) := by decide +kernel
theorem dX6_pulled_64 : decode cX6_pulled 64 = .ok (.imul, 1) := by decide +kernel
theorem dX6_pulled_65 : decode cX6_pulled 65 = .ok (.aload_n 0, 1) := by decide +kernel
theorem dX6_pulled_66 : decode cX6_pulled 66 = .ok (.getfield 22, 3) := by decide +kernel
theorem dX6_pulled_69 : decode cX6_pulled 69 = .ok (.if_icmp .le 12, 3) := by decide +kernel
theorem dX6_pulled_72 : decode cX6_pulled 72 = .ok (.iload 7, 2) := by decide +kernel
theorem dX6_pulled_74 : decode cX6_pulled 74 = .ok (.aload_n 0, 1) := by decide +kernel
theorem dX6_pulled_75 : decode cX6_pulled 75 = .ok (.getfield 22, 3) := by decide +kernel
theorem dX6_pulled_78 : decode cX6_pulled 78 = .ok (.isub, 1) := by decide +kernel
theorem dX6_pulled_79 : decode cX6_pulled 79 = .ok (.istore 7, 2) := by decide +kernel
theorem dX6_pulled_81 : decode cX6_pulled 81 = .ok (.lload_n 3, 1) := by decide +kernel
theorem dX6_pulled_82 : decode cX6_pulled 82 = .ok (.iload 7, 2) := by decide +kernel
theorem dX6_pulled_84 : decode cX6_pulled 84 = .ok (.i2l, 1) := by decide +kernel
theorem dX6_pulled_85 : decode cX6_pulled 85 = .ok (.ladd, 1) := by decide +kernel
theorem dX6_pulled_86 : decode cX6_pulled 86 = .ok (.lstore_n 3, 1) := by decide +kernel
theorem dX6_pulled_87 : decode cX6_pulled 87 = .ok (.iinc 5 1, 3) := by decide +kernel
theorem dX6_pulled_90 : decode cX6_pulled 90 = .ok (.iinc 6 1, 3) := by decide +kernel
theorem dX6_pulled_93 : decode cX6_pulled 93 = .ok (.goto (-85), 3) := by decide +kernel
theorem dX6_pulled_96 : decode cX6_pulled 96 = .ok (.lload_n 3, 1) := by decide +kernel
theorem dX6_pulled_97 : decode cX6_pulled 97 = .ok (.iload 5, 2) := by decide +kernel
theorem dX6_pulled_99 : decode cX6_pulled 99 = .ok (.iconst 1, 1) := by decide +kernel
theorem dX6_pulled_100 : decode cX6_pulled 100 = .ok (.iadd, 1) := by decide +kernel
theorem dX6_pulled_101 : decode cX6_pulled 101 = .ok (.i2l, 1) := by decide +kernel
theorem dX6_pulled_102 : decode cX6_pulled 102 = .ok (.ldiv, 1) := by decide +kernel
theorem dX6_pulled_103 : decode cX6_pulled 103 = .ok (.l2i, 1) := by decide +kernel
theorem dX6_pulled_104 : decode cX6_pulled 104 = .ok (.istore 6, 2) := by decide +kernel
theorem dX6_pulled_106 : decode cX6_pulled 106 = .ok (.aload_n 1, 1) := by decide +kernel
theorem dX6_pulled_107 : decode cX6_pulled 107 = .ok (.iload_n 2, 1) := by decide +kernel
theorem dX6_pulled_108 : decode cX6_pulled 108 = .ok (.iaload, 1) := by decide +kernel
theorem dX6_pulled_109 : decode cX6_pulled 109 = .ok (.iconst 1, 1) := by decide +kernel
theorem dX6_pulled_110 : decode cX6_pulled 110 = .ok (.iadd, 1) := by decide +kernel
theorem dX6_pulled_111 : decode cX6_pulled 111 = .ok (.iload 6, 2) := by decide +kernel
theorem dX6_pulled_113 : decode cX6_pulled 113 = .ok (.iadd, 1) := by decide +kernel
theorem dX6_pulled_114 : decode cX6_pulled 114 = .ok (.aload_n 0, 1) := by decide +kernel
theorem dX6_pulled_115 : decode cX6_pulled 115 = .ok (.getfield 22, 3) := by decide +kernel
theorem dX6_pulled_118 : decode cX6_pulled 118 = .ok (.irem, 1) := by decide +kernel
theorem dX6_pulled_119 : decode cX6_pulled 119 = .ok (.aload_n 0, 1) := by decide +kernel
theorem dX6_pulled_120 : decode cX6_pulled 120 = .ok (.getfield 22, 3) := by decide +kernel
theorem dX6_pulled_123 : decode cX6_pulled 123 = .ok (.iadd, 1) := by decide +kernel
theorem dX6_pulled_124 : decode cX6_pulled 124 = .ok (.aload_n 0, 1) := by decide +kernel
theorem dX6_pulled_125 : decode cX6_pulled 125 = .ok (.getfield 22, 3) := by decide +kernel
theorem dX6_pulled_128 : decode cX6_pulled 128 = .ok (.irem, 1) := by decide +kernel
theorem dX6_pulled_129 : decode cX6_pulled 129 = .ok (.ireturn, 1) := by decide +kernel
theorem dX6_tick_0 : decode cX6_tick 0 = .ok (.iconst 0, 1) := by decide +kernel
theorem dX6_tick_1 : decode cX6_tick 1 = .ok (.istore_n 2, 1) := by decide +kernel
theorem dX6_tick_2 : decode cX6_tick 2 = .ok (.iload_n 2, 1) := by decide +kernel
theorem dX6_tick_3 : decode cX6_tick 3 = .ok (.aload_n 0, 1) := by decide +kernel
theorem dX6_tick_4 : decode cX6_tick 4 = .ok (.getfield 141, 3) := by decide +kernel
theorem dX6_tick_7 : decode cX6_tick 7 = .ok (.if_icmp .ge 76, 3) := by decide +kernel
theorem dX6_tick_10 : decode cX6_tick 10 = .ok (.aload_n 0, 1) := by decide +kernel
theorem dX6_tick_11 : decode cX6_tick 11 = .ok (.getfield 51, 3) := by decide +kernel
theorem dX6_tick_14 : decode cX6_tick 14 = .ok (.iload_n 2, 1) := by decide +kernel
theorem dX6_tick_15 : decode cX6_tick 15 = .ok (.iconst 0, 1) := by decide +kernel
theorem dX6_tick_16 : decode cX6_tick 16 = .ok (.bastore, 1) := by decide +kernel
theorem dX6_tick_17 : decode cX6_tick 17 = .ok (.aload_n 0, 1) := by decide +kernel
theorem dX6_tick_18 : decode cX6_tick 18 = .ok (.getfield 54, 3) := by decide +kernel
theorem dX6_tick_21 : decode cX6_tick 21 = .ok (.iload_n 2, 1) := by decide +kernel
theorem dX6_tick_22 : decode cX6_tick 22 = .ok (.iconst 0, 1) := by decide +kernel
theorem dX6_tick_23 : decode cX6_tick 23 = .ok (.bastore, 1) := by decide +kernel
theorem dX6_tick_24 : decode cX6_tick 24 = .ok (.aload_n 0, 1) := by decide +kernel
theorem dX6_tick_25 : decode cX6_tick 25 = .ok (.getfield 45, 3) := by decide +kernel
theorem dX6_tick_28 : decode cX6_tick 28 = .ok (.iload_n 2, 1) := by decide +kernel
theorem dX6_tick_29 : decode cX6_tick 29 = .ok (.aload_n 0, 1) := by decide +kernel
theorem dX6_tick_30 : decode cX6_tick 30 = .ok (.getfield 29, 3) := by decide +kernel
theorem dX6_tick_33 : decode cX6_tick 33 = .ok (.iload_n 2, 1) := by decide +kernel
theorem dX6_tick_34 : decode cX6_tick 34 = .ok (.iaload, 1) := by decide +kernel
theorem dX6_tick_35 : decode cX6_tick 35 = .ok (.iconst 1, 1) := by decide +kernel
theorem dX6_tick_36 : decode cX6_tick 36 = .ok (.if_icmp .ne 12, 3) := by decide +kernel
theorem dX6_tick_39 : decode cX6_tick 39 = .ok (.aload_n 0, 1) := by decide +kernel
theorem dX6_tick_40 : decode cX6_tick 40 = .ok (.aload_n 1, 1) := by decide +kernel
theorem dX6_tick_41 : decode cX6_tick 41 = .ok (.iload_n 2, 1) := by decide +kernel
theorem dX6_tick_42 : decode cX6_tick 42 = .ok (.invokevirtual 162, 3) := by decide +kernel
theorem dX6_tick_45 : decode cX6_tick 45 = .ok (.goto 31, 3) := by decide +kernel
theorem dX6_tick_48 : decode cX6_tick 48 = .ok (.aload_n 0, 1) := by decide +kernel
theorem dX6_tick_49 : decode cX6_tick 49 = .ok (.getfield 29, 3) := by decide +kernel
theorem dX6_tick_52 : decode cX6_tick 52 = .ok (.iload_n 2, 1) := by decide +kernel
theorem dX6_tick_53 : decode cX6_tick 53 = .ok (.iaload, 1) := by decide +kernel
theorem dX6_tick_54 : decode cX6_tick 54 = .ok (.iconst 2, 1) := by decide +kernel
theorem dX6_tick_55 : decode cX6_tick 55 = .ok (.if_icmp .ne 11, 3) := by decide +kernel
theorem dX6_tick_58 : decode cX6_tick 58 = .ok (.aload_n 1, 1) := by decide +kernel
theorem dX6_tick_59 : decode cX6_tick 59 = .ok (.iload_n 2, 1) := by decide +kernel
theorem dX6_tick_60 : decode cX6_tick 60 = .ok (.iaload, 1) := by decide +kernel
theorem dX6_tick_61 : decode cX6_tick 61 = .ok (.iconst 1, 1) := by decide +kernel
theorem dX6_tick_62 : decode cX6_tick 62 = .ok (.iadd, 1) := by decide +kernel
theorem dX6_tick_63 : decode cX6_tick 63 = .ok (.goto 13, 3) := by decide +kernel
theorem dX6_tick_66 : decode cX6_tick 66 = .ok (.aload_n 1, 1) := by decide +kernel
theorem dX6_tick_67 : decode cX6_tick 67 = .ok (.iload_n 2, 1) := by decide +kernel
theorem dX6_tick_68 : decode cX6_tick 68 = .ok (.iaload, 1) := by decide +kernel
theorem dX6_tick_69 : decode cX6_tick 69 = .ok (.iconst 1, 1) := by decide +kernel
theorem dX6_tick_70 : decode cX6_tick 70 = .ok (.iadd, 1) := by decide +kernel
theorem dX6_tick_71 : decode cX6_tick 71 = .ok (.aload_n 0, 1) := by decide +kernel
theorem dX6_tick_72 : decode cX6_tick 72 = .ok (.getfield 22, 3) := by decide +kernel
theorem dX6_tick_75 : decode cX6_tick 75 = .ok (.irem, 1) := by decide +kernel
theorem dX6_tick_76 : decode cX6_tick 76 = .ok (.iastore, 1) := by decide +kernel
theorem dX6_tick_77 : decode cX6_tick 77 = .ok (.iinc 2 1, 3) := by decide +kernel
theorem dX6_tick_80 : decode cX6_tick 80 = .ok (.goto (-78), 3) := by decide +kernel
theorem dX6_tick_83 : decode cX6_tick 83 = .ok (.iconst 0, 1) := by decide +kernel
theorem dX6_tick_84 : decode cX6_tick 84 = .ok (.istore_n 2, 1) := by decide +kernel
theorem dX6_tick_85 : decode cX6_tick 85 = .ok (.iconst 0, 1) := by decide +kernel
theorem dX6_tick_86 : decode cX6_tick 86 = .ok (.istore_n 3, 1) := by decide +kernel
theorem dX6_tick_87 : decode cX6_tick 87 = .ok (.iload_n 3, 1) := by decide +kernel
theorem dX6_tick_88 : decode cX6_tick 88 = .ok (.aload_n 0, 1) := by decide +kernel
theorem dX6_tick_89 : decode cX6_tick 89 = .ok (.getfield 141, 3) := by decide +kernel
theorem dX6_tick_92 : decode cX6_tick 92 = .ok (.if_icmp .ge 52, 3) := by decide +kernel
theorem dX6_tick_95 : decode cX6_tick 95 = .ok (.aload_n 0, 1) := by decide +kernel
theorem dX6_tick_96 : decode cX6_tick 96 = .ok (.getfield 29, 3) := by decide +kernel
theorem dX6_tick_99 : decode cX6_tick 99 = .ok (.iload_n 3, 1) := by decide +kernel
theorem dX6_tick_100 : decode cX6_tick 100 = .ok (.iaload, 1) := by decide +kernel
theorem dX6_tick_101 : decode cX6_tick 101 = .ok (.iconst 2, 1) := by decide +kernel
theorem dX6_tick_102 : decode cX6_tick 102 = .ok (.if_icmp .ne 36, 3) := by decide +kernel
theorem dX6_tick_105 : decode cX6_tick 105 = .ok (.aload_n 0, 1) := by decide +kernel
theorem dX6_tick_106 : decode cX6_tick 106 = .ok (.getfield 45, 3) := by decide +kernel
theorem dX6_tick_109 : decode cX6_tick 109 = .ok (.iload_n 3, 1) := by decide +kernel
theorem dX6_tick_110 : decode cX6_tick 110 = .ok (.iaload, 1) := by decide +kernel
theorem dX6_tick_111 : decode cX6_tick 111 = .ok (.aload_n 0, 1) := by decide +kernel
theorem dX6_tick_112 : decode cX6_tick 112 = .ok (.getfield 22, 3) := by decide +kernel
theorem dX6_tick_115 : decode cX6_tick 115 = .ok (.if_icmp .ge 6, 3) := by decide +kernel
theorem dX6_tick_118 : decode cX6_tick 118 = .ok (.goto 20, 3) := by decide +kernel
theorem dX6_tick_121 : decode cX6_tick 121 = .ok (.aload_n 0, 1) := by decide +kernel
theorem dX6_tick_122 : decode cX6_tick 122 = .ok (.getfield 48, 3) := by decide +kernel
theorem dX6_tick_125 : decode cX6_tick 125 = .ok (.iload_n 2, 1) := by decide +kernel
theorem dX6_tick_126 : decode cX6_tick 126 = .ok (.iload_n 3, 1) := by decide +kernel
theorem dX6_tick_127 : decode cX6_tick 127 = .ok (.iastore, 1) := by decide +kernel
theorem dX6_tick_128 : decode cX6_tick 128 = .ok (.aload_n 0, 1) := by decide +kernel
theorem dX6_tick_129 : decode cX6_tick 129 = .ok (.getfield 51, 3) := by decide +kernel
theorem dX6_tick_132 : decode cX6_tick 132 = .ok (.iload_n 3, 1) := by decide +kernel
theorem dX6_tick_133 : decode cX6_tick 133 = .ok (.iconst 1, 1) := by decide +kernel
theorem dX6_tick_134 : decode cX6_tick 134 = .ok (.bastore, 1) := by decide +kernel
theorem dX6_tick_135 : decode cX6_tick 135 = .ok (.iinc 2 1, 3) := by decide +kernel
theorem dX6_tick_138 : decode cX6_tick 138 = .ok (.iinc 3 1, 3) := by decide +kernel
theorem dX6_tick_141 : decode cX6_tick 141 = .ok (.goto (-54), 3) := by decide +kernel
theorem dX6_tick_144 : decode cX6_tick 144 = .ok (.iconst 0, 1) := by decide +kernel
theorem dX6_tick_145 : decode cX6_tick 145 = .ok (.istore_n 3, 1) := by decide +kernel
theorem dX6_tick_146 : decode cX6_tick 146 = .ok (.iload_n 3, 1) := by decide +kernel
theorem dX6_tick_147 : decode cX6_tick 147 = .ok (.iload_n 2, 1) := by decide +kernel
theorem dX6_tick_148 : decode cX6_tick 148 = .ok (.if_icmp .ge 163, 3) := by decide +kernel
theorem dX6_tick_151 : decode cX6_tick 151 = .ok (.aload_n 0, 1) := by decide +kernel
theorem dX6_tick_152 : decode cX6_tick 152 = .ok (.getfield 48, 3) := by decide +kernel
theorem dX6_tick_155 : decode cX6_tick 155 = .ok (.iload_n 3, 1) := by decide +kernel
theorem dX6_tick_156 : decode cX6_tick 156 = .ok (.iaload, 1) := by decide +kernel
theorem dX6_tick_157 : decode cX6_tick 157 = .ok (.istore 4, 2) := by decide +kernel
theorem dX6_tick_159 : decode cX6_tick 159 = .ok (.aload_n 0, 1) := by decide +kernel
theorem dX6_tick_160 : decode cX6_tick 160 = .ok (.getfield 45, 3) := by decide +kernel
theorem dX6_tick_163 : decode cX6_tick 163 = .ok (.iload 4, 2) := by decide +kernel
theorem dX6_tick_165 : decode cX6_tick 165 = .ok (.iconst 0, 1) := by decide +kernel
theorem dX6_tick_166 : decode cX6_tick 166 = .ok (.iastore, 1) := by decide +kernel
theorem dX6_tick_167 : decode cX6_tick 167 = .ok (.aload_n 0, 1) := by decide +kernel
theorem dX6_tick_168 : decode cX6_tick 168 = .ok (.getfield 54, 3) := by decide +kernel
theorem dX6_tick_171 : decode cX6_tick 171 = .ok (.iload 4, 2) := by decide +kernel
theorem dX6_tick_173 : decode cX6_tick 173 = .ok (.iconst 1, 1) := by decide +kernel
theorem dX6_tick_174 : decode cX6_tick 174 = .ok (.bastore, 1) := by decide +kernel
theorem dX6_tick_175 : decode cX6_tick 175 = .ok (.iconst 0, 1) := by decide +kernel
theorem dX6_tick_176 : decode cX6_tick 176 = .ok (.istore 5, 2) := by decide +kernel
theorem dX6_tick_178 : decode cX6_tick 178 = .ok (.iload 5, 2) := by decide +kernel
theorem dX6_tick_180 : decode cX6_tick 180 = .ok (.aload_n 0, 1) := by decide +kernel
theorem dX6_tick_181 : decode cX6_tick 181 = .ok (.getfield 141, 3) := by decide +kernel
theorem dX6_tick_184 : decode cX6_tick 184 = .ok (.if_icmp .ge 121, 3) := by decide +kernel
theorem dX6_tick_187 : decode cX6_tick 187 = .ok (.aload_n 0, 1) := by decide +kernel
theorem dX6_tick_188 : decode cX6_tick 188 = .ok (.getfield 29, 3) := by decide +kernel
theorem dX6_tick_191 : decode cX6_tick 191 = .ok (.iload 5, 2) := by decide +kernel
theorem dX6_tick_193 : decode cX6_tick 193 = .ok (.iaload, 1) := by decide +kernel
theorem dX6_tick_194 : decode cX6_tick 194 = .ok (.iconst 2, 1) := by decide +kernel
theorem dX6_tick_195 : decode cX6_tick 195 = .ok (.if_icmp .ne 104, 3) := by decide +kernel
theorem dX6_tick_198 : decode cX6_tick 198 = .ok (.aload_n 0, 1) := by decide +kernel
theorem dX6_tick_199 : decode cX6_tick 199 = .ok (.getfield 51, 3) := by decide +kernel
theorem dX6_tick_202 : decode cX6_tick 202 = .ok (.iload 5, 2) := by decide +kernel
theorem dX6_tick_204 : decode cX6_tick 204 = .ok (.baload, 1) := by decide +kernel
theorem dX6_tick_205 : decode cX6_tick 205 = .ok (.ifCond .ne 94, 3) := by decide +kernel
theorem dX6_tick_208 : decode cX6_tick 208 = .ok (.aload_n 0, 1) := by decide +kernel
theorem dX6_tick_209 : decode cX6_tick 209 = .ok (.getfield 41, 3) := by decide +kernel
theorem dX6_tick_212 : decode cX6_tick 212 = .ok (.bipush 24, 2) := by decide +kernel
theorem dX6_tick_214 : decode cX6_tick 214 = .ok (.iload 5, 2) := by decide +kernel
theorem dX6_tick_216 : decode cX6_tick 216 = .ok (.imul, 1) := by decide +kernel
theorem dX6_tick_217 : decode cX6_tick 217 = .ok (.iload 4, 2) := by decide +kernel
theorem dX6_tick_219 : decode cX6_tick 219 = .ok (.iadd, 1) := by decide +kernel
theorem dX6_tick_220 : decode cX6_tick 220 = .ok (.baload, 1) := by decide +kernel
theorem dX6_tick_221 : decode cX6_tick 221 = .ok (.ifCond .ne 6, 3) := by decide +kernel
theorem dX6_tick_224 : decode cX6_tick 224 = .ok (.goto 75, 3) := by decide +kernel
theorem dX6_tick_227 : decode cX6_tick 227 = .ok (.aload_n 0, 1) := by decide +kernel
theorem dX6_tick_228 : decode cX6_tick 228 = .ok (.getfield 45, 3) := by decide +kernel
theorem dX6_tick_231 : decode cX6_tick 231 = .ok (.iload 5, 2) := by decide +kernel
theorem dX6_tick_233 : decode cX6_tick 233 = .ok (.dup2, 1) := by decide +kernel
theorem dX6_tick_234 : decode cX6_tick 234 = .ok (.iaload, 1) := by decide +kernel
theorem dX6_tick_235 : decode cX6_tick 235 = .ok (.aload_n 0, 1) := by decide +kernel
theorem dX6_tick_236 : decode cX6_tick 236 = .ok (.getfield 35, 3) := by decide +kernel
theorem dX6_tick_239 : decode cX6_tick 239 = .ok (.aload_n 0, 1) := by decide +kernel
theorem dX6_tick_240 : decode cX6_tick 240 = .ok (.getfield 45, 3) := by decide +kernel
theorem dX6_tick_243 : decode cX6_tick 243 = .ok (.iload 5, 2) := by decide +kernel
theorem dX6_tick_245 : decode cX6_tick 245 = .ok (.iaload, 1) := by decide +kernel
theorem dX6_tick_246 : decode cX6_tick 246 = .ok (.i2l, 1) := by decide +kernel
theorem dX6_tick_247 : decode cX6_tick 247 = .ok (.aload_n 0, 1) := by decide +kernel
theorem dX6_tick_248 : decode cX6_tick 248 = .ok (.getfield 26, 3) := by decide +kernel
theorem dX6_tick_251 : decode cX6_tick 251 = .ok (.i2l, 1) := by decide +kernel
theorem dX6_tick_252 : decode cX6_tick 252 = .ok (.lmul, 1) := by decide +kernel
theorem dX6_tick_253 : decode cX6_tick 253 = .ok (.aload_n 0, 1) := by decide +kernel
theorem dX6_tick_254 : decode cX6_tick 254 = .ok (.getfield 22, 3) := by decide +kernel
theorem dX6_tick_257 : decode cX6_tick 257 = .ok (.i2l, 1) := by decide +kernel
theorem dX6_tick_258 : decode cX6_tick 258 = .ok (.ldiv, 1) := by decide +kernel
theorem dX6_tick_259 : decode cX6_tick 259 = .ok (.l2i, 1) := by decide +kernel
theorem dX6_tick_260 : decode cX6_tick 260 = .ok (.iaload, 1) := by decide +kernel
theorem dX6_tick_261 : decode cX6_tick 261 = .ok (.iadd, 1) := by decide +kernel
theorem dX6_tick_262 : decode cX6_tick 262 = .ok (.iastore, 1) := by decide +kernel
theorem dX6_tick_263 : decode cX6_tick 263 = .ok (.aload_n 0, 1) := by decide +kernel
theorem dX6_tick_264 : decode cX6_tick 264 = .ok (.getfield 45, 3) := by decide +kernel
theorem dX6_tick_267 : decode cX6_tick 267 = .ok (.iload 5, 2) := by decide +kernel
theorem dX6_tick_269 : decode cX6_tick 269 = .ok (.iaload, 1) := by decide +kernel
theorem dX6_tick_270 : decode cX6_tick 270 = .ok (.aload_n 0, 1) := by decide +kernel
theorem dX6_tick_271 : decode cX6_tick 271 = .ok (.getfield 22, 3) := by decide +kernel
theorem dX6_tick_274 : decode cX6_tick 274 = .ok (.if_icmp .ge 6, 3) := by decide +kernel
theorem dX6_tick_277 : decode cX6_tick 277 = .ok (.goto 22, 3) := by decide +kernel
theorem dX6_tick_280 : decode cX6_tick 280 = .ok (.aload_n 0, 1) := by decide +kernel
theorem dX6_tick_281 : decode cX6_tick 281 = .ok (.getfield 48, 3) := by decide +kernel
theorem dX6_tick_284 : decode cX6_tick 284 = .ok (.iload_n 2, 1) := by decide +kernel
theorem dX6_tick_285 : decode cX6_tick 285 = .ok (.iload 5, 2) := by decide +kernel
theorem dX6_tick_287 : decode cX6_tick 287 = .ok (.iastore, 1) := by decide +kernel
theorem dX6_tick_288 : decode cX6_tick 288 = .ok (.aload_n 0, 1) := by decide +kernel
theorem dX6_tick_289 : decode cX6_tick 289 = .ok (.getfield 51, 3) := by decide +kernel
theorem dX6_tick_292 : decode cX6_tick 292 = .ok (.iload 5, 2) := by decide +kernel
theorem dX6_tick_294 : decode cX6_tick 294 = .ok (.iconst 1, 1) := by decide +kernel
theorem dX6_tick_295 : decode cX6_tick 295 = .ok (.bastore, 1) := by decide +kernel
theorem dX6_tick_296 : decode cX6_tick 296 = .ok (.iinc 2 1, 3) := by decide +kernel
theorem dX6_tick_299 : decode cX6_tick 299 = .ok (.iinc 5 1, 3) := by decide +kernel
theorem dX6_tick_302 : decode cX6_tick 302 = .ok (.goto (-124), 3) := by decide +kernel
theorem dX6_tick_305 : decode cX6_tick 305 = .ok (.iinc 3 1, 3) := by decide +kernel
theorem dX6_tick_308 : decode cX6_tick 308 = .ok (.goto (-162), 3) := by decide +kernel
theorem dX6_tick_311 : decode cX6_tick 311 = .ok (.iconst 0, 1) := by decide +kernel
theorem dX6_tick_312 : decode cX6_tick 312 = .ok (.istore_n 3, 1) := by decide +kernel
theorem dX6_tick_313 : decode cX6_tick 313 = .ok (.iload_n 3, 1) := by decide +kernel
theorem dX6_tick_314 : decode cX6_tick 314 = .ok (.aload_n 0, 1) := by decide +kernel
theorem dX6_tick_315 : decode cX6_tick 315 = .ok (.getfield 141, 3) := by decide +kernel
theorem dX6_tick_318 : decode cX6_tick 318 = .ok (.if_icmp .ge 18, 3) := by decide +kernel
theorem dX6_tick_321 : decode cX6_tick 321 = .ok (.aload_n 1, 1) := by decide +kernel
theorem dX6_tick_322 : decode cX6_tick 322 = .ok (.iload_n 3, 1) := by decide +kernel
theorem dX6_tick_323 : decode cX6_tick 323 = .ok (.aload_n 0, 1) := by decide +kernel
theorem dX6_tick_324 : decode cX6_tick 324 = .ok (.getfield 45, 3) := by decide +kernel
theorem dX6_tick_327 : decode cX6_tick 327 = .ok (.iload_n 3, 1) := by decide +kernel
theorem dX6_tick_328 : decode cX6_tick 328 = .ok (.iaload, 1) := by decide +kernel
theorem dX6_tick_329 : decode cX6_tick 329 = .ok (.iastore, 1) := by decide +kernel
theorem dX6_tick_330 : decode cX6_tick 330 = .ok (.iinc 3 1, 3) := by decide +kernel
theorem dX6_tick_333 : decode cX6_tick 333 = .ok (.goto (-20), 3) := by decide +kernel
theorem dX6_tick_336 : decode cX6_tick 336 = .ok (.return_, 1) := by decide +kernel
theorem dX6_go_0 : decode cX6_go 0 = .ok (.aload_n 0, 1) := by decide +kernel
theorem dX6_go_1 : decode cX6_go 1 = .ok (.iconst 0, 1) := by decide +kernel
theorem dX6_go_2 : decode cX6_go 2 = .ok (.putfield 117, 3) := by decide +kernel
theorem dX6_go_5 : decode cX6_go 5 = .ok (.aload_n 0, 1) := by decide +kernel
theorem dX6_go_6 : decode cX6_go 6 = .ok (.iconst 0, 1) := by decide +kernel
theorem dX6_go_7 : decode cX6_go 7 = .ok (.putfield 120, 3) := by decide +kernel
theorem dX6_go_10 : decode cX6_go 10 = .ok (.iload_n 1, 1) := by decide +kernel
theorem dX6_go_11 : decode cX6_go 11 = .ok (.ifCond .lt 10, 3) := by decide +kernel
theorem dX6_go_14 : decode cX6_go 14 = .ok (.iload_n 1, 1) := by decide +kernel
theorem dX6_go_15 : decode cX6_go 15 = .ok (.sipush 20000, 3) := by decide +kernel
theorem dX6_go_18 : decode cX6_go 18 = .ok (.if_icmp .le 9, 3) := by decide +kernel
theorem dX6_go_21 : decode cX6_go 21 = .ok (.aload_n 0, 1) := by decide +kernel
theorem dX6_go_22 : decode cX6_go 22 = .ok (.iconst 2, 1) := by decide +kernel
theorem dX6_go_23 : decode cX6_go 23 = .ok (.invokevirtual 123, 3) := by decide +kernel
theorem dX6_go_26 : decode cX6_go 26 = .ok (.ireturn, 1) := by decide +kernel
theorem dX6_go_27 : decode cX6_go 27 = .ok (.iconst 0, 1) := by decide +kernel
theorem dX6_go_28 : decode cX6_go 28 = .ok (.istore_n 2, 1) := by decide +kernel
theorem dX6_go_29 : decode cX6_go 29 = .ok (.iload_n 2, 1) := by decide +kernel
theorem dX6_go_30 : decode cX6_go 30 = .ok (.iload_n 1, 1) := by decide +kernel
theorem dX6_go_31 : decode cX6_go 31 = .ok (.if_icmp .ge 56, 3) := by decide +kernel
theorem dX6_go_34 : decode cX6_go 34 = .ok (.aload_n 0, 1) := by decide +kernel
theorem dX6_go_35 : decode cX6_go 35 = .ok (.aload_n 0, 1) := by decide +kernel
theorem dX6_go_36 : decode cX6_go 36 = .ok (.getfield 32, 3) := by decide +kernel
theorem dX6_go_39 : decode cX6_go 39 = .ok (.invokevirtual 166, 3) := by decide +kernel
theorem dX6_go_42 : decode cX6_go 42 = .ok (.iconst 0, 1) := by decide +kernel
theorem dX6_go_43 : decode cX6_go 43 = .ok (.istore_n 3, 1) := by decide +kernel
theorem dX6_go_44 : decode cX6_go 44 = .ok (.iload_n 3, 1) := by decide +kernel
theorem dX6_go_45 : decode cX6_go 45 = .ok (.aload_n 0, 1) := by decide +kernel
theorem dX6_go_46 : decode cX6_go 46 = .ok (.getfield 141, 3) := by decide +kernel
theorem dX6_go_49 : decode cX6_go 49 = .ok (.if_icmp .ge 32, 3) := by decide +kernel
theorem dX6_go_52 : decode cX6_go 52 = .ok (.aload_n 0, 1) := by decide +kernel
theorem dX6_go_53 : decode cX6_go 53 = .ok (.getfield 38, 3) := by decide +kernel
theorem dX6_go_56 : decode cX6_go 56 = .ok (.iload_n 3, 1) := by decide +kernel
theorem dX6_go_57 : decode cX6_go 57 = .ok (.dup2, 1) := by decide +kernel
theorem dX6_go_58 : decode cX6_go 58 = .ok (.laload, 1) := by decide +kernel
theorem dX6_go_59 : decode cX6_go 59 = .ok (.aload_n 0, 1) := by decide +kernel
theorem dX6_go_60 : decode cX6_go 60 = .ok (.getfield 54, 3) := by decide +kernel
theorem dX6_go_63 : decode cX6_go 63 = .ok (.iload_n 3, 1) := by decide +kernel
theorem dX6_go_64 : decode cX6_go 64 = .ok (.baload, 1) := by decide +kernel
theorem dX6_go_65 : decode cX6_go 65 = .ok (.ifCond .eq 7, 3) := by decide +kernel
theorem dX6_go_68 : decode cX6_go 68 = .ok (.lconst 1, 1) := by decide +kernel
theorem dX6_go_69 : decode cX6_go 69 = .ok (.goto 4, 3) := by decide +kernel
theorem dX6_go_72 : decode cX6_go 72 = .ok (.lconst 0, 1) := by decide +kernel
theorem dX6_go_73 : decode cX6_go 73 = .ok (.ladd, 1) := by decide +kernel
theorem dX6_go_74 : decode cX6_go 74 = .ok (.lastore, 1) := by decide +kernel
theorem dX6_go_75 : decode cX6_go 75 = .ok (.iinc 3 1, 3) := by decide +kernel
theorem dX6_go_78 : decode cX6_go 78 = .ok (.goto (-34), 3) := by decide +kernel
theorem dX6_go_81 : decode cX6_go 81 = .ok (.iinc 2 1, 3) := by decide +kernel
theorem dX6_go_84 : decode cX6_go 84 = .ok (.goto (-55), 3) := by decide +kernel
theorem dX6_go_87 : decode cX6_go 87 = .ok (.aload_n 0, 1) := by decide +kernel
theorem dX6_go_88 : decode cX6_go 88 = .ok (.dup, 1) := by decide +kernel
theorem dX6_go_89 : decode cX6_go 89 = .ok (.getfield 144, 3) := by decide +kernel
theorem dX6_go_92 : decode cX6_go 92 = .ok (.iload_n 1, 1) := by decide +kernel
theorem dX6_go_93 : decode cX6_go 93 = .ok (.iadd, 1) := by decide +kernel
theorem dX6_go_94 : decode cX6_go 94 = .ok (.putfield 144, 3) := by decide +kernel
theorem dX6_go_97 : decode cX6_go 97 = .ok (.iconst 1, 1) := by decide +kernel
theorem dX6_go_98 : decode cX6_go 98 = .ok (.ireturn, 1) := by decide +kernel
theorem dX6_count_0 : decode cX6_count 0 = .ok (.aload_n 0, 1) := by decide +kernel
theorem dX6_count_1 : decode cX6_count 1 = .ok (.iconst 0, 1) := by decide +kernel
theorem dX6_count_2 : decode cX6_count 2 = .ok (.putfield 117, 3) := by decide +kernel
theorem dX6_count_5 : decode cX6_count 5 = .ok (.aload_n 0, 1) := by decide +kernel
theorem dX6_count_6 : decode cX6_count 6 = .ok (.iconst 0, 1) := by decide +kernel
theorem dX6_count_7 : decode cX6_count 7 = .ok (.putfield 120, 3) := by decide +kernel
theorem dX6_count_10 : decode cX6_count 10 = .ok (.iload_n 1, 1) := by decide +kernel
theorem dX6_count_11 : decode cX6_count 11 = .ok (.ifCond .lt 8, 3) := by decide +kernel
theorem dX6_count_14 : decode cX6_count 14 = .ok (.iload_n 1, 1) := by decide +kernel
theorem dX6_count_15 : decode cX6_count 15 = .ok (.iconst 3, 1) := by decide +kernel
theorem dX6_count_16 : decode cX6_count 16 = .ok (.if_icmp .le 9, 3) := by decide +kernel
theorem dX6_count_19 : decode cX6_count 19 = .ok (.aload_n 0, 1) := by decide +kernel
theorem dX6_count_20 : decode cX6_count 20 = .ok (.iconst 2, 1) := by decide +kernel
theorem dX6_count_21 : decode cX6_count 21 = .ok (.invokevirtual 151, 3) := by decide +kernel
theorem dX6_count_24 : decode cX6_count 24 = .ok (.ireturn, 1) := by decide +kernel
theorem dX6_count_25 : decode cX6_count 25 = .ok (.iconst 0, 1) := by decide +kernel
theorem dX6_count_26 : decode cX6_count 26 = .ok (.istore_n 2, 1) := by decide +kernel
theorem dX6_count_27 : decode cX6_count 27 = .ok (.iconst 0, 1) := by decide +kernel
theorem dX6_count_28 : decode cX6_count 28 = .ok (.istore_n 3, 1) := by decide +kernel
theorem dX6_count_29 : decode cX6_count 29 = .ok (.iload_n 3, 1) := by decide +kernel
theorem dX6_count_30 : decode cX6_count 30 = .ok (.aload_n 0, 1) := by decide +kernel
theorem dX6_count_31 : decode cX6_count 31 = .ok (.getfield 141, 3) := by decide +kernel
theorem dX6_count_34 : decode cX6_count 34 = .ok (.if_icmp .ge 17, 3) := by decide +kernel
theorem dX6_count_37 : decode cX6_count 37 = .ok (.iload_n 2, 1) := by decide +kernel
theorem dX6_count_38 : decode cX6_count 38 = .ok (.aload_n 0, 1) := by decide +kernel
theorem dX6_count_39 : decode cX6_count 39 = .ok (.iload_n 3, 1) := by decide +kernel
theorem dX6_count_40 : decode cX6_count 40 = .ok (.invokevirtual 170, 3) := by decide +kernel
theorem dX6_count_43 : decode cX6_count 43 = .ok (.iadd, 1) := by decide +kernel
theorem dX6_count_44 : decode cX6_count 44 = .ok (.istore_n 2, 1) := by decide +kernel
theorem dX6_count_45 : decode cX6_count 45 = .ok (.iinc 3 1, 3) := by decide +kernel
theorem dX6_count_48 : decode cX6_count 48 = .ok (.goto (-19), 3) := by decide +kernel
theorem dX6_count_51 : decode cX6_count 51 = .ok (.iload_n 1, 1) := by decide +kernel
theorem dX6_count_52 : decode cX6_count 52 = .ok (.ifCond .ne 10, 3) := by decide +kernel
theorem dX6_count_55 : decode cX6_count 55 = .ok (.aload_n 0, 1) := by decide +kernel
theorem dX6_count_56 : decode cX6_count 56 = .ok (.getfield 144, 3) := by decide +kernel
theorem dX6_count_59 : decode cX6_count 59 = .ok (.goto 28, 3) := by decide +kernel
theorem dX6_count_62 : decode cX6_count 62 = .ok (.iload_n 1, 1) := by decide +kernel
theorem dX6_count_63 : decode cX6_count 63 = .ok (.iconst 1, 1) := by decide +kernel
theorem dX6_count_64 : decode cX6_count 64 = .ok (.if_icmp .ne 10, 3) := by decide +kernel
theorem dX6_count_67 : decode cX6_count 67 = .ok (.aload_n 0, 1) := by decide +kernel
theorem dX6_count_68 : decode cX6_count 68 = .ok (.getfield 22, 3) := by decide +kernel
theorem dX6_count_71 : decode cX6_count 71 = .ok (.goto 16, 3) := by decide +kernel
theorem dX6_count_74 : decode cX6_count 74 = .ok (.iload_n 1, 1) := by decide +kernel
theorem dX6_count_75 : decode cX6_count 75 = .ok (.iconst 2, 1) := by decide +kernel
theorem dX6_count_76 : decode cX6_count 76 = .ok (.if_icmp .ne 10, 3) := by decide +kernel
theorem dX6_count_79 : decode cX6_count 79 = .ok (.aload_n 0, 1) := by decide +kernel
theorem dX6_count_80 : decode cX6_count 80 = .ok (.getfield 141, 3) := by decide +kernel
theorem dX6_count_83 : decode cX6_count 83 = .ok (.goto 4, 3) := by decide +kernel
theorem dX6_count_86 : decode cX6_count 86 = .ok (.iload_n 2, 1) := by decide +kernel
theorem dX6_count_87 : decode cX6_count 87 = .ok (.ireturn, 1) := by decide +kernel
theorem dX6_seenBy_0 : decode cX6_seenBy 0 = .ok (.iconst 0, 1) := by decide +kernel
theorem dX6_seenBy_1 : decode cX6_seenBy 1 = .ok (.istore_n 2, 1) := by decide +kernel
theorem dX6_seenBy_2 : decode cX6_seenBy 2 = .ok (.iconst 0, 1) := by decide +kernel
theorem dX6_seenBy_3 : decode cX6_seenBy 3 = .ok (.istore_n 3, 1) := by decide +kernel
theorem dX6_seenBy_4 : decode cX6_seenBy 4 = .ok (.iload_n 3, 1) := by decide +kernel
theorem dX6_seenBy_5 : decode cX6_seenBy 5 = .ok (.aload_n 0, 1) := by decide +kernel
theorem dX6_seenBy_6 : decode cX6_seenBy 6 = .ok (.getfield 141, 3) := by decide +kernel
theorem dX6_seenBy_9 : decode cX6_seenBy 9 = .ok (.if_icmp .ge 31, 3) := by decide +kernel
theorem dX6_seenBy_12 : decode cX6_seenBy 12 = .ok (.iload_n 2, 1) := by decide +kernel
theorem dX6_seenBy_13 : decode cX6_seenBy 13 = .ok (.aload_n 0, 1) := by decide +kernel
theorem dX6_seenBy_14 : decode cX6_seenBy 14 = .ok (.getfield 41, 3) := by decide +kernel
theorem dX6_seenBy_17 : decode cX6_seenBy 17 = .ok (.bipush 24, 2) := by decide +kernel
theorem dX6_seenBy_19 : decode cX6_seenBy 19 = .ok (.iload_n 1, 1) := by decide +kernel
theorem dX6_seenBy_20 : decode cX6_seenBy 20 = .ok (.imul, 1) := by decide +kernel
theorem dX6_seenBy_21 : decode cX6_seenBy 21 = .ok (.iload_n 3, 1) := by decide +kernel
theorem dX6_seenBy_22 : decode cX6_seenBy 22 = .ok (.iadd, 1) := by decide +kernel
theorem dX6_seenBy_23 : decode cX6_seenBy 23 = .ok (.baload, 1) := by decide +kernel
theorem dX6_seenBy_24 : decode cX6_seenBy 24 = .ok (.ifCond .eq 7, 3) := by decide +kernel
theorem dX6_seenBy_27 : decode cX6_seenBy 27 = .ok (.iconst 1, 1) := by decide +kernel
theorem dX6_seenBy_28 : decode cX6_seenBy 28 = .ok (.goto 4, 3) := by decide +kernel
theorem dX6_seenBy_31 : decode cX6_seenBy 31 = .ok (.iconst 0, 1) := by decide +kernel
theorem dX6_seenBy_32 : decode cX6_seenBy 32 = .ok (.iadd, 1) := by decide +kernel
theorem dX6_seenBy_33 : decode cX6_seenBy 33 = .ok (.istore_n 2, 1) := by decide +kernel
theorem dX6_seenBy_34 : decode cX6_seenBy 34 = .ok (.iinc 3 1, 3) := by decide +kernel
theorem dX6_seenBy_37 : decode cX6_seenBy 37 = .ok (.goto (-33), 3) := by decide +kernel
theorem dX6_seenBy_40 : decode cX6_seenBy 40 = .ok (.iload_n 2, 1) := by decide +kernel
theorem dX6_seenBy_41 : decode cX6_seenBy 41 = .ok (.ireturn, 1) := by decide +kernel
theorem dX6_beats_0 : decode cX6_beats 0 = .ok (.aload_n 0, 1) := by decide +kernel
theorem dX6_beats_1 : decode cX6_beats 1 = .ok (.iconst 0, 1) := by decide +kernel
theorem dX6_beats_2 : decode cX6_beats 2 = .ok (.putfield 117, 3) := by decide +kernel
theorem dX6_beats_5 : decode cX6_beats 5 = .ok (.aload_n 0, 1) := by decide +kernel
theorem dX6_beats_6 : decode cX6_beats 6 = .ok (.iconst 0, 1) := by decide +kernel
theorem dX6_beats_7 : decode cX6_beats 7 = .ok (.putfield 120, 3) := by decide +kernel
theorem dX6_beats_10 : decode cX6_beats 10 = .ok (.aload_n 0, 1) := by decide +kernel
theorem dX6_beats_11 : decode cX6_beats 11 = .ok (.iload_n 1, 1) := by decide +kernel
theorem dX6_beats_12 : decode cX6_beats 12 = .ok (.invokevirtual 154, 3) := by decide +kernel
theorem dX6_beats_15 : decode cX6_beats 15 = .ok (.ifCond .eq 12, 3) := by decide +kernel
theorem dX6_beats_18 : decode cX6_beats 18 = .ok (.iload_n 2, 1) := by decide +kernel
theorem dX6_beats_19 : decode cX6_beats 19 = .ok (.ifCond .lt 8, 3) := by decide +kernel
theorem dX6_beats_22 : decode cX6_beats 22 = .ok (.iload_n 2, 1) := by decide +kernel
theorem dX6_beats_23 : decode cX6_beats 23 = .ok (.iconst 3, 1) := by decide +kernel
theorem dX6_beats_24 : decode cX6_beats 24 = .ok (.if_icmp .le 9, 3) := by decide +kernel
theorem dX6_beats_27 : decode cX6_beats 27 = .ok (.aload_n 0, 1) := by decide +kernel
theorem dX6_beats_28 : decode cX6_beats 28 = .ok (.iconst 2, 1) := by decide +kernel
theorem dX6_beats_29 : decode cX6_beats 29 = .ok (.invokevirtual 151, 3) := by decide +kernel
theorem dX6_beats_32 : decode cX6_beats 32 = .ok (.ireturn, 1) := by decide +kernel
theorem dX6_beats_33 : decode cX6_beats 33 = .ok (.iload_n 2, 1) := by decide +kernel
theorem dX6_beats_34 : decode cX6_beats 34 = .ok (.ifCond .ne 12, 3) := by decide +kernel
theorem dX6_beats_37 : decode cX6_beats 37 = .ok (.aload_n 0, 1) := by decide +kernel
theorem dX6_beats_38 : decode cX6_beats 38 = .ok (.getfield 32, 3) := by decide +kernel
theorem dX6_beats_41 : decode cX6_beats 41 = .ok (.iload_n 1, 1) := by decide +kernel
theorem dX6_beats_42 : decode cX6_beats 42 = .ok (.iaload, 1) := by decide +kernel
theorem dX6_beats_43 : decode cX6_beats 43 = .ok (.goto 37, 3) := by decide +kernel
theorem dX6_beats_46 : decode cX6_beats 46 = .ok (.iload_n 2, 1) := by decide +kernel
theorem dX6_beats_47 : decode cX6_beats 47 = .ok (.iconst 1, 1) := by decide +kernel
theorem dX6_beats_48 : decode cX6_beats 48 = .ok (.if_icmp .ne 13, 3) := by decide +kernel
theorem dX6_beats_51 : decode cX6_beats 51 = .ok (.aload_n 0, 1) := by decide +kernel
theorem dX6_beats_52 : decode cX6_beats 52 = .ok (.getfield 38, 3) := by decide +kernel
theorem dX6_beats_55 : decode cX6_beats 55 = .ok (.iload_n 1, 1) := by decide +kernel
theorem dX6_beats_56 : decode cX6_beats 56 = .ok (.laload, 1) := by decide +kernel
theorem dX6_beats_57 : decode cX6_beats 57 = .ok (.l2i, 1) := by decide +kernel
theorem dX6_beats_58 : decode cX6_beats 58 = .ok (.goto 22, 3) := by decide +kernel
theorem dX6_beats_61 : decode cX6_beats 61 = .ok (.iload_n 2, 1) := by decide +kernel
theorem dX6_beats_62 : decode cX6_beats 62 = .ok (.iconst 2, 1) := by decide +kernel
theorem dX6_beats_63 : decode cX6_beats 63 = .ok (.if_icmp .ne 12, 3) := by decide +kernel
theorem dX6_beats_66 : decode cX6_beats 66 = .ok (.aload_n 0, 1) := by decide +kernel
theorem dX6_beats_67 : decode cX6_beats 67 = .ok (.getfield 29, 3) := by decide +kernel
theorem dX6_beats_70 : decode cX6_beats 70 = .ok (.iload_n 1, 1) := by decide +kernel
theorem dX6_beats_71 : decode cX6_beats 71 = .ok (.iaload, 1) := by decide +kernel
theorem dX6_beats_72 : decode cX6_beats 72 = .ok (.goto 8, 3) := by decide +kernel
theorem dX6_beats_75 : decode cX6_beats 75 = .ok (.aload_n 0, 1) := by decide +kernel
theorem dX6_beats_76 : decode cX6_beats 76 = .ok (.iload_n 1, 1) := by decide +kernel
theorem dX6_beats_77 : decode cX6_beats 77 = .ok (.invokevirtual 170, 3) := by decide +kernel
theorem dX6_beats_80 : decode cX6_beats 80 = .ok (.ireturn, 1) := by decide +kernel
theorem dX6_isSet_0 : decode cX6_isSet 0 = .ok (.iload_n 1, 1) := by decide +kernel
theorem dX6_isSet_1 : decode cX6_isSet 1 = .ok (.ifCond .lt 17, 3) := by decide +kernel
theorem dX6_isSet_4 : decode cX6_isSet 4 = .ok (.iload_n 1, 1) := by decide +kernel
theorem dX6_isSet_5 : decode cX6_isSet 5 = .ok (.iconst 1, 1) := by decide +kernel
theorem dX6_isSet_6 : decode cX6_isSet 6 = .ok (.aload_n 0, 1) := by decide +kernel
theorem dX6_isSet_7 : decode cX6_isSet 7 = .ok (.getfield 141, 3) := by decide +kernel
theorem dX6_isSet_10 : decode cX6_isSet 10 = .ok (.ishl, 1) := by decide +kernel
theorem dX6_isSet_11 : decode cX6_isSet 11 = .ok (.if_icmp .ge 7, 3) := by decide +kernel
theorem dX6_isSet_14 : decode cX6_isSet 14 = .ok (.iconst 1, 1) := by decide +kernel
theorem dX6_isSet_15 : decode cX6_isSet 15 = .ok (.goto 4, 3) := by decide +kernel
theorem dX6_isSet_18 : decode cX6_isSet 18 = .ok (.iconst 0, 1) := by decide +kernel
theorem dX6_isSet_19 : decode cX6_isSet 19 = .ok (.ireturn, 1) := by decide +kernel
theorem dX6_isInStep_0 : decode cX6_isInStep 0 = .ok (.iconst (-1), 1) := by decide +kernel
theorem dX6_isInStep_1 : decode cX6_isInStep 1 = .ok (.istore_n 3, 1) := by decide +kernel
theorem dX6_isInStep_2 : decode cX6_isInStep 2 = .ok (.iconst 0, 1) := by decide +kernel
theorem dX6_isInStep_3 : decode cX6_isInStep 3 = .ok (.istore 4, 2) := by decide +kernel
theorem dX6_isInStep_5 : decode cX6_isInStep 5 = .ok (.iload 4, 2) := by decide +kernel
theorem dX6_isInStep_7 : decode cX6_isInStep 7 = .ok (.aload_n 0, 1) := by decide +kernel
theorem dX6_isInStep_8 : decode cX6_isInStep 8 = .ok (.getfield 141, 3) := by decide +kernel
theorem dX6_isInStep_11 : decode cX6_isInStep 11 = .ok (.if_icmp .ge 40, 3) := by decide +kernel
theorem dX6_isInStep_14 : decode cX6_isInStep 14 = .ok (.iload_n 2, 1) := by decide +kernel
theorem dX6_isInStep_15 : decode cX6_isInStep 15 = .ok (.iload 4, 2) := by decide +kernel
theorem dX6_isInStep_17 : decode cX6_isInStep 17 = .ok (.ishr, 1) := by decide +kernel
theorem dX6_isInStep_18 : decode cX6_isInStep 18 = .ok (.iconst 1, 1) := by decide +kernel
theorem dX6_isInStep_19 : decode cX6_isInStep 19 = .ok (.iand, 1) := by decide +kernel
theorem dX6_isInStep_20 : decode cX6_isInStep 20 = .ok (.ifCond .ne 6, 3) := by decide +kernel
theorem dX6_isInStep_23 : decode cX6_isInStep 23 = .ok (.goto 22, 3) := by decide +kernel
theorem dX6_isInStep_26 : decode cX6_isInStep 26 = .ok (.iload_n 3, 1) := by decide +kernel
theorem dX6_isInStep_27 : decode cX6_isInStep 27 = .ok (.ifCond .lt 13, 3) := by decide +kernel
theorem dX6_isInStep_30 : decode cX6_isInStep 30 = .ok (.aload_n 1, 1) := by decide +kernel
theorem dX6_isInStep_31 : decode cX6_isInStep 31 = .ok (.iload 4, 2) := by decide +kernel
theorem dX6_isInStep_33 : decode cX6_isInStep 33 = .ok (.iaload, 1) := by decide +kernel
theorem dX6_isInStep_34 : decode cX6_isInStep 34 = .ok (.iload_n 3, 1) := by decide +kernel
theorem dX6_isInStep_35 : decode cX6_isInStep 35 = .ok (.if_icmp .eq 5, 3) := by decide +kernel
theorem dX6_isInStep_38 : decode cX6_isInStep 38 = .ok (.iconst 0, 1) := by decide +kernel
theorem dX6_isInStep_39 : decode cX6_isInStep 39 = .ok (.ireturn, 1) := by decide +kernel
theorem dX6_isInStep_40 : decode cX6_isInStep 40 = .ok (.aload_n 1, 1) := by decide +kernel
theorem dX6_isInStep_41 : decode cX6_isInStep 41 = .ok (.iload 4, 2) := by decide +kernel
theorem dX6_isInStep_43 : decode cX6_isInStep 43 = .ok (.iaload, 1) := by decide +kernel
theorem dX6_isInStep_44 : decode cX6_isInStep 44 = .ok (.istore_n 3, 1) := by decide +kernel
theorem dX6_isInStep_45 : decode cX6_isInStep 45 = .ok (.iinc 4 1, 3) := by decide +kernel
theorem dX6_isInStep_48 : decode cX6_isInStep 48 = .ok (.goto (-43), 3) := by decide +kernel
theorem dX6_isInStep_51 : decode cX6_isInStep 51 = .ok (.iconst 1, 1) := by decide +kernel
theorem dX6_isInStep_52 : decode cX6_isInStep 52 = .ok (.ireturn, 1) := by decide +kernel
theorem dX6_step_0 : decode cX6_step 0 = .ok (.aload_n 0, 1) := by decide +kernel
theorem dX6_step_1 : decode cX6_step 1 = .ok (.iconst 0, 1) := by decide +kernel
theorem dX6_step_2 : decode cX6_step 2 = .ok (.putfield 117, 3) := by decide +kernel
theorem dX6_step_5 : decode cX6_step 5 = .ok (.aload_n 0, 1) := by decide +kernel
theorem dX6_step_6 : decode cX6_step 6 = .ok (.iconst 0, 1) := by decide +kernel
theorem dX6_step_7 : decode cX6_step 7 = .ok (.putfield 120, 3) := by decide +kernel
theorem dX6_step_10 : decode cX6_step 10 = .ok (.aload_n 0, 1) := by decide +kernel
theorem dX6_step_11 : decode cX6_step 11 = .ok (.iload_n 1, 1) := by decide +kernel
theorem dX6_step_12 : decode cX6_step 12 = .ok (.invokevirtual 173, 3) := by decide +kernel
theorem dX6_step_15 : decode cX6_step 15 = .ok (.ifCond .ne 9, 3) := by decide +kernel
theorem dX6_step_18 : decode cX6_step 18 = .ok (.aload_n 0, 1) := by decide +kernel
theorem dX6_step_19 : decode cX6_step 19 = .ok (.iconst 2, 1) := by decide +kernel
theorem dX6_step_20 : decode cX6_step 20 = .ok (.invokevirtual 151, 3) := by decide +kernel
theorem dX6_step_23 : decode cX6_step 23 = .ok (.ireturn, 1) := by decide +kernel
theorem dX6_step_24 : decode cX6_step 24 = .ok (.aload_n 0, 1) := by decide +kernel
theorem dX6_step_25 : decode cX6_step 25 = .ok (.aload_n 0, 1) := by decide +kernel
theorem dX6_step_26 : decode cX6_step 26 = .ok (.getfield 32, 3) := by decide +kernel
theorem dX6_step_29 : decode cX6_step 29 = .ok (.iload_n 1, 1) := by decide +kernel
theorem dX6_step_30 : decode cX6_step 30 = .ok (.invokevirtual 176, 3) := by decide +kernel
theorem dX6_step_33 : decode cX6_step 33 = .ok (.ifCond .eq 7, 3) := by decide +kernel
theorem dX6_step_36 : decode cX6_step 36 = .ok (.iconst 1, 1) := by decide +kernel
theorem dX6_step_37 : decode cX6_step 37 = .ok (.goto 4, 3) := by decide +kernel
theorem dX6_step_40 : decode cX6_step 40 = .ok (.iconst 0, 1) := by decide +kernel
theorem dX6_step_41 : decode cX6_step 41 = .ok (.ireturn, 1) := by decide +kernel
theorem dX6_arc_0 : decode cX6_arc 0 = .ok (.aload_n 0, 1) := by decide +kernel
theorem dX6_arc_1 : decode cX6_arc 1 = .ok (.iconst 0, 1) := by decide +kernel
theorem dX6_arc_2 : decode cX6_arc 2 = .ok (.putfield 117, 3) := by decide +kernel
theorem dX6_arc_5 : decode cX6_arc 5 = .ok (.aload_n 0, 1) := by decide +kernel
theorem dX6_arc_6 : decode cX6_arc 6 = .ok (.iconst 0, 1) := by decide +kernel
theorem dX6_arc_7 : decode cX6_arc 7 = .ok (.putfield 120, 3) := by decide +kernel
theorem dX6_arc_10 : decode cX6_arc 10 = .ok (.aload_n 0, 1) := by decide +kernel
theorem dX6_arc_11 : decode cX6_arc 11 = .ok (.iload_n 1, 1) := by decide +kernel
theorem dX6_arc_12 : decode cX6_arc 12 = .ok (.invokevirtual 173, 3) := by decide +kernel
theorem dX6_arc_15 : decode cX6_arc 15 = .ok (.ifCond .eq 7, 3) := by decide +kernel
theorem dX6_arc_18 : decode cX6_arc 18 = .ok (.iload_n 1, 1) := by decide +kernel
theorem dX6_arc_19 : decode cX6_arc 19 = .ok (.ifCond .ne 9, 3) := by decide +kernel
theorem dX6_arc_22 : decode cX6_arc 22 = .ok (.aload_n 0, 1) := by decide +kernel
theorem dX6_arc_23 : decode cX6_arc 23 = .ok (.iconst 2, 1) := by decide +kernel
theorem dX6_arc_24 : decode cX6_arc 24 = .ok (.invokevirtual 151, 3) := by decide +kernel
theorem dX6_arc_27 : decode cX6_arc 27 = .ok (.ireturn, 1) := by decide +kernel
theorem dX6_arc_28 : decode cX6_arc 28 = .ok (.aload_n 0, 1) := by decide +kernel
theorem dX6_arc_29 : decode cX6_arc 29 = .ok (.getfield 22, 3) := by decide +kernel
theorem dX6_arc_32 : decode cX6_arc 32 = .ok (.istore_n 2, 1) := by decide +kernel
theorem dX6_arc_33 : decode cX6_arc 33 = .ok (.iconst 0, 1) := by decide +kernel
theorem dX6_arc_34 : decode cX6_arc 34 = .ok (.istore_n 3, 1) := by decide +kernel
theorem dX6_arc_35 : decode cX6_arc 35 = .ok (.iload_n 3, 1) := by decide +kernel
theorem dX6_arc_36 : decode cX6_arc 36 = .ok (.aload_n 0, 1) := by decide +kernel
theorem dX6_arc_37 : decode cX6_arc 37 = .ok (.getfield 141, 3) := by decide +kernel
theorem dX6_arc_40 : decode cX6_arc 40 = .ok (.if_icmp .ge 89, 3) := by decide +kernel
theorem dX6_arc_43 : decode cX6_arc 43 = .ok (.iload_n 1, 1) := by decide +kernel
theorem dX6_arc_44 : decode cX6_arc 44 = .ok (.iload_n 3, 1) := by decide +kernel
theorem dX6_arc_45 : decode cX6_arc 45 = .ok (.ishr, 1) := by decide +kernel
theorem dX6_arc_46 : decode cX6_arc 46 = .ok (.iconst 1, 1) := by decide +kernel
theorem dX6_arc_47 : decode cX6_arc 47 = .ok (.iand, 1) := by decide +kernel
theorem dX6_arc_48 : decode cX6_arc 48 = .ok (.ifCond .ne 6, 3) := by decide +kernel
theorem dX6_arc_51 : decode cX6_arc 51 = .ok (.goto 72, 3) := by decide +kernel
theorem dX6_arc_54 : decode cX6_arc 54 = .ok (.iconst 0, 1) := by decide +kernel
theorem dX6_arc_55 : decode cX6_arc 55 = .ok (.istore 4, 2) := by decide +kernel
theorem dX6_arc_57 : decode cX6_arc 57 = .ok (.iconst 0, 1) := by decide +kernel
theorem dX6_arc_58 : decode cX6_arc 58 = .ok (.istore 5, 2) := by decide +kernel
theorem dX6_arc_60 : decode cX6_arc 60 = .ok (.iload 5, 2) := by decide +kernel
theorem dX6_arc_62 : decode cX6_arc 62 = .ok (.aload_n 0, 1) := by decide +kernel
theorem dX6_arc_63 : decode cX6_arc 63 = .ok (.getfield 141, 3) := by decide +kernel
theorem dX6_arc_66 : decode cX6_arc 66 = .ok (.if_icmp .ge 50, 3) := by decide +kernel
theorem dX6_arc_69 : decode cX6_arc 69 = .ok (.iload_n 1, 1) := by decide +kernel
theorem dX6_arc_70 : decode cX6_arc 70 = .ok (.iload 5, 2) := by decide +kernel
theorem dX6_arc_72 : decode cX6_arc 72 = .ok (.ishr, 1) := by decide +kernel
theorem dX6_arc_73 : decode cX6_arc 73 = .ok (.iconst 1, 1) := by decide +kernel
theorem dX6_arc_74 : decode cX6_arc 74 = .ok (.iand, 1) := by decide +kernel
theorem dX6_arc_75 : decode cX6_arc 75 = .ok (.iconst 1, 1) := by decide +kernel
theorem dX6_arc_76 : decode cX6_arc 76 = .ok (.if_icmp .ne 34, 3) := by decide +kernel
theorem dX6_arc_79 : decode cX6_arc 79 = .ok (.iload 4, 2) := by decide +kernel
theorem dX6_arc_81 : decode cX6_arc 81 = .ok (.aload_n 0, 1) := by decide +kernel
theorem dX6_arc_82 : decode cX6_arc 82 = .ok (.getfield 32, 3) := by decide +kernel
theorem dX6_arc_85 : decode cX6_arc 85 = .ok (.iload 5, 2) := by decide +kernel
theorem dX6_arc_87 : decode cX6_arc 87 = .ok (.iaload, 1) := by decide +kernel
theorem dX6_arc_88 : decode cX6_arc 88 = .ok (.aload_n 0, 1) := by decide +kernel
theorem dX6_arc_89 : decode cX6_arc 89 = .ok (.getfield 32, 3) := by decide +kernel
theorem dX6_arc_92 : decode cX6_arc 92 = .ok (.iload_n 3, 1) := by decide +kernel
theorem dX6_arc_93 : decode cX6_arc 93 = .ok (.iaload, 1) := by decide +kernel
theorem dX6_arc_94 : decode cX6_arc 94 = .ok (.isub, 1) := by decide +kernel
theorem dX6_arc_95 : decode cX6_arc 95 = .ok (.aload_n 0, 1) := by decide +kernel
theorem dX6_arc_96 : decode cX6_arc 96 = .ok (.getfield 22, 3) := by decide +kernel
theorem dX6_arc_99 : decode cX6_arc 99 = .ok (.iadd, 1) := by decide +kernel
theorem dX6_arc_100 : decode cX6_arc 100 = .ok (.aload_n 0, 1) := by decide +kernel
theorem dX6_arc_101 : decode cX6_arc 101 = .ok (.getfield 22, 3) := by decide +kernel
theorem dX6_arc_104 : decode cX6_arc 104 = .ok (.irem, 1) := by decide +kernel
theorem dX6_arc_105 : decode cX6_arc 105 = .ok (.invokestatic 180, 3) := by decide +kernel
theorem dX6_arc_108 : decode cX6_arc 108 = .ok (.istore 4, 2) := by decide +kernel
theorem dX6_arc_110 : decode cX6_arc 110 = .ok (.iinc 5 1, 3) := by decide +kernel
theorem dX6_arc_113 : decode cX6_arc 113 = .ok (.goto (-53), 3) := by decide +kernel
theorem dX6_arc_116 : decode cX6_arc 116 = .ok (.iload_n 2, 1) := by decide +kernel
theorem dX6_arc_117 : decode cX6_arc 117 = .ok (.iload 4, 2) := by decide +kernel
theorem dX6_arc_119 : decode cX6_arc 119 = .ok (.invokestatic 185, 3) := by decide +kernel
theorem dX6_arc_122 : decode cX6_arc 122 = .ok (.istore_n 2, 1) := by decide +kernel
theorem dX6_arc_123 : decode cX6_arc 123 = .ok (.iinc 3 1, 3) := by decide +kernel
theorem dX6_arc_126 : decode cX6_arc 126 = .ok (.goto (-91), 3) := by decide +kernel
theorem dX6_arc_129 : decode cX6_arc 129 = .ok (.iload_n 2, 1) := by decide +kernel
theorem dX6_arc_130 : decode cX6_arc 130 = .ok (.ireturn, 1) := by decide +kernel
theorem dX6_begin_0 : decode cX6_begin 0 = .ok (.iconst 0, 1) := by decide +kernel
theorem dX6_begin_1 : decode cX6_begin 1 = .ok (.istore_n 2, 1) := by decide +kernel
theorem dX6_begin_2 : decode cX6_begin 2 = .ok (.iload_n 2, 1) := by decide +kernel
theorem dX6_begin_3 : decode cX6_begin 3 = .ok (.aload_n 0, 1) := by decide +kernel
theorem dX6_begin_4 : decode cX6_begin 4 = .ok (.getfield 141, 3) := by decide +kernel
theorem dX6_begin_7 : decode cX6_begin 7 = .ok (.if_icmp .ge 18, 3) := by decide +kernel
theorem dX6_begin_10 : decode cX6_begin 10 = .ok (.aload_n 1, 1) := by decide +kernel
theorem dX6_begin_11 : decode cX6_begin 11 = .ok (.iload_n 2, 1) := by decide +kernel
theorem dX6_begin_12 : decode cX6_begin 12 = .ok (.aload_n 0, 1) := by decide +kernel
theorem dX6_begin_13 : decode cX6_begin 13 = .ok (.getfield 32, 3) := by decide +kernel
theorem dX6_begin_16 : decode cX6_begin 16 = .ok (.iload_n 2, 1) := by decide +kernel
theorem dX6_begin_17 : decode cX6_begin 17 = .ok (.iaload, 1) := by decide +kernel
theorem dX6_begin_18 : decode cX6_begin 18 = .ok (.iastore, 1) := by decide +kernel
theorem dX6_begin_19 : decode cX6_begin 19 = .ok (.iinc 2 1, 3) := by decide +kernel
theorem dX6_begin_22 : decode cX6_begin 22 = .ok (.goto (-20), 3) := by decide +kernel
theorem dX6_begin_25 : decode cX6_begin 25 = .ok (.return_, 1) := by decide +kernel
theorem dX6_isLike_0 : decode cX6_isLike 0 = .ok (.iconst 0, 1) := by decide +kernel
theorem dX6_isLike_1 : decode cX6_isLike 1 = .ok (.istore_n 3, 1) := by decide +kernel
theorem dX6_isLike_2 : decode cX6_isLike 2 = .ok (.iload_n 3, 1) := by decide +kernel
theorem dX6_isLike_3 : decode cX6_isLike 3 = .ok (.aload_n 0, 1) := by decide +kernel
theorem dX6_isLike_4 : decode cX6_isLike 4 = .ok (.getfield 141, 3) := by decide +kernel
theorem dX6_isLike_7 : decode cX6_isLike 7 = .ok (.if_icmp .ge 20, 3) := by decide +kernel
theorem dX6_isLike_10 : decode cX6_isLike 10 = .ok (.aload_n 1, 1) := by decide +kernel
theorem dX6_isLike_11 : decode cX6_isLike 11 = .ok (.iload_n 3, 1) := by decide +kernel
theorem dX6_isLike_12 : decode cX6_isLike 12 = .ok (.iaload, 1) := by decide +kernel
theorem dX6_isLike_13 : decode cX6_isLike 13 = .ok (.aload_n 2, 1) := by decide +kernel
theorem dX6_isLike_14 : decode cX6_isLike 14 = .ok (.iload_n 3, 1) := by decide +kernel
theorem dX6_isLike_15 : decode cX6_isLike 15 = .ok (.iaload, 1) := by decide +kernel
theorem dX6_isLike_16 : decode cX6_isLike 16 = .ok (.if_icmp .eq 5, 3) := by decide +kernel
theorem dX6_isLike_19 : decode cX6_isLike 19 = .ok (.iconst 0, 1) := by decide +kernel
theorem dX6_isLike_20 : decode cX6_isLike 20 = .ok (.ireturn, 1) := by decide +kernel
theorem dX6_isLike_21 : decode cX6_isLike 21 = .ok (.iinc 3 1, 3) := by decide +kernel
theorem dX6_isLike_24 : decode cX6_isLike 24 = .ok (.goto (-22), 3) := by decide +kernel
theorem dX6_isLike_27 : decode cX6_isLike 27 = .ok (.iconst 1, 1) := by decide +kernel
theorem dX6_isLike_28 : decode cX6_isLike 28 = .ok (.ireturn, 1) := by decide +kernel
theorem dX6_rounds_0 : decode cX6_rounds 0 = .ok (.aload_n 0, 1) := by decide +kernel
theorem dX6_rounds_1 : decode cX6_rounds 1 = .ok (.aload_n 0, 1) := by decide +kernel
theorem dX6_rounds_2 : decode cX6_rounds 2 = .ok (.getfield 63, 3) := by decide +kernel
theorem dX6_rounds_5 : decode cX6_rounds 5 = .ok (.invokevirtual 188, 3) := by decide +kernel
theorem dX6_rounds_8 : decode cX6_rounds 8 = .ok (.aload_n 0, 1) := by decide +kernel
theorem dX6_rounds_9 : decode cX6_rounds 9 = .ok (.aload_n 0, 1) := by decide +kernel
theorem dX6_rounds_10 : decode cX6_rounds 10 = .ok (.getfield 60, 3) := by decide +kernel
theorem dX6_rounds_13 : decode cX6_rounds 13 = .ok (.invokevirtual 188, 3) := by decide +kernel
theorem dX6_rounds_16 : decode cX6_rounds 16 = .ok (.aload_n 0, 1) := by decide +kernel
theorem dX6_rounds_17 : decode cX6_rounds 17 = .ok (.aload_n 0, 1) := by decide +kernel
theorem dX6_rounds_18 : decode cX6_rounds 18 = .ok (.getfield 60, 3) := by decide +kernel
theorem dX6_rounds_21 : decode cX6_rounds 21 = .ok (.invokevirtual 166, 3) := by decide +kernel
theorem dX6_rounds_24 : decode cX6_rounds 24 = .ok (.iconst 1, 1) := by decide +kernel
theorem dX6_rounds_25 : decode cX6_rounds 25 = .ok (.istore_n 1, 1) := by decide +kernel
theorem dX6_rounds_26 : decode cX6_rounds 26 = .ok (.aload_n 0, 1) := by decide +kernel
theorem dX6_rounds_27 : decode cX6_rounds 27 = .ok (.iconst 1, 1) := by decide +kernel
theorem dX6_rounds_28 : decode cX6_rounds 28 = .ok (.putfield 191, 3) := by decide +kernel
theorem dX6_rounds_31 : decode cX6_rounds 31 = .ok (.iconst 1, 1) := by decide +kernel
theorem dX6_rounds_32 : decode cX6_rounds 32 = .ok (.istore_n 2, 1) := by decide +kernel
theorem dX6_rounds_33 : decode cX6_rounds 33 = .ok (.aload_n 0, 1) := by decide +kernel
theorem dX6_rounds_34 : decode cX6_rounds 34 = .ok (.aload_n 0, 1) := by decide +kernel
theorem dX6_rounds_35 : decode cX6_rounds 35 = .ok (.getfield 63, 3) := by decide +kernel
theorem dX6_rounds_38 : decode cX6_rounds 38 = .ok (.aload_n 0, 1) := by decide +kernel
theorem dX6_rounds_39 : decode cX6_rounds 39 = .ok (.getfield 60, 3) := by decide +kernel
theorem dX6_rounds_42 : decode cX6_rounds 42 = .ok (.invokevirtual 194, 3) := by decide +kernel
theorem dX6_rounds_45 : decode cX6_rounds 45 = .ok (.ifCond .ne 77, 3) := by decide +kernel
theorem dX6_rounds_48 : decode cX6_rounds 48 = .ok (.iload_n 1, 1) := by decide +kernel
theorem dX6_rounds_49 : decode cX6_rounds 49 = .ok (.aload_n 0, 1) := by decide +kernel
theorem dX6_rounds_50 : decode cX6_rounds 50 = .ok (.getfield 191, 3) := by decide +kernel
theorem dX6_rounds_53 : decode cX6_rounds 53 = .ok (.if_icmp .ne 40, 3) := by decide +kernel
theorem dX6_rounds_56 : decode cX6_rounds 56 = .ok (.iconst 0, 1) := by decide +kernel
theorem dX6_rounds_57 : decode cX6_rounds 57 = .ok (.istore_n 3, 1) := by decide +kernel
theorem dX6_rounds_58 : decode cX6_rounds 58 = .ok (.iload_n 3, 1) := by decide +kernel
theorem dX6_rounds_59 : decode cX6_rounds 59 = .ok (.aload_n 0, 1) := by decide +kernel
theorem dX6_rounds_60 : decode cX6_rounds 60 = .ok (.getfield 141, 3) := by decide +kernel
theorem dX6_rounds_63 : decode cX6_rounds 63 = .ok (.if_icmp .ge 21, 3) := by decide +kernel
theorem dX6_rounds_66 : decode cX6_rounds 66 = .ok (.aload_n 0, 1) := by decide +kernel
theorem dX6_rounds_67 : decode cX6_rounds 67 = .ok (.getfield 63, 3) := by decide +kernel
theorem dX6_rounds_70 : decode cX6_rounds 70 = .ok (.iload_n 3, 1) := by decide +kernel
theorem dX6_rounds_71 : decode cX6_rounds 71 = .ok (.aload_n 0, 1) := by decide +kernel
theorem dX6_rounds_72 : decode cX6_rounds 72 = .ok (.getfield 60, 3) := by decide +kernel
theorem dX6_rounds_75 : decode cX6_rounds 75 = .ok (.iload_n 3, 1) := by decide +kernel
theorem dX6_rounds_76 : decode cX6_rounds 76 = .ok (.iaload, 1) := by decide +kernel
theorem dX6_rounds_77 : decode cX6_rounds 77 = .ok (.iastore, 1) := by decide +kernel
theorem dX6_rounds_78 : decode cX6_rounds 78 = .ok (.iinc 3 1, 3) := by decide +kernel
theorem dX6_rounds_81 : decode cX6_rounds 81 = .ok (.goto (-23), 3) := by decide +kernel
theorem dX6_rounds_84 : decode cX6_rounds 84 = .ok (.iload_n 1, 1) := by decide +kernel
theorem dX6_rounds_85 : decode cX6_rounds 85 = .ok (.iconst 2, 1) := by decide +kernel
theorem dX6_rounds_86 : decode cX6_rounds 86 = .ok (.imul, 1) := by decide +kernel
theorem dX6_rounds_87 : decode cX6_rounds 87 = .ok (.istore_n 1, 1) := by decide +kernel
theorem dX6_rounds_88 : decode cX6_rounds 88 = .ok (.aload_n 0, 1) := by decide +kernel
theorem dX6_rounds_89 : decode cX6_rounds 89 = .ok (.iconst 0, 1) := by decide +kernel
theorem dX6_rounds_90 : decode cX6_rounds 90 = .ok (.putfield 191, 3) := by decide +kernel
theorem dX6_rounds_93 : decode cX6_rounds 93 = .ok (.aload_n 0, 1) := by decide +kernel
theorem dX6_rounds_94 : decode cX6_rounds 94 = .ok (.aload_n 0, 1) := by decide +kernel
theorem dX6_rounds_95 : decode cX6_rounds 95 = .ok (.getfield 60, 3) := by decide +kernel
theorem dX6_rounds_98 : decode cX6_rounds 98 = .ok (.invokevirtual 166, 3) := by decide +kernel
theorem dX6_rounds_101 : decode cX6_rounds 101 = .ok (.aload_n 0, 1) := by decide +kernel
theorem dX6_rounds_102 : decode cX6_rounds 102 = .ok (.dup, 1) := by decide +kernel
theorem dX6_rounds_103 : decode cX6_rounds 103 = .ok (.getfield 191, 3) := by decide +kernel
theorem dX6_rounds_106 : decode cX6_rounds 106 = .ok (.iconst 1, 1) := by decide +kernel
theorem dX6_rounds_107 : decode cX6_rounds 107 = .ok (.iadd, 1) := by decide +kernel
theorem dX6_rounds_108 : decode cX6_rounds 108 = .ok (.putfield 191, 3) := by decide +kernel
theorem dX6_rounds_111 : decode cX6_rounds 111 = .ok (.iinc 2 1, 3) := by decide +kernel
theorem dX6_rounds_114 : decode cX6_rounds 114 = .ok (.iload_n 2, 1) := by decide +kernel
theorem dX6_rounds_115 : decode cX6_rounds 115 = .ok (.ldc 198, 2) := by decide +kernel
theorem dX6_rounds_117 : decode cX6_rounds 117 = .ok (.if_icmp .le (-84), 3) := by decide +kernel
theorem dX6_rounds_120 : decode cX6_rounds 120 = .ok (.iconst 0, 1) := by decide +kernel
theorem dX6_rounds_121 : decode cX6_rounds 121 = .ok (.ireturn, 1) := by decide +kernel
theorem dX6_rounds_122 : decode cX6_rounds 122 = .ok (.aload_n 0, 1) := by decide +kernel
theorem dX6_rounds_123 : decode cX6_rounds 123 = .ok (.getfield 191, 3) := by decide +kernel
theorem dX6_rounds_126 : decode cX6_rounds 126 = .ok (.sipush 20000, 3) := by decide +kernel
theorem dX6_rounds_129 : decode cX6_rounds 129 = .ok (.if_icmp .le 5, 3) := by decide +kernel
theorem dX6_rounds_132 : decode cX6_rounds 132 = .ok (.iconst 0, 1) := by decide +kernel
theorem dX6_rounds_133 : decode cX6_rounds 133 = .ok (.ireturn, 1) := by decide +kernel
theorem dX6_rounds_134 : decode cX6_rounds 134 = .ok (.aload_n 0, 1) := by decide +kernel
theorem dX6_rounds_135 : decode cX6_rounds 135 = .ok (.aload_n 0, 1) := by decide +kernel
theorem dX6_rounds_136 : decode cX6_rounds 136 = .ok (.getfield 63, 3) := by decide +kernel
theorem dX6_rounds_139 : decode cX6_rounds 139 = .ok (.invokevirtual 188, 3) := by decide +kernel
theorem dX6_rounds_142 : decode cX6_rounds 142 = .ok (.aload_n 0, 1) := by decide +kernel
theorem dX6_rounds_143 : decode cX6_rounds 143 = .ok (.aload_n 0, 1) := by decide +kernel
theorem dX6_rounds_144 : decode cX6_rounds 144 = .ok (.getfield 60, 3) := by decide +kernel
theorem dX6_rounds_147 : decode cX6_rounds 147 = .ok (.invokevirtual 188, 3) := by decide +kernel
theorem dX6_rounds_150 : decode cX6_rounds 150 = .ok (.iconst 0, 1) := by decide +kernel
theorem dX6_rounds_151 : decode cX6_rounds 151 = .ok (.istore_n 3, 1) := by decide +kernel
theorem dX6_rounds_152 : decode cX6_rounds 152 = .ok (.iload_n 3, 1) := by decide +kernel
theorem dX6_rounds_153 : decode cX6_rounds 153 = .ok (.aload_n 0, 1) := by decide +kernel
theorem dX6_rounds_154 : decode cX6_rounds 154 = .ok (.getfield 191, 3) := by decide +kernel
theorem dX6_rounds_157 : decode cX6_rounds 157 = .ok (.if_icmp .ge 17, 3) := by decide +kernel
theorem dX6_rounds_160 : decode cX6_rounds 160 = .ok (.aload_n 0, 1) := by decide +kernel
theorem dX6_rounds_161 : decode cX6_rounds 161 = .ok (.aload_n 0, 1) := by decide +kernel
theorem dX6_rounds_162 : decode cX6_rounds 162 = .ok (.getfield 60, 3) := by decide +kernel
theorem dX6_rounds_165 : decode cX6_rounds 165 = .ok (.invokevirtual 166, 3) := by decide +kernel
theorem dX6_rounds_168 : decode cX6_rounds 168 = .ok (.iinc 3 1, 3) := by decide +kernel
theorem dX6_rounds_171 : decode cX6_rounds 171 = .ok (.goto (-19), 3) := by decide +kernel
theorem dX6_rounds_174 : decode cX6_rounds 174 = .ok (.aload_n 0, 1) := by decide +kernel
theorem dX6_rounds_175 : decode cX6_rounds 175 = .ok (.iconst 0, 1) := by decide +kernel
theorem dX6_rounds_176 : decode cX6_rounds 176 = .ok (.putfield 199, 3) := by decide +kernel
theorem dX6_rounds_179 : decode cX6_rounds 179 = .ok (.aload_n 0, 1) := by decide +kernel
theorem dX6_rounds_180 : decode cX6_rounds 180 = .ok (.aload_n 0, 1) := by decide +kernel
theorem dX6_rounds_181 : decode cX6_rounds 181 = .ok (.getfield 63, 3) := by decide +kernel
theorem dX6_rounds_184 : decode cX6_rounds 184 = .ok (.aload_n 0, 1) := by decide +kernel
theorem dX6_rounds_185 : decode cX6_rounds 185 = .ok (.getfield 60, 3) := by decide +kernel
theorem dX6_rounds_188 : decode cX6_rounds 188 = .ok (.invokevirtual 194, 3) := by decide +kernel
theorem dX6_rounds_191 : decode cX6_rounds 191 = .ok (.ifCond .ne 32, 3) := by decide +kernel
theorem dX6_rounds_194 : decode cX6_rounds 194 = .ok (.aload_n 0, 1) := by decide +kernel
theorem dX6_rounds_195 : decode cX6_rounds 195 = .ok (.aload_n 0, 1) := by decide +kernel
theorem dX6_rounds_196 : decode cX6_rounds 196 = .ok (.getfield 63, 3) := by decide +kernel
theorem dX6_rounds_199 : decode cX6_rounds 199 = .ok (.invokevirtual 166, 3) := by decide +kernel
theorem dX6_rounds_202 : decode cX6_rounds 202 = .ok (.aload_n 0, 1) := by decide +kernel
theorem dX6_rounds_203 : decode cX6_rounds 203 = .ok (.aload_n 0, 1) := by decide +kernel
theorem dX6_rounds_204 : decode cX6_rounds 204 = .ok (.getfield 60, 3) := by decide +kernel
theorem dX6_rounds_207 : decode cX6_rounds 207 = .ok (.invokevirtual 166, 3) := by decide +kernel
theorem dX6_rounds_210 : decode cX6_rounds 210 = .ok (.aload_n 0, 1) := by decide +kernel
theorem dX6_rounds_211 : decode cX6_rounds 211 = .ok (.dup, 1) := by decide +kernel
theorem dX6_rounds_212 : decode cX6_rounds 212 = .ok (.getfield 199, 3) := by decide +kernel
theorem dX6_rounds_215 : decode cX6_rounds 215 = .ok (.iconst 1, 1) := by decide +kernel
theorem dX6_rounds_216 : decode cX6_rounds 216 = .ok (.iadd, 1) := by decide +kernel
theorem dX6_rounds_217 : decode cX6_rounds 217 = .ok (.putfield 199, 3) := by decide +kernel
theorem dX6_rounds_220 : decode cX6_rounds 220 = .ok (.goto (-41), 3) := by decide +kernel
theorem dX6_rounds_223 : decode cX6_rounds 223 = .ok (.aload_n 0, 1) := by decide +kernel
theorem dX6_rounds_224 : decode cX6_rounds 224 = .ok (.getfield 199, 3) := by decide +kernel
theorem dX6_rounds_227 : decode cX6_rounds 227 = .ok (.aload_n 0, 1) := by decide +kernel
theorem dX6_rounds_228 : decode cX6_rounds 228 = .ok (.getfield 191, 3) := by decide +kernel
theorem dX6_rounds_231 : decode cX6_rounds 231 = .ok (.iadd, 1) := by decide +kernel
theorem dX6_rounds_232 : decode cX6_rounds 232 = .ok (.sipush 20000, 3) := by decide +kernel
theorem dX6_rounds_235 : decode cX6_rounds 235 = .ok (.if_icmp .gt 7, 3) := by decide +kernel
theorem dX6_rounds_238 : decode cX6_rounds 238 = .ok (.iconst 1, 1) := by decide +kernel
theorem dX6_rounds_239 : decode cX6_rounds 239 = .ok (.goto 4, 3) := by decide +kernel
theorem dX6_rounds_242 : decode cX6_rounds 242 = .ok (.iconst 0, 1) := by decide +kernel
theorem dX6_rounds_243 : decode cX6_rounds 243 = .ok (.ireturn, 1) := by decide +kernel
theorem dX6_round_0 : decode cX6_round 0 = .ok (.aload_n 0, 1) := by decide +kernel
theorem dX6_round_1 : decode cX6_round 1 = .ok (.iconst 0, 1) := by decide +kernel
theorem dX6_round_2 : decode cX6_round 2 = .ok (.putfield 117, 3) := by decide +kernel
theorem dX6_round_5 : decode cX6_round 5 = .ok (.aload_n 0, 1) := by decide +kernel
theorem dX6_round_6 : decode cX6_round 6 = .ok (.iconst 0, 1) := by decide +kernel
theorem dX6_round_7 : decode cX6_round 7 = .ok (.putfield 120, 3) := by decide +kernel
theorem dX6_round_10 : decode cX6_round 10 = .ok (.iload_n 1, 1) := by decide +kernel
theorem dX6_round_11 : decode cX6_round 11 = .ok (.ifCond .lt 8, 3) := by decide +kernel
theorem dX6_round_14 : decode cX6_round 14 = .ok (.iload_n 1, 1) := by decide +kernel
theorem dX6_round_15 : decode cX6_round 15 = .ok (.iconst 1, 1) := by decide +kernel
theorem dX6_round_16 : decode cX6_round 16 = .ok (.if_icmp .le 9, 3) := by decide +kernel
theorem dX6_round_19 : decode cX6_round 19 = .ok (.aload_n 0, 1) := by decide +kernel
theorem dX6_round_20 : decode cX6_round 20 = .ok (.iconst 2, 1) := by decide +kernel
theorem dX6_round_21 : decode cX6_round 21 = .ok (.invokevirtual 151, 3) := by decide +kernel
theorem dX6_round_24 : decode cX6_round 24 = .ok (.ireturn, 1) := by decide +kernel
theorem dX6_round_25 : decode cX6_round 25 = .ok (.aload_n 0, 1) := by decide +kernel
theorem dX6_round_26 : decode cX6_round 26 = .ok (.getfield 141, 3) := by decide +kernel
theorem dX6_round_29 : decode cX6_round 29 = .ok (.ifCond .ne 10, 3) := by decide +kernel
theorem dX6_round_32 : decode cX6_round 32 = .ok (.aload_n 0, 1) := by decide +kernel
theorem dX6_round_33 : decode cX6_round 33 = .ok (.bipush 8, 2) := by decide +kernel
theorem dX6_round_35 : decode cX6_round 35 = .ok (.invokevirtual 151, 3) := by decide +kernel
theorem dX6_round_38 : decode cX6_round 38 = .ok (.ireturn, 1) := by decide +kernel
theorem dX6_round_39 : decode cX6_round 39 = .ok (.aload_n 0, 1) := by decide +kernel
theorem dX6_round_40 : decode cX6_round 40 = .ok (.invokevirtual 202, 3) := by decide +kernel
theorem dX6_round_43 : decode cX6_round 43 = .ok (.ifCond .ne 10, 3) := by decide +kernel
theorem dX6_round_46 : decode cX6_round 46 = .ok (.aload_n 0, 1) := by decide +kernel
theorem dX6_round_47 : decode cX6_round 47 = .ok (.bipush 10, 2) := by decide +kernel
theorem dX6_round_49 : decode cX6_round 49 = .ok (.invokevirtual 151, 3) := by decide +kernel
theorem dX6_round_52 : decode cX6_round 52 = .ok (.ireturn, 1) := by decide +kernel
theorem dX6_round_53 : decode cX6_round 53 = .ok (.iload_n 1, 1) := by decide +kernel
theorem dX6_round_54 : decode cX6_round 54 = .ok (.ifCond .ne 10, 3) := by decide +kernel
theorem dX6_round_57 : decode cX6_round 57 = .ok (.aload_n 0, 1) := by decide +kernel
theorem dX6_round_58 : decode cX6_round 58 = .ok (.getfield 199, 3) := by decide +kernel
theorem dX6_round_61 : decode cX6_round 61 = .ok (.goto 7, 3) := by decide +kernel
theorem dX6_round_64 : decode cX6_round 64 = .ok (.aload_n 0, 1) := by decide +kernel
theorem dX6_round_65 : decode cX6_round 65 = .ok (.getfield 191, 3) := by decide +kernel
theorem dX6_round_68 : decode cX6_round 68 = .ok (.ireturn, 1) := by decide +kernel
theorem dX6_meet_0 : decode cX6_meet 0 = .ok (.aload_n 0, 1) := by decide +kernel
theorem dX6_meet_1 : decode cX6_meet 1 = .ok (.iconst 0, 1) := by decide +kernel
theorem dX6_meet_2 : decode cX6_meet 2 = .ok (.putfield 117, 3) := by decide +kernel
theorem dX6_meet_5 : decode cX6_meet 5 = .ok (.aload_n 0, 1) := by decide +kernel
theorem dX6_meet_6 : decode cX6_meet 6 = .ok (.iconst 0, 1) := by decide +kernel
theorem dX6_meet_7 : decode cX6_meet 7 = .ok (.putfield 120, 3) := by decide +kernel
theorem dX6_meet_10 : decode cX6_meet 10 = .ok (.aload_n 0, 1) := by decide +kernel
theorem dX6_meet_11 : decode cX6_meet 11 = .ok (.iload_n 1, 1) := by decide +kernel
theorem dX6_meet_12 : decode cX6_meet 12 = .ok (.invokevirtual 173, 3) := by decide +kernel
theorem dX6_meet_15 : decode cX6_meet 15 = .ok (.ifCond .ne 9, 3) := by decide +kernel
theorem dX6_meet_18 : decode cX6_meet 18 = .ok (.aload_n 0, 1) := by decide +kernel
theorem dX6_meet_19 : decode cX6_meet 19 = .ok (.iconst 2, 1) := by decide +kernel
theorem dX6_meet_20 : decode cX6_meet 20 = .ok (.invokevirtual 151, 3) := by decide +kernel
theorem dX6_meet_23 : decode cX6_meet 23 = .ok (.ireturn, 1) := by decide +kernel
theorem dX6_meet_24 : decode cX6_meet 24 = .ok (.aload_n 0, 1) := by decide +kernel
theorem dX6_meet_25 : decode cX6_meet 25 = .ok (.aload_n 0, 1) := by decide +kernel
theorem dX6_meet_26 : decode cX6_meet 26 = .ok (.getfield 57, 3) := by decide +kernel
theorem dX6_meet_29 : decode cX6_meet 29 = .ok (.invokevirtual 188, 3) := by decide +kernel
theorem dX6_meet_32 : decode cX6_meet 32 = .ok (.aload_n 0, 1) := by decide +kernel
theorem dX6_meet_33 : decode cX6_meet 33 = .ok (.aload_n 0, 1) := by decide +kernel
theorem dX6_meet_34 : decode cX6_meet 34 = .ok (.getfield 57, 3) := by decide +kernel
theorem dX6_meet_37 : decode cX6_meet 37 = .ok (.iload_n 1, 1) := by decide +kernel
theorem dX6_meet_38 : decode cX6_meet 38 = .ok (.invokevirtual 176, 3) := by decide +kernel
theorem dX6_meet_41 : decode cX6_meet 41 = .ok (.ifCond .eq 5, 3) := by decide +kernel
theorem dX6_meet_44 : decode cX6_meet 44 = .ok (.iconst 0, 1) := by decide +kernel
theorem dX6_meet_45 : decode cX6_meet 45 = .ok (.ireturn, 1) := by decide +kernel
theorem dX6_meet_46 : decode cX6_meet 46 = .ok (.aload_n 0, 1) := by decide +kernel
theorem dX6_meet_47 : decode cX6_meet 47 = .ok (.invokevirtual 202, 3) := by decide +kernel
theorem dX6_meet_50 : decode cX6_meet 50 = .ok (.istore_n 2, 1) := by decide +kernel
theorem dX6_meet_51 : decode cX6_meet 51 = .ok (.iload_n 2, 1) := by decide +kernel
