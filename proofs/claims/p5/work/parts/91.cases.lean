theorem cmpL_e0 {a b : Int} (e : a = b) : cmpL a b = 0 := by
  unfold cmpL
  rw [if_neg (by omega), if_pos e]
theorem TI.mod {t1 t2 : mH} {A : List Int} {G : List (Int × Nat)} (ti : TI t1) (fr : Fr A G t1 t2) (hA : ∀ x ∈ A, x ∈ mAk) (hG : ∀ q ∈ G, q ∈ mGk) : TI t2 := ti.keep ⟨fun _ => rfl, fun _ _ _ => rfl, rfl, rfl⟩ ⟨⟨rfl, rfl⟩, fun _ _ _ => ⟨fun _ => rfl, rfl⟩⟩ fr hA hG
theorem TI.out {h t : mH} (ti : TI h) (h74 : 74 ≤ hN h) (fq : Fq (fun a => a = 73) [] h t) : TI t := by
  have f := fun a k (ha : a < 74) => fq.2.2.2.2.1 a k (by omega) (by simp)
  have g := fun (x : Int) (hx : x < 73) => fq.2.2.2.2.2 x (by omega) (by show ¬ x = 73; omega)
  refine ⟨⟨by rw [f 2 0 (by decide), f 41 5 (by decide)]; exact ti.1.1, by rw [f 2 1 (by decide), f 41 6 (by decide)]; exact ti.1.2⟩, ti.2.ss (fun i i0 i1 => ?_) (fun i i0 i1 => ?_)⟩
  · exact ⟨f _ _ (by omega), f _ _ (by omega), fun k _ _ => congrFun (g _ (by omega)) k⟩
  · exact ⟨congrFun (g 42 (by decide)) i, congrFun (g 43 (by decide)) i, fun k _ _ => congrFun (g 44 (by decide)) _⟩
theorem TJ.mod {t1 t2 : mH} {A : List Int} {G : List (Int × Nat)} (tj : TJ t1) (fr : Fr A G t1 t2) (hA : ∀ x ∈ A, x ∈ mAn) (hG : ∀ q ∈ G, q ∈ mGn) : TJ t2 := tj.keep ⟨fun _ => rfl, fun _ _ _ => rfl, rfl, rfl⟩ ⟨fun _ => rfl, fun _ _ _ => rfl, fun _ _ _ => ⟨fun _ => rfl, rfl⟩⟩ fr hA hG
theorem TLd.mod {t1 t2 : mH} {A : List Int} {G : List (Int × Nat)} (tl : TLd t1) (fr : Fr A G t1 t2) (a3 : (31 : Int) ∉ A) (a6 : (63 : Int) ∉ A) (g7 : ((0 : Int), 7) ∉ G) (g8 : ((41 : Int), 28) ∉ G) : TLd t2 := tl.keep ⟨fun _ => rfl, fun _ _ _ => rfl, rfl, rfl⟩ ⟨rfl, rfl⟩ fr a3 a6 g7 g8
theorem TLd.out {h t : mH} (tl : TLd h) (h74 : 74 ≤ hN h) (fq : Fq (fun a => a = 73) [] h t) : TLd t := by
  have f := fun a k (ha : a < 74) => fq.2.2.2.2.1 a k (by omega) (by simp)
  have g := fun (x : Int) (hx : x < 73) => fq.2.2.2.2.2 x (by omega) (by show ¬ x = 73; omega)
  unfold TLd
  rw [f 0 7 (by decide), f 41 28 (by decide), g 31 (by decide), g 63 (by decide)]
  exact tl
theorem TJ.out {h t : mH} (tj : TJ h) (h74 : 74 ≤ hN h) (fq : Fq (fun a => a = 73) [] h t) : TJ t := by
  have f := fun a k (ha : a < 74) => fq.2.2.2.2.1 a k (by omega) (by simp)
  have g := fun (x : Int) (hx : x < 73) => fq.2.2.2.2.2 x (by omega) (by show ¬ x = 73; omega)
  exact TJ2.mv tj (f _ _ (by decide)) (f _ _ (by decide)) (f _ _ (by decide)) (g _ (by decide)) (g _ (by decide)) (g _ (by decide)) (g _ (by decide)) (g _ (by decide)) (f _ _ (by decide)) (f _ _ (by decide)) (g _ (by decide)) (g _ (by decide)) (g _ (by decide)) (g _ (by decide)) (g _ (by decide))
abbrev Lw (i : Int) : List mV := [(9, 0), (2, 0), (2, 41), (2, 73), (0, i), (9, 0), (9, 0)]
theorem Lw_weak (i y z : Int) : ∀ (j : Nat) (v : mV), (Lw i)[j]? = some v → v.1 < 3 → ([(9, 0), (2, 0), (2, 41), (2, 73), (0, i), (0, y), (0, z)] : List mV)[j]? = some v
  | 0, _, hv, _ => hv
  | 1, _, hv, _ => hv
  | 2, _, hv, _ => hv
  | 3, _, hv, _ => hv
  | 4, _, hv, _ => hv
  | 5, v, hv, ht => by
    have e : (9, 0) = v := Option.some.inj hv
    rw [← e] at ht
    exact absurd ht (by decide)
  | 6, v, hv, ht => by
    have e : (9, 0) = v := Option.some.inj hv
    rw [← e] at ht
    exact absurd ht (by decide)
  | j + 7, v, hv, _ => by
    have : (none : Option mV) = some v := hv
    cases this
theorem rm9 {t : mH} {n : Nat} (ck : CK t (n : Int)) : hN t - hN e9_0 ≤ room_1.cells ∧ hZ t - hZ e9_0 ≤ room_1.slots := by
  have := ck.rm (by omega)
  show hN t - 0 ≤ 601024 ∧ hZ t - 0 ≤ 7293034
  omega
theorem Gx.callV1 {M : mM} {d pc : Nat} {L S : List mV} {h h0 : mH} {R : Room} {G : Nat → List mV → List mV → mH → Prop} (g : Gd M (d + 1) h0 R G) {M' : mM} {av S0 : List mV} {a : Int} {h1 : mH} {v : mV} {c ix n N : Nat} {T : u_T} (hF : Ct M' d ((2, a) :: av) h (some v) h1) (hw : wC M.1.cls M' ix n) (hin : Cond.instanceMethod M'.1 ∈ tW) (hse : Cond.selects M'.1.cls M'.1 M'.1 ∈ tW) (hc : kC c M'.1.cls T N) (ha : hK h a = c) (hd : decode M.2.1 pc = .ok (.invokevirtual ix, 3)) (hn : av.length = n) (hl : (eS ((2, a) :: av)).length ≤ M'.2.2.1) (hst : S0 = av.reverse ++ (2, a) :: S) (h8 : wSt S ≤ 8) (k : G (pc + 3) L (v :: S) h1) (rm : hN h1 - hN h0 ≤ R.cells ∧ hZ h1 - hZ h0 ≤ R.slots) : G pc L S0 h := Gx.callV g hF hw hin hse hc ha hd hn hl hst h8 k rm
theorem cs_0 {Ln : Nat} {xs : Nat → Int32} {G : Nat → List mV → List mV → mH → Prop} (g : Gl Ln xs room_1 G) (hLn : Ln ≤ 3072) {i : Int} (i0 : 0 ≤ i) (i6 : i + 6 ≤ (Ln : Int)) {h : mH} {n : Nat} (ck : CK h ((n : Int) + 1)) (mi : MI h) (k73 : hK h 73 = 11) (l73 : hL h 73 = 1) (ti : TI h) (tj : TJ h) (tl : TLd h) (nx : ∀ h', CK h' (n : Int) → MI h' → hK h' 73 = 11 → hL h' 73 = 1 → TI h' → TJ h' → TLd h' → G 1371 (Lw i) [] h') : G 196 (Lw i) [] h := by
  refine Gx.ald_n g.gd rfl dL_law_196 ?_
  obtain ⟨_, t1, ct1, ⟨y1, rfl⟩, ck1, kp1, cs1, kl1⟩ := kx_status h n ck 
  have mi1 := kp1.mi mi
  have k1 := kp1.2.2.1.trans k73
  have l1 := kp1.2.2.2.trans l73
  refine Gx.callV1 g.gd ct1 wc_L_19 iM_X5_status se_X5_status kC5 (sK0 (h := h) ck.1) dL_law_197 rfl (Nat.le_of_ble_eq_true rfl) rfl (Nat.le_of_ble_eq_true rfl) ?_ (rm9 ck1)
  refine Gx.pop g.gd dL_law_200 (Or.inl rfl) ?_
  refine Gx.ald_n g.gd rfl dL_law_201 ?_
  obtain ⟨_, t2, ct2, ⟨y2, rfl⟩, mi2, fr2⟩ := cq_mstatus t1 ck1.1 mi1 
  have ck2 := ck1.model (fr2.mono (by decide) (by decide))
  have ti2 := ti.keep kp1 cs1.cs fr2 (by decide) (by decide)
  have tj2 := tj.keep kp1 cs1 fr2 (by decide) (by decide)
  have tl2 := tl.keep kp1 kl1 fr2 (by decide) (by decide) (by decide) (by decide)
  have k2 : hK t2 73 = 11 := by rw [fr2.2.2.1]; exact k1
  have l2 : hL t2 73 = 1 := by rw [fr2.2.2.2.1]; exact l1
  refine Gx.callV1 g.gd ct2 wc_L_23 iM_X6_status se_X6_status kC6 (sK41 (h := t1) ck1.1) dL_law_202 rfl (Nat.le_of_ble_eq_true rfl) rfl (Nat.le_of_ble_eq_true rfl) ?_ (rm9 ck2)
  refine Gx.pop g.gd dL_law_205 (Or.inl rfl) ?_
  refine Gx.goto (tgt := 1371) g.gd dL_law_206 rfl ?_
  exact nx _ ck2 mi2 k2 l2 ti2 tj2 tl2
theorem cs_1 {Ln : Nat} {xs : Nat → Int32} {G : Nat → List mV → List mV → mH → Prop} (g : Gl Ln xs room_1 G) (hLn : Ln ≤ 3072) {i : Int} (i0 : 0 ≤ i) (i6 : i + 6 ≤ (Ln : Int)) {h : mH} {n : Nat} (ck : CK h ((n : Int) + 1)) (mi : MI h) (k73 : hK h 73 = 11) (l73 : hL h 73 = 1) (ti : TI h) (tj : TJ h) (tl : TLd h) (nx : ∀ h', CK h' (n : Int) → MI h' → hK h' 73 = 11 → hL h' 73 = 1 → TI h' → TJ h' → TLd h' → G 1371 (Lw i) [] h') : G 209 (Lw i) [] h := by
  refine Gx.ald_n g.gd rfl dL_law_209 ?_
  refine Gl.scr (i := i) (k := 1) g rfl i0 (by decide) (by decide) (by omega) hLn dL_law_210 dL_law_211 dL_law_213 dL_law_214 dL_law_215 ?_
  refine Gl.scr (i := i) (k := 2) g rfl i0 (by decide) (by decide) (by omega) hLn dL_law_216 dL_law_217 dL_law_219 dL_law_220 dL_law_221 ?_
  refine Gl.scr (i := i) (k := 3) g rfl i0 (by decide) (by decide) (by omega) hLn dL_law_222 dL_law_223 dL_law_225 dL_law_226 dL_law_227 ?_
  obtain ⟨_, t1, ct1, ⟨y1, rfl, hy1⟩, ck1, kp1, kl1⟩ := kx_sheet h n ck (sX xs (i + 1)) (sX xs (i + 2)) (sX xs (i + 3))
  have mi1 := kp1.mi mi
  have k1 := kp1.2.2.1.trans k73
  have l1 := kp1.2.2.2.trans l73
  refine Gx.callV1 g.gd ct1 wc_L_24 iM_X5_sheet se_X5_sheet kC5 (sK0 (h := h) ck.1) dL_law_228 rfl (Nat.le_of_ble_eq_true rfl) rfl (Nat.le_of_ble_eq_true rfl) ?_ (rm9 ck1)
  refine Gx.pop g.gd dL_law_231 (Or.inl rfl) ?_
  refine Gx.ald_n g.gd rfl dL_law_232 ?_
  refine Gl.scr (i := i) (k := 1) g rfl i0 (by decide) (by decide) (by omega) hLn dL_law_233 dL_law_234 dL_law_236 dL_law_237 dL_law_238 ?_
  refine Gl.scr (i := i) (k := 2) g rfl i0 (by decide) (by decide) (by omega) hLn dL_law_239 dL_law_240 dL_law_242 dL_law_243 dL_law_244 ?_
  refine Gl.scr (i := i) (k := 3) g rfl i0 (by decide) (by decide) (by omega) hLn dL_law_245 dL_law_246 dL_law_248 dL_law_249 dL_law_250 ?_
  obtain ⟨_, t2, ct2, ⟨y2, rfl, hy2⟩, mi2, fr2⟩ := cq_msheet 8 t1 ck1.1 mi1 (sX xs (i + 1)) (sX xs (i + 2)) (sX xs (i + 3))
  have ck2 := ck1.model (fr2.mono (by decide) (by decide))
  obtain ⟨ey2, ti2, tj2⟩ := TB.sheet (fun z => ⟨z.2.2.1, z.2.2.2⟩) ti tj kp1 (fr2.mono (by decide) (by decide)) hy1 hy2
  have tl2 := tl.keep kp1 kl1 fr2 (by decide) (by decide) (by decide) (by decide)
  have k2 : hK t2 73 = 11 := by rw [fr2.2.2.1]; exact k1
  have l2 : hL t2 73 = 1 := by rw [fr2.2.2.2.1]; exact l1
  refine Gx.callV1 g.gd ct2 wc_L_28 iM_X6_sheet se_X6_sheet kC6 (sK41 (h := t1) ck1.1) dL_law_251 rfl (Nat.le_of_ble_eq_true rfl) rfl (Nat.le_of_ble_eq_true rfl) ?_ (rm9 ck2)
  refine Gx.pop g.gd dL_law_254 (Or.inl rfl) ?_
  refine Gx.goto (tgt := 1371) g.gd dL_law_255 rfl ?_
  exact nx _ ck2 mi2 k2 l2 ti2 tj2 tl2
theorem cs_2 {Ln : Nat} {xs : Nat → Int32} {G : Nat → List mV → List mV → mH → Prop} (g : Gl Ln xs room_1 G) (hLn : Ln ≤ 3072) {i : Int} (i0 : 0 ≤ i) (i6 : i + 6 ≤ (Ln : Int)) {h : mH} {n : Nat} (ck : CK h ((n : Int) + 1)) (mi : MI h) (k73 : hK h 73 = 11) (l73 : hL h 73 = 1) (ti : TI h) (tj : TJ h) (tl : TLd h) (nx : ∀ h', CK h' (n : Int) → MI h' → hK h' 73 = 11 → hL h' 73 = 1 → TI h' → TJ h' → TLd h' → G 1371 (Lw i) [] h') : G 258 (Lw i) [] h := by
  refine Gx.ald_n g.gd rfl dL_law_258 ?_
  refine Gl.scr (i := i) (k := 1) g rfl i0 (by decide) (by decide) (by omega) hLn dL_law_259 dL_law_260 dL_law_262 dL_law_263 dL_law_264 ?_
  refine Gl.scr (i := i) (k := 2) g rfl i0 (by decide) (by decide) (by omega) hLn dL_law_265 dL_law_266 dL_law_268 dL_law_269 dL_law_270 ?_
  refine Gl.scr (i := i) (k := 3) g rfl i0 (by decide) (by decide) (by omega) hLn dL_law_271 dL_law_272 dL_law_274 dL_law_275 dL_law_276 ?_
  refine Gx.i2l g.gd dL_law_277 ?_
  refine Gx.bipush g.gd dL_law_278 (by decide) ?_
  refine Gx.lshl g.gd dL_law_280 ?_
  refine Gl.scr (i := i) (k := 4) g rfl i0 (by decide) (by decide) (by omega) hLn dL_law_281 dL_law_282 dL_law_284 dL_law_285 dL_law_286 ?_
  refine Gx.i2l g.gd dL_law_287 ?_
  refine Gx.ldc2 (z := 4294967295) g.gd lk_L_29 (by decide) dL_law_288 ?_
  refine Gx.land g.gd dL_law_291 ?_
  refine Gx.lor g.gd dL_law_292 ?_
  obtain ⟨_, t1, ct1, ⟨y1, rfl, hy1⟩, ck1, kp1, kl1⟩ := kx_write h n ck (sX xs (i + 1)) (sX xs (i + 2)) (qor (qshl (sX xs (i + 3)) 32) (qand (sX xs (i + 4)) 4294967295)) (sX_r _ _)
  have mi1 := kp1.mi mi
  have k1 := kp1.2.2.1.trans k73
  have l1 := kp1.2.2.2.trans l73
  refine Gx.callV1 g.gd ct1 wc_L_31 iM_X5_write se_X5_write kC5 (sK0 (h := h) ck.1) dL_law_293 rfl (Nat.le_of_ble_eq_true rfl) rfl (Nat.le_of_ble_eq_true rfl) ?_ (rm9 ck1)
  refine Gx.pop g.gd dL_law_296 (Or.inl rfl) ?_
  refine Gx.ald_n g.gd rfl dL_law_297 ?_
  refine Gl.scr (i := i) (k := 1) g rfl i0 (by decide) (by decide) (by omega) hLn dL_law_298 dL_law_299 dL_law_301 dL_law_302 dL_law_303 ?_
  refine Gl.scr (i := i) (k := 2) g rfl i0 (by decide) (by decide) (by omega) hLn dL_law_304 dL_law_305 dL_law_307 dL_law_308 dL_law_309 ?_
  refine Gl.scr (i := i) (k := 3) g rfl i0 (by decide) (by decide) (by omega) hLn dL_law_310 dL_law_311 dL_law_313 dL_law_314 dL_law_315 ?_
  refine Gx.i2l g.gd dL_law_316 ?_
  refine Gx.bipush g.gd dL_law_317 (by decide) ?_
  refine Gx.lshl g.gd dL_law_319 ?_
  refine Gl.scr (i := i) (k := 4) g rfl i0 (by decide) (by decide) (by omega) hLn dL_law_320 dL_law_321 dL_law_323 dL_law_324 dL_law_325 ?_
  refine Gx.i2l g.gd dL_law_326 ?_
  refine Gx.ldc2 (z := 4294967295) g.gd lk_L_29 (by decide) dL_law_327 ?_
  refine Gx.land g.gd dL_law_330 ?_
  refine Gx.lor g.gd dL_law_331 ?_
  obtain ⟨_, t2, ct2, ⟨y2, rfl, hy2⟩, mi2, fr2⟩ := cq_mwrite 7 t1 ck1.1 mi1 (sX xs (i + 1)) (sX xs (i + 2)) (qor (qshl (sX xs (i + 3)) 32) (qand (sX xs (i + 4)) 4294967295))
  have ck2 := ck1.model (fr2.mono (by decide) (by decide))
  obtain ⟨ey2, ti2, tj2⟩ := TB.write ti tj kp1 (fr2.mono (by decide) (by decide)) hy1 hy2
  have tl2 := tl.keep kp1 kl1 fr2 (by decide) (by decide) (by decide) (by decide)
  have k2 : hK t2 73 = 11 := by rw [fr2.2.2.1]; exact k1
  have l2 : hL t2 73 = 1 := by rw [fr2.2.2.2.1]; exact l1
  refine Gx.callV1 g.gd ct2 wc_L_35 iM_X6_write se_X6_write kC6 (sK41 (h := t1) ck1.1) dL_law_332 rfl (Nat.le_of_ble_eq_true rfl) rfl (Nat.le_of_ble_eq_true rfl) ?_ (rm9 ck2)
  refine Gx.pop g.gd dL_law_335 (Or.inl rfl) ?_
  refine Gx.goto (tgt := 1371) g.gd dL_law_336 rfl ?_
  exact nx _ ck2 mi2 k2 l2 ti2 tj2 tl2
theorem cs_3 {Ln : Nat} {xs : Nat → Int32} {G : Nat → List mV → List mV → mH → Prop} (g : Gl Ln xs room_1 G) (hLn : Ln ≤ 3072) {i : Int} (i0 : 0 ≤ i) (i6 : i + 6 ≤ (Ln : Int)) {h : mH} {n : Nat} (ck : CK h ((n : Int) + 1)) (mi : MI h) (k73 : hK h 73 = 11) (l73 : hL h 73 = 1) (ti : TI h) (tj : TJ h) (tl : TLd h) (nx : ∀ h', CK h' (n : Int) → MI h' → hK h' 73 = 11 → hL h' 73 = 1 → TI h' → TJ h' → TLd h' → G 1371 (Lw i) [] h') : G 339 (Lw i) [] h := by
  refine Gx.ald_n g.gd rfl dL_law_339 ?_
  refine Gl.scr (i := i) (k := 1) g rfl i0 (by decide) (by decide) (by omega) hLn dL_law_340 dL_law_341 dL_law_343 dL_law_344 dL_law_345 ?_
  refine Gl.scr (i := i) (k := 2) g rfl i0 (by decide) (by decide) (by omega) hLn dL_law_346 dL_law_347 dL_law_349 dL_law_350 dL_law_351 ?_
  obtain ⟨_, t1, ct1, ⟨y1, rfl, hy1⟩, ck1, kp1, cs1, kl1⟩ := kx_read h n ck (sX xs (i + 1)) (sX xs (i + 2)) (sX_r _ _)
  have mi1 := kp1.mi mi
  have k1 := kp1.2.2.1.trans k73
  have l1 := kp1.2.2.2.trans l73
  refine Gx.callV1 g.gd ct1 wc_L_36 iM_X5_read se_X5_read kC5 (sK0 (h := h) ck.1) dL_law_352 rfl (Nat.le_of_ble_eq_true rfl) rfl (Nat.le_of_ble_eq_true rfl) ?_ (rm9 ck1)
  refine Gx.ald_n g.gd rfl dL_law_355 ?_
  refine Gl.scr (i := i) (k := 1) g rfl i0 (by decide) (by decide) (by omega) hLn dL_law_356 dL_law_357 dL_law_359 dL_law_360 dL_law_361 ?_
  refine Gl.scr (i := i) (k := 2) g rfl i0 (by decide) (by decide) (by omega) hLn dL_law_362 dL_law_363 dL_law_365 dL_law_366 dL_law_367 ?_
  obtain ⟨_, t2, ct2, ⟨y2, rfl, hy2⟩, mi2, fr2⟩ := cq_mread 7 t1 ck1.1 mi1 (sX xs (i + 1)) (sX xs (i + 2))
  have ck2 := ck1.model (fr2.mono (by decide) (by decide))
  have ti2 := ti.keep kp1 cs1.cs fr2 (by decide) (by decide)
  have tj2 := tj.keep kp1 cs1 fr2 (by decide) (by decide)
  have tl2 := tl.keep kp1 kl1 fr2 (by decide) (by decide) (by decide) (by decide)
  have k2 : hK t2 73 = 11 := by rw [fr2.2.2.1]; exact k1
  have l2 : hL t2 73 = 1 := by rw [fr2.2.2.2.1]; exact l1
  refine Gx.callV1 g.gd ct2 wc_L_40 iM_X6_read se_X6_read kC6 (sK41 (h := t1) ck1.1) dL_law_368 rfl (Nat.le_of_ble_eq_true rfl) rfl (Nat.le_of_ble_eq_true rfl) ?_ (rm9 ck2)
  refine Gx.lcmp g.gd dL_law_371 ?_
  exact Gx.ifeq (tgt := 1371) g.gd dL_law_372 rfl (fun _ => nx _ ck2 mi2 k2 l2 ti2 tj2 tl2) (fun z => absurd (cmpL_e0 (ti.read kp1 hy1 hy2)) z)
theorem cs_4 {Ln : Nat} {xs : Nat → Int32} {G : Nat → List mV → List mV → mH → Prop} (g : Gl Ln xs room_1 G) (hLn : Ln ≤ 3072) {i : Int} (i0 : 0 ≤ i) (i6 : i + 6 ≤ (Ln : Int)) {h : mH} {n : Nat} (ck : CK h ((n : Int) + 1)) (mi : MI h) (k73 : hK h 73 = 11) (l73 : hL h 73 = 1) (ti : TI h) (tj : TJ h) (tl : TLd h) (nx : ∀ h', CK h' (n : Int) → MI h' → hK h' 73 = 11 → hL h' 73 = 1 → TI h' → TJ h' → TLd h' → G 1371 (Lw i) [] h') : G 377 (Lw i) [] h := by
  refine Gx.ald_n g.gd rfl dL_law_377 ?_
  refine Gl.scr (i := i) (k := 1) g rfl i0 (by decide) (by decide) (by omega) hLn dL_law_378 dL_law_379 dL_law_381 dL_law_382 dL_law_383 ?_
  refine Gl.scr (i := i) (k := 2) g rfl i0 (by decide) (by decide) (by omega) hLn dL_law_384 dL_law_385 dL_law_387 dL_law_388 dL_law_389 ?_
  refine Gl.scr (i := i) (k := 3) g rfl i0 (by decide) (by decide) (by omega) hLn dL_law_390 dL_law_391 dL_law_393 dL_law_394 dL_law_395 ?_
  refine Gl.scr (i := i) (k := 4) g rfl i0 (by decide) (by decide) (by omega) hLn dL_law_396 dL_law_397 dL_law_399 dL_law_400 dL_law_401 ?_
  refine Gl.scr (i := i) (k := 5) g rfl i0 (by decide) (by decide) (by omega) hLn dL_law_402 dL_law_403 dL_law_405 dL_law_406 dL_law_407 ?_
  obtain ⟨_, t1, ct1, ⟨y1, rfl, hy1⟩, ck1, kp1, kl1⟩ := kx_pour h n ck (sX xs (i + 1)) (sX xs (i + 2)) (sX xs (i + 3)) (sX xs (i + 4)) (sX xs (i + 5)) (sX_r _ _) (sX_r _ _) (sX_r _ _)
  have mi1 := kp1.mi mi
  have k1 := kp1.2.2.1.trans k73
  have l1 := kp1.2.2.2.trans l73
  refine Gx.callV1 g.gd ct1 wc_L_41 iM_X5_pour se_X5_pour kC5 (sK0 (h := h) ck.1) dL_law_408 rfl (Nat.le_of_ble_eq_true rfl) rfl (Nat.le_of_ble_eq_true rfl) ?_ (rm9 ck1)
  refine Gx.pop g.gd dL_law_411 (Or.inl rfl) ?_
  refine Gx.ald_n g.gd rfl dL_law_412 ?_
  refine Gl.scr (i := i) (k := 1) g rfl i0 (by decide) (by decide) (by omega) hLn dL_law_413 dL_law_414 dL_law_416 dL_law_417 dL_law_418 ?_
  refine Gl.scr (i := i) (k := 2) g rfl i0 (by decide) (by decide) (by omega) hLn dL_law_419 dL_law_420 dL_law_422 dL_law_423 dL_law_424 ?_
  refine Gl.scr (i := i) (k := 3) g rfl i0 (by decide) (by decide) (by omega) hLn dL_law_425 dL_law_426 dL_law_428 dL_law_429 dL_law_430 ?_
  refine Gl.scr (i := i) (k := 4) g rfl i0 (by decide) (by decide) (by omega) hLn dL_law_431 dL_law_432 dL_law_434 dL_law_435 dL_law_436 ?_
  refine Gl.scr (i := i) (k := 5) g rfl i0 (by decide) (by decide) (by omega) hLn dL_law_437 dL_law_438 dL_law_440 dL_law_441 dL_law_442 ?_
  obtain ⟨_, t2, ct2, ⟨y2, rfl, hy2⟩, mi2, fr2⟩ := cq_mpour 8 t1 ck1.1 mi1 (sX xs (i + 1)) (sX xs (i + 2)) (sX xs (i + 3)) (sX xs (i + 4)) (sX xs (i + 5)) (sX_r _ _).2 (sX_r _ _).2 (sX_r _ _).2
  have ck2 := ck1.model (fr2.mono (by decide) (by decide))
  obtain ⟨ey2, ti2, tj2⟩ := TB.pour ti tj kp1 (fr2.mono (by decide) (by decide)) hy1 hy2
  have tl2 := tl.keep kp1 kl1 fr2 (by decide) (by decide) (by decide) (by decide)
  have k2 : hK t2 73 = 11 := by rw [fr2.2.2.1]; exact k1
  have l2 : hL t2 73 = 1 := by rw [fr2.2.2.2.1]; exact l1
  refine Gx.callV1 g.gd ct2 wc_L_45 iM_X6_pour se_X6_pour kC6 (sK41 (h := t1) ck1.1) dL_law_443 rfl (Nat.le_of_ble_eq_true rfl) rfl (Nat.le_of_ble_eq_true rfl) ?_ (rm9 ck2)
  refine Gx.pop g.gd dL_law_446 (Or.inl rfl) ?_
  refine Gx.goto (tgt := 1371) g.gd dL_law_447 rfl ?_
  exact nx _ ck2 mi2 k2 l2 ti2 tj2 tl2
theorem cs_5 {Ln : Nat} {xs : Nat → Int32} {G : Nat → List mV → List mV → mH → Prop} (g : Gl Ln xs room_1 G) (hLn : Ln ≤ 3072) {i : Int} (i0 : 0 ≤ i) (i6 : i + 6 ≤ (Ln : Int)) {h : mH} {n : Nat} (ck : CK h ((n : Int) + 1)) (mi : MI h) (k73 : hK h 73 = 11) (l73 : hL h 73 = 1) (ti : TI h) (tj : TJ h) (tl : TLd h) (nx : ∀ h', CK h' (n : Int) → MI h' → hK h' 73 = 11 → hL h' 73 = 1 → TI h' → TJ h' → TLd h' → G 1371 (Lw i) [] h') : G 450 (Lw i) [] h := by
  refine Gx.ald_n g.gd rfl dL_law_450 ?_
  refine Gl.scr (i := i) (k := 1) g rfl i0 (by decide) (by decide) (by omega) hLn dL_law_451 dL_law_452 dL_law_454 dL_law_455 dL_law_456 ?_
  obtain ⟨_, t1, ct1, ⟨y1, rfl, hy1⟩, ck1, kp1, kl1⟩ := kx_ring h n ck (sX xs (i + 1))
  have mi1 := kp1.mi mi
  have k1 := kp1.2.2.1.trans k73
  have l1 := kp1.2.2.2.trans l73
  refine Gx.callV1 g.gd ct1 wc_L_46 iM_X5_ring se_X5_ring kC5 (sK0 (h := h) ck.1) dL_law_457 rfl (Nat.le_of_ble_eq_true rfl) rfl (Nat.le_of_ble_eq_true rfl) ?_ (rm9 ck1)
  refine Gx.pop g.gd dL_law_460 (Or.inl rfl) ?_
  refine Gx.ald_n g.gd rfl dL_law_461 ?_
  refine Gl.scr (i := i) (k := 1) g rfl i0 (by decide) (by decide) (by omega) hLn dL_law_462 dL_law_463 dL_law_465 dL_law_466 dL_law_467 ?_
  obtain ⟨_, t2, ct2, ⟨y2, rfl, hy2⟩, mi2, fr2⟩ := cq_mring 8 t1 ck1.1 mi1 (sX xs (i + 1))
  have ck2 := ck1.model (fr2.mono (by decide) (by decide))
  obtain ⟨ey2, ti2, tj2⟩ := TB.ring ti tj kp1 (fr2.mono (by decide) (by decide)) hy1 hy2
  have tl2 := tl.keep kp1 kl1 fr2 (by decide) (by decide) (by decide) (by decide)
  have k2 : hK t2 73 = 11 := by rw [fr2.2.2.1]; exact k1
  have l2 : hL t2 73 = 1 := by rw [fr2.2.2.2.1]; exact l1
  refine Gx.callV1 g.gd ct2 wc_L_50 iM_X6_ring se_X6_ring kC6 (sK41 (h := t1) ck1.1) dL_law_468 rfl (Nat.le_of_ble_eq_true rfl) rfl (Nat.le_of_ble_eq_true rfl) ?_ (rm9 ck2)
  refine Gx.pop g.gd dL_law_471 (Or.inl rfl) ?_
  refine Gx.goto (tgt := 1371) g.gd dL_law_472 rfl ?_
  exact nx _ ck2 mi2 k2 l2 ti2 tj2 tl2
theorem cs_6 {Ln : Nat} {xs : Nat → Int32} {G : Nat → List mV → List mV → mH → Prop} (g : Gl Ln xs room_1 G) (hLn : Ln ≤ 3072) {i : Int} (i0 : 0 ≤ i) (i6 : i + 6 ≤ (Ln : Int)) {h : mH} {n : Nat} (ck : CK h ((n : Int) + 1)) (mi : MI h) (k73 : hK h 73 = 11) (l73 : hL h 73 = 1) (ti : TI h) (tj : TJ h) (tl : TLd h) (nx : ∀ h', CK h' (n : Int) → MI h' → hK h' 73 = 11 → hL h' 73 = 1 → TI h' → TJ h' → TLd h' → G 1371 (Lw i) [] h') : G 475 (Lw i) [] h := by
  refine Gx.ald_n g.gd rfl dL_law_475 ?_
  refine Gl.scr (i := i) (k := 1) g rfl i0 (by decide) (by decide) (by omega) hLn dL_law_476 dL_law_477 dL_law_479 dL_law_480 dL_law_481 ?_
  refine Gl.scr (i := i) (k := 2) g rfl i0 (by decide) (by decide) (by omega) hLn dL_law_482 dL_law_483 dL_law_485 dL_law_486 dL_law_487 ?_
  obtain ⟨_, t1, ct1, ⟨y1, rfl, hy1⟩, ck1, kp1, kl1⟩ := kx_beater h n ck (sX xs (i + 1)) (sX xs (i + 2))
  have mi1 := kp1.mi mi
  have k1 := kp1.2.2.1.trans k73
  have l1 := kp1.2.2.2.trans l73
  refine Gx.callV1 g.gd ct1 wc_L_51 iM_X5_beater se_X5_beater kC5 (sK0 (h := h) ck.1) dL_law_488 rfl (Nat.le_of_ble_eq_true rfl) rfl (Nat.le_of_ble_eq_true rfl) ?_ (rm9 ck1)
  refine Gx.pop g.gd dL_law_491 (Or.inl rfl) ?_
  refine Gx.ald_n g.gd rfl dL_law_492 ?_
  refine Gl.scr (i := i) (k := 1) g rfl i0 (by decide) (by decide) (by omega) hLn dL_law_493 dL_law_494 dL_law_496 dL_law_497 dL_law_498 ?_
  refine Gl.scr (i := i) (k := 2) g rfl i0 (by decide) (by decide) (by omega) hLn dL_law_499 dL_law_500 dL_law_502 dL_law_503 dL_law_504 ?_
  obtain ⟨_, t2, ct2, ⟨y2, rfl, hy2⟩, mi2, fr2⟩ := cq_mbeater 8 t1 ck1.1 mi1 (sX xs (i + 1)) (sX xs (i + 2))
  have ck2 := ck1.model (fr2.mono (by decide) (by decide))
  obtain ⟨ey2, ti2, tj2⟩ := TB.beater ck.2.1.2.1.1 ti tj kp1 (fr2.mono (by decide) (by decide)) hy1 hy2
  have tl2 := tl.keep kp1 kl1 fr2 (by decide) (by decide) (by decide) (by decide)
  have k2 : hK t2 73 = 11 := by rw [fr2.2.2.1]; exact k1
  have l2 : hL t2 73 = 1 := by rw [fr2.2.2.2.1]; exact l1
  refine Gx.callV1 g.gd ct2 wc_L_55 iM_X6_beater se_X6_beater kC6 (sK41 (h := t1) ck1.1) dL_law_505 rfl (Nat.le_of_ble_eq_true rfl) rfl (Nat.le_of_ble_eq_true rfl) ?_ (rm9 ck2)
  refine Gx.pop g.gd dL_law_508 (Or.inl rfl) ?_
  refine Gx.goto (tgt := 1371) g.gd dL_law_509 rfl ?_
  exact nx _ ck2 mi2 k2 l2 ti2 tj2 tl2
theorem cs_7 {Ln : Nat} {xs : Nat → Int32} {G : Nat → List mV → List mV → mH → Prop} (g : Gl Ln xs room_1 G) (hLn : Ln ≤ 3072) {i : Int} (i0 : 0 ≤ i) (i6 : i + 6 ≤ (Ln : Int)) {h : mH} {n : Nat} (ck : CK h ((n : Int) + 1)) (mi : MI h) (k73 : hK h 73 = 11) (l73 : hL h 73 = 1) (ti : TI h) (tj : TJ h) (tl : TLd h) (nx : ∀ h', CK h' (n : Int) → MI h' → hK h' 73 = 11 → hL h' 73 = 1 → TI h' → TJ h' → TLd h' → G 1371 (Lw i) [] h') : G 512 (Lw i) [] h := by
  refine Gx.ald_n g.gd rfl dL_law_512 ?_
  refine Gl.scr (i := i) (k := 1) g rfl i0 (by decide) (by decide) (by omega) hLn dL_law_513 dL_law_514 dL_law_516 dL_law_517 dL_law_518 ?_
  refine Gl.scr (i := i) (k := 2) g rfl i0 (by decide) (by decide) (by omega) hLn dL_law_519 dL_law_520 dL_law_522 dL_law_523 dL_law_524 ?_
  obtain ⟨_, t1, ct1, ⟨y1, rfl, hy1⟩, ck1, kp1, kl1⟩ := kx_kind h n ck (sX xs (i + 1)) (sX xs (i + 2))
  have mi1 := kp1.mi mi
  have k1 := kp1.2.2.1.trans k73
  have l1 := kp1.2.2.2.trans l73
  refine Gx.callV1 g.gd ct1 wc_L_56 iM_X5_kind se_X5_kind kC5 (sK0 (h := h) ck.1) dL_law_525 rfl (Nat.le_of_ble_eq_true rfl) rfl (Nat.le_of_ble_eq_true rfl) ?_ (rm9 ck1)
  refine Gx.pop g.gd dL_law_528 (Or.inl rfl) ?_
  refine Gx.ald_n g.gd rfl dL_law_529 ?_
  refine Gl.scr (i := i) (k := 1) g rfl i0 (by decide) (by decide) (by omega) hLn dL_law_530 dL_law_531 dL_law_533 dL_law_534 dL_law_535 ?_
  refine Gl.scr (i := i) (k := 2) g rfl i0 (by decide) (by decide) (by omega) hLn dL_law_536 dL_law_537 dL_law_539 dL_law_540 dL_law_541 ?_
  obtain ⟨_, t2, ct2, ⟨y2, rfl, hy2⟩, mi2, fr2⟩ := cq_mkind 8 t1 ck1.1 mi1 (sX xs (i + 1)) (sX xs (i + 2))
  have ck2 := ck1.model (fr2.mono (by decide) (by decide))
  obtain ⟨ey2, ti2, tj2⟩ := TB.kind ti tj kp1 (fr2.mono (by decide) (by decide)) hy1 hy2
  have tl2 := tl.keep kp1 kl1 fr2 (by decide) (by decide) (by decide) (by decide)
  have k2 : hK t2 73 = 11 := by rw [fr2.2.2.1]; exact k1
  have l2 : hL t2 73 = 1 := by rw [fr2.2.2.2.1]; exact l1
  refine Gx.callV1 g.gd ct2 wc_L_60 iM_X6_kind se_X6_kind kC6 (sK41 (h := t1) ck1.1) dL_law_542 rfl (Nat.le_of_ble_eq_true rfl) rfl (Nat.le_of_ble_eq_true rfl) ?_ (rm9 ck2)
  refine Gx.pop g.gd dL_law_545 (Or.inl rfl) ?_
  refine Gx.goto (tgt := 1371) g.gd dL_law_546 rfl ?_
  exact nx _ ck2 mi2 k2 l2 ti2 tj2 tl2
theorem cs_8 {Ln : Nat} {xs : Nat → Int32} {G : Nat → List mV → List mV → mH → Prop} (g : Gl Ln xs room_1 G) (hLn : Ln ≤ 3072) {i : Int} (i0 : 0 ≤ i) (i6 : i + 6 ≤ (Ln : Int)) {h : mH} {n : Nat} (ck : CK h ((n : Int) + 1)) (mi : MI h) (k73 : hK h 73 = 11) (l73 : hL h 73 = 1) (ti : TI h) (tj : TJ h) (tl : TLd h) (nx : ∀ h', CK h' (n : Int) → MI h' → hK h' 73 = 11 → hL h' 73 = 1 → TI h' → TJ h' → TLd h' → G 1371 (Lw i) [] h') : G 549 (Lw i) [] h := by
  refine Gx.ald_n g.gd rfl dL_law_549 ?_
  refine Gl.scr (i := i) (k := 1) g rfl i0 (by decide) (by decide) (by omega) hLn dL_law_550 dL_law_551 dL_law_553 dL_law_554 dL_law_555 ?_
  refine Gl.scr (i := i) (k := 2) g rfl i0 (by decide) (by decide) (by omega) hLn dL_law_556 dL_law_557 dL_law_559 dL_law_560 dL_law_561 ?_
  obtain ⟨_, t1, ct1, ⟨y1, rfl, hy1⟩, ck1, kp1, kl1⟩ := kx_turn h n ck (sX xs (i + 1)) (sX xs (i + 2))
  have mi1 := kp1.mi mi
  have k1 := kp1.2.2.1.trans k73
  have l1 := kp1.2.2.2.trans l73
  refine Gx.callV1 g.gd ct1 wc_L_61 iM_X5_turn se_X5_turn kC5 (sK0 (h := h) ck.1) dL_law_562 rfl (Nat.le_of_ble_eq_true rfl) rfl (Nat.le_of_ble_eq_true rfl) ?_ (rm9 ck1)
  refine Gx.pop g.gd dL_law_565 (Or.inl rfl) ?_
  refine Gx.ald_n g.gd rfl dL_law_566 ?_
  refine Gl.scr (i := i) (k := 1) g rfl i0 (by decide) (by decide) (by omega) hLn dL_law_567 dL_law_568 dL_law_570 dL_law_571 dL_law_572 ?_
  refine Gl.scr (i := i) (k := 2) g rfl i0 (by decide) (by decide) (by omega) hLn dL_law_573 dL_law_574 dL_law_576 dL_law_577 dL_law_578 ?_
  obtain ⟨_, t2, ct2, ⟨y2, rfl, hy2⟩, mi2, fr2⟩ := cq_mturn 8 t1 ck1.1 mi1 (sX xs (i + 1)) (sX xs (i + 2))
  have ck2 := ck1.model (fr2.mono (by decide) (by decide))
  obtain ⟨ey2, ti2, tj2⟩ := TB.turn ti tj kp1 (fr2.mono (by decide) (by decide)) hy1 hy2
  have tl2 := tl.keep kp1 kl1 fr2 (by decide) (by decide) (by decide) (by decide)
  have k2 : hK t2 73 = 11 := by rw [fr2.2.2.1]; exact k1
  have l2 : hL t2 73 = 1 := by rw [fr2.2.2.2.1]; exact l1
  refine Gx.callV1 g.gd ct2 wc_L_64 iM_X6_turn se_X6_turn kC6 (sK41 (h := t1) ck1.1) dL_law_579 rfl (Nat.le_of_ble_eq_true rfl) rfl (Nat.le_of_ble_eq_true rfl) ?_ (rm9 ck2)
  refine Gx.pop g.gd dL_law_582 (Or.inl rfl) ?_
  refine Gx.goto (tgt := 1371) g.gd dL_law_583 rfl ?_
  exact nx _ ck2 mi2 k2 l2 ti2 tj2 tl2
theorem cs_9 {Ln : Nat} {xs : Nat → Int32} {G : Nat → List mV → List mV → mH → Prop} (g : Gl Ln xs room_1 G) (hLn : Ln ≤ 3072) {i : Int} (i0 : 0 ≤ i) (i6 : i + 6 ≤ (Ln : Int)) {h : mH} {n : Nat} (ck : CK h ((n : Int) + 1)) (mi : MI h) (k73 : hK h 73 = 11) (l73 : hL h 73 = 1) (ti : TI h) (tj : TJ h) (tl : TLd h) (nx : ∀ h', CK h' (n : Int) → MI h' → hK h' 73 = 11 → hL h' 73 = 1 → TI h' → TJ h' → TLd h' → G 1371 (Lw i) [] h') : G 586 (Lw i) [] h := by
  refine Gx.ald_n g.gd rfl dL_law_586 ?_
  refine Gl.scr (i := i) (k := 1) g rfl i0 (by decide) (by decide) (by omega) hLn dL_law_587 dL_law_588 dL_law_590 dL_law_591 dL_law_592 ?_
  obtain ⟨_, t1, ct1, ⟨y1, rfl, hy1⟩, ck1, kp1, kl1⟩ := kx_phases h n ck (sX xs (i + 1))
  have mi1 := kp1.mi mi
  have k1 := kp1.2.2.1.trans k73
  have l1 := kp1.2.2.2.trans l73
  refine Gx.callV1 g.gd ct1 wc_L_65 iM_X5_phases se_X5_phases kC5 (sK0 (h := h) ck.1) dL_law_593 rfl (Nat.le_of_ble_eq_true rfl) rfl (Nat.le_of_ble_eq_true rfl) ?_ (rm9 ck1)
  refine Gx.pop g.gd dL_law_596 (Or.inl rfl) ?_
  refine Gx.ald_n g.gd rfl dL_law_597 ?_
  refine Gl.scr (i := i) (k := 1) g rfl i0 (by decide) (by decide) (by omega) hLn dL_law_598 dL_law_599 dL_law_601 dL_law_602 dL_law_603 ?_
  obtain ⟨_, t2, ct2, ⟨y2, rfl, hy2⟩, mi2, fr2⟩ := cq_mphases 8 t1 ck1.1 mi1 (sX xs (i + 1))
  have ck2 := ck1.model (fr2.mono (by decide) (by decide))
  obtain ⟨ey2, ti2, tj2⟩ := TB.phases ti tj kp1 (fr2.mono (by decide) (by decide)) ck.2.1.1.2 hy1 hy2
  have tl2 := tl.keep kp1 kl1 fr2 (by decide) (by decide) (by decide) (by decide)
  have k2 : hK t2 73 = 11 := by rw [fr2.2.2.1]; exact k1
  have l2 : hL t2 73 = 1 := by rw [fr2.2.2.2.1]; exact l1
  refine Gx.callV1 g.gd ct2 wc_L_68 iM_X6_phases se_X6_phases kC6 (sK41 (h := t1) ck1.1) dL_law_604 rfl (Nat.le_of_ble_eq_true rfl) rfl (Nat.le_of_ble_eq_true rfl) ?_ (rm9 ck2)
  refine Gx.pop g.gd dL_law_607 (Or.inl rfl) ?_
  refine Gx.goto (tgt := 1371) g.gd dL_law_608 rfl ?_
  exact nx _ ck2 mi2 k2 l2 ti2 tj2 tl2
theorem cs_10 {Ln : Nat} {xs : Nat → Int32} {G : Nat → List mV → List mV → mH → Prop} (g : Gl Ln xs room_1 G) (hLn : Ln ≤ 3072) {i : Int} (i0 : 0 ≤ i) (i6 : i + 6 ≤ (Ln : Int)) {h : mH} {n : Nat} (ck : CK h ((n : Int) + 1)) (mi : MI h) (k73 : hK h 73 = 11) (l73 : hL h 73 = 1) (ti : TI h) (tj : TJ h) (tl : TLd h) (nx : ∀ h', CK h' (n : Int) → MI h' → hK h' 73 = 11 → hL h' 73 = 1 → TI h' → TJ h' → TLd h' → G 1371 (Lw i) [] h') : G 611 (Lw i) [] h := by
  refine Gx.ald_n g.gd rfl dL_law_611 ?_
  refine Gl.scr (i := i) (k := 1) g rfl i0 (by decide) (by decide) (by omega) hLn dL_law_612 dL_law_613 dL_law_615 dL_law_616 dL_law_617 ?_
  refine Gl.scr (i := i) (k := 2) g rfl i0 (by decide) (by decide) (by omega) hLn dL_law_618 dL_law_619 dL_law_621 dL_law_622 dL_law_623 ?_
  refine Gl.scr (i := i) (k := 3) g rfl i0 (by decide) (by decide) (by omega) hLn dL_law_624 dL_law_625 dL_law_627 dL_law_628 dL_law_629 ?_
  refine Gx.ifeq (tgt := 637) g.gd dL_law_630 rfl (fun q630 => ?_) (fun q630 => ?_)
  · skip
    refine Gx.iconst g.gd dL_law_637 (by decide) ?_
    obtain ⟨_, t1, ct1, ⟨y1, rfl, hy1⟩, ck1, kp1, kl1⟩ := kx_road h n ck (sX xs (i + 1)) (sX xs (i + 2)) 0
    have mi1 := kp1.mi mi
    have k1 := kp1.2.2.1.trans k73
    have l1 := kp1.2.2.2.trans l73
    refine Gx.callV1 g.gd ct1 wc_L_69 iM_X5_road se_X5_road kC5 (sK0 (h := h) ck.1) dL_law_638 rfl (Nat.le_of_ble_eq_true rfl) rfl (Nat.le_of_ble_eq_true rfl) ?_ (rm9 ck1)
    refine Gx.pop g.gd dL_law_641 (Or.inl rfl) ?_
    refine Gx.ald_n g.gd rfl dL_law_642 ?_
    refine Gl.scr (i := i) (k := 1) g rfl i0 (by decide) (by decide) (by omega) hLn dL_law_643 dL_law_644 dL_law_646 dL_law_647 dL_law_648 ?_
    refine Gl.scr (i := i) (k := 2) g rfl i0 (by decide) (by decide) (by omega) hLn dL_law_649 dL_law_650 dL_law_652 dL_law_653 dL_law_654 ?_
    refine Gl.scr (i := i) (k := 3) g rfl i0 (by decide) (by decide) (by omega) hLn dL_law_655 dL_law_656 dL_law_658 dL_law_659 dL_law_660 ?_
    refine Gx.ifeq (tgt := 668) g.gd dL_law_661 rfl (fun q661 => ?_) (fun q661 => ?_)
    · skip
      refine Gx.iconst g.gd dL_law_668 (by decide) ?_
      obtain ⟨_, t2, ct2, ⟨y2, rfl, hy2⟩, mi2, fr2⟩ := cq_mroad 8 t1 ck1.1 mi1 (sX xs (i + 1)) (sX xs (i + 2)) 0 (Or.inl rfl)
      have ck2 := ck1.model (fr2.mono (by decide) (by decide))
      obtain ⟨ey2, ti2, tj2⟩ := TB.road ti tj kp1 (fr2.mono (by decide) (by decide)) ck.2.1.2.1.2 hy1 hy2
      have tl2 := tl.keep kp1 kl1 fr2 (by decide) (by decide) (by decide) (by decide)
      have k2 : hK t2 73 = 11 := by rw [fr2.2.2.1]; exact k1
      have l2 : hL t2 73 = 1 := by rw [fr2.2.2.2.1]; exact l1
      refine Gx.callV1 g.gd ct2 wc_L_73 iM_X6_road se_X6_road kC6 (sK41 (h := t1) ck1.1) dL_law_669 rfl (Nat.le_of_ble_eq_true rfl) rfl (Nat.le_of_ble_eq_true rfl) ?_ (rm9 ck2)
      refine Gx.pop g.gd dL_law_672 (Or.inl rfl) ?_
      refine Gx.goto (tgt := 1371) g.gd dL_law_673 rfl ?_
      exact nx _ ck2 mi2 k2 l2 ti2 tj2 tl2
    · exact absurd q630 q661
  · skip
    refine Gx.iconst g.gd dL_law_633 (by decide) ?_
    refine Gx.goto (tgt := 638) g.gd dL_law_634 rfl ?_
    obtain ⟨_, t1, ct1, ⟨y1, rfl, hy1⟩, ck1, kp1, kl1⟩ := kx_road h n ck (sX xs (i + 1)) (sX xs (i + 2)) 1
    have mi1 := kp1.mi mi
    have k1 := kp1.2.2.1.trans k73
    have l1 := kp1.2.2.2.trans l73
    refine Gx.callV1 g.gd ct1 wc_L_69 iM_X5_road se_X5_road kC5 (sK0 (h := h) ck.1) dL_law_638 rfl (Nat.le_of_ble_eq_true rfl) rfl (Nat.le_of_ble_eq_true rfl) ?_ (rm9 ck1)
    refine Gx.pop g.gd dL_law_641 (Or.inl rfl) ?_
    refine Gx.ald_n g.gd rfl dL_law_642 ?_
    refine Gl.scr (i := i) (k := 1) g rfl i0 (by decide) (by decide) (by omega) hLn dL_law_643 dL_law_644 dL_law_646 dL_law_647 dL_law_648 ?_
    refine Gl.scr (i := i) (k := 2) g rfl i0 (by decide) (by decide) (by omega) hLn dL_law_649 dL_law_650 dL_law_652 dL_law_653 dL_law_654 ?_
    refine Gl.scr (i := i) (k := 3) g rfl i0 (by decide) (by decide) (by omega) hLn dL_law_655 dL_law_656 dL_law_658 dL_law_659 dL_law_660 ?_
    refine Gx.ifeq (tgt := 668) g.gd dL_law_661 rfl (fun q661 => ?_) (fun q661 => ?_)
    · exact absurd q661 q630
    · skip
      refine Gx.iconst g.gd dL_law_664 (by decide) ?_
      refine Gx.goto (tgt := 669) g.gd dL_law_665 rfl ?_
      obtain ⟨_, t2, ct2, ⟨y2, rfl, hy2⟩, mi2, fr2⟩ := cq_mroad 8 t1 ck1.1 mi1 (sX xs (i + 1)) (sX xs (i + 2)) 1 (Or.inr rfl)
      have ck2 := ck1.model (fr2.mono (by decide) (by decide))
      obtain ⟨ey2, ti2, tj2⟩ := TB.road ti tj kp1 (fr2.mono (by decide) (by decide)) ck.2.1.2.1.2 hy1 hy2
      have tl2 := tl.keep kp1 kl1 fr2 (by decide) (by decide) (by decide) (by decide)
      have k2 : hK t2 73 = 11 := by rw [fr2.2.2.1]; exact k1
      have l2 : hL t2 73 = 1 := by rw [fr2.2.2.2.1]; exact l1
      refine Gx.callV1 g.gd ct2 wc_L_73 iM_X6_road se_X6_road kC6 (sK41 (h := t1) ck1.1) dL_law_669 rfl (Nat.le_of_ble_eq_true rfl) rfl (Nat.le_of_ble_eq_true rfl) ?_ (rm9 ck2)
      refine Gx.pop g.gd dL_law_672 (Or.inl rfl) ?_
      refine Gx.goto (tgt := 1371) g.gd dL_law_673 rfl ?_
      exact nx _ ck2 mi2 k2 l2 ti2 tj2 tl2
theorem cs_11 {Ln : Nat} {xs : Nat → Int32} {G : Nat → List mV → List mV → mH → Prop} (g : Gl Ln xs room_1 G) (hLn : Ln ≤ 3072) {i : Int} (i0 : 0 ≤ i) (i6 : i + 6 ≤ (Ln : Int)) {h : mH} {n : Nat} (ck : CK h ((n : Int) + 1)) (mi : MI h) (k73 : hK h 73 = 11) (l73 : hL h 73 = 1) (ti : TI h) (tj : TJ h) (tl : TLd h) (nx : ∀ h', CK h' (n : Int) → MI h' → hK h' 73 = 11 → hL h' 73 = 1 → TI h' → TJ h' → TLd h' → G 1371 (Lw i) [] h') : G 676 (Lw i) [] h := by
  refine Gx.ald_n g.gd rfl dL_law_676 ?_
  refine Gl.scr (i := i) (k := 1) g rfl i0 (by decide) (by decide) (by omega) hLn dL_law_677 dL_law_678 dL_law_680 dL_law_681 dL_law_682 ?_
  obtain ⟨_, t1, ct1, ⟨y1, rfl, hy1⟩, ck1, kp1, kl1⟩ := kx_roads h n ck (sX xs (i + 1))
  have mi1 := kp1.mi mi
  have k1 := kp1.2.2.1.trans k73
  have l1 := kp1.2.2.2.trans l73
  refine Gx.callV1 g.gd ct1 wc_L_74 iM_X5_roads se_X5_roads kC5 (sK0 (h := h) ck.1) dL_law_683 rfl (Nat.le_of_ble_eq_true rfl) rfl (Nat.le_of_ble_eq_true rfl) ?_ (rm9 ck1)
  refine Gx.pop g.gd dL_law_686 (Or.inl rfl) ?_
  refine Gx.ald_n g.gd rfl dL_law_687 ?_
  refine Gl.scr (i := i) (k := 1) g rfl i0 (by decide) (by decide) (by omega) hLn dL_law_688 dL_law_689 dL_law_691 dL_law_692 dL_law_693 ?_
  obtain ⟨_, t2, ct2, ⟨y2, rfl, hy2⟩, mi2, fr2⟩ := cq_mroads 8 t1 ck1.1 mi1 (sX xs (i + 1))
  have ck2 := ck1.model (fr2.mono (by decide) (by decide))
  obtain ⟨ey2, ti2, tj2⟩ := TB.roads ti tj kp1 (fr2.mono (by decide) (by decide)) ck.2.1.2.1.1 ck.2.1.2.1.2 hy1 hy2
  have tl2 := tl.keep kp1 kl1 fr2 (by decide) (by decide) (by decide) (by decide)
  have k2 : hK t2 73 = 11 := by rw [fr2.2.2.1]; exact k1
  have l2 : hL t2 73 = 1 := by rw [fr2.2.2.2.1]; exact l1
  refine Gx.callV1 g.gd ct2 wc_L_77 iM_X6_roads se_X6_roads kC6 (sK41 (h := t1) ck1.1) dL_law_694 rfl (Nat.le_of_ble_eq_true rfl) rfl (Nat.le_of_ble_eq_true rfl) ?_ (rm9 ck2)
  refine Gx.pop g.gd dL_law_697 (Or.inl rfl) ?_
  refine Gx.goto (tgt := 1371) g.gd dL_law_698 rfl ?_
  exact nx _ ck2 mi2 k2 l2 ti2 tj2 tl2
theorem cs_12 {Ln : Nat} {xs : Nat → Int32} {G : Nat → List mV → List mV → mH → Prop} (g : Gl Ln xs room_1 G) (hLn : Ln ≤ 3072) {i : Int} (i0 : 0 ≤ i) (i6 : i + 6 ≤ (Ln : Int)) {h : mH} {n : Nat} (ck : CK h ((n : Int) + 1)) (mi : MI h) (k73 : hK h 73 = 11) (l73 : hL h 73 = 1) (ti : TI h) (tj : TJ h) (tl : TLd h) (nx : ∀ h', CK h' (n : Int) → MI h' → hK h' 73 = 11 → hL h' 73 = 1 → TI h' → TJ h' → TLd h' → G 1371 (Lw i) [] h') : G 701 (Lw i) [] h := by
  refine Gx.ald_n g.gd rfl dL_law_701 ?_
  refine Gl.scr (i := i) (k := 1) g rfl i0 (by decide) (by decide) (by omega) hLn dL_law_702 dL_law_703 dL_law_705 dL_law_706 dL_law_707 ?_
  refine Gl.scr (i := i) (k := 2) g rfl i0 (by decide) (by decide) (by omega) hLn dL_law_708 dL_law_709 dL_law_711 dL_law_712 dL_law_713 ?_
  obtain ⟨_, t1, ct1, ⟨y1, rfl, hy1⟩, ck1, kp1, kl1⟩ := kx_push h n ck (sX xs (i + 1)) (sX xs (i + 2))
  have mi1 := kp1.mi mi
  have k1 := kp1.2.2.1.trans k73
  have l1 := kp1.2.2.2.trans l73
  refine Gx.callV1 g.gd ct1 wc_L_78 iM_X5_push se_X5_push kC5 (sK0 (h := h) ck.1) dL_law_714 rfl (Nat.le_of_ble_eq_true rfl) rfl (Nat.le_of_ble_eq_true rfl) ?_ (rm9 ck1)
  refine Gx.pop g.gd dL_law_717 (Or.inl rfl) ?_
  refine Gx.ald_n g.gd rfl dL_law_718 ?_
  refine Gl.scr (i := i) (k := 1) g rfl i0 (by decide) (by decide) (by omega) hLn dL_law_719 dL_law_720 dL_law_722 dL_law_723 dL_law_724 ?_
  refine Gl.scr (i := i) (k := 2) g rfl i0 (by decide) (by decide) (by omega) hLn dL_law_725 dL_law_726 dL_law_728 dL_law_729 dL_law_730 ?_
  obtain ⟨_, t2, ct2, ⟨y2, rfl, hy2⟩, mi2, fr2⟩ := cq_mpush 8 t1 ck1.1 mi1 (sX xs (i + 1)) (sX xs (i + 2))
  have ck2 := ck1.model (fr2.mono (by decide) (by decide))
  obtain ⟨ey2, ti2, tj2⟩ := TB.push ti tj kp1 (fr2.mono (by decide) (by decide)) hy1 hy2
  have tl2 := tl.keep kp1 kl1 fr2 (by decide) (by decide) (by decide) (by decide)
  have k2 : hK t2 73 = 11 := by rw [fr2.2.2.1]; exact k1
  have l2 : hL t2 73 = 1 := by rw [fr2.2.2.2.1]; exact l1
  refine Gx.callV1 g.gd ct2 wc_L_81 iM_X6_push se_X6_push kC6 (sK41 (h := t1) ck1.1) dL_law_731 rfl (Nat.le_of_ble_eq_true rfl) rfl (Nat.le_of_ble_eq_true rfl) ?_ (rm9 ck2)
  refine Gx.pop g.gd dL_law_734 (Or.inl rfl) ?_
  refine Gx.goto (tgt := 1371) g.gd dL_law_735 rfl ?_
  exact nx _ ck2 mi2 k2 l2 ti2 tj2 tl2
theorem cs_13 {Ln : Nat} {xs : Nat → Int32} {G : Nat → List mV → List mV → mH → Prop} (g : Gl Ln xs room_1 G) (hLn : Ln ≤ 3072) {i : Int} (i0 : 0 ≤ i) (i6 : i + 6 ≤ (Ln : Int)) {h : mH} {n : Nat} (ck : CK h ((n : Int) + 1)) (mi : MI h) (k73 : hK h 73 = 11) (l73 : hL h 73 = 1) (ti : TI h) (tj : TJ h) (tl : TLd h) (nx : ∀ h', CK h' (n : Int) → MI h' → hK h' 73 = 11 → hL h' 73 = 1 → TI h' → TJ h' → TLd h' → G 1371 (Lw i) [] h') : G 738 (Lw i) [] h := by
  refine Gx.ald_n g.gd rfl dL_law_738 ?_
  obtain ⟨_, t1, ct1, rfl, ck1, kp1, ze1, zb1, cs1, kl1⟩ := kx_clear h n ck 
  have mi1 := kp1.mi mi
  have k1 := kp1.2.2.1.trans k73
  have l1 := kp1.2.2.2.trans l73
  refine Gx.callV1 g.gd ct1 wc_L_82 iM_X5_clear se_X5_clear kC5 (sK0 (h := h) ck.1) dL_law_739 rfl (Nat.le_of_ble_eq_true rfl) rfl (Nat.le_of_ble_eq_true rfl) ?_ (rm9 ck1)
  refine Gx.pop g.gd dL_law_742 (Or.inl rfl) ?_
  refine Gx.ald_n g.gd rfl dL_law_743 ?_
  obtain ⟨_, t2, ct2, rfl, mi2, ze2, zb2, fr2⟩ := cq_mclear 8 t1 ck1.1 mi1 
  have ck2 := ck1.model (fr2.mono (by decide) (by decide))
  obtain ⟨ti2, tj2⟩ := TB.clear ti tj kp1 (fr2.mono (by decide) (by decide)) ck.2.1.2.1.2 ⟨ze1, cs1⟩ ⟨ze2, fr2⟩ zb1 zb2
  have tl2 := tl.keep kp1 kl1 fr2 (by decide) (by decide) (by decide) (by decide)
  have k2 : hK t2 73 = 11 := by rw [fr2.2.2.1]; exact k1
  have l2 : hL t2 73 = 1 := by rw [fr2.2.2.2.1]; exact l1
  refine Gx.callV1 g.gd ct2 wc_L_86 iM_X6_clear se_X6_clear kC6 (sK41 (h := t1) ck1.1) dL_law_744 rfl (Nat.le_of_ble_eq_true rfl) rfl (Nat.le_of_ble_eq_true rfl) ?_ (rm9 ck2)
  refine Gx.pop g.gd dL_law_747 (Or.inl rfl) ?_
  refine Gx.goto (tgt := 1371) g.gd dL_law_748 rfl ?_
  exact nx _ ck2 mi2 k2 l2 ti2 tj2 tl2
theorem cs_14 {Ln : Nat} {xs : Nat → Int32} {G : Nat → List mV → List mV → mH → Prop} (g : Gl Ln xs room_1 G) (hLn : Ln ≤ 3072) {i : Int} (i0 : 0 ≤ i) (i6 : i + 6 ≤ (Ln : Int)) {h : mH} {n : Nat} (ck : CK h ((n : Int) + 1)) (mi : MI h) (k73 : hK h 73 = 11) (l73 : hL h 73 = 1) (ti : TI h) (tj : TJ h) (tl : TLd h) (nx : ∀ h', CK h' (n : Int) → MI h' → hK h' 73 = 11 → hL h' 73 = 1 → TI h' → TJ h' → TLd h' → G 1371 (Lw i) [] h') : G 751 (Lw i) [] h := by
  refine Gx.ald_n g.gd rfl dL_law_751 ?_
  refine Gl.scr (i := i) (k := 1) g rfl i0 (by decide) (by decide) (by omega) hLn dL_law_752 dL_law_753 dL_law_755 dL_law_756 dL_law_757 ?_
  obtain ⟨_, t1, ct1, ⟨y1, rfl, hy1⟩, ck1, kp1, kl1⟩ := kx_go h n ck (sX xs (i + 1))
  have mi1 := kp1.mi mi
  have k1 := kp1.2.2.1.trans k73
  have l1 := kp1.2.2.2.trans l73
  refine Gx.callV1 g.gd ct1 wc_L_87 iM_X5_go se_X5_go kC5 (sK0 (h := h) ck.1) dL_law_758 rfl (Nat.le_of_ble_eq_true rfl) rfl (Nat.le_of_ble_eq_true rfl) ?_ (rm9 ck1)
  refine Gx.pop g.gd dL_law_761 (Or.inl rfl) ?_
  refine Gx.ald_n g.gd rfl dL_law_762 ?_
  refine Gl.scr (i := i) (k := 1) g rfl i0 (by decide) (by decide) (by omega) hLn dL_law_763 dL_law_764 dL_law_766 dL_law_767 dL_law_768 ?_
  obtain ⟨_, t2, ct2, ⟨y2, rfl, hy2⟩, mi2, fr2⟩ := cq_mgo 7 t1 ck1.1 mi1 (sX xs (i + 1))
  have ck2 := ck1.model (fr2.mono (by decide) (by decide))
  obtain ⟨ey2, ti2, tj2⟩ := TB.go ck.1 ck.2.1 ti tj kp1 (fr2.mono (by decide) (by decide)) hy1 hy2
  have tl2 := tl.keep kp1 kl1 fr2 (by decide) (by decide) (by decide) (by decide)
  have k2 : hK t2 73 = 11 := by rw [fr2.2.2.1]; exact k1
  have l2 : hL t2 73 = 1 := by rw [fr2.2.2.2.1]; exact l1
  refine Gx.callV1 g.gd ct2 wc_L_90 iM_X6_go se_X6_go kC6 (sK41 (h := t1) ck1.1) dL_law_769 rfl (Nat.le_of_ble_eq_true rfl) rfl (Nat.le_of_ble_eq_true rfl) ?_ (rm9 ck2)
  refine Gx.pop g.gd dL_law_772 (Or.inl rfl) ?_
  refine Gx.goto (tgt := 1371) g.gd dL_law_773 rfl ?_
  exact nx _ ck2 mi2 k2 l2 ti2 tj2 tl2
theorem cs_15 {Ln : Nat} {xs : Nat → Int32} {G : Nat → List mV → List mV → mH → Prop} (g : Gl Ln xs room_1 G) (hLn : Ln ≤ 3072) {i : Int} (i0 : 0 ≤ i) (i6 : i + 6 ≤ (Ln : Int)) {h : mH} {n : Nat} (ck : CK h ((n : Int) + 1)) (mi : MI h) (k73 : hK h 73 = 11) (l73 : hL h 73 = 1) (ti : TI h) (tj : TJ h) (tl : TLd h) (nx : ∀ h', CK h' (n : Int) → MI h' → hK h' 73 = 11 → hL h' 73 = 1 → TI h' → TJ h' → TLd h' → G 1371 (Lw i) [] h') : G 776 (Lw i) [] h := by
  refine Gx.ald_n g.gd rfl dL_law_776 ?_
  refine Gl.scr (i := i) (k := 1) g rfl i0 (by decide) (by decide) (by omega) hLn dL_law_777 dL_law_778 dL_law_780 dL_law_781 dL_law_782 ?_
  obtain ⟨_, t1, ct1, ⟨y1, rfl, hy1⟩, ck1, kp1, cs1, kl1⟩ := kx_count h n ck (sX xs (i + 1))
  have mi1 := kp1.mi mi
  have k1 := kp1.2.2.1.trans k73
  have l1 := kp1.2.2.2.trans l73
  refine Gx.callV1 g.gd ct1 wc_L_91 iM_X5_count se_X5_count kC5 (sK0 (h := h) ck.1) dL_law_783 rfl (Nat.le_of_ble_eq_true rfl) rfl (Nat.le_of_ble_eq_true rfl) ?_ (rm9 ck1)
  refine Gx.pop g.gd dL_law_786 (Or.inl rfl) ?_
  refine Gx.ald_n g.gd rfl dL_law_787 ?_
  refine Gl.scr (i := i) (k := 1) g rfl i0 (by decide) (by decide) (by omega) hLn dL_law_788 dL_law_789 dL_law_791 dL_law_792 dL_law_793 ?_
  obtain ⟨_, t2, ct2, ⟨y2, rfl, hy2⟩, mi2, fr2⟩ := cq_mcountX 8 t1 ck1.1 mi1 (sX xs (i + 1))
  have ck2 := ck1.model (fr2.mono (by decide) (by decide))
  have ti2 := ti.keep kp1 cs1.cs fr2 (by decide) (by decide)
  have tj2 := tj.keep kp1 cs1 fr2 (by decide) (by decide)
  have tl2 := tl.keep kp1 kl1 fr2 (by decide) (by decide) (by decide) (by decide)
  have k2 : hK t2 73 = 11 := by rw [fr2.2.2.1]; exact k1
  have l2 : hL t2 73 = 1 := by rw [fr2.2.2.2.1]; exact l1
  refine Gx.callV1 g.gd ct2 wc_L_94 iM_X6_count se_X6_count kC6 (sK41 (h := t1) ck1.1) dL_law_794 rfl (Nat.le_of_ble_eq_true rfl) rfl (Nat.le_of_ble_eq_true rfl) ?_ (rm9 ck2)
  refine Gx.pop g.gd dL_law_797 (Or.inl rfl) ?_
  refine Gx.goto (tgt := 1371) g.gd dL_law_798 rfl ?_
  exact nx _ ck2 mi2 k2 l2 ti2 tj2 tl2
theorem cs_16 {Ln : Nat} {xs : Nat → Int32} {G : Nat → List mV → List mV → mH → Prop} (g : Gl Ln xs room_1 G) (hLn : Ln ≤ 3072) {i : Int} (i0 : 0 ≤ i) (i6 : i + 6 ≤ (Ln : Int)) {h : mH} {n : Nat} (ck : CK h ((n : Int) + 1)) (mi : MI h) (k73 : hK h 73 = 11) (l73 : hL h 73 = 1) (ti : TI h) (tj : TJ h) (tl : TLd h) (nx : ∀ h', CK h' (n : Int) → MI h' → hK h' 73 = 11 → hL h' 73 = 1 → TI h' → TJ h' → TLd h' → G 1371 (Lw i) [] h') : G 801 (Lw i) [] h := by
  refine Gx.ald_n g.gd rfl dL_law_801 ?_
  refine Gl.scr (i := i) (k := 1) g rfl i0 (by decide) (by decide) (by omega) hLn dL_law_802 dL_law_803 dL_law_805 dL_law_806 dL_law_807 ?_
  refine Gl.scr (i := i) (k := 2) g rfl i0 (by decide) (by decide) (by omega) hLn dL_law_808 dL_law_809 dL_law_811 dL_law_812 dL_law_813 ?_
  obtain ⟨_, t1, ct1, ⟨y1, rfl, hy1⟩, ck1, kp1, cs1, kl1⟩ := kx_beats h n ck (sX xs (i + 1)) (sX xs (i + 2))
  have mi1 := kp1.mi mi
  have k1 := kp1.2.2.1.trans k73
  have l1 := kp1.2.2.2.trans l73
  refine Gx.callV1 g.gd ct1 wc_L_95 iM_X5_beats se_X5_beats kC5 (sK0 (h := h) ck.1) dL_law_814 rfl (Nat.le_of_ble_eq_true rfl) rfl (Nat.le_of_ble_eq_true rfl) ?_ (rm9 ck1)
  refine Gx.pop g.gd dL_law_817 (Or.inl rfl) ?_
  refine Gx.ald_n g.gd rfl dL_law_818 ?_
  refine Gl.scr (i := i) (k := 1) g rfl i0 (by decide) (by decide) (by omega) hLn dL_law_819 dL_law_820 dL_law_822 dL_law_823 dL_law_824 ?_
  refine Gl.scr (i := i) (k := 2) g rfl i0 (by decide) (by decide) (by omega) hLn dL_law_825 dL_law_826 dL_law_828 dL_law_829 dL_law_830 ?_
  obtain ⟨_, t2, ct2, ⟨y2, rfl, hy2⟩, mi2, fr2⟩ := cq_mbeatsX 8 t1 ck1.1 mi1 (sX xs (i + 1)) (sX xs (i + 2))
  have ck2 := ck1.model (fr2.mono (by decide) (by decide))
  have ti2 := ti.keep kp1 cs1.cs fr2 (by decide) (by decide)
  have tj2 := tj.keep kp1 cs1 fr2 (by decide) (by decide)
  have tl2 := tl.keep kp1 kl1 fr2 (by decide) (by decide) (by decide) (by decide)
  have k2 : hK t2 73 = 11 := by rw [fr2.2.2.1]; exact k1
  have l2 : hL t2 73 = 1 := by rw [fr2.2.2.2.1]; exact l1
  refine Gx.callV1 g.gd ct2 wc_L_98 iM_X6_beats se_X6_beats kC6 (sK41 (h := t1) ck1.1) dL_law_831 rfl (Nat.le_of_ble_eq_true rfl) rfl (Nat.le_of_ble_eq_true rfl) ?_ (rm9 ck2)
  refine Gx.pop g.gd dL_law_834 (Or.inl rfl) ?_
  refine Gx.goto (tgt := 1371) g.gd dL_law_835 rfl ?_
  exact nx _ ck2 mi2 k2 l2 ti2 tj2 tl2
theorem cs_17 {Ln : Nat} {xs : Nat → Int32} {G : Nat → List mV → List mV → mH → Prop} (g : Gl Ln xs room_1 G) (hLn : Ln ≤ 3072) {i : Int} (i0 : 0 ≤ i) (i6 : i + 6 ≤ (Ln : Int)) {h : mH} {n : Nat} (ck : CK h ((n : Int) + 1)) (mi : MI h) (k73 : hK h 73 = 11) (l73 : hL h 73 = 1) (ti : TI h) (tj : TJ h) (tl : TLd h) (nx : ∀ h', CK h' (n : Int) → MI h' → hK h' 73 = 11 → hL h' 73 = 1 → TI h' → TJ h' → TLd h' → G 1371 (Lw i) [] h') : G 838 (Lw i) [] h := by
  refine Gx.ald_n g.gd rfl dL_law_838 ?_
  refine Gl.scr (i := i) (k := 1) g rfl i0 (by decide) (by decide) (by omega) hLn dL_law_839 dL_law_840 dL_law_842 dL_law_843 dL_law_844 ?_
  obtain ⟨_, t1, ct1, ⟨y1, rfl, hy1⟩, ck1, kp1, cs1, kl1⟩ := kx_step h n ck (sX xs (i + 1))
  have mi1 := kp1.mi mi
  have k1 := kp1.2.2.1.trans k73
  have l1 := kp1.2.2.2.trans l73
  refine Gx.callV1 g.gd ct1 wc_L_99 iM_X5_step se_X5_step kC5 (sK0 (h := h) ck.1) dL_law_845 rfl (Nat.le_of_ble_eq_true rfl) rfl (Nat.le_of_ble_eq_true rfl) ?_ (rm9 ck1)
  refine Gx.pop g.gd dL_law_848 (Or.inl rfl) ?_
  refine Gx.ald_n g.gd rfl dL_law_849 ?_
  refine Gl.scr (i := i) (k := 1) g rfl i0 (by decide) (by decide) (by omega) hLn dL_law_850 dL_law_851 dL_law_853 dL_law_854 dL_law_855 ?_
  obtain ⟨_, t2, ct2, ⟨y2, rfl, hy2⟩, mi2, fr2⟩ := cq_mstepX 8 t1 ck1.1 mi1 (sX xs (i + 1))
  have ck2 := ck1.model (fr2.mono (by decide) (by decide))
  have ti2 := ti.keep kp1 cs1.cs fr2 (by decide) (by decide)
  have tj2 := tj.keep kp1 cs1 fr2 (by decide) (by decide)
  have tl2 := tl.keep kp1 kl1 fr2 (by decide) (by decide) (by decide) (by decide)
  have k2 : hK t2 73 = 11 := by rw [fr2.2.2.1]; exact k1
  have l2 : hL t2 73 = 1 := by rw [fr2.2.2.2.1]; exact l1
  refine Gx.callV1 g.gd ct2 wc_L_102 iM_X6_step se_X6_step kC6 (sK41 (h := t1) ck1.1) dL_law_856 rfl (Nat.le_of_ble_eq_true rfl) rfl (Nat.le_of_ble_eq_true rfl) ?_ (rm9 ck2)
  refine Gx.pop g.gd dL_law_859 (Or.inl rfl) ?_
  refine Gx.goto (tgt := 1371) g.gd dL_law_860 rfl ?_
  exact nx _ ck2 mi2 k2 l2 ti2 tj2 tl2
theorem cs_18 {Ln : Nat} {xs : Nat → Int32} {G : Nat → List mV → List mV → mH → Prop} (g : Gl Ln xs room_1 G) (hLn : Ln ≤ 3072) {i : Int} (i0 : 0 ≤ i) (i6 : i + 6 ≤ (Ln : Int)) {h : mH} {n : Nat} (ck : CK h ((n : Int) + 1)) (mi : MI h) (k73 : hK h 73 = 11) (l73 : hL h 73 = 1) (ti : TI h) (tj : TJ h) (tl : TLd h) (nx : ∀ h', CK h' (n : Int) → MI h' → hK h' 73 = 11 → hL h' 73 = 1 → TI h' → TJ h' → TLd h' → G 1371 (Lw i) [] h') : G 863 (Lw i) [] h := by
  refine Gx.ald_n g.gd rfl dL_law_863 ?_
  refine Gl.scr (i := i) (k := 1) g rfl i0 (by decide) (by decide) (by omega) hLn dL_law_864 dL_law_865 dL_law_867 dL_law_868 dL_law_869 ?_
  obtain ⟨_, t1, ct1, ⟨y1, rfl, hy1⟩, ck1, kp1, cs1, kl1⟩ := kx_arc h n ck (sX xs (i + 1))
  have mi1 := kp1.mi mi
  have k1 := kp1.2.2.1.trans k73
  have l1 := kp1.2.2.2.trans l73
  refine Gx.callV1 g.gd ct1 wc_L_103 iM_X5_arc se_X5_arc kC5 (sK0 (h := h) ck.1) dL_law_870 rfl (Nat.le_of_ble_eq_true rfl) rfl (Nat.le_of_ble_eq_true rfl) ?_ (rm9 ck1)
  refine Gx.pop g.gd dL_law_873 (Or.inl rfl) ?_
  refine Gx.ald_n g.gd rfl dL_law_874 ?_
  refine Gl.scr (i := i) (k := 1) g rfl i0 (by decide) (by decide) (by omega) hLn dL_law_875 dL_law_876 dL_law_878 dL_law_879 dL_law_880 ?_
  obtain ⟨_, t2, ct2, ⟨y2, rfl, hy2⟩, mi2, fr2⟩ := cq_marcX 8 t1 ck1.1 mi1 (sX xs (i + 1))
  have ck2 := ck1.model (fr2.mono (by decide) (by decide))
  have ti2 := ti.keep kp1 cs1.cs fr2 (by decide) (by decide)
  have tj2 := tj.keep kp1 cs1 fr2 (by decide) (by decide)
  have tl2 := tl.keep kp1 kl1 fr2 (by decide) (by decide) (by decide) (by decide)
  have k2 : hK t2 73 = 11 := by rw [fr2.2.2.1]; exact k1
  have l2 : hL t2 73 = 1 := by rw [fr2.2.2.2.1]; exact l1
  refine Gx.callV1 g.gd ct2 wc_L_106 iM_X6_arc se_X6_arc kC6 (sK41 (h := t1) ck1.1) dL_law_881 rfl (Nat.le_of_ble_eq_true rfl) rfl (Nat.le_of_ble_eq_true rfl) ?_ (rm9 ck2)
  refine Gx.pop g.gd dL_law_884 (Or.inl rfl) ?_
  refine Gx.goto (tgt := 1371) g.gd dL_law_885 rfl ?_
  exact nx _ ck2 mi2 k2 l2 ti2 tj2 tl2
theorem cs_19 {Ln : Nat} {xs : Nat → Int32} {G : Nat → List mV → List mV → mH → Prop} (g : Gl Ln xs room_1 G) (hLn : Ln ≤ 3072) {i : Int} (i0 : 0 ≤ i) (i6 : i + 6 ≤ (Ln : Int)) {h : mH} {n : Nat} (ck : CK h ((n : Int) + 1)) (mi : MI h) (k73 : hK h 73 = 11) (l73 : hL h 73 = 1) (ti : TI h) (tj : TJ h) (tl : TLd h) (nx : ∀ h', CK h' (n : Int) → MI h' → hK h' 73 = 11 → hL h' 73 = 1 → TI h' → TJ h' → TLd h' → G 1371 (Lw i) [] h') : G 888 (Lw i) [] h := by
  refine Gx.ald_n g.gd rfl dL_law_888 ?_
  refine Gl.scr (i := i) (k := 1) g rfl i0 (by decide) (by decide) (by omega) hLn dL_law_889 dL_law_890 dL_law_892 dL_law_893 dL_law_894 ?_
  obtain ⟨_, t1, ct1, ⟨y1, rfl⟩, ck1, kp1, cs1, kl1⟩ := kx_round h n ck (sX xs (i + 1))
  have mi1 := kp1.mi mi
  have k1 := kp1.2.2.1.trans k73
  have l1 := kp1.2.2.2.trans l73
  refine Gx.callV1 g.gd ct1 wc_L_107 iM_X5_round se_X5_round kC5 (sK0 (h := h) ck.1) dL_law_895 rfl (Nat.le_of_ble_eq_true rfl) rfl (Nat.le_of_ble_eq_true rfl) ?_ (rm9 ck1)
  refine Gx.pop g.gd dL_law_898 (Or.inl rfl) ?_
  refine Gx.ald_n g.gd rfl dL_law_899 ?_
  refine Gl.scr (i := i) (k := 1) g rfl i0 (by decide) (by decide) (by omega) hLn dL_law_900 dL_law_901 dL_law_903 dL_law_904 dL_law_905 ?_
  obtain ⟨_, t2, ct2, ⟨y2, rfl⟩, mi2, fr2⟩ := cq_mround 6 t1 ck1.1 mi1 (sX xs (i + 1))
  have ck2 := ck1.model (fr2.mono (by decide) (by decide))
  have ti2 := ti.keep kp1 cs1.cs fr2 (by decide) (by decide)
  have tj2 := tj.keep kp1 cs1 fr2 (by decide) (by decide)
  have tl2 := tl.keep kp1 kl1 fr2 (by decide) (by decide) (by decide) (by decide)
  have k2 : hK t2 73 = 11 := by rw [fr2.2.2.1]; exact k1
  have l2 : hL t2 73 = 1 := by rw [fr2.2.2.2.1]; exact l1
  refine Gx.callV1 g.gd ct2 wc_L_110 iM_X6_round se_X6_round kC6 (sK41 (h := t1) ck1.1) dL_law_906 rfl (Nat.le_of_ble_eq_true rfl) rfl (Nat.le_of_ble_eq_true rfl) ?_ (rm9 ck2)
  refine Gx.pop g.gd dL_law_909 (Or.inl rfl) ?_
  refine Gx.goto (tgt := 1371) g.gd dL_law_910 rfl ?_
  exact nx _ ck2 mi2 k2 l2 ti2 tj2 tl2
theorem cs_20 {Ln : Nat} {xs : Nat → Int32} {G : Nat → List mV → List mV → mH → Prop} (g : Gl Ln xs room_1 G) (hLn : Ln ≤ 3072) {i : Int} (i0 : 0 ≤ i) (i6 : i + 6 ≤ (Ln : Int)) {h : mH} {n : Nat} (ck : CK h ((n : Int) + 1)) (mi : MI h) (k73 : hK h 73 = 11) (l73 : hL h 73 = 1) (ti : TI h) (tj : TJ h) (tl : TLd h) (nx : ∀ h', CK h' (n : Int) → MI h' → hK h' 73 = 11 → hL h' 73 = 1 → TI h' → TJ h' → TLd h' → G 1371 (Lw i) [] h') : G 913 (Lw i) [] h := by
  refine Gx.ald_n g.gd rfl dL_law_913 ?_
  refine Gl.scr (i := i) (k := 1) g rfl i0 (by decide) (by decide) (by omega) hLn dL_law_914 dL_law_915 dL_law_917 dL_law_918 dL_law_919 ?_
  obtain ⟨_, t1, ct1, ⟨y1, rfl⟩, ck1, kp1, cs1, kl1⟩ := kx_meet h n ck (sX xs (i + 1))
  have mi1 := kp1.mi mi
  have k1 := kp1.2.2.1.trans k73
  have l1 := kp1.2.2.2.trans l73
  refine Gx.callV1 g.gd ct1 wc_L_111 iM_X5_meet se_X5_meet kC5 (sK0 (h := h) ck.1) dL_law_920 rfl (Nat.le_of_ble_eq_true rfl) rfl (Nat.le_of_ble_eq_true rfl) ?_ (rm9 ck1)
  refine Gx.pop g.gd dL_law_923 (Or.inl rfl) ?_
  refine Gx.ald_n g.gd rfl dL_law_924 ?_
  refine Gl.scr (i := i) (k := 1) g rfl i0 (by decide) (by decide) (by omega) hLn dL_law_925 dL_law_926 dL_law_928 dL_law_929 dL_law_930 ?_
  obtain ⟨_, t2, ct2, ⟨y2, rfl⟩, mi2, fr2⟩ := cq_mmeet 6 t1 ck1.1 mi1 (sX xs (i + 1))
  have ck2 := ck1.model (fr2.mono (by decide) (by decide))
  have ti2 := ti.keep kp1 cs1.cs fr2 (by decide) (by decide)
  have tj2 := tj.keep kp1 cs1 fr2 (by decide) (by decide)
  have tl2 := tl.keep kp1 kl1 fr2 (by decide) (by decide) (by decide) (by decide)
  have k2 : hK t2 73 = 11 := by rw [fr2.2.2.1]; exact k1
  have l2 : hL t2 73 = 1 := by rw [fr2.2.2.2.1]; exact l1
  refine Gx.callV1 g.gd ct2 wc_L_114 iM_X6_meet se_X6_meet kC6 (sK41 (h := t1) ck1.1) dL_law_931 rfl (Nat.le_of_ble_eq_true rfl) rfl (Nat.le_of_ble_eq_true rfl) ?_ (rm9 ck2)
  refine Gx.pop g.gd dL_law_934 (Or.inl rfl) ?_
  refine Gx.goto (tgt := 1371) g.gd dL_law_935 rfl ?_
  exact nx _ ck2 mi2 k2 l2 ti2 tj2 tl2
theorem cs_21 {Ln : Nat} {xs : Nat → Int32} {G : Nat → List mV → List mV → mH → Prop} (g : Gl Ln xs room_1 G) (hLn : Ln ≤ 3072) {i : Int} (i0 : 0 ≤ i) (i6 : i + 6 ≤ (Ln : Int)) {h : mH} {n : Nat} (ck : CK h ((n : Int) + 1)) (mi : MI h) (k73 : hK h 73 = 11) (l73 : hL h 73 = 1) (ti : TI h) (tj : TJ h) (tl : TLd h) (nx : ∀ h', CK h' (n : Int) → MI h' → hK h' 73 = 11 → hL h' 73 = 1 → TI h' → TJ h' → TLd h' → G 1371 (Lw i) [] h') : G 938 (Lw i) [] h := by
  refine Gx.ald_n g.gd rfl dL_law_938 ?_
  obtain ⟨_, t1, ct1, ⟨y1, rfl⟩, ck1, kp1, cs1, kl1⟩ := kx_ends h n ck 
  have mi1 := kp1.mi mi
  have k1 := kp1.2.2.1.trans k73
  have l1 := kp1.2.2.2.trans l73
  refine Gx.callV1 g.gd ct1 wc_L_115 iM_X5_ends se_X5_ends kC5 (sK0 (h := h) ck.1) dL_law_939 rfl (Nat.le_of_ble_eq_true rfl) rfl (Nat.le_of_ble_eq_true rfl) ?_ (rm9 ck1)
  refine Gx.pop g.gd dL_law_942 (Or.inl rfl) ?_
  refine Gx.ald_n g.gd rfl dL_law_943 ?_
  obtain ⟨_, t2, ct2, ⟨y2, rfl⟩, mi2, fr2⟩ := cq_mends 6 t1 ck1.1 mi1 
  have ck2 := ck1.model (fr2.mono (by decide) (by decide))
  have ti2 := ti.keep kp1 cs1.cs fr2 (by decide) (by decide)
  have tj2 := tj.keep kp1 cs1 fr2 (by decide) (by decide)
  have tl2 := tl.keep kp1 kl1 fr2 (by decide) (by decide) (by decide) (by decide)
  have k2 : hK t2 73 = 11 := by rw [fr2.2.2.1]; exact k1
  have l2 : hL t2 73 = 1 := by rw [fr2.2.2.2.1]; exact l1
  refine Gx.callV1 g.gd ct2 wc_L_118 iM_X6_ends se_X6_ends kC6 (sK41 (h := t1) ck1.1) dL_law_944 rfl (Nat.le_of_ble_eq_true rfl) rfl (Nat.le_of_ble_eq_true rfl) ?_ (rm9 ck2)
  refine Gx.pop g.gd dL_law_947 (Or.inl rfl) ?_
  refine Gx.goto (tgt := 1371) g.gd dL_law_948 rfl ?_
  exact nx _ ck2 mi2 k2 l2 ti2 tj2 tl2
theorem cs_22 {Ln : Nat} {xs : Nat → Int32} {G : Nat → List mV → List mV → mH → Prop} (g : Gl Ln xs room_1 G) (hLn : Ln ≤ 3072) {i : Int} (i0 : 0 ≤ i) (i6 : i + 6 ≤ (Ln : Int)) {h : mH} {n : Nat} (ck : CK h ((n : Int) + 1)) (mi : MI h) (k73 : hK h 73 = 11) (l73 : hL h 73 = 1) (ti : TI h) (tj : TJ h) (tl : TLd h) (nx : ∀ h', CK h' (n : Int) → MI h' → hK h' 73 = 11 → hL h' 73 = 1 → TI h' → TJ h' → TLd h' → G 1371 (Lw i) [] h') : G 951 (Lw i) [] h := by
  refine Gx.ald_n g.gd rfl dL_law_951 ?_
  refine Gl.scr (i := i) (k := 1) g rfl i0 (by decide) (by decide) (by omega) hLn dL_law_952 dL_law_953 dL_law_955 dL_law_956 dL_law_957 ?_
  refine Gl.scr (i := i) (k := 2) g rfl i0 (by decide) (by decide) (by omega) hLn dL_law_958 dL_law_959 dL_law_961 dL_law_962 dL_law_963 ?_
  obtain ⟨_, t1, ct1, ⟨y1, rfl⟩, ck1, kp1, cs1, kl1⟩ := kx_end h n ck (sX xs (i + 1)) (sX xs (i + 2))
  have mi1 := kp1.mi mi
  have k1 := kp1.2.2.1.trans k73
  have l1 := kp1.2.2.2.trans l73
  refine Gx.callV1 g.gd ct1 wc_L_119 iM_X5_end se_X5_end kC5 (sK0 (h := h) ck.1) dL_law_964 rfl (Nat.le_of_ble_eq_true rfl) rfl (Nat.le_of_ble_eq_true rfl) ?_ (rm9 ck1)
  refine Gx.pop g.gd dL_law_967 (Or.inl rfl) ?_
  refine Gx.ald_n g.gd rfl dL_law_968 ?_
  refine Gl.scr (i := i) (k := 1) g rfl i0 (by decide) (by decide) (by omega) hLn dL_law_969 dL_law_970 dL_law_972 dL_law_973 dL_law_974 ?_
  refine Gl.scr (i := i) (k := 2) g rfl i0 (by decide) (by decide) (by omega) hLn dL_law_975 dL_law_976 dL_law_978 dL_law_979 dL_law_980 ?_
  obtain ⟨_, t2, ct2, ⟨y2, rfl⟩, mi2, fr2⟩ := cq_mend 8 t1 ck1.1 mi1 (sX xs (i + 1)) (sX xs (i + 2))
  have ck2 := ck1.model (fr2.mono (by decide) (by decide))
  have ti2 := ti.keep kp1 cs1.cs fr2 (by decide) (by decide)
  have tj2 := tj.keep kp1 cs1 fr2 (by decide) (by decide)
  have tl2 := tl.keep kp1 kl1 fr2 (by decide) (by decide) (by decide) (by decide)
  have k2 : hK t2 73 = 11 := by rw [fr2.2.2.1]; exact k1
  have l2 : hL t2 73 = 1 := by rw [fr2.2.2.2.1]; exact l1
  refine Gx.callV1 g.gd ct2 wc_L_122 iM_X6_end se_X6_end kC6 (sK41 (h := t1) ck1.1) dL_law_981 rfl (Nat.le_of_ble_eq_true rfl) rfl (Nat.le_of_ble_eq_true rfl) ?_ (rm9 ck2)
  refine Gx.pop g.gd dL_law_984 (Or.inl rfl) ?_
  refine Gx.goto (tgt := 1371) g.gd dL_law_985 rfl ?_
  exact nx _ ck2 mi2 k2 l2 ti2 tj2 tl2
theorem cs_23 {Ln : Nat} {xs : Nat → Int32} {G : Nat → List mV → List mV → mH → Prop} (g : Gl Ln xs room_1 G) (hLn : Ln ≤ 3072) {i : Int} (i0 : 0 ≤ i) (i6 : i + 6 ≤ (Ln : Int)) {h : mH} {n : Nat} (ck : CK h ((n : Int) + 1)) (mi : MI h) (k73 : hK h 73 = 11) (l73 : hL h 73 = 1) (ti : TI h) (tj : TJ h) (tl : TLd h) (nx : ∀ h', CK h' (n : Int) → MI h' → hK h' 73 = 11 → hL h' 73 = 1 → TI h' → TJ h' → TLd h' → G 1371 (Lw i) [] h') : G 988 (Lw i) [] h := by
  refine Gx.ald_n g.gd rfl dL_law_988 ?_
  refine Gl.scr (i := i) (k := 1) g rfl i0 (by decide) (by decide) (by omega) hLn dL_law_989 dL_law_990 dL_law_992 dL_law_993 dL_law_994 ?_
  obtain ⟨_, t1, ct1, ⟨y1, rfl⟩, ck1, kp1, cs1, kl1⟩ := kx_sure h n ck (sX xs (i + 1))
  have mi1 := kp1.mi mi
  have k1 := kp1.2.2.1.trans k73
  have l1 := kp1.2.2.2.trans l73
  refine Gx.callV1 g.gd ct1 wc_L_123 iM_X5_sure se_X5_sure kC5 (sK0 (h := h) ck.1) dL_law_995 rfl (Nat.le_of_ble_eq_true rfl) rfl (Nat.le_of_ble_eq_true rfl) ?_ (rm9 ck1)
  refine Gx.pop g.gd dL_law_998 (Or.inl rfl) ?_
  refine Gx.ald_n g.gd rfl dL_law_999 ?_
  refine Gl.scr (i := i) (k := 1) g rfl i0 (by decide) (by decide) (by omega) hLn dL_law_1000 dL_law_1001 dL_law_1003 dL_law_1004 dL_law_1005 ?_
  obtain ⟨_, t2, ct2, ⟨y2, rfl⟩, mi2, fr2⟩ := cq_msure 6 t1 ck1.1 mi1 (sX xs (i + 1))
  have ck2 := ck1.model (fr2.mono (by decide) (by decide))
  have ti2 := ti.keep kp1 cs1.cs fr2 (by decide) (by decide)
  have tj2 := tj.keep kp1 cs1 fr2 (by decide) (by decide)
  have tl2 := tl.keep kp1 kl1 fr2 (by decide) (by decide) (by decide) (by decide)
  have k2 : hK t2 73 = 11 := by rw [fr2.2.2.1]; exact k1
  have l2 : hL t2 73 = 1 := by rw [fr2.2.2.2.1]; exact l1
  refine Gx.callV1 g.gd ct2 wc_L_126 iM_X6_sure se_X6_sure kC6 (sK41 (h := t1) ck1.1) dL_law_1006 rfl (Nat.le_of_ble_eq_true rfl) rfl (Nat.le_of_ble_eq_true rfl) ?_ (rm9 ck2)
  refine Gx.pop g.gd dL_law_1009 (Or.inl rfl) ?_
  refine Gx.goto (tgt := 1371) g.gd dL_law_1010 rfl ?_
  exact nx _ ck2 mi2 k2 l2 ti2 tj2 tl2
theorem cs_24 {Ln : Nat} {xs : Nat → Int32} {G : Nat → List mV → List mV → mH → Prop} (g : Gl Ln xs room_1 G) (hLn : Ln ≤ 3072) {i : Int} (i0 : 0 ≤ i) (i6 : i + 6 ≤ (Ln : Int)) {h : mH} {n : Nat} (ck : CK h ((n : Int) + 1)) (mi : MI h) (k73 : hK h 73 = 11) (l73 : hL h 73 = 1) (ti : TI h) (tj : TJ h) (tl : TLd h) (nx : ∀ h', CK h' (n : Int) → MI h' → hK h' 73 = 11 → hL h' 73 = 1 → TI h' → TJ h' → TLd h' → G 1371 (Lw i) [] h') : G 1013 (Lw i) [] h := by
  refine Gx.ald_n g.gd rfl dL_law_1013 ?_
  obtain ⟨_, t1, ct1, ⟨y1, rfl, hy1⟩, ck1, kp1, cs1⟩ := kx_lead h n ck 
  have mi1 := kp1.mi mi
  have k1 := kp1.2.2.1.trans k73
  have l1 := kp1.2.2.2.trans l73
  refine Gx.callV1 g.gd ct1 wc_L_127 iM_X5_lead se_X5_lead kC5 (sK0 (h := h) ck.1) dL_law_1014 rfl (Nat.le_of_ble_eq_true rfl) rfl (Nat.le_of_ble_eq_true rfl) ?_ (rm9 ck1)
  refine Gx.pop g.gd dL_law_1017 (Or.inl rfl) ?_
  refine Gx.ald_n g.gd rfl dL_law_1018 ?_
  obtain ⟨_, t2, ct2, ⟨y2, rfl, hy2⟩, mi2, fr2⟩ := cq_mleadX 8 t1 ck1.1 mi1 
  have ck2 := ck1.model (fr2.mono (by decide) (by decide))
  have ti2 := ti.keep kp1 cs1.cs fr2 (by decide) (by decide)
  have tj2 := tj.keep kp1 cs1 fr2 (by decide) (by decide)
  have tl2 := TB.leadT tl fr2 ck.2.1 ti tj kp1 hy1 hy2
  have k2 : hK t2 73 = 11 := by rw [fr2.2.2.1]; exact k1
  have l2 : hL t2 73 = 1 := by rw [fr2.2.2.2.1]; exact l1
  refine Gx.callV1 g.gd ct2 wc_L_130 iM_X6_lead se_X6_lead kC6 (sK41 (h := t1) ck1.1) dL_law_1019 rfl (Nat.le_of_ble_eq_true rfl) rfl (Nat.le_of_ble_eq_true rfl) ?_ (rm9 ck2)
  refine Gx.pop g.gd dL_law_1022 (Or.inl rfl) ?_
  refine Gx.goto (tgt := 1371) g.gd dL_law_1023 rfl ?_
  exact nx _ ck2 mi2 k2 l2 ti2 tj2 tl2
theorem cs_25 {Ln : Nat} {xs : Nat → Int32} {G : Nat → List mV → List mV → mH → Prop} (g : Gl Ln xs room_1 G) (hLn : Ln ≤ 3072) {i : Int} (i0 : 0 ≤ i) (i6 : i + 6 ≤ (Ln : Int)) {h : mH} {n : Nat} (ck : CK h ((n : Int) + 1)) (mi : MI h) (k73 : hK h 73 = 11) (l73 : hL h 73 = 1) (ti : TI h) (tj : TJ h) (tl : TLd h) (nx : ∀ h', CK h' (n : Int) → MI h' → hK h' 73 = 11 → hL h' 73 = 1 → TI h' → TJ h' → TLd h' → G 1371 (Lw i) [] h') : G 1026 (Lw i) [] h := by
  refine Gx.ald_n g.gd rfl dL_law_1026 ?_
  refine Gl.scr (i := i) (k := 1) g rfl i0 (by decide) (by decide) (by omega) hLn dL_law_1027 dL_law_1028 dL_law_1030 dL_law_1031 dL_law_1032 ?_
  obtain ⟨_, t1, ct1, ⟨y1, rfl, hy1⟩, ck1, kp1, cs1, kl1⟩ := kx_leader h n ck (sX xs (i + 1))
  have mi1 := kp1.mi mi
  have k1 := kp1.2.2.1.trans k73
  have l1 := kp1.2.2.2.trans l73
  refine Gx.callV1 g.gd ct1 wc_L_131 iM_X5_leader se_X5_leader kC5 (sK0 (h := h) ck.1) dL_law_1033 rfl (Nat.le_of_ble_eq_true rfl) rfl (Nat.le_of_ble_eq_true rfl) ?_ (rm9 ck1)
  refine Gx.pop g.gd dL_law_1036 (Or.inl rfl) ?_
  refine Gx.ald_n g.gd rfl dL_law_1037 ?_
  refine Gl.scr (i := i) (k := 1) g rfl i0 (by decide) (by decide) (by omega) hLn dL_law_1038 dL_law_1039 dL_law_1041 dL_law_1042 dL_law_1043 ?_
  obtain ⟨_, t2, ct2, ⟨y2, rfl, hy2⟩, mi2, fr2⟩ := cq_mleaderX 8 t1 ck1.1 mi1 (sX xs (i + 1))
  have ck2 := ck1.model (fr2.mono (by decide) (by decide))
  have ti2 := ti.keep kp1 cs1.cs fr2 (by decide) (by decide)
  have tj2 := tj.keep kp1 cs1 fr2 (by decide) (by decide)
  have tl2 := tl.keep kp1 kl1 fr2 (by decide) (by decide) (by decide) (by decide)
  have k2 : hK t2 73 = 11 := by rw [fr2.2.2.1]; exact k1
  have l2 : hL t2 73 = 1 := by rw [fr2.2.2.2.1]; exact l1
  refine Gx.callV1 g.gd ct2 wc_L_134 iM_X6_leader se_X6_leader kC6 (sK41 (h := t1) ck1.1) dL_law_1044 rfl (Nat.le_of_ble_eq_true rfl) rfl (Nat.le_of_ble_eq_true rfl) ?_ (rm9 ck2)
  refine Gx.pop g.gd dL_law_1047 (Or.inl rfl) ?_
  refine Gx.goto (tgt := 1371) g.gd dL_law_1048 rfl ?_
  exact nx _ ck2 mi2 k2 l2 ti2 tj2 tl2
theorem cs_26 {Ln : Nat} {xs : Nat → Int32} {G : Nat → List mV → List mV → mH → Prop} (g : Gl Ln xs room_1 G) (hLn : Ln ≤ 3072) {i : Int} (i0 : 0 ≤ i) (i6 : i + 6 ≤ (Ln : Int)) {h : mH} {n : Nat} (ck : CK h ((n : Int) + 1)) (mi : MI h) (k73 : hK h 73 = 11) (l73 : hL h 73 = 1) (ti : TI h) (tj : TJ h) (tl : TLd h) (nx : ∀ h', CK h' (n : Int) → MI h' → hK h' 73 = 11 → hL h' 73 = 1 → TI h' → TJ h' → TLd h' → G 1371 (Lw i) [] h') : G 1051 (Lw i) [] h := by
  refine Gx.ald_n g.gd rfl dL_law_1051 ?_
  refine Gl.scr (i := i) (k := 1) g rfl i0 (by decide) (by decide) (by omega) hLn dL_law_1052 dL_law_1053 dL_law_1055 dL_law_1056 dL_law_1057 ?_
  obtain ⟨_, t1, ct1, ⟨y1, rfl, hy1⟩, ck1, kp1, cs1, kl1⟩ := kx_table h n ck (sX xs (i + 1))
  have mi1 := kp1.mi mi
  have k1 := kp1.2.2.1.trans k73
  have l1 := kp1.2.2.2.trans l73
  refine Gx.callV1 g.gd ct1 wc_L_135 iM_X5_table se_X5_table kC5 (sK0 (h := h) ck.1) dL_law_1058 rfl (Nat.le_of_ble_eq_true rfl) rfl (Nat.le_of_ble_eq_true rfl) ?_ (rm9 ck1)
  refine Gx.pop g.gd dL_law_1061 (Or.inl rfl) ?_
  refine Gx.ald_n g.gd rfl dL_law_1062 ?_
  refine Gl.scr (i := i) (k := 1) g rfl i0 (by decide) (by decide) (by omega) hLn dL_law_1063 dL_law_1064 dL_law_1066 dL_law_1067 dL_law_1068 ?_
  obtain ⟨_, t2, ct2, ⟨y2, rfl, hy2⟩, mi2, fr2⟩ := cq_mtable 8 t1 ck1.1 mi1 (sX xs (i + 1))
  have ck2 := ck1.model (fr2.mono (by decide) (by decide))
  have ti2 := ti.keep kp1 cs1.cs fr2 (by decide) (by decide)
  have tj2 := tj.keep kp1 cs1 fr2 (by decide) (by decide)
  have tl2 := tl.keep kp1 kl1 fr2 (by decide) (by decide) (by decide) (by decide)
  have k2 : hK t2 73 = 11 := by rw [fr2.2.2.1]; exact k1
  have l2 : hL t2 73 = 1 := by rw [fr2.2.2.2.1]; exact l1
  refine Gx.callV1 g.gd ct2 wc_L_138 iM_X6_table se_X6_table kC6 (sK41 (h := t1) ck1.1) dL_law_1069 rfl (Nat.le_of_ble_eq_true rfl) rfl (Nat.le_of_ble_eq_true rfl) ?_ (rm9 ck2)
  refine Gx.pop g.gd dL_law_1072 (Or.inl rfl) ?_
  refine Gx.goto (tgt := 1371) g.gd dL_law_1073 rfl ?_
  exact nx _ ck2 mi2 k2 l2 ti2 tj2 tl2
theorem cs_27 {Ln : Nat} {xs : Nat → Int32} {G : Nat → List mV → List mV → mH → Prop} (g : Gl Ln xs room_1 G) (hLn : Ln ≤ 3072) {i : Int} (i0 : 0 ≤ i) (i6 : i + 6 ≤ (Ln : Int)) {h : mH} {n : Nat} (ck : CK h ((n : Int) + 1)) (mi : MI h) (k73 : hK h 73 = 11) (l73 : hL h 73 = 1) (ti : TI h) (tj : TJ h) (tl : TLd h) (nx : ∀ h', CK h' (n : Int) → MI h' → hK h' 73 = 11 → hL h' 73 = 1 → TI h' → TJ h' → TLd h' → G 1371 (Lw i) [] h') : G 1076 (Lw i) [] h := by
  refine Gx.ald_n g.gd rfl dL_law_1076 ?_
  refine Gl.scr (i := i) (k := 1) g rfl i0 (by decide) (by decide) (by omega) hLn dL_law_1077 dL_law_1078 dL_law_1080 dL_law_1081 dL_law_1082 ?_
  refine Gl.scr (i := i) (k := 2) g rfl i0 (by decide) (by decide) (by omega) hLn dL_law_1083 dL_law_1084 dL_law_1086 dL_law_1087 dL_law_1088 ?_
  refine Gl.scr (i := i) (k := 3) g rfl i0 (by decide) (by decide) (by omega) hLn dL_law_1089 dL_law_1090 dL_law_1092 dL_law_1093 dL_law_1094 ?_
  obtain ⟨_, t1, ct1, ⟨y1, rfl⟩, ck1, kp1, cs1, kl1⟩ := kx_span h n ck (sX xs (i + 1)) (sX xs (i + 2)) (sX xs (i + 3))
  have mi1 := kp1.mi mi
  have k1 := kp1.2.2.1.trans k73
  have l1 := kp1.2.2.2.trans l73
  refine Gx.callV1 g.gd ct1 wc_L_139 iM_X5_span se_X5_span kC5 (sK0 (h := h) ck.1) dL_law_1095 rfl (Nat.le_of_ble_eq_true rfl) rfl (Nat.le_of_ble_eq_true rfl) ?_ (rm9 ck1)
  refine Gx.pop g.gd dL_law_1098 (Or.inl rfl) ?_
  refine Gx.ald_n g.gd rfl dL_law_1099 ?_
  refine Gl.scr (i := i) (k := 1) g rfl i0 (by decide) (by decide) (by omega) hLn dL_law_1100 dL_law_1101 dL_law_1103 dL_law_1104 dL_law_1105 ?_
  refine Gl.scr (i := i) (k := 2) g rfl i0 (by decide) (by decide) (by omega) hLn dL_law_1106 dL_law_1107 dL_law_1109 dL_law_1110 dL_law_1111 ?_
  refine Gl.scr (i := i) (k := 3) g rfl i0 (by decide) (by decide) (by omega) hLn dL_law_1112 dL_law_1113 dL_law_1115 dL_law_1116 dL_law_1117 ?_
  obtain ⟨_, t2, ct2, ⟨y2, rfl, -⟩, mi2, fr2⟩ := cq_mspan 8 t1 ck1.1 mi1 (sX xs (i + 1)) (sX xs (i + 2)) (sX xs (i + 3))
  have ck2 := ck1.model (fr2.mono (by decide) (by decide))
  have ti2 := ti.keep kp1 cs1.cs fr2 (by decide) (by decide)
  have tj2 := tj.keep kp1 cs1 fr2 (by decide) (by decide)
  have tl2 := tl.keep kp1 kl1 fr2 (by decide) (by decide) (by decide) (by decide)
  have k2 : hK t2 73 = 11 := by rw [fr2.2.2.1]; exact k1
  have l2 : hL t2 73 = 1 := by rw [fr2.2.2.2.1]; exact l1
  refine Gx.callV1 g.gd ct2 wc_L_142 iM_X6_span se_X6_span kC6 (sK41 (h := t1) ck1.1) dL_law_1118 rfl (Nat.le_of_ble_eq_true rfl) rfl (Nat.le_of_ble_eq_true rfl) ?_ (rm9 ck2)
  refine Gx.pop g.gd dL_law_1121 (Or.inl rfl) ?_
  refine Gx.goto (tgt := 1371) g.gd dL_law_1122 rfl ?_
  exact nx _ ck2 mi2 k2 l2 ti2 tj2 tl2
theorem cs_28 {Ln : Nat} {xs : Nat → Int32} {G : Nat → List mV → List mV → mH → Prop} (g : Gl Ln xs room_1 G) (hLn : Ln ≤ 3072) {i : Int} (i0 : 0 ≤ i) (i6 : i + 6 ≤ (Ln : Int)) {h : mH} {n : Nat} (ck : CK h ((n : Int) + 1)) (mi : MI h) (k73 : hK h 73 = 11) (l73 : hL h 73 = 1) (ti : TI h) (tj : TJ h) (tl : TLd h) (nx : ∀ h', CK h' (n : Int) → MI h' → hK h' 73 = 11 → hL h' 73 = 1 → TI h' → TJ h' → TLd h' → G 1371 (Lw i) [] h') : G 1125 (Lw i) [] h := by
  refine Gx.ald_n g.gd rfl dL_law_1125 ?_
  refine Gl.scr (i := i) (k := 1) g rfl i0 (by decide) (by decide) (by omega) hLn dL_law_1126 dL_law_1127 dL_law_1129 dL_law_1130 dL_law_1131 ?_
  refine Gl.scr (i := i) (k := 2) g rfl i0 (by decide) (by decide) (by omega) hLn dL_law_1132 dL_law_1133 dL_law_1135 dL_law_1136 dL_law_1137 ?_
  obtain ⟨_, t1, ct1, ⟨y1, rfl⟩, ck1, kp1, cs1, kl1⟩ := kx_cut h n ck (sX xs (i + 1)) (sX xs (i + 2))
  have mi1 := kp1.mi mi
  have k1 := kp1.2.2.1.trans k73
  have l1 := kp1.2.2.2.trans l73
  refine Gx.callV1 g.gd ct1 wc_L_143 iM_X5_cut se_X5_cut kC5 (sK0 (h := h) ck.1) dL_law_1138 rfl (Nat.le_of_ble_eq_true rfl) rfl (Nat.le_of_ble_eq_true rfl) ?_ (rm9 ck1)
  refine Gx.pop g.gd dL_law_1141 (Or.inl rfl) ?_
  refine Gx.ald_n g.gd rfl dL_law_1142 ?_
  refine Gl.scr (i := i) (k := 1) g rfl i0 (by decide) (by decide) (by omega) hLn dL_law_1143 dL_law_1144 dL_law_1146 dL_law_1147 dL_law_1148 ?_
  refine Gl.scr (i := i) (k := 2) g rfl i0 (by decide) (by decide) (by omega) hLn dL_law_1149 dL_law_1150 dL_law_1152 dL_law_1153 dL_law_1154 ?_
  obtain ⟨_, t2, ct2, ⟨y2, rfl, -⟩, mi2, fr2⟩ := cq_mcutS 8 t1 ck1.1 mi1 (sX xs (i + 1)) (sX xs (i + 2))
  have ck2 := ck1.model (fr2.mono (by decide) (by decide))
  have ti2 := ti.keep kp1 cs1.cs fr2 (by decide) (by decide)
  have tj2 := tj.keep kp1 cs1 fr2 (by decide) (by decide)
  have tl2 := tl.keep kp1 kl1 fr2 (by decide) (by decide) (by decide) (by decide)
  have k2 : hK t2 73 = 11 := by rw [fr2.2.2.1]; exact k1
  have l2 : hL t2 73 = 1 := by rw [fr2.2.2.2.1]; exact l1
  refine Gx.callV1 g.gd ct2 wc_L_146 iM_X6_cut_ se_X6_cut_ kC6 (sK41 (h := t1) ck1.1) dL_law_1155 rfl (Nat.le_of_ble_eq_true rfl) rfl (Nat.le_of_ble_eq_true rfl) ?_ (rm9 ck2)
  refine Gx.pop g.gd dL_law_1158 (Or.inl rfl) ?_
  refine Gx.goto (tgt := 1371) g.gd dL_law_1159 rfl ?_
  exact nx _ ck2 mi2 k2 l2 ti2 tj2 tl2
theorem cs_29 {Ln : Nat} {xs : Nat → Int32} {G : Nat → List mV → List mV → mH → Prop} (g : Gl Ln xs room_1 G) (hLn : Ln ≤ 3072) {i : Int} (i0 : 0 ≤ i) (i6 : i + 6 ≤ (Ln : Int)) {h : mH} {n : Nat} (ck : CK h ((n : Int) + 1)) (mi : MI h) (k73 : hK h 73 = 11) (l73 : hL h 73 = 1) (ti : TI h) (tj : TJ h) (tl : TLd h) (nx : ∀ h', CK h' (n : Int) → MI h' → hK h' 73 = 11 → hL h' 73 = 1 → TI h' → TJ h' → TLd h' → G 1371 (Lw i) [] h') : G 1162 (Lw i) [] h := by
  refine Gx.ald_n g.gd rfl dL_law_1162 ?_
  refine Gl.scr (i := i) (k := 1) g rfl i0 (by decide) (by decide) (by omega) hLn dL_law_1163 dL_law_1164 dL_law_1166 dL_law_1167 dL_law_1168 ?_
  obtain ⟨_, t1, ct1, ⟨y1, rfl⟩, ck1, kp1, cs1, kl1⟩ := kx_pace h n ck (sX xs (i + 1))
  have mi1 := kp1.mi mi
  have k1 := kp1.2.2.1.trans k73
  have l1 := kp1.2.2.2.trans l73
  refine Gx.callV1 g.gd ct1 wc_L_147 iM_X5_pace se_X5_pace kC5 (sK0 (h := h) ck.1) dL_law_1169 rfl (Nat.le_of_ble_eq_true rfl) rfl (Nat.le_of_ble_eq_true rfl) ?_ (rm9 ck1)
  refine Gx.pop2 g.gd dL_law_1172 rfl ?_
  refine Gx.ald_n g.gd rfl dL_law_1173 ?_
  refine Gl.scr (i := i) (k := 1) g rfl i0 (by decide) (by decide) (by omega) hLn dL_law_1174 dL_law_1175 dL_law_1177 dL_law_1178 dL_law_1179 ?_
  obtain ⟨_, t2, ct2, ⟨y2, rfl⟩, mi2, fr2⟩ := cq_mpace 5 t1 ck1.1 mi1 (sX xs (i + 1))
  have ck2 := ck1.model (fr2.mono (by decide) (by decide))
  have ti2 := ti.keep kp1 cs1.cs fr2 (by decide) (by decide)
  have tj2 := tj.keep kp1 cs1 fr2 (by decide) (by decide)
  have tl2 := tl.keep kp1 kl1 fr2 (by decide) (by decide) (by decide) (by decide)
  have k2 : hK t2 73 = 11 := by rw [fr2.2.2.1]; exact k1
  have l2 : hL t2 73 = 1 := by rw [fr2.2.2.2.1]; exact l1
  refine Gx.callV1 g.gd ct2 wc_L_151 iM_X6_pace se_X6_pace kC6 (sK41 (h := t1) ck1.1) dL_law_1180 rfl (Nat.le_of_ble_eq_true rfl) rfl (Nat.le_of_ble_eq_true rfl) ?_ (rm9 ck2)
  refine Gx.pop2 g.gd dL_law_1183 rfl ?_
  refine Gx.goto (tgt := 1371) g.gd dL_law_1184 rfl ?_
  exact nx _ ck2 mi2 k2 l2 ti2 tj2 tl2
theorem cs_30 {Ln : Nat} {xs : Nat → Int32} {G : Nat → List mV → List mV → mH → Prop} (g : Gl Ln xs room_1 G) (hLn : Ln ≤ 3072) {i : Int} (i0 : 0 ≤ i) (i6 : i + 6 ≤ (Ln : Int)) {h : mH} {n : Nat} (ck : CK h ((n : Int) + 1)) (mi : MI h) (k73 : hK h 73 = 11) (l73 : hL h 73 = 1) (ti : TI h) (tj : TJ h) (tl : TLd h) (nx : ∀ h', CK h' (n : Int) → MI h' → hK h' 73 = 11 → hL h' 73 = 1 → TI h' → TJ h' → TLd h' → G 1371 (Lw i) [] h') : G 1187 (Lw i) [] h := by
  refine Gx.ald_n g.gd rfl dL_law_1187 ?_
  obtain ⟨_, t1, ct1, ⟨y1, rfl⟩, ck1, kp1, cs1, kl1⟩ := kx_critical h n ck 
  have mi1 := kp1.mi mi
  have k1 := kp1.2.2.1.trans k73
  have l1 := kp1.2.2.2.trans l73
  refine Gx.callV1 g.gd ct1 wc_L_152 iM_X5_critical se_X5_critical kC5 (sK0 (h := h) ck.1) dL_law_1188 rfl (Nat.le_of_ble_eq_true rfl) rfl (Nat.le_of_ble_eq_true rfl) ?_ (rm9 ck1)
  refine Gx.pop g.gd dL_law_1191 (Or.inl rfl) ?_
  refine Gx.ald_n g.gd rfl dL_law_1192 ?_
  obtain ⟨_, t2, ct2, ⟨y2, rfl⟩, mi2, fr2⟩ := cq_mcritical 5 t1 ck1.1 mi1 
  have ck2 := ck1.model (fr2.mono (by decide) (by decide))
  have ti2 := ti.keep kp1 cs1.cs fr2 (by decide) (by decide)
  have tj2 := tj.keep kp1 cs1 fr2 (by decide) (by decide)
  have tl2 := tl.keep kp1 kl1 fr2 (by decide) (by decide) (by decide) (by decide)
  have k2 : hK t2 73 = 11 := by rw [fr2.2.2.1]; exact k1
  have l2 : hL t2 73 = 1 := by rw [fr2.2.2.2.1]; exact l1
  refine Gx.callV1 g.gd ct2 wc_L_155 iM_X6_critical se_X6_critical kC6 (sK41 (h := t1) ck1.1) dL_law_1193 rfl (Nat.le_of_ble_eq_true rfl) rfl (Nat.le_of_ble_eq_true rfl) ?_ (rm9 ck2)
  refine Gx.pop g.gd dL_law_1196 (Or.inl rfl) ?_
  refine Gx.goto (tgt := 1371) g.gd dL_law_1197 rfl ?_
  exact nx _ ck2 mi2 k2 l2 ti2 tj2 tl2
theorem cs_31 {Ln : Nat} {xs : Nat → Int32} {G : Nat → List mV → List mV → mH → Prop} (g : Gl Ln xs room_1 G) (hLn : Ln ≤ 3072) {i : Int} (i0 : 0 ≤ i) (i6 : i + 6 ≤ (Ln : Int)) {h : mH} {n : Nat} (ck : CK h ((n : Int) + 1)) (mi : MI h) (k73 : hK h 73 = 11) (l73 : hL h 73 = 1) (ti : TI h) (tj : TJ h) (tl : TLd h) (nx : ∀ h', CK h' (n : Int) → MI h' → hK h' 73 = 11 → hL h' 73 = 1 → TI h' → TJ h' → TLd h' → G 1371 (Lw i) [] h') : G 1200 (Lw i) [] h := by
  refine Gx.ald_n g.gd rfl dL_law_1200 ?_
  refine Gl.scr (i := i) (k := 1) g rfl i0 (by decide) (by decide) (by omega) hLn dL_law_1201 dL_law_1202 dL_law_1204 dL_law_1205 dL_law_1206 ?_
  refine Gx.i2l g.gd dL_law_1207 ?_
  refine Gx.bipush g.gd dL_law_1208 (by decide) ?_
  refine Gx.lshl g.gd dL_law_1210 ?_
  refine Gl.scr (i := i) (k := 2) g rfl i0 (by decide) (by decide) (by omega) hLn dL_law_1211 dL_law_1212 dL_law_1214 dL_law_1215 dL_law_1216 ?_
  refine Gx.i2l g.gd dL_law_1217 ?_
  refine Gx.ldc2 (z := 4294967295) g.gd lk_L_29 (by decide) dL_law_1218 ?_
  refine Gx.land g.gd dL_law_1221 ?_
  refine Gx.lor g.gd dL_law_1222 ?_
  refine Gl.scr (i := i) (k := 3) g rfl i0 (by decide) (by decide) (by omega) hLn dL_law_1223 dL_law_1224 dL_law_1226 dL_law_1227 dL_law_1228 ?_
  refine Gl.scr (i := i) (k := 4) g rfl i0 (by decide) (by decide) (by omega) hLn dL_law_1229 dL_law_1230 dL_law_1232 dL_law_1233 dL_law_1234 ?_
  obtain ⟨_, t1, ct1, ⟨y1, rfl⟩, ck1, kp1, cs1, kl1⟩ := kx_sums h n ck (qor (qshl (sX xs (i + 1)) 32) (qand (sX xs (i + 2)) 4294967295)) (sX xs (i + 3)) (sX xs (i + 4))
  have mi1 := kp1.mi mi
  have k1 := kp1.2.2.1.trans k73
  have l1 := kp1.2.2.2.trans l73
  refine Gx.callV1 g.gd ct1 wc_L_156 iM_X5_sums se_X5_sums kC5 (sK0 (h := h) ck.1) dL_law_1235 rfl (Nat.le_of_ble_eq_true rfl) rfl (Nat.le_of_ble_eq_true rfl) ?_ (rm9 ck1)
  refine Gx.pop2 g.gd dL_law_1238 rfl ?_
  refine Gx.ald_n g.gd rfl dL_law_1239 ?_
  refine Gl.scr (i := i) (k := 1) g rfl i0 (by decide) (by decide) (by omega) hLn dL_law_1240 dL_law_1241 dL_law_1243 dL_law_1244 dL_law_1245 ?_
  refine Gx.i2l g.gd dL_law_1246 ?_
  refine Gx.bipush g.gd dL_law_1247 (by decide) ?_
  refine Gx.lshl g.gd dL_law_1249 ?_
  refine Gl.scr (i := i) (k := 2) g rfl i0 (by decide) (by decide) (by omega) hLn dL_law_1250 dL_law_1251 dL_law_1253 dL_law_1254 dL_law_1255 ?_
  refine Gx.i2l g.gd dL_law_1256 ?_
  refine Gx.ldc2 (z := 4294967295) g.gd lk_L_29 (by decide) dL_law_1257 ?_
  refine Gx.land g.gd dL_law_1260 ?_
  refine Gx.lor g.gd dL_law_1261 ?_
  refine Gl.scr (i := i) (k := 3) g rfl i0 (by decide) (by decide) (by omega) hLn dL_law_1262 dL_law_1263 dL_law_1265 dL_law_1266 dL_law_1267 ?_
  refine Gl.scr (i := i) (k := 4) g rfl i0 (by decide) (by decide) (by omega) hLn dL_law_1268 dL_law_1269 dL_law_1271 dL_law_1272 dL_law_1273 ?_
  obtain ⟨_, t2, ct2, ⟨y2, rfl⟩, mi2, fr2⟩ := cq_msums 7 t1 ck1.1 mi1 (qor (qshl (sX xs (i + 1)) 32) (qand (sX xs (i + 2)) 4294967295)) (sX xs (i + 3)) (sX xs (i + 4))
  have ck2 := ck1.model (fr2.mono (by decide) (by decide))
  have ti2 := ti.keep kp1 cs1.cs fr2 (by decide) (by decide)
  have tj2 := tj.keep kp1 cs1 fr2 (by decide) (by decide)
  have tl2 := tl.keep kp1 kl1 fr2 (by decide) (by decide) (by decide) (by decide)
  have k2 : hK t2 73 = 11 := by rw [fr2.2.2.1]; exact k1
  have l2 : hL t2 73 = 1 := by rw [fr2.2.2.2.1]; exact l1
  refine Gx.callV1 g.gd ct2 wc_L_160 iM_X6_sums se_X6_sums kC6 (sK41 (h := t1) ck1.1) dL_law_1274 rfl (Nat.le_of_ble_eq_true rfl) rfl (Nat.le_of_ble_eq_true rfl) ?_ (rm9 ck2)
  refine Gx.pop2 g.gd dL_law_1277 rfl ?_
  refine Gx.goto (tgt := 1371) g.gd dL_law_1278 rfl ?_
  exact nx _ ck2 mi2 k2 l2 ti2 tj2 tl2
theorem cs_32 {Ln : Nat} {xs : Nat → Int32} {G : Nat → List mV → List mV → mH → Prop} (g : Gl Ln xs room_1 G) (hLn : Ln ≤ 3072) {i : Int} (i0 : 0 ≤ i) (i6 : i + 6 ≤ (Ln : Int)) {h : mH} {n : Nat} (ck : CK h ((n : Int) + 1)) (mi : MI h) (k73 : hK h 73 = 11) (l73 : hL h 73 = 1) (ti : TI h) (tj : TJ h) (tl : TLd h) (nx : ∀ h', CK h' (n : Int) → MI h' → hK h' 73 = 11 → hL h' 73 = 1 → TI h' → TJ h' → TLd h' → G 1371 (Lw i) [] h') : G 1281 (Lw i) [] h := by
  refine Gx.ald_n g.gd rfl dL_law_1281 ?_
  refine Gl.scr (i := i) (k := 1) g rfl i0 (by decide) (by decide) (by omega) hLn dL_law_1282 dL_law_1283 dL_law_1285 dL_law_1286 dL_law_1287 ?_
  refine Gl.scr (i := i) (k := 2) g rfl i0 (by decide) (by decide) (by omega) hLn dL_law_1288 dL_law_1289 dL_law_1291 dL_law_1292 dL_law_1293 ?_
  obtain ⟨_, t1, ct1, ⟨y1, rfl⟩, ck1, kp1, cs1, kl1⟩ := kx_longest h n ck (sX xs (i + 1)) (sX xs (i + 2))
  have mi1 := kp1.mi mi
  have k1 := kp1.2.2.1.trans k73
  have l1 := kp1.2.2.2.trans l73
  refine Gx.callV1 g.gd ct1 wc_L_161 iM_X5_longest se_X5_longest kC5 (sK0 (h := h) ck.1) dL_law_1294 rfl (Nat.le_of_ble_eq_true rfl) rfl (Nat.le_of_ble_eq_true rfl) ?_ (rm9 ck1)
  refine Gx.pop2 g.gd dL_law_1297 rfl ?_
  refine Gx.ald_n g.gd rfl dL_law_1298 ?_
  refine Gl.scr (i := i) (k := 1) g rfl i0 (by decide) (by decide) (by omega) hLn dL_law_1299 dL_law_1300 dL_law_1302 dL_law_1303 dL_law_1304 ?_
  refine Gl.scr (i := i) (k := 2) g rfl i0 (by decide) (by decide) (by omega) hLn dL_law_1305 dL_law_1306 dL_law_1308 dL_law_1309 dL_law_1310 ?_
  obtain ⟨_, t2, ct2, ⟨y2, rfl⟩, mi2, fr2⟩ := cq_mlongest 6 t1 ck1.1 mi1 (sX xs (i + 1)) (sX xs (i + 2))
  have ck2 := ck1.model (fr2.mono (by decide) (by decide))
  have ti2 := ti.keep kp1 cs1.cs fr2 (by decide) (by decide)
  have tj2 := tj.keep kp1 cs1 fr2 (by decide) (by decide)
  have tl2 := tl.keep kp1 kl1 fr2 (by decide) (by decide) (by decide) (by decide)
  have k2 : hK t2 73 = 11 := by rw [fr2.2.2.1]; exact k1
  have l2 : hL t2 73 = 1 := by rw [fr2.2.2.2.1]; exact l1
  refine Gx.callV1 g.gd ct2 wc_L_164 iM_X6_longest se_X6_longest kC6 (sK41 (h := t1) ck1.1) dL_law_1311 rfl (Nat.le_of_ble_eq_true rfl) rfl (Nat.le_of_ble_eq_true rfl) ?_ (rm9 ck2)
  refine Gx.pop2 g.gd dL_law_1314 rfl ?_
  refine Gx.goto (tgt := 1371) g.gd dL_law_1315 rfl ?_
  exact nx _ ck2 mi2 k2 l2 ti2 tj2 tl2
theorem cs_33 {Ln : Nat} {xs : Nat → Int32} {G : Nat → List mV → List mV → mH → Prop} (g : Gl Ln xs room_1 G) (hLn : Ln ≤ 3072) {i : Int} (i0 : 0 ≤ i) (i6 : i + 6 ≤ (Ln : Int)) {h : mH} {n : Nat} (ck : CK h ((n : Int) + 1)) (mi : MI h) (k73 : hK h 73 = 11) (l73 : hL h 73 = 1) (ti : TI h) (tj : TJ h) (tl : TLd h) (nx : ∀ h', CK h' (n : Int) → MI h' → hK h' 73 = 11 → hL h' 73 = 1 → TI h' → TJ h' → TLd h' → G 1371 (Lw i) [] h') : G 1318 (Lw i) [] h := by
  refine Gx.ald_n g.gd rfl dL_law_1318 ?_
  refine Gl.scr (i := i) (k := 1) g rfl i0 (by decide) (by decide) (by omega) hLn dL_law_1319 dL_law_1320 dL_law_1322 dL_law_1323 dL_law_1324 ?_
  obtain ⟨_, t1, ct1, ⟨y1, rfl⟩, ck1, kp1, cs1, kl1⟩ := kx_again h n ck (sX xs (i + 1))
  have mi1 := kp1.mi mi
  have k1 := kp1.2.2.1.trans k73
  have l1 := kp1.2.2.2.trans l73
  refine Gx.callV1 g.gd ct1 wc_L_165 iM_X5_again se_X5_again kC5 (sK0 (h := h) ck.1) dL_law_1325 rfl (Nat.le_of_ble_eq_true rfl) rfl (Nat.le_of_ble_eq_true rfl) ?_ (rm9 ck1)
  refine Gx.pop g.gd dL_law_1328 (Or.inl rfl) ?_
  refine Gx.ald_n g.gd rfl dL_law_1329 ?_
  refine Gl.scr (i := i) (k := 1) g rfl i0 (by decide) (by decide) (by omega) hLn dL_law_1330 dL_law_1331 dL_law_1333 dL_law_1334 dL_law_1335 ?_
  obtain ⟨_, t2, ct2, ⟨y2, rfl⟩, mi2, fr2⟩ := cq_magain 5 t1 ck1.1 mi1 (sX xs (i + 1))
  have ck2 := ck1.model (fr2.mono (by decide) (by decide))
  have ti2 := ti.keep kp1 cs1.cs fr2 (by decide) (by decide)
  have tj2 := tj.keep kp1 cs1 fr2 (by decide) (by decide)
  have tl2 := tl.keep kp1 kl1 fr2 (by decide) (by decide) (by decide) (by decide)
  have k2 : hK t2 73 = 11 := by rw [fr2.2.2.1]; exact k1
  have l2 : hL t2 73 = 1 := by rw [fr2.2.2.2.1]; exact l1
  refine Gx.callV1 g.gd ct2 wc_L_168 iM_X6_again se_X6_again kC6 (sK41 (h := t1) ck1.1) dL_law_1336 rfl (Nat.le_of_ble_eq_true rfl) rfl (Nat.le_of_ble_eq_true rfl) ?_ (rm9 ck2)
  refine Gx.pop g.gd dL_law_1339 (Or.inl rfl) ?_
  refine Gx.goto (tgt := 1371) g.gd dL_law_1340 rfl ?_
  exact nx _ ck2 mi2 k2 l2 ti2 tj2 tl2
theorem cs_34 {Ln : Nat} {xs : Nat → Int32} {G : Nat → List mV → List mV → mH → Prop} (g : Gl Ln xs room_1 G) (hLn : Ln ≤ 3072) {i : Int} (i0 : 0 ≤ i) (i6 : i + 6 ≤ (Ln : Int)) {h : mH} {n : Nat} (ck : CK h ((n : Int) + 1)) (mi : MI h) (k73 : hK h 73 = 11) (l73 : hL h 73 = 1) (ti : TI h) (tj : TJ h) (tl : TLd h) (nx : ∀ h', CK h' (n : Int) → MI h' → hK h' 73 = 11 → hL h' 73 = 1 → TI h' → TJ h' → TLd h' → G 1371 (Lw i) [] h') : G 1343 (Lw i) [] h := by
  refine Gx.ald_n g.gd rfl dL_law_1343 ?_
  refine Gl.scr (i := i) (k := 1) g rfl i0 (by decide) (by decide) (by omega) hLn dL_law_1344 dL_law_1345 dL_law_1347 dL_law_1348 dL_law_1349 ?_
  refine Gx.ald_n g.gd rfl dL_law_1350 ?_
  have hr9 := ck.rm (by omega)
  refine Gl.out g (sK0 ck.1) (sF0_8 ck.1) (sK32 ck.1) (by rw [sL32 ck.1]; exact ck.2.2.2.2.1.2) k73 l73 dL_law_1351 (by decide) ⟨by show hN h + 1 ≤ 601024; omega, by show hZ h + 6 ≤ 7293034; omega⟩ (fun y1 t1 hh => ?_)
  have fq1 := out_fq hh
  have ck1 := ck.out fq1.1 fq1.2.1 fq1.2.2
  have mi1 := mi.out ck.1.2.2.2.2 fq1.1
  have k1 : hK t1 73 = 11 := (fq1.1.2.2.1 73 (by have := ck.1.2.2.2.2; omega)).trans k73
  have l1 : hL t1 73 = 1 := (fq1.1.2.2.2.1 73 (by have := ck.1.2.2.2.2; omega)).trans l73
  have ti1 := ti.out ck.1.2.2.2.2 fq1.1
  have tj1 := tj.out ck.1.2.2.2.2 fq1.1
  have tl1 := tl.out ck.1.2.2.2.2 fq1.1
  refine Gx.ist (i := 5) (L' := (Lw i).set 5 (0, y1)) g.gd (dSt_w dL_law_1354) (stO_set (fun u _ hu => by cases hu; exact Nat.zero_ne_one)) (show 5 < 7 by decide) rfl (by decide) ?_
  refine Gx.ald_n g.gd rfl dL_law_1356 ?_
  refine Gl.scr (i := i) (k := 1) g rfl i0 (by decide) (by decide) (by omega) hLn dL_law_1357 dL_law_1358 dL_law_1360 dL_law_1361 dL_law_1362 ?_
  obtain ⟨_, t2, ct2, ⟨y2, rfl⟩, mi2, fr2⟩ := cq_mout 8 t1 ck1.1 mi1 (sX xs (i + 1))
  have ck2 := ck1.model (fr2.mono (by decide) (by decide))
  have ti2 := ti1.mod fr2 (by decide) (by decide)
  have tj2 := tj1.mod fr2 (by decide) (by decide)
  have tl2 := tl1.mod fr2 (by decide) (by decide) (by decide) (by decide)
  have k2 : hK t2 73 = 11 := by rw [fr2.2.2.1]; exact k1
  have l2 : hL t2 73 = 1 := by rw [fr2.2.2.2.1]; exact l1
  refine Gx.callV1 g.gd ct2 wc_L_174 iM_X6_out se_X6_out kC6 (sK41 (h := t1) ck1.1) dL_law_1363 rfl (Nat.le_of_ble_eq_true rfl) rfl (Nat.le_of_ble_eq_true rfl) ?_ (rm9 ck2)
  refine Gx.ist (i := 6) (L' := ((Lw i).set 5 (0, y1)).set 6 (0, y2)) g.gd (dSt_w dL_law_1366) (stO_set (fun u _ hu => by cases hu; exact Nat.zero_ne_one)) (show 6 < 7 by decide) rfl (by decide) ?_
  refine Gx.goto (tgt := 1371) g.gd dL_law_1368 rfl ?_
  refine Gd.weak (L' := Lw i) g.gd rfl (Lw_weak i _ _) ?_
  exact nx _ ck2 mi2 k2 l2 ti2 tj2 tl2
