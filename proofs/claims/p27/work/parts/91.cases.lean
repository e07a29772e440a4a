theorem cmpL_e0 {a b : Int} (e : a = b) : cmpL a b = 0 := by
  unfold cmpL
  rw [if_neg (by omega), if_pos e]
theorem TI.mod {t1 t2 : mH} {A : List Int} {G : List (Int × Nat)} (ti : TI t1) (fr : Fr A G t1 t2) (hA : ∀ x ∈ A, x ∈ mAk) (hG : ∀ q ∈ G, q ∈ mGk) : TI t2 := ti.keep ⟨fun _ => rfl, fun _ _ _ => rfl, rfl, rfl⟩ ⟨⟨rfl, rfl⟩, fun _ _ _ => ⟨fun _ => rfl, rfl⟩⟩ fr hA hG
theorem TI.out {h t : mH} (ti : TI h) (h74 : 74 ≤ hN h) (fq : Fq (fun a => a = 73) [] h t) : TI t := by
  have f := fun a k (ha : a < 74) => fq.2.2.2.2.1 a k (by omega) (by simp)
  have g := fun (x : Int) (hx : x < 73) => fq.2.2.2.2.2 x (by omega) (by show ¬ x = 73; omega)
  refine ⟨⟨by rw [f 2 0 (by decide), f 41 5 (by decide)]; exact ti.1.1, by rw [f 2 1 (by decide), f 41 6 (by decide)]; exact ti.1.2⟩, ti.2.ss (fun i i0 i1 => ?_) (fun i i0 i1 => ?_)⟩
  · exact ⟨f _ _ (by omega), f _ _ (by omega), fun k _ _ => congrFun (g _ (by omega)) k⟩
  · exact ⟨congrFun (g 42 (by decide)) i, congrFun (g 43 (by decide)) i, fun k _ _ => congrFun (g 44 (by decide)) _⟩
theorem TJ.mod {t1 t2 : mH} {A : List Int} {G : List (Int × Nat)} (tj : TJ t1) (fr : Fr A G t1 t2) (hA : ∀ x ∈ A, x ∈ mAn) (hG : ∀ q ∈ G, q ∈ mGn) : TJ t2 := tj.keep ⟨fun _ => rfl, fun _ _ _ => rfl, rfl, rfl⟩ ⟨fun _ => rfl, fun _ _ _ => rfl, fun _ _ _ => ⟨fun _ => rfl, rfl⟩⟩ fr hA hG
theorem TLE.mod {t1 t2 : mH} {A : List Int} {G : List (Int × Nat)} (tl : TLE t1) (rx : hF t1 17 3 = 21 ∨ 74 ≤ hF t1 17 3) (fr : Fr A G t1 t2) (hA9 : ∀ x ∈ A, x ∈ mAs) (hG9 : ∀ q ∈ G, q ∈ mGs) : TLE t2 := tl.keep rx ⟨fun _ => rfl, fun _ _ _ => rfl, rfl, rfl⟩ ⟨⟨rfl, rfl⟩, rfl, rfl, rfl⟩ fr hA9 hG9
theorem TLE.out {h t : mH} (tl : TLE h) (rx : (hF h 17 3 = 21 ∨ 74 ≤ hF h 17 3) ∧ hF h 17 3 < hN h ∧ hK h (hF h 17 3) = 10) (h74 : 74 ≤ hN h) (fq : Fq (fun a => a = 73) [] h t) : TLE t := by
  have f := fun a k (ha : a < 74) => fq.2.2.2.2.1 a k (by omega) (by simp)
  have g := fun (x : Int) (hx : x < 73) => fq.2.2.2.2.2 x (by omega) (by show ¬ x = 73; omega)
  have gr : hA t (hF h 17 3) = hA h (hF h 17 3) := fq.2.2.2.2.2 _ rx.2.1 (by show ¬ hF h 17 3 = 73; have := rx.1; omega)
  unfold TLE TLd TE
  rw [f 0 7 (by decide), f 41 28 (by decide), g 31 (by decide), g 63 (by decide), f 17 3 (by decide), f 17 4 (by decide), f 41 27 (by decide), g 60 (by decide), g 61 (by decide), g 62 (by decide), gr]
  exact tl
theorem TJ.out {h t : mH} (tj : TJ h) (h74 : 74 ≤ hN h) (fq : Fq (fun a => a = 73) [] h t) : TJ t := by
  have f := fun a k (ha : a < 74) => fq.2.2.2.2.1 a k (by omega) (by simp)
  have g := fun (x : Int) (hx : x < 73) => fq.2.2.2.2.2 x (by omega) (by show ¬ x = 73; omega)
  exact TJ2.mv tj (f _ _ (by decide)) (f _ _ (by decide)) (f _ _ (by decide)) (g _ (by decide)) (g _ (by decide)) (g _ (by decide)) (g _ (by decide)) (g _ (by decide)) (f _ _ (by decide)) (f _ _ (by decide)) (g _ (by decide)) (g _ (by decide)) (g _ (by decide)) (g _ (by decide)) (g _ (by decide))
abbrev Lw (i : Int) : List mV := [(9, 0), (2, 0), (2, 41), (2, 73), (0, i), (9, 0), (9, 0)]
theorem Lw_weak (i y z : Int) : ∀ (j : Nat) (v : mV), (Lw i)[j]? = some v → v.1 < 3 → ([(9, 0), (2, 0), (2, 41), (2, 73), (0, i), (0, y), (0, z)] : List mV)[j]? = some v
  | 0, _, hv, _ => hv
  | 1, _, hv, _ => hv
  | 2, _, hv, _ => hv
  | 3, _, hv, _ => hv
  | 4, _, hv, _ => hv
  | 5, v, hv, ht => by
    have e : (9, 0) = v := Option.some.inj hv
    rw [← e] at ht
    exact absurd ht (by decide)
  | 6, v, hv, ht => by
    have e : (9, 0) = v := Option.some.inj hv
    rw [← e] at ht
    exact absurd ht (by decide)
  | j + 7, v, hv, _ => by
    have : (none : Option mV) = some v := hv
    cases this
theorem rm9 {t : mH} {n : Nat} (ck : CK t (n : Int)) : hN t - hN e9_0 ≤ room_1.cells ∧ hZ t - hZ e9_0 ≤ room_1.slots := by
  have := ck.rm (by omega)
  show hN t - 0 ≤ 601024 ∧ hZ t - 0 ≤ 7293034
  omega
theorem Gx.callV1 {M : mM} {d pc : Nat} {L S : List mV} {h h0 : mH} {R : Room} {G : Nat → List mV → List mV → mH → Prop} (g : Gd M (d + 1) h0 R G) {M' : mM} {av S0 : List mV} {a : Int} {h1 : mH} {v : mV} {c ix n N : Nat} {T : u_T} (hF : Ct M' d ((2, a) :: av) h (some v) h1) (hw : wC M.1.cls M' ix n) (hin : Cond.instanceMethod M'.1 ∈ tW) (hse : Cond.selects M'.1.cls M'.1 M'.1 ∈ tW) (hc : kC c M'.1.cls T N) (ha : hK h a = c) (hd : decode M.2.1 pc = .ok (.invokevirtual ix, 3)) (hn : av.length = n) (hl : (eS ((2, a) :: av)).length ≤ M'.2.2.1) (hst : S0 = av.reverse ++ (2, a) :: S) (h8 : wSt S ≤ 8) (k : G (pc + 3) L (v :: S) h1) (rm : hN h1 - hN h0 ≤ R.cells ∧ hZ h1 - hZ h0 ≤ R.slots) : G pc L S0 h := Gx.callV g hF hw hin hse hc ha hd hn hl hst h8 k rm
theorem cs_0 {Ln : Nat} {xs : Nat → Int32} {G : Nat → List mV → List mV → mH → Prop} (g : Gl Ln xs room_1 G) (hLn : Ln ≤ 3072) {i : Int} (i0 : 0 ≤ i) (i6 : i + 6 ≤ (Ln : Int)) {h : mH} {n : Nat} (ck : CK h ((n : Int) + 1)) (mi : MI h) (k73 : hK h 73 = 11) (l73 : hL h 73 = 1) (ti : TI h) (tj : TJ h) (tl : TLE h) (nx : ∀ h', CK h' (n : Int) → MI h' → hK h' 73 = 11 → hL h' 73 = 1 → TI h' → TJ h' → TLE h' → G 1370 (Lw i) [] h') : G 196 (Lw i) [] h := by
  refine Gx.ald_n g.gd rfl dL_law_196 ?_
  obtain ⟨_, t1, ct1, ⟨y1, rfl⟩, ck1, kp1, cs1, kl1⟩ := kx_status h n ck 
  have mi1 := kp1.mi mi
  have k1 := kp1.2.2.1.trans k73
  have l1 := kp1.2.2.2.trans l73
  refine Gx.callV1 g.gd ct1 wc_L_19 iM_X5_status se_X5_status kC5 (sK0 (h := h) ck.1) dL_law_197 rfl (Nat.le_of_ble_eq_true rfl) rfl (Nat.le_of_ble_eq_true rfl) ?_ (rm9 ck1)
  refine Gx.pop g.gd dL_law_200 (Or.inl rfl) ?_
  refine Gx.ald_n g.gd rfl dL_law_201 ?_
  obtain ⟨_, t2, ct2, ⟨y2, rfl⟩, mi2, fr2⟩ := cq_mstatus t1 ck1.1 mi1 
  have ck2 := ck1.model (fr2.mono (by decide) (by decide))
  have ti2 := ti.keep kp1 cs1.cs fr2 (by decide) (by decide)
  have tj2 := tj.keep kp1 cs1 fr2 (by decide) (by decide)
  have tl2 := tl.keep ck.rx.1 kp1 kl1 fr2 (by decide) (by decide)
  have k2 : hK t2 73 = 11 := by rw [fr2.2.2.1]; exact k1
  have l2 : hL t2 73 = 1 := by rw [fr2.2.2.2.1]; exact l1
  refine Gx.callV1 g.gd ct2 wc_L_23 iM_X6_status se_X6_status kC6 (sK41 (h := t1) ck1.1) dL_law_202 rfl (Nat.le_of_ble_eq_true rfl) rfl (Nat.le_of_ble_eq_true rfl) ?_ (rm9 ck2)
  refine Gx.pop g.gd dL_law_205 (Or.inl rfl) ?_
  refine Gx.goto (tgt := 1370) g.gd dL_law_206 rfl ?_
  exact nx _ ck2 mi2 k2 l2 ti2 tj2 tl2
theorem cs_1 {Ln : Nat} {xs : Nat → Int32} {G : Nat → List mV → List mV → mH → Prop} (g : Gl Ln xs room_1 G) (hLn : Ln ≤ 3072) {i : Int} (i0 : 0 ≤ i) (i6 : i + 6 ≤ (Ln : Int)) {h : mH} {n : Nat} (ck : CK h ((n : Int) + 1)) (mi : MI h) (k73 : hK h 73 = 11) (l73 : hL h 73 = 1) (ti : TI h) (tj : TJ h) (tl : TLE h) (nx : ∀ h', CK h' (n : Int) → MI h' → hK h' 73 = 11 → hL h' 73 = 1 → TI h' → TJ h' → TLE h' → G 1370 (Lw i) [] h') : G 209 (Lw i) [] h := by
  refine Gx.ald_n g.gd rfl dL_law_209 ?_
  refine Gl.scr (i := i) (k := 1) g rfl i0 (by decide) (by decide) (by omega) hLn dL_law_210 dL_law_211 dL_law_213 dL_law_214 dL_law_215 ?_
  refine Gl.scr (i := i) (k := 2) g rfl i0 (by decide) (by decide) (by omega) hLn dL_law_216 dL_law_217 dL_law_219 dL_law_220 dL_law_221 ?_
  refine Gl.scr (i := i) (k := 3) g rfl i0 (by decide) (by decide) (by omega) hLn dL_law_222 dL_law_223 dL_law_225 dL_law_226 dL_law_227 ?_
  obtain ⟨_, t1, ct1, ⟨y1, rfl, hy1⟩, ck1, kp1, kl1⟩ := kx_sheet h n ck (sX xs (i + 1)) (sX xs (i + 2)) (sX xs (i + 3))
  have mi1 := kp1.mi mi
  have k1 := kp1.2.2.1.trans k73
  have l1 := kp1.2.2.2.trans l73
  refine Gx.callV1 g.gd ct1 wc_L_24 iM_X5_sheet se_X5_sheet kC5 (sK0 (h := h) ck.1) dL_law_228 rfl (Nat.le_of_ble_eq_true rfl) rfl (Nat.le_of_ble_eq_true rfl) ?_ (rm9 ck1)
  refine Gx.pop g.gd dL_law_231 (Or.inl rfl) ?_
  refine Gx.ald_n g.gd rfl dL_law_232 ?_
  refine Gl.scr (i := i) (k := 1) g rfl i0 (by decide) (by decide) (by omega) hLn dL_law_233 dL_law_234 dL_law_236 dL_law_237 dL_law_238 ?_
  refine Gl.scr (i := i) (k := 2) g rfl i0 (by decide) (by decide) (by omega) hLn dL_law_239 dL_law_240 dL_law_242 dL_law_243 dL_law_244 ?_
  refine Gl.scr (i := i) (k := 3) g rfl i0 (by decide) (by decide) (by omega) hLn dL_law_245 dL_law_246 dL_law_248 dL_law_249 dL_law_250 ?_
  obtain ⟨_, t2, ct2, ⟨y2, rfl, hy2⟩, mi2, fr2⟩ := cq_msheet 8 t1 ck1.1 mi1 (sX xs (i + 1)) (sX xs (i + 2)) (sX xs (i + 3))
  have ck2 := ck1.model (fr2.mono (by decide) (by decide))
  obtain ⟨ey2, ti2, tj2⟩ := TB.sheet (fun z => ⟨z.2.2.1, z.2.2.2⟩) ti tj kp1 (fr2.mono (by decide) (by decide)) hy1 hy2
  have tl2 := tl.keep ck.rx.1 kp1 kl1 fr2 (by decide) (by decide)
  have k2 : hK t2 73 = 11 := by rw [fr2.2.2.1]; exact k1
  have l2 : hL t2 73 = 1 := by rw [fr2.2.2.2.1]; exact l1
  refine Gx.callV1 g.gd ct2 wc_L_28 iM_X6_sheet se_X6_sheet kC6 (sK41 (h := t1) ck1.1) dL_law_251 rfl (Nat.le_of_ble_eq_true rfl) rfl (Nat.le_of_ble_eq_true rfl) ?_ (rm9 ck2)
  refine Gx.pop g.gd dL_law_254 (Or.inl rfl) ?_
  refine Gx.goto (tgt := 1370) g.gd dL_law_255 rfl ?_
  exact nx _ ck2 mi2 k2 l2 ti2 tj2 tl2
theorem cs_2 {Ln : Nat} {xs : Nat → Int32} {G : Nat → List mV → List mV → mH → Prop} (g : Gl Ln xs room_1 G) (hLn : Ln ≤ 3072) {i : Int} (i0 : 0 ≤ i) (i6 : i + 6 ≤ (Ln : Int)) {h : mH} {n : Nat} (ck : CK h ((n : Int) + 1)) (mi : MI h) (k73 : hK h 73 = 11) (l73 : hL h 73 = 1) (ti : TI h) (tj : TJ h) (tl : TLE h) (nx : ∀ h', CK h' (n : Int) → MI h' → hK h' 73 = 11 → hL h' 73 = 1 → TI h' → TJ h' → TLE h' → G 1370 (Lw i) [] h') : G 258 (Lw i) [] h := by
  refine Gx.ald_n g.gd rfl dL_law_258 ?_
  refine Gl.scr (i := i) (k := 1) g rfl i0 (by decide) (by decide) (by omega) hLn dL_law_259 dL_law_260 dL_law_262 dL_law_263 dL_law_264 ?_
  refine Gl.scr (i := i) (k := 2) g rfl i0 (by decide) (by decide) (by omega) hLn dL_law_265 dL_law_266 dL_law_268 dL_law_269 dL_law_270 ?_
  refine Gl.scr (i := i) (k := 3) g rfl i0 (by decide) (by decide) (by omega) hLn dL_law_271 dL_law_272 dL_law_274 dL_law_275 dL_law_276 ?_
  refine Gx.i2l g.gd dL_law_277 ?_
  refine Gx.bipush g.gd dL_law_278 (by decide) ?_
  refine Gx.lshl g.gd dL_law_280 ?_
  refine Gl.scr (i := i) (k := 4) g rfl i0 (by decide) (by decide) (by omega) hLn dL_law_281 dL_law_282 dL_law_284 dL_law_285 dL_law_286 ?_
  refine Gx.i2l g.gd dL_law_287 ?_
  refine Gx.ldc2 (z := 4294967295) g.gd lk_L_29 (by decide) dL_law_288 ?_
  refine Gx.land g.gd dL_law_291 ?_
  refine Gx.lor g.gd dL_law_292 ?_
  obtain ⟨_, t1, ct1, ⟨y1, rfl, hy1⟩, ck1, kp1, kl1⟩ := kx_write h n ck (sX xs (i + 1)) (sX xs (i + 2)) (qor (qshl (sX xs (i + 3)) 32) (qand (sX xs (i + 4)) 4294967295)) (sX_r _ _)
  have mi1 := kp1.mi mi
  have k1 := kp1.2.2.1.trans k73
  have l1 := kp1.2.2.2.trans l73
  refine Gx.callV1 g.gd ct1 wc_L_31 iM_X5_write se_X5_write kC5 (sK0 (h := h) ck.1) dL_law_293 rfl (Nat.le_of_ble_eq_true rfl) rfl (Nat.le_of_ble_eq_true rfl) ?_ (rm9 ck1)
  refine Gx.pop g.gd dL_law_296 (Or.inl rfl) ?_
  refine Gx.ald_n g.gd rfl dL_law_297 ?_
  refine Gl.scr (i := i) (k := 1) g rfl i0 (by decide) (by decide) (by omega) hLn dL_law_298 dL_law_299 dL_law_301 dL_law_302 dL_law_303 ?_
  refine Gl.scr (i := i) (k := 2) g rfl i0 (by decide) (by decide) (by omega) hLn dL_law_304 dL_law_305 dL_law_307 dL_law_308 dL_law_309 ?_
  refine Gl.scr (i := i) (k := 3) g rfl i0 (by decide) (by decide) (by omega) hLn dL_law_310 dL_law_311 dL_law_313 dL_law_314 dL_law_315 ?_
  refine Gx.i2l g.gd dL_law_316 ?_
  refine Gx.bipush g.gd dL_law_317 (by decide) ?_
  refine Gx.lshl g.gd dL_law_319 ?_
  refine Gl.scr (i := i) (k := 4) g rfl i0 (by decide) (by decide) (by omega) hLn dL_law_320 dL_law_321 dL_law_323 dL_law_324 dL_law_325 ?_
  refine Gx.i2l g.gd dL_law_326 ?_
  refine Gx.ldc2 (z := 4294967295) g.gd lk_L_29 (by decide) dL_law_327 ?_
  refine Gx.land g.gd dL_law_330 ?_
  refine Gx.lor g.gd dL_law_331 ?_
  obtain ⟨_, t2, ct2, ⟨y2, rfl, hy2⟩, mi2, fr2⟩ := cq_mwrite 7 t1 ck1.1 mi1 (sX xs (i + 1)) (sX xs (i + 2)) (qor (qshl (sX xs (i + 3)) 32) (qand (sX xs (i + 4)) 4294967295))
  have ck2 := ck1.model (fr2.mono (by decide) (by decide))
  obtain ⟨ey2, ti2, tj2⟩ := TB.write ti tj kp1 (fr2.mono (by decide) (by decide)) hy1 hy2
  have tl2 := tl.keep ck.rx.1 kp1 kl1 fr2 (by decide) (by decide)
  have k2 : hK t2 73 = 11 := by rw [fr2.2.2.1]; exact k1
  have l2 : hL t2 73 = 1 := by rw [fr2.2.2.2.1]; exact l1
  refine Gx.callV1 g.gd ct2 wc_L_35 iM_X6_write se_X6_write kC6 (sK41 (h := t1) ck1.1) dL_law_332 rfl (Nat.le_of_ble_eq_true rfl) rfl (Nat.le_of_ble_eq_true rfl) ?_ (rm9 ck2)
  refine Gx.pop g.gd dL_law_335 (Or.inl rfl) ?_
  refine Gx.goto (tgt := 1370) g.gd dL_law_336 rfl ?_
  exact nx _ ck2 mi2 k2 l2 ti2 tj2 tl2
theorem cs_3 {Ln : Nat} {xs : Nat → Int32} {G : Nat → List mV → List mV → mH → Prop} (g : Gl Ln xs room_1 G) (hLn : Ln ≤ 3072) {i : Int} (i0 : 0 ≤ i) (i6 : i + 6 ≤ (Ln : Int)) {h : mH} {n : Nat} (ck : CK h ((n : Int) + 1)) (mi : MI h) (k73 : hK h 73 = 11) (l73 : hL h 73 = 1) (ti : TI h) (tj : TJ h) (tl : TLE h) (nx : ∀ h', CK h' (n : Int) → MI h' → hK h' 73 = 11 → hL h' 73 = 1 → TI h' → TJ h' → TLE h' → G 1370 (Lw i) [] h') : G 339 (Lw i) [] h := by
  refine Gx.ald_n g.gd rfl dL_law_339 ?_
  refine Gl.scr (i := i) (k := 1) g rfl i0 (by decide) (by decide) (by omega) hLn dL_law_340 dL_law_341 dL_law_343 dL_law_344 dL_law_345 ?_
  refine Gl.scr (i := i) (k := 2) g rfl i0 (by decide) (by decide) (by omega) hLn dL_law_346 dL_law_347 dL_law_349 dL_law_350 dL_law_351 ?_
  obtain ⟨_, t1, ct1, ⟨y1, rfl, hy1⟩, ck1, kp1, cs1, kl1⟩ := kx_read h n ck (sX xs (i + 1)) (sX xs (i + 2)) (sX_r _ _)
  have mi1 := kp1.mi mi
  have k1 := kp1.2.2.1.trans k73
  have l1 := kp1.2.2.2.trans l73
  refine Gx.callV1 g.gd ct1 wc_L_36 iM_X5_read se_X5_read kC5 (sK0 (h := h) ck.1) dL_law_352 rfl (Nat.le_of_ble_eq_true rfl) rfl (Nat.le_of_ble_eq_true rfl) ?_ (rm9 ck1)
  refine Gx.pop2 g.gd dL_law_355 rfl ?_
  refine Gx.ald_n g.gd rfl dL_law_356 ?_
  refine Gl.scr (i := i) (k := 1) g rfl i0 (by decide) (by decide) (by omega) hLn dL_law_357 dL_law_358 dL_law_360 dL_law_361 dL_law_362 ?_
  refine Gl.scr (i := i) (k := 2) g rfl i0 (by decide) (by decide) (by omega) hLn dL_law_363 dL_law_364 dL_law_366 dL_law_367 dL_law_368 ?_
  obtain ⟨_, t2, ct2, ⟨y2, rfl, hy2⟩, mi2, fr2⟩ := cq_mread 7 t1 ck1.1 mi1 (sX xs (i + 1)) (sX xs (i + 2))
  have ck2 := ck1.model (fr2.mono (by decide) (by decide))
  have ti2 := ti.keep kp1 cs1.cs fr2 (by decide) (by decide)
  have tj2 := tj.keep kp1 cs1 fr2 (by decide) (by decide)
  have tl2 := tl.keep ck.rx.1 kp1 kl1 fr2 (by decide) (by decide)
  have k2 : hK t2 73 = 11 := by rw [fr2.2.2.1]; exact k1
  have l2 : hL t2 73 = 1 := by rw [fr2.2.2.2.1]; exact l1
  refine Gx.callV1 g.gd ct2 wc_L_40 iM_X6_read se_X6_read kC6 (sK41 (h := t1) ck1.1) dL_law_369 rfl (Nat.le_of_ble_eq_true rfl) rfl (Nat.le_of_ble_eq_true rfl) ?_ (rm9 ck2)
  refine Gx.pop2 g.gd dL_law_372 rfl ?_
  refine Gx.goto (tgt := 1370) g.gd dL_law_373 rfl ?_
  exact nx _ ck2 mi2 k2 l2 ti2 tj2 tl2
theorem cs_4 {Ln : Nat} {xs : Nat → Int32} {G : Nat → List mV → List mV → mH → Prop} (g : Gl Ln xs room_1 G) (hLn : Ln ≤ 3072) {i : Int} (i0 : 0 ≤ i) (i6 : i + 6 ≤ (Ln : Int)) {h : mH} {n : Nat} (ck : CK h ((n : Int) + 1)) (mi : MI h) (k73 : hK h 73 = 11) (l73 : hL h 73 = 1) (ti : TI h) (tj : TJ h) (tl : TLE h) (nx : ∀ h', CK h' (n : Int) → MI h' → hK h' 73 = 11 → hL h' 73 = 1 → TI h' → TJ h' → TLE h' → G 1370 (Lw i) [] h') : G 376 (Lw i) [] h := by
  refine Gx.ald_n g.gd rfl dL_law_376 ?_
  refine Gl.scr (i := i) (k := 1) g rfl i0 (by decide) (by decide) (by omega) hLn dL_law_377 dL_law_378 dL_law_380 dL_law_381 dL_law_382 ?_
  refine Gl.scr (i := i) (k := 2) g rfl i0 (by decide) (by decide) (by omega) hLn dL_law_383 dL_law_384 dL_law_386 dL_law_387 dL_law_388 ?_
  refine Gl.scr (i := i) (k := 3) g rfl i0 (by decide) (by decide) (by omega) hLn dL_law_389 dL_law_390 dL_law_392 dL_law_393 dL_law_394 ?_
  refine Gl.scr (i := i) (k := 4) g rfl i0 (by decide) (by decide) (by omega) hLn dL_law_395 dL_law_396 dL_law_398 dL_law_399 dL_law_400 ?_
  refine Gl.scr (i := i) (k := 5) g rfl i0 (by decide) (by decide) (by omega) hLn dL_law_401 dL_law_402 dL_law_404 dL_law_405 dL_law_406 ?_
  obtain ⟨_, t1, ct1, ⟨y1, rfl, hy1⟩, ck1, kp1, kl1⟩ := kx_pour h n ck (sX xs (i + 1)) (sX xs (i + 2)) (sX xs (i + 3)) (sX xs (i + 4)) (sX xs (i + 5)) (sX_r _ _) (sX_r _ _) (sX_r _ _)
  have mi1 := kp1.mi mi
  have k1 := kp1.2.2.1.trans k73
  have l1 := kp1.2.2.2.trans l73
  refine Gx.callV1 g.gd ct1 wc_L_41 iM_X5_pour se_X5_pour kC5 (sK0 (h := h) ck.1) dL_law_407 rfl (Nat.le_of_ble_eq_true rfl) rfl (Nat.le_of_ble_eq_true rfl) ?_ (rm9 ck1)
  refine Gx.pop g.gd dL_law_410 (Or.inl rfl) ?_
  refine Gx.ald_n g.gd rfl dL_law_411 ?_
  refine Gl.scr (i := i) (k := 1) g rfl i0 (by decide) (by decide) (by omega) hLn dL_law_412 dL_law_413 dL_law_415 dL_law_416 dL_law_417 ?_
  refine Gl.scr (i := i) (k := 2) g rfl i0 (by decide) (by decide) (by omega) hLn dL_law_418 dL_law_419 dL_law_421 dL_law_422 dL_law_423 ?_
  refine Gl.scr (i := i) (k := 3) g rfl i0 (by decide) (by decide) (by omega) hLn dL_law_424 dL_law_425 dL_law_427 dL_law_428 dL_law_429 ?_
  refine Gl.scr (i := i) (k := 4) g rfl i0 (by decide) (by decide) (by omega) hLn dL_law_430 dL_law_431 dL_law_433 dL_law_434 dL_law_435 ?_
  refine Gl.scr (i := i) (k := 5) g rfl i0 (by decide) (by decide) (by omega) hLn dL_law_436 dL_law_437 dL_law_439 dL_law_440 dL_law_441 ?_
  obtain ⟨_, t2, ct2, ⟨y2, rfl, hy2⟩, mi2, fr2⟩ := cq_mpour 8 t1 ck1.1 mi1 (sX xs (i + 1)) (sX xs (i + 2)) (sX xs (i + 3)) (sX xs (i + 4)) (sX xs (i + 5)) (sX_r _ _).2 (sX_r _ _).2 (sX_r _ _).2
  have ck2 := ck1.model (fr2.mono (by decide) (by decide))
  obtain ⟨ey2, ti2, tj2⟩ := TB.pour ti tj kp1 (fr2.mono (by decide) (by decide)) hy1 hy2
  have tl2 := tl.keep ck.rx.1 kp1 kl1 fr2 (by decide) (by decide)
  have k2 : hK t2 73 = 11 := by rw [fr2.2.2.1]; exact k1
  have l2 : hL t2 73 = 1 := by rw [fr2.2.2.2.1]; exact l1
  refine Gx.callV1 g.gd ct2 wc_L_45 iM_X6_pour se_X6_pour kC6 (sK41 (h := t1) ck1.1) dL_law_442 rfl (Nat.le_of_ble_eq_true rfl) rfl (Nat.le_of_ble_eq_true rfl) ?_ (rm9 ck2)
  refine Gx.pop g.gd dL_law_445 (Or.inl rfl) ?_
  refine Gx.goto (tgt := 1370) g.gd dL_law_446 rfl ?_
  exact nx _ ck2 mi2 k2 l2 ti2 tj2 tl2
theorem cs_5 {Ln : Nat} {xs : Nat → Int32} {G : Nat → List mV → List mV → mH → Prop} (g : Gl Ln xs room_1 G) (hLn : Ln ≤ 3072) {i : Int} (i0 : 0 ≤ i) (i6 : i + 6 ≤ (Ln : Int)) {h : mH} {n : Nat} (ck : CK h ((n : Int) + 1)) (mi : MI h) (k73 : hK h 73 = 11) (l73 : hL h 73 = 1) (ti : TI h) (tj : TJ h) (tl : TLE h) (nx : ∀ h', CK h' (n : Int) → MI h' → hK h' 73 = 11 → hL h' 73 = 1 → TI h' → TJ h' → TLE h' → G 1370 (Lw i) [] h') : G 449 (Lw i) [] h := by
  refine Gx.ald_n g.gd rfl dL_law_449 ?_
  refine Gl.scr (i := i) (k := 1) g rfl i0 (by decide) (by decide) (by omega) hLn dL_law_450 dL_law_451 dL_law_453 dL_law_454 dL_law_455 ?_
  obtain ⟨_, t1, ct1, ⟨y1, rfl, hy1⟩, ck1, kp1, kl1⟩ := kx_ring h n ck (sX xs (i + 1))
  have mi1 := kp1.mi mi
  have k1 := kp1.2.2.1.trans k73
  have l1 := kp1.2.2.2.trans l73
  refine Gx.callV1 g.gd ct1 wc_L_46 iM_X5_ring se_X5_ring kC5 (sK0 (h := h) ck.1) dL_law_456 rfl (Nat.le_of_ble_eq_true rfl) rfl (Nat.le_of_ble_eq_true rfl) ?_ (rm9 ck1)
  refine Gx.pop g.gd dL_law_459 (Or.inl rfl) ?_
  refine Gx.ald_n g.gd rfl dL_law_460 ?_
  refine Gl.scr (i := i) (k := 1) g rfl i0 (by decide) (by decide) (by omega) hLn dL_law_461 dL_law_462 dL_law_464 dL_law_465 dL_law_466 ?_
  obtain ⟨_, t2, ct2, ⟨y2, rfl, hy2⟩, mi2, fr2⟩ := cq_mring 8 t1 ck1.1 mi1 (sX xs (i + 1))
  have ck2 := ck1.model (fr2.mono (by decide) (by decide))
  obtain ⟨ey2, ti2, tj2⟩ := TB.ring ti tj kp1 (fr2.mono (by decide) (by decide)) hy1 hy2
  have tl2 := tl.keep ck.rx.1 kp1 kl1 fr2 (by decide) (by decide)
  have k2 : hK t2 73 = 11 := by rw [fr2.2.2.1]; exact k1
  have l2 : hL t2 73 = 1 := by rw [fr2.2.2.2.1]; exact l1
  refine Gx.callV1 g.gd ct2 wc_L_50 iM_X6_ring se_X6_ring kC6 (sK41 (h := t1) ck1.1) dL_law_467 rfl (Nat.le_of_ble_eq_true rfl) rfl (Nat.le_of_ble_eq_true rfl) ?_ (rm9 ck2)
  refine Gx.pop g.gd dL_law_470 (Or.inl rfl) ?_
  refine Gx.goto (tgt := 1370) g.gd dL_law_471 rfl ?_
  exact nx _ ck2 mi2 k2 l2 ti2 tj2 tl2
theorem cs_6 {Ln : Nat} {xs : Nat → Int32} {G : Nat → List mV → List mV → mH → Prop} (g : Gl Ln xs room_1 G) (hLn : Ln ≤ 3072) {i : Int} (i0 : 0 ≤ i) (i6 : i + 6 ≤ (Ln : Int)) {h : mH} {n : Nat} (ck : CK h ((n : Int) + 1)) (mi : MI h) (k73 : hK h 73 = 11) (l73 : hL h 73 = 1) (ti : TI h) (tj : TJ h) (tl : TLE h) (nx : ∀ h', CK h' (n : Int) → MI h' → hK h' 73 = 11 → hL h' 73 = 1 → TI h' → TJ h' → TLE h' → G 1370 (Lw i) [] h') : G 474 (Lw i) [] h := by
  refine Gx.ald_n g.gd rfl dL_law_474 ?_
  refine Gl.scr (i := i) (k := 1) g rfl i0 (by decide) (by decide) (by omega) hLn dL_law_475 dL_law_476 dL_law_478 dL_law_479 dL_law_480 ?_
  refine Gl.scr (i := i) (k := 2) g rfl i0 (by decide) (by decide) (by omega) hLn dL_law_481 dL_law_482 dL_law_484 dL_law_485 dL_law_486 ?_
  obtain ⟨_, t1, ct1, ⟨y1, rfl, hy1⟩, ck1, kp1, kl1⟩ := kx_beater h n ck (sX xs (i + 1)) (sX xs (i + 2))
  have mi1 := kp1.mi mi
  have k1 := kp1.2.2.1.trans k73
  have l1 := kp1.2.2.2.trans l73
  refine Gx.callV1 g.gd ct1 wc_L_51 iM_X5_beater se_X5_beater kC5 (sK0 (h := h) ck.1) dL_law_487 rfl (Nat.le_of_ble_eq_true rfl) rfl (Nat.le_of_ble_eq_true rfl) ?_ (rm9 ck1)
  refine Gx.pop g.gd dL_law_490 (Or.inl rfl) ?_
  refine Gx.ald_n g.gd rfl dL_law_491 ?_
  refine Gl.scr (i := i) (k := 1) g rfl i0 (by decide) (by decide) (by omega) hLn dL_law_492 dL_law_493 dL_law_495 dL_law_496 dL_law_497 ?_
  refine Gl.scr (i := i) (k := 2) g rfl i0 (by decide) (by decide) (by omega) hLn dL_law_498 dL_law_499 dL_law_501 dL_law_502 dL_law_503 ?_
  obtain ⟨_, t2, ct2, ⟨y2, rfl, hy2⟩, mi2, fr2⟩ := cq_mbeater 8 t1 ck1.1 mi1 (sX xs (i + 1)) (sX xs (i + 2))
  have ck2 := ck1.model (fr2.mono (by decide) (by decide))
  obtain ⟨ey2, ti2, tj2⟩ := TB.beater ck.2.1.2.1.1 ti tj kp1 (fr2.mono (by decide) (by decide)) hy1 hy2
  have tl2 := tl.keep ck.rx.1 kp1 kl1 fr2 (by decide) (by decide)
  have k2 : hK t2 73 = 11 := by rw [fr2.2.2.1]; exact k1
  have l2 : hL t2 73 = 1 := by rw [fr2.2.2.2.1]; exact l1
  refine Gx.callV1 g.gd ct2 wc_L_55 iM_X6_beater se_X6_beater kC6 (sK41 (h := t1) ck1.1) dL_law_504 rfl (Nat.le_of_ble_eq_true rfl) rfl (Nat.le_of_ble_eq_true rfl) ?_ (rm9 ck2)
  refine Gx.pop g.gd dL_law_507 (Or.inl rfl) ?_
  refine Gx.goto (tgt := 1370) g.gd dL_law_508 rfl ?_
  exact nx _ ck2 mi2 k2 l2 ti2 tj2 tl2
theorem cs_7 {Ln : Nat} {xs : Nat → Int32} {G : Nat → List mV → List mV → mH → Prop} (g : Gl Ln xs room_1 G) (hLn : Ln ≤ 3072) {i : Int} (i0 : 0 ≤ i) (i6 : i + 6 ≤ (Ln : Int)) {h : mH} {n : Nat} (ck : CK h ((n : Int) + 1)) (mi : MI h) (k73 : hK h 73 = 11) (l73 : hL h 73 = 1) (ti : TI h) (tj : TJ h) (tl : TLE h) (nx : ∀ h', CK h' (n : Int) → MI h' → hK h' 73 = 11 → hL h' 73 = 1 → TI h' → TJ h' → TLE h' → G 1370 (Lw i) [] h') : G 511 (Lw i) [] h := by
  refine Gx.ald_n g.gd rfl dL_law_511 ?_
  refine Gl.scr (i := i) (k := 1) g rfl i0 (by decide) (by decide) (by omega) hLn dL_law_512 dL_law_513 dL_law_515 dL_law_516 dL_law_517 ?_
  refine Gl.scr (i := i) (k := 2) g rfl i0 (by decide) (by decide) (by omega) hLn dL_law_518 dL_law_519 dL_law_521 dL_law_522 dL_law_523 ?_
  obtain ⟨_, t1, ct1, ⟨y1, rfl, hy1⟩, ck1, kp1, kl1⟩ := kx_kind h n ck (sX xs (i + 1)) (sX xs (i + 2))
  have mi1 := kp1.mi mi
  have k1 := kp1.2.2.1.trans k73
  have l1 := kp1.2.2.2.trans l73
  refine Gx.callV1 g.gd ct1 wc_L_56 iM_X5_kind se_X5_kind kC5 (sK0 (h := h) ck.1) dL_law_524 rfl (Nat.le_of_ble_eq_true rfl) rfl (Nat.le_of_ble_eq_true rfl) ?_ (rm9 ck1)
  refine Gx.pop g.gd dL_law_527 (Or.inl rfl) ?_
  refine Gx.ald_n g.gd rfl dL_law_528 ?_
  refine Gl.scr (i := i) (k := 1) g rfl i0 (by decide) (by decide) (by omega) hLn dL_law_529 dL_law_530 dL_law_532 dL_law_533 dL_law_534 ?_
  refine Gl.scr (i := i) (k := 2) g rfl i0 (by decide) (by decide) (by omega) hLn dL_law_535 dL_law_536 dL_law_538 dL_law_539 dL_law_540 ?_
  obtain ⟨_, t2, ct2, ⟨y2, rfl, hy2⟩, mi2, fr2⟩ := cq_mkind 8 t1 ck1.1 mi1 (sX xs (i + 1)) (sX xs (i + 2))
  have ck2 := ck1.model (fr2.mono (by decide) (by decide))
  obtain ⟨ey2, ti2, tj2⟩ := TB.kind ti tj kp1 (fr2.mono (by decide) (by decide)) hy1 hy2
  have tl2 := tl.keep ck.rx.1 kp1 kl1 fr2 (by decide) (by decide)
  have k2 : hK t2 73 = 11 := by rw [fr2.2.2.1]; exact k1
  have l2 : hL t2 73 = 1 := by rw [fr2.2.2.2.1]; exact l1
  refine Gx.callV1 g.gd ct2 wc_L_60 iM_X6_kind se_X6_kind kC6 (sK41 (h := t1) ck1.1) dL_law_541 rfl (Nat.le_of_ble_eq_true rfl) rfl (Nat.le_of_ble_eq_true rfl) ?_ (rm9 ck2)
  refine Gx.pop g.gd dL_law_544 (Or.inl rfl) ?_
  refine Gx.goto (tgt := 1370) g.gd dL_law_545 rfl ?_
  exact nx _ ck2 mi2 k2 l2 ti2 tj2 tl2
theorem cs_8 {Ln : Nat} {xs : Nat → Int32} {G : Nat → List mV → List mV → mH → Prop} (g : Gl Ln xs room_1 G) (hLn : Ln ≤ 3072) {i : Int} (i0 : 0 ≤ i) (i6 : i + 6 ≤ (Ln : Int)) {h : mH} {n : Nat} (ck : CK h ((n : Int) + 1)) (mi : MI h) (k73 : hK h 73 = 11) (l73 : hL h 73 = 1) (ti : TI h) (tj : TJ h) (tl : TLE h) (nx : ∀ h', CK h' (n : Int) → MI h' → hK h' 73 = 11 → hL h' 73 = 1 → TI h' → TJ h' → TLE h' → G 1370 (Lw i) [] h') : G 548 (Lw i) [] h := by
  refine Gx.ald_n g.gd rfl dL_law_548 ?_
  refine Gl.scr (i := i) (k := 1) g rfl i0 (by decide) (by decide) (by omega) hLn dL_law_549 dL_law_550 dL_law_552 dL_law_553 dL_law_554 ?_
  refine Gl.scr (i := i) (k := 2) g rfl i0 (by decide) (by decide) (by omega) hLn dL_law_555 dL_law_556 dL_law_558 dL_law_559 dL_law_560 ?_
  obtain ⟨_, t1, ct1, ⟨y1, rfl, hy1⟩, ck1, kp1, kl1⟩ := kx_turn h n ck (sX xs (i + 1)) (sX xs (i + 2))
  have mi1 := kp1.mi mi
  have k1 := kp1.2.2.1.trans k73
  have l1 := kp1.2.2.2.trans l73
  refine Gx.callV1 g.gd ct1 wc_L_61 iM_X5_turn se_X5_turn kC5 (sK0 (h := h) ck.1) dL_law_561 rfl (Nat.le_of_ble_eq_true rfl) rfl (Nat.le_of_ble_eq_true rfl) ?_ (rm9 ck1)
  refine Gx.pop g.gd dL_law_564 (Or.inl rfl) ?_
  refine Gx.ald_n g.gd rfl dL_law_565 ?_
  refine Gl.scr (i := i) (k := 1) g rfl i0 (by decide) (by decide) (by omega) hLn dL_law_566 dL_law_567 dL_law_569 dL_law_570 dL_law_571 ?_
  refine Gl.scr (i := i) (k := 2) g rfl i0 (by decide) (by decide) (by omega) hLn dL_law_572 dL_law_573 dL_law_575 dL_law_576 dL_law_577 ?_
  obtain ⟨_, t2, ct2, ⟨y2, rfl, hy2⟩, mi2, fr2⟩ := cq_mturn 8 t1 ck1.1 mi1 (sX xs (i + 1)) (sX xs (i + 2))
  have ck2 := ck1.model (fr2.mono (by decide) (by decide))
  obtain ⟨ey2, ti2, tj2⟩ := TB.turn ti tj kp1 (fr2.mono (by decide) (by decide)) hy1 hy2
  have tl2 := tl.keep ck.rx.1 kp1 kl1 fr2 (by decide) (by decide)
  have k2 : hK t2 73 = 11 := by rw [fr2.2.2.1]; exact k1
  have l2 : hL t2 73 = 1 := by rw [fr2.2.2.2.1]; exact l1
  refine Gx.callV1 g.gd ct2 wc_L_64 iM_X6_turn se_X6_turn kC6 (sK41 (h := t1) ck1.1) dL_law_578 rfl (Nat.le_of_ble_eq_true rfl) rfl (Nat.le_of_ble_eq_true rfl) ?_ (rm9 ck2)
  refine Gx.pop g.gd dL_law_581 (Or.inl rfl) ?_
  refine Gx.goto (tgt := 1370) g.gd dL_law_582 rfl ?_
  exact nx _ ck2 mi2 k2 l2 ti2 tj2 tl2
theorem cs_9 {Ln : Nat} {xs : Nat → Int32} {G : Nat → List mV → List mV → mH → Prop} (g : Gl Ln xs room_1 G) (hLn : Ln ≤ 3072) {i : Int} (i0 : 0 ≤ i) (i6 : i + 6 ≤ (Ln : Int)) {h : mH} {n : Nat} (ck : CK h ((n : Int) + 1)) (mi : MI h) (k73 : hK h 73 = 11) (l73 : hL h 73 = 1) (ti : TI h) (tj : TJ h) (tl : TLE h) (nx : ∀ h', CK h' (n : Int) → MI h' → hK h' 73 = 11 → hL h' 73 = 1 → TI h' → TJ h' → TLE h' → G 1370 (Lw i) [] h') : G 585 (Lw i) [] h := by
  refine Gx.ald_n g.gd rfl dL_law_585 ?_
  refine Gl.scr (i := i) (k := 1) g rfl i0 (by decide) (by decide) (by omega) hLn dL_law_586 dL_law_587 dL_law_589 dL_law_590 dL_law_591 ?_
  obtain ⟨_, t1, ct1, ⟨y1, rfl, hy1⟩, ck1, kp1, kl1⟩ := kx_phases h n ck (sX xs (i + 1))
  have mi1 := kp1.mi mi
  have k1 := kp1.2.2.1.trans k73
  have l1 := kp1.2.2.2.trans l73
  refine Gx.callV1 g.gd ct1 wc_L_65 iM_X5_phases se_X5_phases kC5 (sK0 (h := h) ck.1) dL_law_592 rfl (Nat.le_of_ble_eq_true rfl) rfl (Nat.le_of_ble_eq_true rfl) ?_ (rm9 ck1)
  refine Gx.pop g.gd dL_law_595 (Or.inl rfl) ?_
  refine Gx.ald_n g.gd rfl dL_law_596 ?_
  refine Gl.scr (i := i) (k := 1) g rfl i0 (by decide) (by decide) (by omega) hLn dL_law_597 dL_law_598 dL_law_600 dL_law_601 dL_law_602 ?_
  obtain ⟨_, t2, ct2, ⟨y2, rfl, hy2⟩, mi2, fr2⟩ := cq_mphases 8 t1 ck1.1 mi1 (sX xs (i + 1))
  have ck2 := ck1.model (fr2.mono (by decide) (by decide))
  obtain ⟨ey2, ti2, tj2⟩ := TB.phases ti tj kp1 (fr2.mono (by decide) (by decide)) ck.2.1.1.2 hy1 hy2
  have tl2 := tl.keep ck.rx.1 kp1 kl1 fr2 (by decide) (by decide)
  have k2 : hK t2 73 = 11 := by rw [fr2.2.2.1]; exact k1
  have l2 : hL t2 73 = 1 := by rw [fr2.2.2.2.1]; exact l1
  refine Gx.callV1 g.gd ct2 wc_L_68 iM_X6_phases se_X6_phases kC6 (sK41 (h := t1) ck1.1) dL_law_603 rfl (Nat.le_of_ble_eq_true rfl) rfl (Nat.le_of_ble_eq_true rfl) ?_ (rm9 ck2)
  refine Gx.pop g.gd dL_law_606 (Or.inl rfl) ?_
  refine Gx.goto (tgt := 1370) g.gd dL_law_607 rfl ?_
  exact nx _ ck2 mi2 k2 l2 ti2 tj2 tl2
theorem cs_10 {Ln : Nat} {xs : Nat → Int32} {G : Nat → List mV → List mV → mH → Prop} (g : Gl Ln xs room_1 G) (hLn : Ln ≤ 3072) {i : Int} (i0 : 0 ≤ i) (i6 : i + 6 ≤ (Ln : Int)) {h : mH} {n : Nat} (ck : CK h ((n : Int) + 1)) (mi : MI h) (k73 : hK h 73 = 11) (l73 : hL h 73 = 1) (ti : TI h) (tj : TJ h) (tl : TLE h) (nx : ∀ h', CK h' (n : Int) → MI h' → hK h' 73 = 11 → hL h' 73 = 1 → TI h' → TJ h' → TLE h' → G 1370 (Lw i) [] h') : G 610 (Lw i) [] h := by
  refine Gx.ald_n g.gd rfl dL_law_610 ?_
  refine Gl.scr (i := i) (k := 1) g rfl i0 (by decide) (by decide) (by omega) hLn dL_law_611 dL_law_612 dL_law_614 dL_law_615 dL_law_616 ?_
  refine Gl.scr (i := i) (k := 2) g rfl i0 (by decide) (by decide) (by omega) hLn dL_law_617 dL_law_618 dL_law_620 dL_law_621 dL_law_622 ?_
  refine Gl.scr (i := i) (k := 3) g rfl i0 (by decide) (by decide) (by omega) hLn dL_law_623 dL_law_624 dL_law_626 dL_law_627 dL_law_628 ?_
  refine Gx.ifeq (tgt := 636) g.gd dL_law_629 rfl (fun q629 => ?_) (fun q629 => ?_)
  · skip
    refine Gx.iconst g.gd dL_law_636 (by decide) ?_
    obtain ⟨_, t1, ct1, ⟨y1, rfl, hy1⟩, ck1, kp1, kl1⟩ := kx_road h n ck (sX xs (i + 1)) (sX xs (i + 2)) 0
    have mi1 := kp1.mi mi
    have k1 := kp1.2.2.1.trans k73
    have l1 := kp1.2.2.2.trans l73
    refine Gx.callV1 g.gd ct1 wc_L_69 iM_X5_road se_X5_road kC5 (sK0 (h := h) ck.1) dL_law_637 rfl (Nat.le_of_ble_eq_true rfl) rfl (Nat.le_of_ble_eq_true rfl) ?_ (rm9 ck1)
    refine Gx.pop g.gd dL_law_640 (Or.inl rfl) ?_
    refine Gx.ald_n g.gd rfl dL_law_641 ?_
    refine Gl.scr (i := i) (k := 1) g rfl i0 (by decide) (by decide) (by omega) hLn dL_law_642 dL_law_643 dL_law_645 dL_law_646 dL_law_647 ?_
    refine Gl.scr (i := i) (k := 2) g rfl i0 (by decide) (by decide) (by omega) hLn dL_law_648 dL_law_649 dL_law_651 dL_law_652 dL_law_653 ?_
    refine Gl.scr (i := i) (k := 3) g rfl i0 (by decide) (by decide) (by omega) hLn dL_law_654 dL_law_655 dL_law_657 dL_law_658 dL_law_659 ?_
    refine Gx.ifeq (tgt := 667) g.gd dL_law_660 rfl (fun q660 => ?_) (fun q660 => ?_)
    · skip
      refine Gx.iconst g.gd dL_law_667 (by decide) ?_
      obtain ⟨_, t2, ct2, ⟨y2, rfl, hy2⟩, mi2, fr2⟩ := cq_mroad 8 t1 ck1.1 mi1 (sX xs (i + 1)) (sX xs (i + 2)) 0 (Or.inl rfl)
      have ck2 := ck1.model (fr2.mono (by decide) (by decide))
      obtain ⟨ey2, ti2, tj2⟩ := TB.road ti tj kp1 (fr2.mono (by decide) (by decide)) ck.2.1.2.1.2 hy1 hy2
      have tl2 := tl.keep ck.rx.1 kp1 kl1 fr2 (by decide) (by decide)
      have k2 : hK t2 73 = 11 := by rw [fr2.2.2.1]; exact k1
      have l2 : hL t2 73 = 1 := by rw [fr2.2.2.2.1]; exact l1
      refine Gx.callV1 g.gd ct2 wc_L_73 iM_X6_road se_X6_road kC6 (sK41 (h := t1) ck1.1) dL_law_668 rfl (Nat.le_of_ble_eq_true rfl) rfl (Nat.le_of_ble_eq_true rfl) ?_ (rm9 ck2)
      refine Gx.pop g.gd dL_law_671 (Or.inl rfl) ?_
      refine Gx.goto (tgt := 1370) g.gd dL_law_672 rfl ?_
      exact nx _ ck2 mi2 k2 l2 ti2 tj2 tl2
    · exact absurd q629 q660
  · skip
    refine Gx.iconst g.gd dL_law_632 (by decide) ?_
    refine Gx.goto (tgt := 637) g.gd dL_law_633 rfl ?_
    obtain ⟨_, t1, ct1, ⟨y1, rfl, hy1⟩, ck1, kp1, kl1⟩ := kx_road h n ck (sX xs (i + 1)) (sX xs (i + 2)) 1
    have mi1 := kp1.mi mi
    have k1 := kp1.2.2.1.trans k73
    have l1 := kp1.2.2.2.trans l73
    refine Gx.callV1 g.gd ct1 wc_L_69 iM_X5_road se_X5_road kC5 (sK0 (h := h) ck.1) dL_law_637 rfl (Nat.le_of_ble_eq_true rfl) rfl (Nat.le_of_ble_eq_true rfl) ?_ (rm9 ck1)
    refine Gx.pop g.gd dL_law_640 (Or.inl rfl) ?_
    refine Gx.ald_n g.gd rfl dL_law_641 ?_
    refine Gl.scr (i := i) (k := 1) g rfl i0 (by decide) (by decide) (by omega) hLn dL_law_642 dL_law_643 dL_law_645 dL_law_646 dL_law_647 ?_
    refine Gl.scr (i := i) (k := 2) g rfl i0 (by decide) (by decide) (by omega) hLn dL_law_648 dL_law_649 dL_law_651 dL_law_652 dL_law_653 ?_
    refine Gl.scr (i := i) (k := 3) g rfl i0 (by decide) (by decide) (by omega) hLn dL_law_654 dL_law_655 dL_law_657 dL_law_658 dL_law_659 ?_
    refine Gx.ifeq (tgt := 667) g.gd dL_law_660 rfl (fun q660 => ?_) (fun q660 => ?_)
    · exact absurd q660 q629
    · skip
      refine Gx.iconst g.gd dL_law_663 (by decide) ?_
      refine Gx.goto (tgt := 668) g.gd dL_law_664 rfl ?_
      obtain ⟨_, t2, ct2, ⟨y2, rfl, hy2⟩, mi2, fr2⟩ := cq_mroad 8 t1 ck1.1 mi1 (sX xs (i + 1)) (sX xs (i + 2)) 1 (Or.inr rfl)
      have ck2 := ck1.model (fr2.mono (by decide) (by decide))
      obtain ⟨ey2, ti2, tj2⟩ := TB.road ti tj kp1 (fr2.mono (by decide) (by decide)) ck.2.1.2.1.2 hy1 hy2
      have tl2 := tl.keep ck.rx.1 kp1 kl1 fr2 (by decide) (by decide)
      have k2 : hK t2 73 = 11 := by rw [fr2.2.2.1]; exact k1
      have l2 : hL t2 73 = 1 := by rw [fr2.2.2.2.1]; exact l1
      refine Gx.callV1 g.gd ct2 wc_L_73 iM_X6_road se_X6_road kC6 (sK41 (h := t1) ck1.1) dL_law_668 rfl (Nat.le_of_ble_eq_true rfl) rfl (Nat.le_of_ble_eq_true rfl) ?_ (rm9 ck2)
      refine Gx.pop g.gd dL_law_671 (Or.inl rfl) ?_
      refine Gx.goto (tgt := 1370) g.gd dL_law_672 rfl ?_
      exact nx _ ck2 mi2 k2 l2 ti2 tj2 tl2
theorem cs_11 {Ln : Nat} {xs : Nat → Int32} {G : Nat → List mV → List mV → mH → Prop} (g : Gl Ln xs room_1 G) (hLn : Ln ≤ 3072) {i : Int} (i0 : 0 ≤ i) (i6 : i + 6 ≤ (Ln : Int)) {h : mH} {n : Nat} (ck : CK h ((n : Int) + 1)) (mi : MI h) (k73 : hK h 73 = 11) (l73 : hL h 73 = 1) (ti : TI h) (tj : TJ h) (tl : TLE h) (nx : ∀ h', CK h' (n : Int) → MI h' → hK h' 73 = 11 → hL h' 73 = 1 → TI h' → TJ h' → TLE h' → G 1370 (Lw i) [] h') : G 675 (Lw i) [] h := by
  refine Gx.ald_n g.gd rfl dL_law_675 ?_
  refine Gl.scr (i := i) (k := 1) g rfl i0 (by decide) (by decide) (by omega) hLn dL_law_676 dL_law_677 dL_law_679 dL_law_680 dL_law_681 ?_
  obtain ⟨_, t1, ct1, ⟨y1, rfl, hy1⟩, ck1, kp1, kl1⟩ := kx_roads h n ck (sX xs (i + 1))
  have mi1 := kp1.mi mi
  have k1 := kp1.2.2.1.trans k73
  have l1 := kp1.2.2.2.trans l73
  refine Gx.callV1 g.gd ct1 wc_L_74 iM_X5_roads se_X5_roads kC5 (sK0 (h := h) ck.1) dL_law_682 rfl (Nat.le_of_ble_eq_true rfl) rfl (Nat.le_of_ble_eq_true rfl) ?_ (rm9 ck1)
  refine Gx.pop g.gd dL_law_685 (Or.inl rfl) ?_
  refine Gx.ald_n g.gd rfl dL_law_686 ?_
  refine Gl.scr (i := i) (k := 1) g rfl i0 (by decide) (by decide) (by omega) hLn dL_law_687 dL_law_688 dL_law_690 dL_law_691 dL_law_692 ?_
  obtain ⟨_, t2, ct2, ⟨y2, rfl, hy2⟩, mi2, fr2⟩ := cq_mroads 8 t1 ck1.1 mi1 (sX xs (i + 1))
  have ck2 := ck1.model (fr2.mono (by decide) (by decide))
  obtain ⟨ey2, ti2, tj2⟩ := TB.roads ti tj kp1 (fr2.mono (by decide) (by decide)) ck.2.1.2.1.1 ck.2.1.2.1.2 hy1 hy2
  have tl2 := tl.keep ck.rx.1 kp1 kl1 fr2 (by decide) (by decide)
  have k2 : hK t2 73 = 11 := by rw [fr2.2.2.1]; exact k1
  have l2 : hL t2 73 = 1 := by rw [fr2.2.2.2.1]; exact l1
  refine Gx.callV1 g.gd ct2 wc_L_77 iM_X6_roads se_X6_roads kC6 (sK41 (h := t1) ck1.1) dL_law_693 rfl (Nat.le_of_ble_eq_true rfl) rfl (Nat.le_of_ble_eq_true rfl) ?_ (rm9 ck2)
  refine Gx.pop g.gd dL_law_696 (Or.inl rfl) ?_
  refine Gx.goto (tgt := 1370) g.gd dL_law_697 rfl ?_
  exact nx _ ck2 mi2 k2 l2 ti2 tj2 tl2
theorem cs_12 {Ln : Nat} {xs : Nat → Int32} {G : Nat → List mV → List mV → mH → Prop} (g : Gl Ln xs room_1 G) (hLn : Ln ≤ 3072) {i : Int} (i0 : 0 ≤ i) (i6 : i + 6 ≤ (Ln : Int)) {h : mH} {n : Nat} (ck : CK h ((n : Int) + 1)) (mi : MI h) (k73 : hK h 73 = 11) (l73 : hL h 73 = 1) (ti : TI h) (tj : TJ h) (tl : TLE h) (nx : ∀ h', CK h' (n : Int) → MI h' → hK h' 73 = 11 → hL h' 73 = 1 → TI h' → TJ h' → TLE h' → G 1370 (Lw i) [] h') : G 700 (Lw i) [] h := by
  refine Gx.ald_n g.gd rfl dL_law_700 ?_
  refine Gl.scr (i := i) (k := 1) g rfl i0 (by decide) (by decide) (by omega) hLn dL_law_701 dL_law_702 dL_law_704 dL_law_705 dL_law_706 ?_
  refine Gl.scr (i := i) (k := 2) g rfl i0 (by decide) (by decide) (by omega) hLn dL_law_707 dL_law_708 dL_law_710 dL_law_711 dL_law_712 ?_
  obtain ⟨_, t1, ct1, ⟨y1, rfl, hy1⟩, ck1, kp1, kl1⟩ := kx_push h n ck (sX xs (i + 1)) (sX xs (i + 2))
  have mi1 := kp1.mi mi
  have k1 := kp1.2.2.1.trans k73
  have l1 := kp1.2.2.2.trans l73
  refine Gx.callV1 g.gd ct1 wc_L_78 iM_X5_push se_X5_push kC5 (sK0 (h := h) ck.1) dL_law_713 rfl (Nat.le_of_ble_eq_true rfl) rfl (Nat.le_of_ble_eq_true rfl) ?_ (rm9 ck1)
  refine Gx.pop g.gd dL_law_716 (Or.inl rfl) ?_
  refine Gx.ald_n g.gd rfl dL_law_717 ?_
  refine Gl.scr (i := i) (k := 1) g rfl i0 (by decide) (by decide) (by omega) hLn dL_law_718 dL_law_719 dL_law_721 dL_law_722 dL_law_723 ?_
  refine Gl.scr (i := i) (k := 2) g rfl i0 (by decide) (by decide) (by omega) hLn dL_law_724 dL_law_725 dL_law_727 dL_law_728 dL_law_729 ?_
  obtain ⟨_, t2, ct2, ⟨y2, rfl, hy2⟩, mi2, fr2⟩ := cq_mpush 8 t1 ck1.1 mi1 (sX xs (i + 1)) (sX xs (i + 2))
  have ck2 := ck1.model (fr2.mono (by decide) (by decide))
  obtain ⟨ey2, ti2, tj2⟩ := TB.push ti tj kp1 (fr2.mono (by decide) (by decide)) hy1 hy2
  have tl2 := tl.keep ck.rx.1 kp1 kl1 fr2 (by decide) (by decide)
  have k2 : hK t2 73 = 11 := by rw [fr2.2.2.1]; exact k1
  have l2 : hL t2 73 = 1 := by rw [fr2.2.2.2.1]; exact l1
  refine Gx.callV1 g.gd ct2 wc_L_81 iM_X6_push se_X6_push kC6 (sK41 (h := t1) ck1.1) dL_law_730 rfl (Nat.le_of_ble_eq_true rfl) rfl (Nat.le_of_ble_eq_true rfl) ?_ (rm9 ck2)
  refine Gx.pop g.gd dL_law_733 (Or.inl rfl) ?_
  refine Gx.goto (tgt := 1370) g.gd dL_law_734 rfl ?_
  exact nx _ ck2 mi2 k2 l2 ti2 tj2 tl2
theorem cs_13 {Ln : Nat} {xs : Nat → Int32} {G : Nat → List mV → List mV → mH → Prop} (g : Gl Ln xs room_1 G) (hLn : Ln ≤ 3072) {i : Int} (i0 : 0 ≤ i) (i6 : i + 6 ≤ (Ln : Int)) {h : mH} {n : Nat} (ck : CK h ((n : Int) + 1)) (mi : MI h) (k73 : hK h 73 = 11) (l73 : hL h 73 = 1) (ti : TI h) (tj : TJ h) (tl : TLE h) (nx : ∀ h', CK h' (n : Int) → MI h' → hK h' 73 = 11 → hL h' 73 = 1 → TI h' → TJ h' → TLE h' → G 1370 (Lw i) [] h') : G 737 (Lw i) [] h := by
  refine Gx.ald_n g.gd rfl dL_law_737 ?_
  obtain ⟨_, t1, ct1, rfl, ck1, kp1, ze1, zb1, cs1, kl1⟩ := kx_clear h n ck 
  have mi1 := kp1.mi mi
  have k1 := kp1.2.2.1.trans k73
  have l1 := kp1.2.2.2.trans l73
  refine Gx.callV1 g.gd ct1 wc_L_82 iM_X5_clear se_X5_clear kC5 (sK0 (h := h) ck.1) dL_law_738 rfl (Nat.le_of_ble_eq_true rfl) rfl (Nat.le_of_ble_eq_true rfl) ?_ (rm9 ck1)
  refine Gx.pop g.gd dL_law_741 (Or.inl rfl) ?_
  refine Gx.ald_n g.gd rfl dL_law_742 ?_
  obtain ⟨_, t2, ct2, rfl, mi2, ze2, zb2, fr2⟩ := cq_mclear 8 t1 ck1.1 mi1 
  have ck2 := ck1.model (fr2.mono (by decide) (by decide))
  obtain ⟨ti2, tj2⟩ := TB.clear ti tj kp1 (fr2.mono (by decide) (by decide)) ck.2.1.2.1.2 ⟨ze1, cs1⟩ ⟨ze2, fr2⟩ zb1 zb2
  have tl2 := tl.keep ck.rx.1 kp1 kl1 fr2 (by decide) (by decide)
  have k2 : hK t2 73 = 11 := by rw [fr2.2.2.1]; exact k1
  have l2 : hL t2 73 = 1 := by rw [fr2.2.2.2.1]; exact l1
  refine Gx.callV1 g.gd ct2 wc_L_86 iM_X6_clear se_X6_clear kC6 (sK41 (h := t1) ck1.1) dL_law_743 rfl (Nat.le_of_ble_eq_true rfl) rfl (Nat.le_of_ble_eq_true rfl) ?_ (rm9 ck2)
  refine Gx.pop g.gd dL_law_746 (Or.inl rfl) ?_
  refine Gx.goto (tgt := 1370) g.gd dL_law_747 rfl ?_
  exact nx _ ck2 mi2 k2 l2 ti2 tj2 tl2
theorem cs_14 {Ln : Nat} {xs : Nat → Int32} {G : Nat → List mV → List mV → mH → Prop} (g : Gl Ln xs room_1 G) (hLn : Ln ≤ 3072) {i : Int} (i0 : 0 ≤ i) (i6 : i + 6 ≤ (Ln : Int)) {h : mH} {n : Nat} (ck : CK h ((n : Int) + 1)) (mi : MI h) (k73 : hK h 73 = 11) (l73 : hL h 73 = 1) (ti : TI h) (tj : TJ h) (tl : TLE h) (nx : ∀ h', CK h' (n : Int) → MI h' → hK h' 73 = 11 → hL h' 73 = 1 → TI h' → TJ h' → TLE h' → G 1370 (Lw i) [] h') : G 750 (Lw i) [] h := by
  refine Gx.ald_n g.gd rfl dL_law_750 ?_
  refine Gl.scr (i := i) (k := 1) g rfl i0 (by decide) (by decide) (by omega) hLn dL_law_751 dL_law_752 dL_law_754 dL_law_755 dL_law_756 ?_
  obtain ⟨_, t1, ct1, ⟨y1, rfl, hy1⟩, ck1, kp1, kl1⟩ := kx_go h n ck (sX xs (i + 1))
  have mi1 := kp1.mi mi
  have k1 := kp1.2.2.1.trans k73
  have l1 := kp1.2.2.2.trans l73
  refine Gx.callV1 g.gd ct1 wc_L_87 iM_X5_go se_X5_go kC5 (sK0 (h := h) ck.1) dL_law_757 rfl (Nat.le_of_ble_eq_true rfl) rfl (Nat.le_of_ble_eq_true rfl) ?_ (rm9 ck1)
  refine Gx.pop g.gd dL_law_760 (Or.inl rfl) ?_
  refine Gx.ald_n g.gd rfl dL_law_761 ?_
  refine Gl.scr (i := i) (k := 1) g rfl i0 (by decide) (by decide) (by omega) hLn dL_law_762 dL_law_763 dL_law_765 dL_law_766 dL_law_767 ?_
  obtain ⟨_, t2, ct2, ⟨y2, rfl, hy2⟩, mi2, fr2⟩ := cq_mgo 7 t1 ck1.1 mi1 (sX xs (i + 1))
  have ck2 := ck1.model (fr2.mono (by decide) (by decide))
  obtain ⟨ey2, ti2, tj2⟩ := TB.go ck.1 ck.2.1 ti tj kp1 (fr2.mono (by decide) (by decide)) hy1 hy2
  have tl2 := tl.keep ck.rx.1 kp1 kl1 fr2 (by decide) (by decide)
  have k2 : hK t2 73 = 11 := by rw [fr2.2.2.1]; exact k1
  have l2 : hL t2 73 = 1 := by rw [fr2.2.2.2.1]; exact l1
  refine Gx.callV1 g.gd ct2 wc_L_90 iM_X6_go se_X6_go kC6 (sK41 (h := t1) ck1.1) dL_law_768 rfl (Nat.le_of_ble_eq_true rfl) rfl (Nat.le_of_ble_eq_true rfl) ?_ (rm9 ck2)
  refine Gx.pop g.gd dL_law_771 (Or.inl rfl) ?_
  refine Gx.goto (tgt := 1370) g.gd dL_law_772 rfl ?_
  exact nx _ ck2 mi2 k2 l2 ti2 tj2 tl2
theorem cs_15 {Ln : Nat} {xs : Nat → Int32} {G : Nat → List mV → List mV → mH → Prop} (g : Gl Ln xs room_1 G) (hLn : Ln ≤ 3072) {i : Int} (i0 : 0 ≤ i) (i6 : i + 6 ≤ (Ln : Int)) {h : mH} {n : Nat} (ck : CK h ((n : Int) + 1)) (mi : MI h) (k73 : hK h 73 = 11) (l73 : hL h 73 = 1) (ti : TI h) (tj : TJ h) (tl : TLE h) (nx : ∀ h', CK h' (n : Int) → MI h' → hK h' 73 = 11 → hL h' 73 = 1 → TI h' → TJ h' → TLE h' → G 1370 (Lw i) [] h') : G 775 (Lw i) [] h := by
  refine Gx.ald_n g.gd rfl dL_law_775 ?_
  refine Gl.scr (i := i) (k := 1) g rfl i0 (by decide) (by decide) (by omega) hLn dL_law_776 dL_law_777 dL_law_779 dL_law_780 dL_law_781 ?_
  obtain ⟨_, t1, ct1, ⟨y1, rfl, hy1⟩, ck1, kp1, cs1, kl1⟩ := kx_count h n ck (sX xs (i + 1))
  have mi1 := kp1.mi mi
  have k1 := kp1.2.2.1.trans k73
  have l1 := kp1.2.2.2.trans l73
  refine Gx.callV1 g.gd ct1 wc_L_91 iM_X5_count se_X5_count kC5 (sK0 (h := h) ck.1) dL_law_782 rfl (Nat.le_of_ble_eq_true rfl) rfl (Nat.le_of_ble_eq_true rfl) ?_ (rm9 ck1)
  refine Gx.pop g.gd dL_law_785 (Or.inl rfl) ?_
  refine Gx.ald_n g.gd rfl dL_law_786 ?_
  refine Gl.scr (i := i) (k := 1) g rfl i0 (by decide) (by decide) (by omega) hLn dL_law_787 dL_law_788 dL_law_790 dL_law_791 dL_law_792 ?_
  obtain ⟨_, t2, ct2, ⟨y2, rfl, hy2⟩, mi2, fr2⟩ := cq_mcountX 8 t1 ck1.1 mi1 (sX xs (i + 1))
  have ck2 := ck1.model (fr2.mono (by decide) (by decide))
  have ti2 := ti.keep kp1 cs1.cs fr2 (by decide) (by decide)
  have tj2 := tj.keep kp1 cs1 fr2 (by decide) (by decide)
  have tl2 := tl.keep ck.rx.1 kp1 kl1 fr2 (by decide) (by decide)
  have k2 : hK t2 73 = 11 := by rw [fr2.2.2.1]; exact k1
  have l2 : hL t2 73 = 1 := by rw [fr2.2.2.2.1]; exact l1
  refine Gx.callV1 g.gd ct2 wc_L_94 iM_X6_count se_X6_count kC6 (sK41 (h := t1) ck1.1) dL_law_793 rfl (Nat.le_of_ble_eq_true rfl) rfl (Nat.le_of_ble_eq_true rfl) ?_ (rm9 ck2)
  refine Gx.pop g.gd dL_law_796 (Or.inl rfl) ?_
  refine Gx.goto (tgt := 1370) g.gd dL_law_797 rfl ?_
  exact nx _ ck2 mi2 k2 l2 ti2 tj2 tl2
theorem cs_16 {Ln : Nat} {xs : Nat → Int32} {G : Nat → List mV → List mV → mH → Prop} (g : Gl Ln xs room_1 G) (hLn : Ln ≤ 3072) {i : Int} (i0 : 0 ≤ i) (i6 : i + 6 ≤ (Ln : Int)) {h : mH} {n : Nat} (ck : CK h ((n : Int) + 1)) (mi : MI h) (k73 : hK h 73 = 11) (l73 : hL h 73 = 1) (ti : TI h) (tj : TJ h) (tl : TLE h) (nx : ∀ h', CK h' (n : Int) → MI h' → hK h' 73 = 11 → hL h' 73 = 1 → TI h' → TJ h' → TLE h' → G 1370 (Lw i) [] h') : G 800 (Lw i) [] h := by
  refine Gx.ald_n g.gd rfl dL_law_800 ?_
  refine Gl.scr (i := i) (k := 1) g rfl i0 (by decide) (by decide) (by omega) hLn dL_law_801 dL_law_802 dL_law_804 dL_law_805 dL_law_806 ?_
  refine Gl.scr (i := i) (k := 2) g rfl i0 (by decide) (by decide) (by omega) hLn dL_law_807 dL_law_808 dL_law_810 dL_law_811 dL_law_812 ?_
  obtain ⟨_, t1, ct1, ⟨y1, rfl, hy1⟩, ck1, kp1, cs1, kl1⟩ := kx_beats h n ck (sX xs (i + 1)) (sX xs (i + 2))
  have mi1 := kp1.mi mi
  have k1 := kp1.2.2.1.trans k73
  have l1 := kp1.2.2.2.trans l73
  refine Gx.callV1 g.gd ct1 wc_L_95 iM_X5_beats se_X5_beats kC5 (sK0 (h := h) ck.1) dL_law_813 rfl (Nat.le_of_ble_eq_true rfl) rfl (Nat.le_of_ble_eq_true rfl) ?_ (rm9 ck1)
  refine Gx.pop g.gd dL_law_816 (Or.inl rfl) ?_
  refine Gx.ald_n g.gd rfl dL_law_817 ?_
  refine Gl.scr (i := i) (k := 1) g rfl i0 (by decide) (by decide) (by omega) hLn dL_law_818 dL_law_819 dL_law_821 dL_law_822 dL_law_823 ?_
  refine Gl.scr (i := i) (k := 2) g rfl i0 (by decide) (by decide) (by omega) hLn dL_law_824 dL_law_825 dL_law_827 dL_law_828 dL_law_829 ?_
  obtain ⟨_, t2, ct2, ⟨y2, rfl, hy2⟩, mi2, fr2⟩ := cq_mbeatsX 8 t1 ck1.1 mi1 (sX xs (i + 1)) (sX xs (i + 2))
  have ck2 := ck1.model (fr2.mono (by decide) (by decide))
  have ti2 := ti.keep kp1 cs1.cs fr2 (by decide) (by decide)
  have tj2 := tj.keep kp1 cs1 fr2 (by decide) (by decide)
  have tl2 := tl.keep ck.rx.1 kp1 kl1 fr2 (by decide) (by decide)
  have k2 : hK t2 73 = 11 := by rw [fr2.2.2.1]; exact k1
  have l2 : hL t2 73 = 1 := by rw [fr2.2.2.2.1]; exact l1
  refine Gx.callV1 g.gd ct2 wc_L_98 iM_X6_beats se_X6_beats kC6 (sK41 (h := t1) ck1.1) dL_law_830 rfl (Nat.le_of_ble_eq_true rfl) rfl (Nat.le_of_ble_eq_true rfl) ?_ (rm9 ck2)
  refine Gx.pop g.gd dL_law_833 (Or.inl rfl) ?_
  refine Gx.goto (tgt := 1370) g.gd dL_law_834 rfl ?_
  exact nx _ ck2 mi2 k2 l2 ti2 tj2 tl2
theorem cs_17 {Ln : Nat} {xs : Nat → Int32} {G : Nat → List mV → List mV → mH → Prop} (g : Gl Ln xs room_1 G) (hLn : Ln ≤ 3072) {i : Int} (i0 : 0 ≤ i) (i6 : i + 6 ≤ (Ln : Int)) {h : mH} {n : Nat} (ck : CK h ((n : Int) + 1)) (mi : MI h) (k73 : hK h 73 = 11) (l73 : hL h 73 = 1) (ti : TI h) (tj : TJ h) (tl : TLE h) (nx : ∀ h', CK h' (n : Int) → MI h' → hK h' 73 = 11 → hL h' 73 = 1 → TI h' → TJ h' → TLE h' → G 1370 (Lw i) [] h') : G 837 (Lw i) [] h := by
  refine Gx.ald_n g.gd rfl dL_law_837 ?_
  refine Gl.scr (i := i) (k := 1) g rfl i0 (by decide) (by decide) (by omega) hLn dL_law_838 dL_law_839 dL_law_841 dL_law_842 dL_law_843 ?_
  obtain ⟨_, t1, ct1, ⟨y1, rfl, hy1⟩, ck1, kp1, cs1, kl1⟩ := kx_step h n ck (sX xs (i + 1))
  have mi1 := kp1.mi mi
  have k1 := kp1.2.2.1.trans k73
  have l1 := kp1.2.2.2.trans l73
  refine Gx.callV1 g.gd ct1 wc_L_99 iM_X5_step se_X5_step kC5 (sK0 (h := h) ck.1) dL_law_844 rfl (Nat.le_of_ble_eq_true rfl) rfl (Nat.le_of_ble_eq_true rfl) ?_ (rm9 ck1)
  refine Gx.pop g.gd dL_law_847 (Or.inl rfl) ?_
  refine Gx.ald_n g.gd rfl dL_law_848 ?_
  refine Gl.scr (i := i) (k := 1) g rfl i0 (by decide) (by decide) (by omega) hLn dL_law_849 dL_law_850 dL_law_852 dL_law_853 dL_law_854 ?_
  obtain ⟨_, t2, ct2, ⟨y2, rfl, hy2⟩, mi2, fr2⟩ := cq_mstepX 8 t1 ck1.1 mi1 (sX xs (i + 1))
  have ck2 := ck1.model (fr2.mono (by decide) (by decide))
  have ti2 := ti.keep kp1 cs1.cs fr2 (by decide) (by decide)
  have tj2 := tj.keep kp1 cs1 fr2 (by decide) (by decide)
  have tl2 := tl.keep ck.rx.1 kp1 kl1 fr2 (by decide) (by decide)
  have k2 : hK t2 73 = 11 := by rw [fr2.2.2.1]; exact k1
  have l2 : hL t2 73 = 1 := by rw [fr2.2.2.2.1]; exact l1
  refine Gx.callV1 g.gd ct2 wc_L_102 iM_X6_step se_X6_step kC6 (sK41 (h := t1) ck1.1) dL_law_855 rfl (Nat.le_of_ble_eq_true rfl) rfl (Nat.le_of_ble_eq_true rfl) ?_ (rm9 ck2)
  refine Gx.pop g.gd dL_law_858 (Or.inl rfl) ?_
  refine Gx.goto (tgt := 1370) g.gd dL_law_859 rfl ?_
  exact nx _ ck2 mi2 k2 l2 ti2 tj2 tl2
theorem cs_18 {Ln : Nat} {xs : Nat → Int32} {G : Nat → List mV → List mV → mH → Prop} (g : Gl Ln xs room_1 G) (hLn : Ln ≤ 3072) {i : Int} (i0 : 0 ≤ i) (i6 : i + 6 ≤ (Ln : Int)) {h : mH} {n : Nat} (ck : CK h ((n : Int) + 1)) (mi : MI h) (k73 : hK h 73 = 11) (l73 : hL h 73 = 1) (ti : TI h) (tj : TJ h) (tl : TLE h) (nx : ∀ h', CK h' (n : Int) → MI h' → hK h' 73 = 11 → hL h' 73 = 1 → TI h' → TJ h' → TLE h' → G 1370 (Lw i) [] h') : G 862 (Lw i) [] h := by
  refine Gx.ald_n g.gd rfl dL_law_862 ?_
  refine Gl.scr (i := i) (k := 1) g rfl i0 (by decide) (by decide) (by omega) hLn dL_law_863 dL_law_864 dL_law_866 dL_law_867 dL_law_868 ?_
  obtain ⟨_, t1, ct1, ⟨y1, rfl, hy1⟩, ck1, kp1, cs1, kl1⟩ := kx_arc h n ck (sX xs (i + 1))
  have mi1 := kp1.mi mi
  have k1 := kp1.2.2.1.trans k73
  have l1 := kp1.2.2.2.trans l73
  refine Gx.callV1 g.gd ct1 wc_L_103 iM_X5_arc se_X5_arc kC5 (sK0 (h := h) ck.1) dL_law_869 rfl (Nat.le_of_ble_eq_true rfl) rfl (Nat.le_of_ble_eq_true rfl) ?_ (rm9 ck1)
  refine Gx.pop g.gd dL_law_872 (Or.inl rfl) ?_
  refine Gx.ald_n g.gd rfl dL_law_873 ?_
  refine Gl.scr (i := i) (k := 1) g rfl i0 (by decide) (by decide) (by omega) hLn dL_law_874 dL_law_875 dL_law_877 dL_law_878 dL_law_879 ?_
  obtain ⟨_, t2, ct2, ⟨y2, rfl, hy2⟩, mi2, fr2⟩ := cq_marcX 8 t1 ck1.1 mi1 (sX xs (i + 1))
  have ck2 := ck1.model (fr2.mono (by decide) (by decide))
  have ti2 := ti.keep kp1 cs1.cs fr2 (by decide) (by decide)
  have tj2 := tj.keep kp1 cs1 fr2 (by decide) (by decide)
  have tl2 := tl.keep ck.rx.1 kp1 kl1 fr2 (by decide) (by decide)
  have k2 : hK t2 73 = 11 := by rw [fr2.2.2.1]; exact k1
  have l2 : hL t2 73 = 1 := by rw [fr2.2.2.2.1]; exact l1
  refine Gx.callV1 g.gd ct2 wc_L_106 iM_X6_arc se_X6_arc kC6 (sK41 (h := t1) ck1.1) dL_law_880 rfl (Nat.le_of_ble_eq_true rfl) rfl (Nat.le_of_ble_eq_true rfl) ?_ (rm9 ck2)
  refine Gx.pop g.gd dL_law_883 (Or.inl rfl) ?_
  refine Gx.goto (tgt := 1370) g.gd dL_law_884 rfl ?_
  exact nx _ ck2 mi2 k2 l2 ti2 tj2 tl2
theorem cs_19 {Ln : Nat} {xs : Nat → Int32} {G : Nat → List mV → List mV → mH → Prop} (g : Gl Ln xs room_1 G) (hLn : Ln ≤ 3072) {i : Int} (i0 : 0 ≤ i) (i6 : i + 6 ≤ (Ln : Int)) {h : mH} {n : Nat} (ck : CK h ((n : Int) + 1)) (mi : MI h) (k73 : hK h 73 = 11) (l73 : hL h 73 = 1) (ti : TI h) (tj : TJ h) (tl : TLE h) (nx : ∀ h', CK h' (n : Int) → MI h' → hK h' 73 = 11 → hL h' 73 = 1 → TI h' → TJ h' → TLE h' → G 1370 (Lw i) [] h') : G 887 (Lw i) [] h := by
  refine Gx.ald_n g.gd rfl dL_law_887 ?_
  refine Gl.scr (i := i) (k := 1) g rfl i0 (by decide) (by decide) (by omega) hLn dL_law_888 dL_law_889 dL_law_891 dL_law_892 dL_law_893 ?_
  obtain ⟨_, t1, ct1, ⟨y1, rfl, hy1⟩, ck1, kp1, cs1, kl1⟩ := kx_round h n ck (sX xs (i + 1))
  have mi1 := kp1.mi mi
  have k1 := kp1.2.2.1.trans k73
  have l1 := kp1.2.2.2.trans l73
  refine Gx.callV1 g.gd ct1 wc_L_107 iM_X5_round se_X5_round kC5 (sK0 (h := h) ck.1) dL_law_894 rfl (Nat.le_of_ble_eq_true rfl) rfl (Nat.le_of_ble_eq_true rfl) ?_ (rm9 ck1)
  refine Gx.pop g.gd dL_law_897 (Or.inl rfl) ?_
  refine Gx.ald_n g.gd rfl dL_law_898 ?_
  refine Gl.scr (i := i) (k := 1) g rfl i0 (by decide) (by decide) (by omega) hLn dL_law_899 dL_law_900 dL_law_902 dL_law_903 dL_law_904 ?_
  obtain ⟨_, t2, ct2, ⟨y2, rfl, hy2⟩, mi2, fr2⟩ := cq_mroundX 6 t1 ck1.1 mi1 (sX xs (i + 1))
  have ck2 := ck1.model (fr2.mono (by decide) (by decide))
  have ti2 := ti.keep kp1 cs1.cs fr2 (by decide) (by decide)
  have tj2 := tj.keep kp1 cs1 fr2 (by decide) (by decide)
  have tl2 := tl.keep ck.rx.1 kp1 kl1 fr2 (by decide) (by decide)
  have k2 : hK t2 73 = 11 := by rw [fr2.2.2.1]; exact k1
  have l2 : hL t2 73 = 1 := by rw [fr2.2.2.2.1]; exact l1
  refine Gx.callV1 g.gd ct2 wc_L_110 iM_X6_round se_X6_round kC6 (sK41 (h := t1) ck1.1) dL_law_905 rfl (Nat.le_of_ble_eq_true rfl) rfl (Nat.le_of_ble_eq_true rfl) ?_ (rm9 ck2)
  refine Gx.pop g.gd dL_law_908 (Or.inl rfl) ?_
  refine Gx.goto (tgt := 1370) g.gd dL_law_909 rfl ?_
  exact nx _ ck2 mi2 k2 l2 ti2 tj2 tl2
theorem cs_20 {Ln : Nat} {xs : Nat → Int32} {G : Nat → List mV → List mV → mH → Prop} (g : Gl Ln xs room_1 G) (hLn : Ln ≤ 3072) {i : Int} (i0 : 0 ≤ i) (i6 : i + 6 ≤ (Ln : Int)) {h : mH} {n : Nat} (ck : CK h ((n : Int) + 1)) (mi : MI h) (k73 : hK h 73 = 11) (l73 : hL h 73 = 1) (ti : TI h) (tj : TJ h) (tl : TLE h) (nx : ∀ h', CK h' (n : Int) → MI h' → hK h' 73 = 11 → hL h' 73 = 1 → TI h' → TJ h' → TLE h' → G 1370 (Lw i) [] h') : G 912 (Lw i) [] h := by
  refine Gx.ald_n g.gd rfl dL_law_912 ?_
  refine Gl.scr (i := i) (k := 1) g rfl i0 (by decide) (by decide) (by omega) hLn dL_law_913 dL_law_914 dL_law_916 dL_law_917 dL_law_918 ?_
  obtain ⟨_, t1, ct1, ⟨y1, rfl, hy1⟩, ck1, kp1, cs1, kl1⟩ := kx_meet h n ck (sX xs (i + 1))
  have mi1 := kp1.mi mi
  have k1 := kp1.2.2.1.trans k73
  have l1 := kp1.2.2.2.trans l73
  refine Gx.callV1 g.gd ct1 wc_L_111 iM_X5_meet se_X5_meet kC5 (sK0 (h := h) ck.1) dL_law_919 rfl (Nat.le_of_ble_eq_true rfl) rfl (Nat.le_of_ble_eq_true rfl) ?_ (rm9 ck1)
  refine Gx.pop g.gd dL_law_922 (Or.inl rfl) ?_
  refine Gx.ald_n g.gd rfl dL_law_923 ?_
  refine Gl.scr (i := i) (k := 1) g rfl i0 (by decide) (by decide) (by omega) hLn dL_law_924 dL_law_925 dL_law_927 dL_law_928 dL_law_929 ?_
  obtain ⟨_, t2, ct2, ⟨y2, rfl, hy2⟩, mi2, fr2⟩ := cq_mmeetX 6 t1 ck1.1 mi1 (sX xs (i + 1))
  have ck2 := ck1.model (fr2.mono (by decide) (by decide))
  have ti2 := ti.keep kp1 cs1.cs fr2 (by decide) (by decide)
  have tj2 := tj.keep kp1 cs1 fr2 (by decide) (by decide)
  have tl2 := tl.keep ck.rx.1 kp1 kl1 fr2 (by decide) (by decide)
  have k2 : hK t2 73 = 11 := by rw [fr2.2.2.1]; exact k1
  have l2 : hL t2 73 = 1 := by rw [fr2.2.2.2.1]; exact l1
  refine Gx.callV1 g.gd ct2 wc_L_114 iM_X6_meet se_X6_meet kC6 (sK41 (h := t1) ck1.1) dL_law_930 rfl (Nat.le_of_ble_eq_true rfl) rfl (Nat.le_of_ble_eq_true rfl) ?_ (rm9 ck2)
  refine Gx.pop g.gd dL_law_933 (Or.inl rfl) ?_
  refine Gx.goto (tgt := 1370) g.gd dL_law_934 rfl ?_
  exact nx _ ck2 mi2 k2 l2 ti2 tj2 tl2
theorem cs_21 {Ln : Nat} {xs : Nat → Int32} {G : Nat → List mV → List mV → mH → Prop} (g : Gl Ln xs room_1 G) (hLn : Ln ≤ 3072) {i : Int} (i0 : 0 ≤ i) (i6 : i + 6 ≤ (Ln : Int)) {h : mH} {n : Nat} (ck : CK h ((n : Int) + 1)) (mi : MI h) (k73 : hK h 73 = 11) (l73 : hL h 73 = 1) (ti : TI h) (tj : TJ h) (tl : TLE h) (nx : ∀ h', CK h' (n : Int) → MI h' → hK h' 73 = 11 → hL h' 73 = 1 → TI h' → TJ h' → TLE h' → G 1370 (Lw i) [] h') : G 937 (Lw i) [] h := by
  refine Gx.ald_n g.gd rfl dL_law_937 ?_
  obtain ⟨_, t1, ct1, ⟨y1, rfl, hy1⟩, ck1, kp1, cs1, kl1⟩ := kx_ends h n ck 
  have mi1 := kp1.mi mi
  have k1 := kp1.2.2.1.trans k73
  have l1 := kp1.2.2.2.trans l73
  refine Gx.callV1 g.gd ct1 wc_L_115 iM_X5_ends se_X5_ends kC5 (sK0 (h := h) ck.1) dL_law_938 rfl (Nat.le_of_ble_eq_true rfl) rfl (Nat.le_of_ble_eq_true rfl) ?_ (rm9 ck1)
  refine Gx.pop g.gd dL_law_941 (Or.inl rfl) ?_
  refine Gx.ald_n g.gd rfl dL_law_942 ?_
  obtain ⟨_, t2, ct2, ⟨y2, rfl, hy2⟩, mi2, fr2⟩ := cq_mendsX 6 t1 ck1.1 mi1 
  have ck2 := ck1.model (fr2.mono (by decide) (by decide))
  have ti2 := ti.keep kp1 cs1.cs fr2 (by decide) (by decide)
  have tj2 := tj.keep kp1 cs1 fr2 (by decide) (by decide)
  have tl2 := TB.endsT tl ck.rx.1 ck1.rx.1 kl1 fr2 ck.2.1 ti tj kp1 hy1 hy2
  have k2 : hK t2 73 = 11 := by rw [fr2.2.2.1]; exact k1
  have l2 : hL t2 73 = 1 := by rw [fr2.2.2.2.1]; exact l1
  refine Gx.callV1 g.gd ct2 wc_L_118 iM_X6_ends se_X6_ends kC6 (sK41 (h := t1) ck1.1) dL_law_943 rfl (Nat.le_of_ble_eq_true rfl) rfl (Nat.le_of_ble_eq_true rfl) ?_ (rm9 ck2)
  refine Gx.pop g.gd dL_law_946 (Or.inl rfl) ?_
  refine Gx.goto (tgt := 1370) g.gd dL_law_947 rfl ?_
  exact nx _ ck2 mi2 k2 l2 ti2 tj2 tl2
theorem cs_22 {Ln : Nat} {xs : Nat → Int32} {G : Nat → List mV → List mV → mH → Prop} (g : Gl Ln xs room_1 G) (hLn : Ln ≤ 3072) {i : Int} (i0 : 0 ≤ i) (i6 : i + 6 ≤ (Ln : Int)) {h : mH} {n : Nat} (ck : CK h ((n : Int) + 1)) (mi : MI h) (k73 : hK h 73 = 11) (l73 : hL h 73 = 1) (ti : TI h) (tj : TJ h) (tl : TLE h) (nx : ∀ h', CK h' (n : Int) → MI h' → hK h' 73 = 11 → hL h' 73 = 1 → TI h' → TJ h' → TLE h' → G 1370 (Lw i) [] h') : G 950 (Lw i) [] h := by
  refine Gx.ald_n g.gd rfl dL_law_950 ?_
  refine Gl.scr (i := i) (k := 1) g rfl i0 (by decide) (by decide) (by omega) hLn dL_law_951 dL_law_952 dL_law_954 dL_law_955 dL_law_956 ?_
  refine Gl.scr (i := i) (k := 2) g rfl i0 (by decide) (by decide) (by omega) hLn dL_law_957 dL_law_958 dL_law_960 dL_law_961 dL_law_962 ?_
  obtain ⟨_, t1, ct1, ⟨y1, rfl, hy1⟩, ck1, kp1, cs1, kl1⟩ := kx_end h n ck (sX xs (i + 1)) (sX xs (i + 2))
  have mi1 := kp1.mi mi
  have k1 := kp1.2.2.1.trans k73
  have l1 := kp1.2.2.2.trans l73
  refine Gx.callV1 g.gd ct1 wc_L_119 iM_X5_end se_X5_end kC5 (sK0 (h := h) ck.1) dL_law_963 rfl (Nat.le_of_ble_eq_true rfl) rfl (Nat.le_of_ble_eq_true rfl) ?_ (rm9 ck1)
  refine Gx.pop g.gd dL_law_966 (Or.inl rfl) ?_
  refine Gx.ald_n g.gd rfl dL_law_967 ?_
  refine Gl.scr (i := i) (k := 1) g rfl i0 (by decide) (by decide) (by omega) hLn dL_law_968 dL_law_969 dL_law_971 dL_law_972 dL_law_973 ?_
  refine Gl.scr (i := i) (k := 2) g rfl i0 (by decide) (by decide) (by omega) hLn dL_law_974 dL_law_975 dL_law_977 dL_law_978 dL_law_979 ?_
  obtain ⟨_, t2, ct2, ⟨y2, rfl, hy2⟩, mi2, fr2⟩ := cq_mendX 8 t1 ck1.1 mi1 (sX xs (i + 1)) (sX xs (i + 2))
  have ck2 := ck1.model (fr2.mono (by decide) (by decide))
  have ti2 := ti.keep kp1 cs1.cs fr2 (by decide) (by decide)
  have tj2 := tj.keep kp1 cs1 fr2 (by decide) (by decide)
  have tl2 := tl.keep ck.rx.1 kp1 kl1 fr2 (by decide) (by decide)
  have k2 : hK t2 73 = 11 := by rw [fr2.2.2.1]; exact k1
  have l2 : hL t2 73 = 1 := by rw [fr2.2.2.2.1]; exact l1
  refine Gx.callV1 g.gd ct2 wc_L_122 iM_X6_end se_X6_end kC6 (sK41 (h := t1) ck1.1) dL_law_980 rfl (Nat.le_of_ble_eq_true rfl) rfl (Nat.le_of_ble_eq_true rfl) ?_ (rm9 ck2)
  refine Gx.pop g.gd dL_law_983 (Or.inl rfl) ?_
  refine Gx.goto (tgt := 1370) g.gd dL_law_984 rfl ?_
  exact nx _ ck2 mi2 k2 l2 ti2 tj2 tl2
theorem cs_23 {Ln : Nat} {xs : Nat → Int32} {G : Nat → List mV → List mV → mH → Prop} (g : Gl Ln xs room_1 G) (hLn : Ln ≤ 3072) {i : Int} (i0 : 0 ≤ i) (i6 : i + 6 ≤ (Ln : Int)) {h : mH} {n : Nat} (ck : CK h ((n : Int) + 1)) (mi : MI h) (k73 : hK h 73 = 11) (l73 : hL h 73 = 1) (ti : TI h) (tj : TJ h) (tl : TLE h) (nx : ∀ h', CK h' (n : Int) → MI h' → hK h' 73 = 11 → hL h' 73 = 1 → TI h' → TJ h' → TLE h' → G 1370 (Lw i) [] h') : G 987 (Lw i) [] h := by
  refine Gx.ald_n g.gd rfl dL_law_987 ?_
  refine Gl.scr (i := i) (k := 1) g rfl i0 (by decide) (by decide) (by omega) hLn dL_law_988 dL_law_989 dL_law_991 dL_law_992 dL_law_993 ?_
  obtain ⟨_, t1, ct1, ⟨y1, rfl, hy1⟩, ck1, kp1, cs1, kl1⟩ := kx_sure h n ck (sX xs (i + 1))
  have mi1 := kp1.mi mi
  have k1 := kp1.2.2.1.trans k73
  have l1 := kp1.2.2.2.trans l73
  refine Gx.callV1 g.gd ct1 wc_L_123 iM_X5_sure se_X5_sure kC5 (sK0 (h := h) ck.1) dL_law_994 rfl (Nat.le_of_ble_eq_true rfl) rfl (Nat.le_of_ble_eq_true rfl) ?_ (rm9 ck1)
  refine Gx.pop g.gd dL_law_997 (Or.inl rfl) ?_
  refine Gx.ald_n g.gd rfl dL_law_998 ?_
  refine Gl.scr (i := i) (k := 1) g rfl i0 (by decide) (by decide) (by omega) hLn dL_law_999 dL_law_1000 dL_law_1002 dL_law_1003 dL_law_1004 ?_
  obtain ⟨_, t2, ct2, ⟨y2, rfl, hy2⟩, mi2, fr2⟩ := cq_msureX 6 t1 ck1.1 mi1 (sX xs (i + 1))
  have ck2 := ck1.model (fr2.mono (by decide) (by decide))
  have ti2 := ti.keep kp1 cs1.cs fr2 (by decide) (by decide)
  have tj2 := tj.keep kp1 cs1 fr2 (by decide) (by decide)
  have tl2 := tl.keep ck.rx.1 kp1 kl1 fr2 (by decide) (by decide)
  have k2 : hK t2 73 = 11 := by rw [fr2.2.2.1]; exact k1
  have l2 : hL t2 73 = 1 := by rw [fr2.2.2.2.1]; exact l1
  refine Gx.callV1 g.gd ct2 wc_L_126 iM_X6_sure se_X6_sure kC6 (sK41 (h := t1) ck1.1) dL_law_1005 rfl (Nat.le_of_ble_eq_true rfl) rfl (Nat.le_of_ble_eq_true rfl) ?_ (rm9 ck2)
  refine Gx.pop g.gd dL_law_1008 (Or.inl rfl) ?_
  refine Gx.goto (tgt := 1370) g.gd dL_law_1009 rfl ?_
  exact nx _ ck2 mi2 k2 l2 ti2 tj2 tl2
theorem cs_24 {Ln : Nat} {xs : Nat → Int32} {G : Nat → List mV → List mV → mH → Prop} (g : Gl Ln xs room_1 G) (hLn : Ln ≤ 3072) {i : Int} (i0 : 0 ≤ i) (i6 : i + 6 ≤ (Ln : Int)) {h : mH} {n : Nat} (ck : CK h ((n : Int) + 1)) (mi : MI h) (k73 : hK h 73 = 11) (l73 : hL h 73 = 1) (ti : TI h) (tj : TJ h) (tl : TLE h) (nx : ∀ h', CK h' (n : Int) → MI h' → hK h' 73 = 11 → hL h' 73 = 1 → TI h' → TJ h' → TLE h' → G 1370 (Lw i) [] h') : G 1012 (Lw i) [] h := by
  refine Gx.ald_n g.gd rfl dL_law_1012 ?_
  obtain ⟨_, t1, ct1, ⟨y1, rfl, hy1⟩, ck1, kp1, cs1, kr1⟩ := kx_lead h n ck 
  have mi1 := kp1.mi mi
  have k1 := kp1.2.2.1.trans k73
  have l1 := kp1.2.2.2.trans l73
  refine Gx.callV1 g.gd ct1 wc_L_127 iM_X5_lead se_X5_lead kC5 (sK0 (h := h) ck.1) dL_law_1013 rfl (Nat.le_of_ble_eq_true rfl) rfl (Nat.le_of_ble_eq_true rfl) ?_ (rm9 ck1)
  refine Gx.pop g.gd dL_law_1016 (Or.inl rfl) ?_
  refine Gx.ald_n g.gd rfl dL_law_1017 ?_
  obtain ⟨_, t2, ct2, ⟨y2, rfl, hy2⟩, mi2, fr2⟩ := cq_mleadX 8 t1 ck1.1 mi1 
  have ck2 := ck1.model (fr2.mono (by decide) (by decide))
  have ti2 := ti.keep kp1 cs1.cs fr2 (by decide) (by decide)
  have tj2 := tj.keep kp1 cs1 fr2 (by decide) (by decide)
  have tl2 : TLE t2 := ⟨TB.leadT tl.1 (fr2.mono (by decide) (by decide)) ck.2.1 ti tj kp1 hy1 hy2, tl.2.keep ck.rx.1 kp1 kr1 fr2 (by decide) (by decide) (by decide) (by decide)⟩
  have k2 : hK t2 73 = 11 := by rw [fr2.2.2.1]; exact k1
  have l2 : hL t2 73 = 1 := by rw [fr2.2.2.2.1]; exact l1
  refine Gx.callV1 g.gd ct2 wc_L_130 iM_X6_lead se_X6_lead kC6 (sK41 (h := t1) ck1.1) dL_law_1018 rfl (Nat.le_of_ble_eq_true rfl) rfl (Nat.le_of_ble_eq_true rfl) ?_ (rm9 ck2)
  refine Gx.pop g.gd dL_law_1021 (Or.inl rfl) ?_
  refine Gx.goto (tgt := 1370) g.gd dL_law_1022 rfl ?_
  exact nx _ ck2 mi2 k2 l2 ti2 tj2 tl2
theorem cs_25 {Ln : Nat} {xs : Nat → Int32} {G : Nat → List mV → List mV → mH → Prop} (g : Gl Ln xs room_1 G) (hLn : Ln ≤ 3072) {i : Int} (i0 : 0 ≤ i) (i6 : i + 6 ≤ (Ln : Int)) {h : mH} {n : Nat} (ck : CK h ((n : Int) + 1)) (mi : MI h) (k73 : hK h 73 = 11) (l73 : hL h 73 = 1) (ti : TI h) (tj : TJ h) (tl : TLE h) (nx : ∀ h', CK h' (n : Int) → MI h' → hK h' 73 = 11 → hL h' 73 = 1 → TI h' → TJ h' → TLE h' → G 1370 (Lw i) [] h') : G 1025 (Lw i) [] h := by
  refine Gx.ald_n g.gd rfl dL_law_1025 ?_
  refine Gl.scr (i := i) (k := 1) g rfl i0 (by decide) (by decide) (by omega) hLn dL_law_1026 dL_law_1027 dL_law_1029 dL_law_1030 dL_law_1031 ?_
  obtain ⟨_, t1, ct1, ⟨y1, rfl, hy1⟩, ck1, kp1, cs1, kl1⟩ := kx_leader h n ck (sX xs (i + 1))
  have mi1 := kp1.mi mi
  have k1 := kp1.2.2.1.trans k73
  have l1 := kp1.2.2.2.trans l73
  refine Gx.callV1 g.gd ct1 wc_L_131 iM_X5_leader se_X5_leader kC5 (sK0 (h := h) ck.1) dL_law_1032 rfl (Nat.le_of_ble_eq_true rfl) rfl (Nat.le_of_ble_eq_true rfl) ?_ (rm9 ck1)
  refine Gx.ald_n g.gd rfl dL_law_1035 ?_
  refine Gl.scr (i := i) (k := 1) g rfl i0 (by decide) (by decide) (by omega) hLn dL_law_1036 dL_law_1037 dL_law_1039 dL_law_1040 dL_law_1041 ?_
  obtain ⟨_, t2, ct2, ⟨y2, rfl, hy2⟩, mi2, fr2⟩ := cq_mleaderX 8 t1 ck1.1 mi1 (sX xs (i + 1))
  have ck2 := ck1.model (fr2.mono (by decide) (by decide))
  have ti2 := ti.keep kp1 cs1.cs fr2 (by decide) (by decide)
  have tj2 := tj.keep kp1 cs1 fr2 (by decide) (by decide)
  have tl2 := tl.keep ck.rx.1 kp1 kl1 fr2 (by decide) (by decide)
  have k2 : hK t2 73 = 11 := by rw [fr2.2.2.1]; exact k1
  have l2 : hL t2 73 = 1 := by rw [fr2.2.2.2.1]; exact l1
  refine Gx.callV1 g.gd ct2 wc_L_134 iM_X6_leader se_X6_leader kC6 (sK41 (h := t1) ck1.1) dL_law_1042 rfl (Nat.le_of_ble_eq_true rfl) rfl (Nat.le_of_ble_eq_true rfl) ?_ (rm9 ck2)
  exact Gx.iceq (tgt := 1370) g.gd dL_law_1045 rfl (fun _ => nx _ ck2 mi2 k2 l2 ti2 tj2 tl2) (fun z => absurd (TB.leader tl.1 kp1 hy1 hy2) z)
theorem cs_26 {Ln : Nat} {xs : Nat → Int32} {G : Nat → List mV → List mV → mH → Prop} (g : Gl Ln xs room_1 G) (hLn : Ln ≤ 3072) {i : Int} (i0 : 0 ≤ i) (i6 : i + 6 ≤ (Ln : Int)) {h : mH} {n : Nat} (ck : CK h ((n : Int) + 1)) (mi : MI h) (k73 : hK h 73 = 11) (l73 : hL h 73 = 1) (ti : TI h) (tj : TJ h) (tl : TLE h) (nx : ∀ h', CK h' (n : Int) → MI h' → hK h' 73 = 11 → hL h' 73 = 1 → TI h' → TJ h' → TLE h' → G 1370 (Lw i) [] h') : G 1050 (Lw i) [] h := by
  refine Gx.ald_n g.gd rfl dL_law_1050 ?_
  refine Gl.scr (i := i) (k := 1) g rfl i0 (by decide) (by decide) (by omega) hLn dL_law_1051 dL_law_1052 dL_law_1054 dL_law_1055 dL_law_1056 ?_
  obtain ⟨_, t1, ct1, ⟨y1, rfl, hy1⟩, ck1, kp1, cs1, kl1⟩ := kx_table h n ck (sX xs (i + 1))
  have mi1 := kp1.mi mi
  have k1 := kp1.2.2.1.trans k73
  have l1 := kp1.2.2.2.trans l73
  refine Gx.callV1 g.gd ct1 wc_L_135 iM_X5_table se_X5_table kC5 (sK0 (h := h) ck.1) dL_law_1057 rfl (Nat.le_of_ble_eq_true rfl) rfl (Nat.le_of_ble_eq_true rfl) ?_ (rm9 ck1)
  refine Gx.pop g.gd dL_law_1060 (Or.inl rfl) ?_
  refine Gx.ald_n g.gd rfl dL_law_1061 ?_
  refine Gl.scr (i := i) (k := 1) g rfl i0 (by decide) (by decide) (by omega) hLn dL_law_1062 dL_law_1063 dL_law_1065 dL_law_1066 dL_law_1067 ?_
  obtain ⟨_, t2, ct2, ⟨y2, rfl, hy2⟩, mi2, fr2⟩ := cq_mtable 8 t1 ck1.1 mi1 (sX xs (i + 1))
  have ck2 := ck1.model (fr2.mono (by decide) (by decide))
  have ti2 := ti.keep kp1 cs1.cs fr2 (by decide) (by decide)
  have tj2 := tj.keep kp1 cs1 fr2 (by decide) (by decide)
  have tl2 := tl.keep ck.rx.1 kp1 kl1 fr2 (by decide) (by decide)
  have k2 : hK t2 73 = 11 := by rw [fr2.2.2.1]; exact k1
  have l2 : hL t2 73 = 1 := by rw [fr2.2.2.2.1]; exact l1
  refine Gx.callV1 g.gd ct2 wc_L_138 iM_X6_table se_X6_table kC6 (sK41 (h := t1) ck1.1) dL_law_1068 rfl (Nat.le_of_ble_eq_true rfl) rfl (Nat.le_of_ble_eq_true rfl) ?_ (rm9 ck2)
  refine Gx.pop g.gd dL_law_1071 (Or.inl rfl) ?_
  refine Gx.goto (tgt := 1370) g.gd dL_law_1072 rfl ?_
  exact nx _ ck2 mi2 k2 l2 ti2 tj2 tl2
theorem cs_27 {Ln : Nat} {xs : Nat → Int32} {G : Nat → List mV → List mV → mH → Prop} (g : Gl Ln xs room_1 G) (hLn : Ln ≤ 3072) {i : Int} (i0 : 0 ≤ i) (i6 : i + 6 ≤ (Ln : Int)) {h : mH} {n : Nat} (ck : CK h ((n : Int) + 1)) (mi : MI h) (k73 : hK h 73 = 11) (l73 : hL h 73 = 1) (ti : TI h) (tj : TJ h) (tl : TLE h) (nx : ∀ h', CK h' (n : Int) → MI h' → hK h' 73 = 11 → hL h' 73 = 1 → TI h' → TJ h' → TLE h' → G 1370 (Lw i) [] h') : G 1075 (Lw i) [] h := by
  refine Gx.ald_n g.gd rfl dL_law_1075 ?_
  refine Gl.scr (i := i) (k := 1) g rfl i0 (by decide) (by decide) (by omega) hLn dL_law_1076 dL_law_1077 dL_law_1079 dL_law_1080 dL_law_1081 ?_
  refine Gl.scr (i := i) (k := 2) g rfl i0 (by decide) (by decide) (by omega) hLn dL_law_1082 dL_law_1083 dL_law_1085 dL_law_1086 dL_law_1087 ?_
  refine Gl.scr (i := i) (k := 3) g rfl i0 (by decide) (by decide) (by omega) hLn dL_law_1088 dL_law_1089 dL_law_1091 dL_law_1092 dL_law_1093 ?_
  obtain ⟨_, t1, ct1, ⟨y1, rfl⟩, ck1, kp1, cs1, kl1⟩ := kx_span h n ck (sX xs (i + 1)) (sX xs (i + 2)) (sX xs (i + 3))
  have mi1 := kp1.mi mi
  have k1 := kp1.2.2.1.trans k73
  have l1 := kp1.2.2.2.trans l73
  refine Gx.callV1 g.gd ct1 wc_L_139 iM_X5_span se_X5_span kC5 (sK0 (h := h) ck.1) dL_law_1094 rfl (Nat.le_of_ble_eq_true rfl) rfl (Nat.le_of_ble_eq_true rfl) ?_ (rm9 ck1)
  refine Gx.pop g.gd dL_law_1097 (Or.inl rfl) ?_
  refine Gx.ald_n g.gd rfl dL_law_1098 ?_
  refine Gl.scr (i := i) (k := 1) g rfl i0 (by decide) (by decide) (by omega) hLn dL_law_1099 dL_law_1100 dL_law_1102 dL_law_1103 dL_law_1104 ?_
  refine Gl.scr (i := i) (k := 2) g rfl i0 (by decide) (by decide) (by omega) hLn dL_law_1105 dL_law_1106 dL_law_1108 dL_law_1109 dL_law_1110 ?_
  refine Gl.scr (i := i) (k := 3) g rfl i0 (by decide) (by decide) (by omega) hLn dL_law_1111 dL_law_1112 dL_law_1114 dL_law_1115 dL_law_1116 ?_
  obtain ⟨_, t2, ct2, ⟨y2, rfl, -⟩, mi2, fr2⟩ := cq_mspan 8 t1 ck1.1 mi1 (sX xs (i + 1)) (sX xs (i + 2)) (sX xs (i + 3))
  have ck2 := ck1.model (fr2.mono (by decide) (by decide))
  have ti2 := ti.keep kp1 cs1.cs fr2 (by decide) (by decide)
  have tj2 := tj.keep kp1 cs1 fr2 (by decide) (by decide)
  have tl2 := tl.keep ck.rx.1 kp1 kl1 fr2 (by decide) (by decide)
  have k2 : hK t2 73 = 11 := by rw [fr2.2.2.1]; exact k1
  have l2 : hL t2 73 = 1 := by rw [fr2.2.2.2.1]; exact l1
  refine Gx.callV1 g.gd ct2 wc_L_142 iM_X6_span se_X6_span kC6 (sK41 (h := t1) ck1.1) dL_law_1117 rfl (Nat.le_of_ble_eq_true rfl) rfl (Nat.le_of_ble_eq_true rfl) ?_ (rm9 ck2)
  refine Gx.pop g.gd dL_law_1120 (Or.inl rfl) ?_
  refine Gx.goto (tgt := 1370) g.gd dL_law_1121 rfl ?_
  exact nx _ ck2 mi2 k2 l2 ti2 tj2 tl2
theorem cs_28 {Ln : Nat} {xs : Nat → Int32} {G : Nat → List mV → List mV → mH → Prop} (g : Gl Ln xs room_1 G) (hLn : Ln ≤ 3072) {i : Int} (i0 : 0 ≤ i) (i6 : i + 6 ≤ (Ln : Int)) {h : mH} {n : Nat} (ck : CK h ((n : Int) + 1)) (mi : MI h) (k73 : hK h 73 = 11) (l73 : hL h 73 = 1) (ti : TI h) (tj : TJ h) (tl : TLE h) (nx : ∀ h', CK h' (n : Int) → MI h' → hK h' 73 = 11 → hL h' 73 = 1 → TI h' → TJ h' → TLE h' → G 1370 (Lw i) [] h') : G 1124 (Lw i) [] h := by
  refine Gx.ald_n g.gd rfl dL_law_1124 ?_
  refine Gl.scr (i := i) (k := 1) g rfl i0 (by decide) (by decide) (by omega) hLn dL_law_1125 dL_law_1126 dL_law_1128 dL_law_1129 dL_law_1130 ?_
  refine Gl.scr (i := i) (k := 2) g rfl i0 (by decide) (by decide) (by omega) hLn dL_law_1131 dL_law_1132 dL_law_1134 dL_law_1135 dL_law_1136 ?_
  obtain ⟨_, t1, ct1, ⟨y1, rfl⟩, ck1, kp1, cs1, kl1⟩ := kx_cut h n ck (sX xs (i + 1)) (sX xs (i + 2))
  have mi1 := kp1.mi mi
  have k1 := kp1.2.2.1.trans k73
  have l1 := kp1.2.2.2.trans l73
  refine Gx.callV1 g.gd ct1 wc_L_143 iM_X5_cut se_X5_cut kC5 (sK0 (h := h) ck.1) dL_law_1137 rfl (Nat.le_of_ble_eq_true rfl) rfl (Nat.le_of_ble_eq_true rfl) ?_ (rm9 ck1)
  refine Gx.pop g.gd dL_law_1140 (Or.inl rfl) ?_
  refine Gx.ald_n g.gd rfl dL_law_1141 ?_
  refine Gl.scr (i := i) (k := 1) g rfl i0 (by decide) (by decide) (by omega) hLn dL_law_1142 dL_law_1143 dL_law_1145 dL_law_1146 dL_law_1147 ?_
  refine Gl.scr (i := i) (k := 2) g rfl i0 (by decide) (by decide) (by omega) hLn dL_law_1148 dL_law_1149 dL_law_1151 dL_law_1152 dL_law_1153 ?_
  obtain ⟨_, t2, ct2, ⟨y2, rfl, -⟩, mi2, fr2⟩ := cq_mcutS 8 t1 ck1.1 mi1 (sX xs (i + 1)) (sX xs (i + 2))
  have ck2 := ck1.model (fr2.mono (by decide) (by decide))
  have ti2 := ti.keep kp1 cs1.cs fr2 (by decide) (by decide)
  have tj2 := tj.keep kp1 cs1 fr2 (by decide) (by decide)
  have tl2 := tl.keep ck.rx.1 kp1 kl1 fr2 (by decide) (by decide)
  have k2 : hK t2 73 = 11 := by rw [fr2.2.2.1]; exact k1
  have l2 : hL t2 73 = 1 := by rw [fr2.2.2.2.1]; exact l1
  refine Gx.callV1 g.gd ct2 wc_L_146 iM_X6_cut_ se_X6_cut_ kC6 (sK41 (h := t1) ck1.1) dL_law_1154 rfl (Nat.le_of_ble_eq_true rfl) rfl (Nat.le_of_ble_eq_true rfl) ?_ (rm9 ck2)
  refine Gx.pop g.gd dL_law_1157 (Or.inl rfl) ?_
  refine Gx.goto (tgt := 1370) g.gd dL_law_1158 rfl ?_
  exact nx _ ck2 mi2 k2 l2 ti2 tj2 tl2
theorem cs_29 {Ln : Nat} {xs : Nat → Int32} {G : Nat → List mV → List mV → mH → Prop} (g : Gl Ln xs room_1 G) (hLn : Ln ≤ 3072) {i : Int} (i0 : 0 ≤ i) (i6 : i + 6 ≤ (Ln : Int)) {h : mH} {n : Nat} (ck : CK h ((n : Int) + 1)) (mi : MI h) (k73 : hK h 73 = 11) (l73 : hL h 73 = 1) (ti : TI h) (tj : TJ h) (tl : TLE h) (nx : ∀ h', CK h' (n : Int) → MI h' → hK h' 73 = 11 → hL h' 73 = 1 → TI h' → TJ h' → TLE h' → G 1370 (Lw i) [] h') : G 1161 (Lw i) [] h := by
  refine Gx.ald_n g.gd rfl dL_law_1161 ?_
  refine Gl.scr (i := i) (k := 1) g rfl i0 (by decide) (by decide) (by omega) hLn dL_law_1162 dL_law_1163 dL_law_1165 dL_law_1166 dL_law_1167 ?_
  obtain ⟨_, t1, ct1, ⟨y1, rfl⟩, ck1, kp1, cs1, kl1⟩ := kx_pace h n ck (sX xs (i + 1))
  have mi1 := kp1.mi mi
  have k1 := kp1.2.2.1.trans k73
  have l1 := kp1.2.2.2.trans l73
  refine Gx.callV1 g.gd ct1 wc_L_147 iM_X5_pace se_X5_pace kC5 (sK0 (h := h) ck.1) dL_law_1168 rfl (Nat.le_of_ble_eq_true rfl) rfl (Nat.le_of_ble_eq_true rfl) ?_ (rm9 ck1)
  refine Gx.pop2 g.gd dL_law_1171 rfl ?_
  refine Gx.ald_n g.gd rfl dL_law_1172 ?_
  refine Gl.scr (i := i) (k := 1) g rfl i0 (by decide) (by decide) (by omega) hLn dL_law_1173 dL_law_1174 dL_law_1176 dL_law_1177 dL_law_1178 ?_
  obtain ⟨_, t2, ct2, ⟨y2, rfl⟩, mi2, fr2⟩ := cq_mpace 5 t1 ck1.1 mi1 (sX xs (i + 1))
  have ck2 := ck1.model (fr2.mono (by decide) (by decide))
  have ti2 := ti.keep kp1 cs1.cs fr2 (by decide) (by decide)
  have tj2 := tj.keep kp1 cs1 fr2 (by decide) (by decide)
  have tl2 := tl.keep ck.rx.1 kp1 kl1 fr2 (by decide) (by decide)
  have k2 : hK t2 73 = 11 := by rw [fr2.2.2.1]; exact k1
  have l2 : hL t2 73 = 1 := by rw [fr2.2.2.2.1]; exact l1
  refine Gx.callV1 g.gd ct2 wc_L_151 iM_X6_pace se_X6_pace kC6 (sK41 (h := t1) ck1.1) dL_law_1179 rfl (Nat.le_of_ble_eq_true rfl) rfl (Nat.le_of_ble_eq_true rfl) ?_ (rm9 ck2)
  refine Gx.pop2 g.gd dL_law_1182 rfl ?_
  refine Gx.goto (tgt := 1370) g.gd dL_law_1183 rfl ?_
  exact nx _ ck2 mi2 k2 l2 ti2 tj2 tl2
theorem cs_30 {Ln : Nat} {xs : Nat → Int32} {G : Nat → List mV → List mV → mH → Prop} (g : Gl Ln xs room_1 G) (hLn : Ln ≤ 3072) {i : Int} (i0 : 0 ≤ i) (i6 : i + 6 ≤ (Ln : Int)) {h : mH} {n : Nat} (ck : CK h ((n : Int) + 1)) (mi : MI h) (k73 : hK h 73 = 11) (l73 : hL h 73 = 1) (ti : TI h) (tj : TJ h) (tl : TLE h) (nx : ∀ h', CK h' (n : Int) → MI h' → hK h' 73 = 11 → hL h' 73 = 1 → TI h' → TJ h' → TLE h' → G 1370 (Lw i) [] h') : G 1186 (Lw i) [] h := by
  refine Gx.ald_n g.gd rfl dL_law_1186 ?_
  obtain ⟨_, t1, ct1, ⟨y1, rfl⟩, ck1, kp1, cs1, kl1⟩ := kx_critical h n ck 
  have mi1 := kp1.mi mi
  have k1 := kp1.2.2.1.trans k73
  have l1 := kp1.2.2.2.trans l73
  refine Gx.callV1 g.gd ct1 wc_L_152 iM_X5_critical se_X5_critical kC5 (sK0 (h := h) ck.1) dL_law_1187 rfl (Nat.le_of_ble_eq_true rfl) rfl (Nat.le_of_ble_eq_true rfl) ?_ (rm9 ck1)
  refine Gx.pop g.gd dL_law_1190 (Or.inl rfl) ?_
  refine Gx.ald_n g.gd rfl dL_law_1191 ?_
  obtain ⟨_, t2, ct2, ⟨y2, rfl⟩, mi2, fr2⟩ := cq_mcritical 5 t1 ck1.1 mi1 
  have ck2 := ck1.model (fr2.mono (by decide) (by decide))
  have ti2 := ti.keep kp1 cs1.cs fr2 (by decide) (by decide)
  have tj2 := tj.keep kp1 cs1 fr2 (by decide) (by decide)
  have tl2 := tl.keep ck.rx.1 kp1 kl1 fr2 (by decide) (by decide)
  have k2 : hK t2 73 = 11 := by rw [fr2.2.2.1]; exact k1
  have l2 : hL t2 73 = 1 := by rw [fr2.2.2.2.1]; exact l1
  refine Gx.callV1 g.gd ct2 wc_L_155 iM_X6_critical se_X6_critical kC6 (sK41 (h := t1) ck1.1) dL_law_1192 rfl (Nat.le_of_ble_eq_true rfl) rfl (Nat.le_of_ble_eq_true rfl) ?_ (rm9 ck2)
  refine Gx.pop g.gd dL_law_1195 (Or.inl rfl) ?_
  refine Gx.goto (tgt := 1370) g.gd dL_law_1196 rfl ?_
  exact nx _ ck2 mi2 k2 l2 ti2 tj2 tl2
theorem cs_31 {Ln : Nat} {xs : Nat → Int32} {G : Nat → List mV → List mV → mH → Prop} (g : Gl Ln xs room_1 G) (hLn : Ln ≤ 3072) {i : Int} (i0 : 0 ≤ i) (i6 : i + 6 ≤ (Ln : Int)) {h : mH} {n : Nat} (ck : CK h ((n : Int) + 1)) (mi : MI h) (k73 : hK h 73 = 11) (l73 : hL h 73 = 1) (ti : TI h) (tj : TJ h) (tl : TLE h) (nx : ∀ h', CK h' (n : Int) → MI h' → hK h' 73 = 11 → hL h' 73 = 1 → TI h' → TJ h' → TLE h' → G 1370 (Lw i) [] h') : G 1199 (Lw i) [] h := by
  refine Gx.ald_n g.gd rfl dL_law_1199 ?_
  refine Gl.scr (i := i) (k := 1) g rfl i0 (by decide) (by decide) (by omega) hLn dL_law_1200 dL_law_1201 dL_law_1203 dL_law_1204 dL_law_1205 ?_
  refine Gx.i2l g.gd dL_law_1206 ?_
  refine Gx.bipush g.gd dL_law_1207 (by decide) ?_
  refine Gx.lshl g.gd dL_law_1209 ?_
  refine Gl.scr (i := i) (k := 2) g rfl i0 (by decide) (by decide) (by omega) hLn dL_law_1210 dL_law_1211 dL_law_1213 dL_law_1214 dL_law_1215 ?_
  refine Gx.i2l g.gd dL_law_1216 ?_
  refine Gx.ldc2 (z := 4294967295) g.gd lk_L_29 (by decide) dL_law_1217 ?_
  refine Gx.land g.gd dL_law_1220 ?_
  refine Gx.lor g.gd dL_law_1221 ?_
  refine Gl.scr (i := i) (k := 3) g rfl i0 (by decide) (by decide) (by omega) hLn dL_law_1222 dL_law_1223 dL_law_1225 dL_law_1226 dL_law_1227 ?_
  refine Gl.scr (i := i) (k := 4) g rfl i0 (by decide) (by decide) (by omega) hLn dL_law_1228 dL_law_1229 dL_law_1231 dL_law_1232 dL_law_1233 ?_
  obtain ⟨_, t1, ct1, ⟨y1, rfl⟩, ck1, kp1, cs1, kl1⟩ := kx_sums h n ck (qor (qshl (sX xs (i + 1)) 32) (qand (sX xs (i + 2)) 4294967295)) (sX xs (i + 3)) (sX xs (i + 4))
  have mi1 := kp1.mi mi
  have k1 := kp1.2.2.1.trans k73
  have l1 := kp1.2.2.2.trans l73
  refine Gx.callV1 g.gd ct1 wc_L_156 iM_X5_sums se_X5_sums kC5 (sK0 (h := h) ck.1) dL_law_1234 rfl (Nat.le_of_ble_eq_true rfl) rfl (Nat.le_of_ble_eq_true rfl) ?_ (rm9 ck1)
  refine Gx.pop2 g.gd dL_law_1237 rfl ?_
  refine Gx.ald_n g.gd rfl dL_law_1238 ?_
  refine Gl.scr (i := i) (k := 1) g rfl i0 (by decide) (by decide) (by omega) hLn dL_law_1239 dL_law_1240 dL_law_1242 dL_law_1243 dL_law_1244 ?_
  refine Gx.i2l g.gd dL_law_1245 ?_
  refine Gx.bipush g.gd dL_law_1246 (by decide) ?_
  refine Gx.lshl g.gd dL_law_1248 ?_
  refine Gl.scr (i := i) (k := 2) g rfl i0 (by decide) (by decide) (by omega) hLn dL_law_1249 dL_law_1250 dL_law_1252 dL_law_1253 dL_law_1254 ?_
  refine Gx.i2l g.gd dL_law_1255 ?_
  refine Gx.ldc2 (z := 4294967295) g.gd lk_L_29 (by decide) dL_law_1256 ?_
  refine Gx.land g.gd dL_law_1259 ?_
  refine Gx.lor g.gd dL_law_1260 ?_
  refine Gl.scr (i := i) (k := 3) g rfl i0 (by decide) (by decide) (by omega) hLn dL_law_1261 dL_law_1262 dL_law_1264 dL_law_1265 dL_law_1266 ?_
  refine Gl.scr (i := i) (k := 4) g rfl i0 (by decide) (by decide) (by omega) hLn dL_law_1267 dL_law_1268 dL_law_1270 dL_law_1271 dL_law_1272 ?_
  obtain ⟨_, t2, ct2, ⟨y2, rfl⟩, mi2, fr2⟩ := cq_msums 7 t1 ck1.1 mi1 (qor (qshl (sX xs (i + 1)) 32) (qand (sX xs (i + 2)) 4294967295)) (sX xs (i + 3)) (sX xs (i + 4))
  have ck2 := ck1.model (fr2.mono (by decide) (by decide))
  have ti2 := ti.keep kp1 cs1.cs fr2 (by decide) (by decide)
  have tj2 := tj.keep kp1 cs1 fr2 (by decide) (by decide)
  have tl2 := tl.keep ck.rx.1 kp1 kl1 fr2 (by decide) (by decide)
  have k2 : hK t2 73 = 11 := by rw [fr2.2.2.1]; exact k1
  have l2 : hL t2 73 = 1 := by rw [fr2.2.2.2.1]; exact l1
  refine Gx.callV1 g.gd ct2 wc_L_160 iM_X6_sums se_X6_sums kC6 (sK41 (h := t1) ck1.1) dL_law_1273 rfl (Nat.le_of_ble_eq_true rfl) rfl (Nat.le_of_ble_eq_true rfl) ?_ (rm9 ck2)
  refine Gx.pop2 g.gd dL_law_1276 rfl ?_
  refine Gx.goto (tgt := 1370) g.gd dL_law_1277 rfl ?_
  exact nx _ ck2 mi2 k2 l2 ti2 tj2 tl2
theorem cs_32 {Ln : Nat} {xs : Nat → Int32} {G : Nat → List mV → List mV → mH → Prop} (g : Gl Ln xs room_1 G) (hLn : Ln ≤ 3072) {i : Int} (i0 : 0 ≤ i) (i6 : i + 6 ≤ (Ln : Int)) {h : mH} {n : Nat} (ck : CK h ((n : Int) + 1)) (mi : MI h) (k73 : hK h 73 = 11) (l73 : hL h 73 = 1) (ti : TI h) (tj : TJ h) (tl : TLE h) (nx : ∀ h', CK h' (n : Int) → MI h' → hK h' 73 = 11 → hL h' 73 = 1 → TI h' → TJ h' → TLE h' → G 1370 (Lw i) [] h') : G 1280 (Lw i) [] h := by
  refine Gx.ald_n g.gd rfl dL_law_1280 ?_
  refine Gl.scr (i := i) (k := 1) g rfl i0 (by decide) (by decide) (by omega) hLn dL_law_1281 dL_law_1282 dL_law_1284 dL_law_1285 dL_law_1286 ?_
  refine Gl.scr (i := i) (k := 2) g rfl i0 (by decide) (by decide) (by omega) hLn dL_law_1287 dL_law_1288 dL_law_1290 dL_law_1291 dL_law_1292 ?_
  obtain ⟨_, t1, ct1, ⟨y1, rfl⟩, ck1, kp1, cs1, kl1⟩ := kx_longest h n ck (sX xs (i + 1)) (sX xs (i + 2))
  have mi1 := kp1.mi mi
  have k1 := kp1.2.2.1.trans k73
  have l1 := kp1.2.2.2.trans l73
  refine Gx.callV1 g.gd ct1 wc_L_161 iM_X5_longest se_X5_longest kC5 (sK0 (h := h) ck.1) dL_law_1293 rfl (Nat.le_of_ble_eq_true rfl) rfl (Nat.le_of_ble_eq_true rfl) ?_ (rm9 ck1)
  refine Gx.pop2 g.gd dL_law_1296 rfl ?_
  refine Gx.ald_n g.gd rfl dL_law_1297 ?_
  refine Gl.scr (i := i) (k := 1) g rfl i0 (by decide) (by decide) (by omega) hLn dL_law_1298 dL_law_1299 dL_law_1301 dL_law_1302 dL_law_1303 ?_
  refine Gl.scr (i := i) (k := 2) g rfl i0 (by decide) (by decide) (by omega) hLn dL_law_1304 dL_law_1305 dL_law_1307 dL_law_1308 dL_law_1309 ?_
  obtain ⟨_, t2, ct2, ⟨y2, rfl⟩, mi2, fr2⟩ := cq_mlongest 6 t1 ck1.1 mi1 (sX xs (i + 1)) (sX xs (i + 2))
  have ck2 := ck1.model (fr2.mono (by decide) (by decide))
  have ti2 := ti.keep kp1 cs1.cs fr2 (by decide) (by decide)
  have tj2 := tj.keep kp1 cs1 fr2 (by decide) (by decide)
  have tl2 := tl.keep ck.rx.1 kp1 kl1 fr2 (by decide) (by decide)
  have k2 : hK t2 73 = 11 := by rw [fr2.2.2.1]; exact k1
  have l2 : hL t2 73 = 1 := by rw [fr2.2.2.2.1]; exact l1
  refine Gx.callV1 g.gd ct2 wc_L_164 iM_X6_longest se_X6_longest kC6 (sK41 (h := t1) ck1.1) dL_law_1310 rfl (Nat.le_of_ble_eq_true rfl) rfl (Nat.le_of_ble_eq_true rfl) ?_ (rm9 ck2)
  refine Gx.pop2 g.gd dL_law_1313 rfl ?_
  refine Gx.goto (tgt := 1370) g.gd dL_law_1314 rfl ?_
  exact nx _ ck2 mi2 k2 l2 ti2 tj2 tl2
theorem cs_33 {Ln : Nat} {xs : Nat → Int32} {G : Nat → List mV → List mV → mH → Prop} (g : Gl Ln xs room_1 G) (hLn : Ln ≤ 3072) {i : Int} (i0 : 0 ≤ i) (i6 : i + 6 ≤ (Ln : Int)) {h : mH} {n : Nat} (ck : CK h ((n : Int) + 1)) (mi : MI h) (k73 : hK h 73 = 11) (l73 : hL h 73 = 1) (ti : TI h) (tj : TJ h) (tl : TLE h) (nx : ∀ h', CK h' (n : Int) → MI h' → hK h' 73 = 11 → hL h' 73 = 1 → TI h' → TJ h' → TLE h' → G 1370 (Lw i) [] h') : G 1317 (Lw i) [] h := by
  refine Gx.ald_n g.gd rfl dL_law_1317 ?_
  refine Gl.scr (i := i) (k := 1) g rfl i0 (by decide) (by decide) (by omega) hLn dL_law_1318 dL_law_1319 dL_law_1321 dL_law_1322 dL_law_1323 ?_
  obtain ⟨_, t1, ct1, ⟨y1, rfl⟩, ck1, kp1, cs1, kl1⟩ := kx_again h n ck (sX xs (i + 1))
  have mi1 := kp1.mi mi
  have k1 := kp1.2.2.1.trans k73
  have l1 := kp1.2.2.2.trans l73
  refine Gx.callV1 g.gd ct1 wc_L_165 iM_X5_again se_X5_again kC5 (sK0 (h := h) ck.1) dL_law_1324 rfl (Nat.le_of_ble_eq_true rfl) rfl (Nat.le_of_ble_eq_true rfl) ?_ (rm9 ck1)
  refine Gx.pop g.gd dL_law_1327 (Or.inl rfl) ?_
  refine Gx.ald_n g.gd rfl dL_law_1328 ?_
  refine Gl.scr (i := i) (k := 1) g rfl i0 (by decide) (by decide) (by omega) hLn dL_law_1329 dL_law_1330 dL_law_1332 dL_law_1333 dL_law_1334 ?_
  obtain ⟨_, t2, ct2, ⟨y2, rfl⟩, mi2, fr2⟩ := cq_magain 5 t1 ck1.1 mi1 (sX xs (i + 1))
  have ck2 := ck1.model (fr2.mono (by decide) (by decide))
  have ti2 := ti.keep kp1 cs1.cs fr2 (by decide) (by decide)
  have tj2 := tj.keep kp1 cs1 fr2 (by decide) (by decide)
  have tl2 := tl.keep ck.rx.1 kp1 kl1 fr2 (by decide) (by decide)
  have k2 : hK t2 73 = 11 := by rw [fr2.2.2.1]; exact k1
  have l2 : hL t2 73 = 1 := by rw [fr2.2.2.2.1]; exact l1
  refine Gx.callV1 g.gd ct2 wc_L_168 iM_X6_again se_X6_again kC6 (sK41 (h := t1) ck1.1) dL_law_1335 rfl (Nat.le_of_ble_eq_true rfl) rfl (Nat.le_of_ble_eq_true rfl) ?_ (rm9 ck2)
  refine Gx.pop g.gd dL_law_1338 (Or.inl rfl) ?_
  refine Gx.goto (tgt := 1370) g.gd dL_law_1339 rfl ?_
  exact nx _ ck2 mi2 k2 l2 ti2 tj2 tl2
theorem cs_34 {Ln : Nat} {xs : Nat → Int32} {G : Nat → List mV → List mV → mH → Prop} (g : Gl Ln xs room_1 G) (hLn : Ln ≤ 3072) {i : Int} (i0 : 0 ≤ i) (i6 : i + 6 ≤ (Ln : Int)) {h : mH} {n : Nat} (ck : CK h ((n : Int) + 1)) (mi : MI h) (k73 : hK h 73 = 11) (l73 : hL h 73 = 1) (ti : TI h) (tj : TJ h) (tl : TLE h) (nx : ∀ h', CK h' (n : Int) → MI h' → hK h' 73 = 11 → hL h' 73 = 1 → TI h' → TJ h' → TLE h' → G 1370 (Lw i) [] h') : G 1342 (Lw i) [] h := by
  refine Gx.ald_n g.gd rfl dL_law_1342 ?_
  refine Gl.scr (i := i) (k := 1) g rfl i0 (by decide) (by decide) (by omega) hLn dL_law_1343 dL_law_1344 dL_law_1346 dL_law_1347 dL_law_1348 ?_
  refine Gx.ald_n g.gd rfl dL_law_1349 ?_
  have hr9 := ck.rm (by omega)
  refine Gl.out g (sK0 ck.1) (sF0_8 ck.1) (sK32 ck.1) (by rw [sL32 ck.1]; exact ck.2.2.2.2.1.2) k73 l73 dL_law_1350 (by decide) ⟨by show hN h + 1 ≤ 601024; omega, by show hZ h + 6 ≤ 7293034; omega⟩ (fun y1 t1 hh => ?_)
  have fq1 := out_fq hh
  have ck1 := ck.out fq1.1 fq1.2.1 fq1.2.2
  have mi1 := mi.out ck.1.2.2.2.2 fq1.1
  have k1 : hK t1 73 = 11 := (fq1.1.2.2.1 73 (by have := ck.1.2.2.2.2; omega)).trans k73
  have l1 : hL t1 73 = 1 := (fq1.1.2.2.2.1 73 (by have := ck.1.2.2.2.2; omega)).trans l73
  have ti1 := ti.out ck.1.2.2.2.2 fq1.1
  have tj1 := tj.out ck.1.2.2.2.2 fq1.1
  have tl1 := tl.out ck.rx ck.1.2.2.2.2 fq1.1
  refine Gx.ist (i := 5) (L' := (Lw i).set 5 (0, y1)) g.gd (dSt_w dL_law_1353) (stO_set (fun u _ hu => by cases hu; exact Nat.zero_ne_one)) (show 5 < 7 by decide) rfl (by decide) ?_
  refine Gx.ald_n g.gd rfl dL_law_1355 ?_
  refine Gl.scr (i := i) (k := 1) g rfl i0 (by decide) (by decide) (by omega) hLn dL_law_1356 dL_law_1357 dL_law_1359 dL_law_1360 dL_law_1361 ?_
  obtain ⟨_, t2, ct2, ⟨y2, rfl⟩, mi2, fr2⟩ := cq_mout 8 t1 ck1.1 mi1 (sX xs (i + 1))
  have ck2 := ck1.model (fr2.mono (by decide) (by decide))
  have ti2 := ti1.mod fr2 (by decide) (by decide)
  have tj2 := tj1.mod fr2 (by decide) (by decide)
  have tl2 := tl1.mod ck1.rx.1 fr2 (by decide) (by decide)
  have k2 : hK t2 73 = 11 := by rw [fr2.2.2.1]; exact k1
  have l2 : hL t2 73 = 1 := by rw [fr2.2.2.2.1]; exact l1
  refine Gx.callV1 g.gd ct2 wc_L_174 iM_X6_out se_X6_out kC6 (sK41 (h := t1) ck1.1) dL_law_1362 rfl (Nat.le_of_ble_eq_true rfl) rfl (Nat.le_of_ble_eq_true rfl) ?_ (rm9 ck2)
  refine Gx.ist (i := 6) (L' := ((Lw i).set 5 (0, y1)).set 6 (0, y2)) g.gd (dSt_w dL_law_1365) (stO_set (fun u _ hu => by cases hu; exact Nat.zero_ne_one)) (show 6 < 7 by decide) rfl (by decide) ?_
  refine Gx.goto (tgt := 1370) g.gd dL_law_1367 rfl ?_
  refine Gd.weak (L' := Lw i) g.gd rfl (Lw_weak i _ _) ?_
  exact nx _ ck2 mi2 k2 l2 ti2 tj2 tl2
