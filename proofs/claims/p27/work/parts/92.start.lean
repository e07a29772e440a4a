theorem st_ti {t : mH} (fr : Fr [64] [] e9_177 t) : TI (nA t 11 1) := by
  obtain ⟨-, -, ef, ea, -, -, -⟩ := st_e fr
  refine ⟨⟨by rw [ef, ef]; decide +kernel, by rw [ef, ef]; decide +kernel⟩, fun i i0 i1 => ?_⟩
  have l1 : hF (nA t 11 1) (33 + 2 * i) 1 = -1 := by
    rw [ef]
    rcases (show i = 0 ∨ i = 1 ∨ i = 2 ∨ i = 3 by omega) with rfl | rfl | rfl | rfl <;> decide +kernel
  refine ⟨?_, ?_, ?_, fun k k0 k1 => ?_⟩
  · show hF (nA t 11 1) (33 + 2 * i) 0 = hA (nA t 11 1) 42 i
    rw [ef, ea 42 (by decide) (by decide)]
    rcases (show i = 0 ∨ i = 1 ∨ i = 2 ∨ i = 3 by omega) with rfl | rfl | rfl | rfl <;> decide +kernel
  · show hF (nA t 11 1) (33 + 2 * i) 1 = hA (nA t 11 1) 43 i
    rw [l1, ea 43 (by decide) (by decide)]
    rcases (show i = 0 ∨ i = 1 ∨ i = 2 ∨ i = 3 by omega) with rfl | rfl | rfl | rfl <;> decide +kernel
  · show -1 ≤ hF (nA t 11 1) (33 + 2 * i) 1 ∧ hF (nA t 11 1) (33 + 2 * i) 1 ≤ 100
    rw [l1]
    decide
  · have k2 : k < hF (nA t 11 1) (33 + 2 * i) 1 := k1
    rw [l1] at k2
    omega
set_option maxRecDepth 20000
theorem st_tj {t : mH} (fr : Fr [64] [] e9_177 t) : TJ (nA t 11 1) := by
  obtain ⟨-, -, ef, ea, -, -, -⟩ := st_e fr
  have n0 : hF (nA t 11 1) 2 1 = 0 := by
    rw [ef]
    decide +kernel
  refine ⟨⟨by rw [ef, ef]; decide +kernel, by rw [ef, ef]; decide +kernel⟩, fun k k0 k1 => ?_, fun k k0 k1 => ?_, ?_, ?_, fun k k0 k1 => ?_⟩
  · rw [n0] at k1
    omega
  · rw [n0] at k1
    omega
  · rw [ea 7 (by decide) (by decide), ea 47 (by decide) (by decide)]
    rfl
  · rw [n0, ea 49 (by decide) (by decide)]
    exact TSe.ring (fun x _ _ => rfl)
  · rw [n0] at k1
    omega
set_option maxRecDepth 512
theorem st_tl {t : mH} (fr : Fr [64] [] e9_177 t) : TLE (nA t 11 1) := by
  obtain ⟨-, -, ef, ea, -, -, -⟩ := st_e fr
  have n0 : hF (nA t 11 1) 0 7 = 0 := by
    rw [ef]
    decide +kernel
  have n4 : hF (nA t 11 1) 17 4 = 0 := by
    rw [ef]
    decide +kernel
  refine ⟨⟨by rw [ef, ef]; decide +kernel, fun k k0 k1 => ?_⟩, ⟨by rw [ef, ef]; decide +kernel, fun k k0 k1 => ?_⟩⟩
  · rw [n0] at k1
    omega
  · rw [n4] at k1
    omega
section LLP
variable {Ln : Nat} {xs : Nat → Int32} {G : Nat → List mV → List mV → mH → Prop}
theorem law_loop (g : Gl Ln xs room_1 G) (hLn : Ln ≤ 3072) (hend : ∀ (L : List mV) (h : mH) (n : Nat), CK h (n : Int) → G 1377 L [(0, 1)] h) : ∀ (n : Nat) (h : mH) (i : Int), i = 6 * (512 - (n : Int)) → n ≤ 512 → CK h (n : Int) → MI h → hK h 73 = 11 → hL h 73 = 1 → TI h → TJ h → TLE h → G 23 (Lw i) [] h := by
  have head : ∀ (n : Nat) (h : mH) (i : Int), 0 ≤ i → i ≤ 3072 → CK h (n : Int) → (i + 6 ≤ (Ln : Int) → G 33 (Lw i) [] h) → G 23 (Lw i) [] h := by
    intro n h i i0 i1 ck rest
    refine Gx.ild g.gd rfl dL_law_23 ?_
    refine Gl.slen g hLn dL_law_25 dL_law_26 ?_
    refine Gx.bipush g.gd dL_law_27 (by decide) ?_
    refine Gx.isub g.gd dL_law_29 ?_
    refine Gx.icgt (tgt := 1376) g.gd dL_law_30 rfl (fun _ => ?_) (fun c1 => ?_)
    · refine Gx.iconst g.gd dL_law_1376 (by decide) ?_
      exact hend _ _ n ck
    · rw [w32_of (by omega) (by omega)] at c1
      exact rest (by omega)
  intro n
  induction n with
  | zero =>
    intro h i ei _ ck mi k73 l73 ti tj tl
    exact head 0 h i (by omega) (by omega) ck (fun z => by omega)
  | succ n ih =>
    intro h i ei hn ck mi k73 l73 ti tj tl
    refine head (n + 1) h i (by omega) (by omega) ck (fun i6 => ?_)
    have i0 : 0 ≤ i := by omega
    have ck1 : CK h ((n : Int) + 1) := by
      have e : ((n + 1 : Nat) : Int) = (n : Int) + 1 := by omega
      rw [e] at ck
      exact ck
    have nx : ∀ h', CK h' (n : Int) → MI h' → hK h' 73 = 11 → hL h' 73 = 1 → TI h' → TJ h' → TLE h' → G 1370 (Lw i) [] h' := by
      intro h' ck' mi' k' l' ti' tj' tl'
      have ei' : w32 (i + 6) = 6 * (512 - (n : Int)) := by rw [w32_of (by omega) (by omega)]; omega
      refine Gx.iinc (i := 4) (L' := Lw (6 * (512 - (n : Int)))) g.gd rfl dL_law_1370 (stO_set (L := Lw i) (i := 4) (v := (0, 6 * (512 - (n : Int)))) (fun u _ hu => by cases hu; decide)) (by rw [ei']; rfl) (by decide) ?_
      refine Gx.goto (tgt := 23) g.gd dL_law_1373 rfl ?_
      exact ih h' _ rfl (by omega) ck' mi' k' l' ti' tj' tl'
    refine Gl.scr0 g rfl i0 (by omega) dL_law_33 dL_law_34 dL_law_36 ?_
    refine Gx.bipush g.gd dL_law_37 (by decide) ?_
    refine Gx.iand g.gd dL_law_39 ?_
    generalize kand (sX xs i) 63 = v
    by_cases hv : v < 0 ∨ 34 < v
    · refine Gx.tabOut (tgt := 1370) g.gd dL_law_40 hv rfl ?_
      exact nx h (ck1.stat Fr.rf).1 mi k73 l73 ti tj tl
    · rcases (show v = 0 ∨ v = 1 ∨ v = 2 ∨ v = 3 ∨ v = 4 ∨ v = 5 ∨ v = 6 ∨ v = 7 ∨ v = 8 ∨ v = 9 ∨ v = 10 ∨ v = 11 ∨ v = 12 ∨ v = 13 ∨ v = 14 ∨ v = 15 ∨ v = 16 ∨ v = 17 ∨ v = 18 ∨ v = 19 ∨ v = 20 ∨ v = 21 ∨ v = 22 ∨ v = 23 ∨ v = 24 ∨ v = 25 ∨ v = 26 ∨ v = 27 ∨ v = 28 ∨ v = 29 ∨ v = 30 ∨ v = 31 ∨ v = 32 ∨ v = 33 ∨ v = 34 by omega) with rfl | rfl | rfl | rfl | rfl | rfl | rfl | rfl | rfl | rfl | rfl | rfl | rfl | rfl | rfl | rfl | rfl | rfl | rfl | rfl | rfl | rfl | rfl | rfl | rfl | rfl | rfl | rfl | rfl | rfl | rfl | rfl | rfl | rfl | rfl
      · exact Gx.tabIn (tgt := 196) g.gd dL_law_40 (by decide) (by decide) rfl rfl (cs_0 g hLn i0 i6 ck1 mi k73 l73 ti tj tl nx)
      · exact Gx.tabIn (tgt := 209) g.gd dL_law_40 (by decide) (by decide) rfl rfl (cs_1 g hLn i0 i6 ck1 mi k73 l73 ti tj tl nx)
      · exact Gx.tabIn (tgt := 258) g.gd dL_law_40 (by decide) (by decide) rfl rfl (cs_2 g hLn i0 i6 ck1 mi k73 l73 ti tj tl nx)
      · exact Gx.tabIn (tgt := 339) g.gd dL_law_40 (by decide) (by decide) rfl rfl (cs_3 g hLn i0 i6 ck1 mi k73 l73 ti tj tl nx)
      · exact Gx.tabIn (tgt := 376) g.gd dL_law_40 (by decide) (by decide) rfl rfl (cs_4 g hLn i0 i6 ck1 mi k73 l73 ti tj tl nx)
      · exact Gx.tabIn (tgt := 449) g.gd dL_law_40 (by decide) (by decide) rfl rfl (cs_5 g hLn i0 i6 ck1 mi k73 l73 ti tj tl nx)
      · exact Gx.tabIn (tgt := 474) g.gd dL_law_40 (by decide) (by decide) rfl rfl (cs_6 g hLn i0 i6 ck1 mi k73 l73 ti tj tl nx)
      · exact Gx.tabIn (tgt := 511) g.gd dL_law_40 (by decide) (by decide) rfl rfl (cs_7 g hLn i0 i6 ck1 mi k73 l73 ti tj tl nx)
      · exact Gx.tabIn (tgt := 548) g.gd dL_law_40 (by decide) (by decide) rfl rfl (cs_8 g hLn i0 i6 ck1 mi k73 l73 ti tj tl nx)
      · exact Gx.tabIn (tgt := 585) g.gd dL_law_40 (by decide) (by decide) rfl rfl (cs_9 g hLn i0 i6 ck1 mi k73 l73 ti tj tl nx)
      · exact Gx.tabIn (tgt := 610) g.gd dL_law_40 (by decide) (by decide) rfl rfl (cs_10 g hLn i0 i6 ck1 mi k73 l73 ti tj tl nx)
      · exact Gx.tabIn (tgt := 675) g.gd dL_law_40 (by decide) (by decide) rfl rfl (cs_11 g hLn i0 i6 ck1 mi k73 l73 ti tj tl nx)
      · exact Gx.tabIn (tgt := 700) g.gd dL_law_40 (by decide) (by decide) rfl rfl (cs_12 g hLn i0 i6 ck1 mi k73 l73 ti tj tl nx)
      · exact Gx.tabIn (tgt := 737) g.gd dL_law_40 (by decide) (by decide) rfl rfl (cs_13 g hLn i0 i6 ck1 mi k73 l73 ti tj tl nx)
      · exact Gx.tabIn (tgt := 750) g.gd dL_law_40 (by decide) (by decide) rfl rfl (cs_14 g hLn i0 i6 ck1 mi k73 l73 ti tj tl nx)
      · exact Gx.tabIn (tgt := 775) g.gd dL_law_40 (by decide) (by decide) rfl rfl (cs_15 g hLn i0 i6 ck1 mi k73 l73 ti tj tl nx)
      · exact Gx.tabIn (tgt := 800) g.gd dL_law_40 (by decide) (by decide) rfl rfl (cs_16 g hLn i0 i6 ck1 mi k73 l73 ti tj tl nx)
      · exact Gx.tabIn (tgt := 837) g.gd dL_law_40 (by decide) (by decide) rfl rfl (cs_17 g hLn i0 i6 ck1 mi k73 l73 ti tj tl nx)
      · exact Gx.tabIn (tgt := 862) g.gd dL_law_40 (by decide) (by decide) rfl rfl (cs_18 g hLn i0 i6 ck1 mi k73 l73 ti tj tl nx)
      · exact Gx.tabIn (tgt := 887) g.gd dL_law_40 (by decide) (by decide) rfl rfl (cs_19 g hLn i0 i6 ck1 mi k73 l73 ti tj tl nx)
      · exact Gx.tabIn (tgt := 912) g.gd dL_law_40 (by decide) (by decide) rfl rfl (cs_20 g hLn i0 i6 ck1 mi k73 l73 ti tj tl nx)
      · exact Gx.tabIn (tgt := 937) g.gd dL_law_40 (by decide) (by decide) rfl rfl (cs_21 g hLn i0 i6 ck1 mi k73 l73 ti tj tl nx)
      · exact Gx.tabIn (tgt := 950) g.gd dL_law_40 (by decide) (by decide) rfl rfl (cs_22 g hLn i0 i6 ck1 mi k73 l73 ti tj tl nx)
      · exact Gx.tabIn (tgt := 987) g.gd dL_law_40 (by decide) (by decide) rfl rfl (cs_23 g hLn i0 i6 ck1 mi k73 l73 ti tj tl nx)
      · exact Gx.tabIn (tgt := 1012) g.gd dL_law_40 (by decide) (by decide) rfl rfl (cs_24 g hLn i0 i6 ck1 mi k73 l73 ti tj tl nx)
      · exact Gx.tabIn (tgt := 1025) g.gd dL_law_40 (by decide) (by decide) rfl rfl (cs_25 g hLn i0 i6 ck1 mi k73 l73 ti tj tl nx)
      · exact Gx.tabIn (tgt := 1050) g.gd dL_law_40 (by decide) (by decide) rfl rfl (cs_26 g hLn i0 i6 ck1 mi k73 l73 ti tj tl nx)
      · exact Gx.tabIn (tgt := 1075) g.gd dL_law_40 (by decide) (by decide) rfl rfl (cs_27 g hLn i0 i6 ck1 mi k73 l73 ti tj tl nx)
      · exact Gx.tabIn (tgt := 1124) g.gd dL_law_40 (by decide) (by decide) rfl rfl (cs_28 g hLn i0 i6 ck1 mi k73 l73 ti tj tl nx)
      · exact Gx.tabIn (tgt := 1161) g.gd dL_law_40 (by decide) (by decide) rfl rfl (cs_29 g hLn i0 i6 ck1 mi k73 l73 ti tj tl nx)
      · exact Gx.tabIn (tgt := 1186) g.gd dL_law_40 (by decide) (by decide) rfl rfl (cs_30 g hLn i0 i6 ck1 mi k73 l73 ti tj tl nx)
      · exact Gx.tabIn (tgt := 1199) g.gd dL_law_40 (by decide) (by decide) rfl rfl (cs_31 g hLn i0 i6 ck1 mi k73 l73 ti tj tl nx)
      · exact Gx.tabIn (tgt := 1280) g.gd dL_law_40 (by decide) (by decide) rfl rfl (cs_32 g hLn i0 i6 ck1 mi k73 l73 ti tj tl nx)
      · exact Gx.tabIn (tgt := 1317) g.gd dL_law_40 (by decide) (by decide) rfl rfl (cs_33 g hLn i0 i6 ck1 mi k73 l73 ti tj tl nx)
      · exact Gx.tabIn (tgt := 1342) g.gd dL_law_40 (by decide) (by decide) rfl rfl (cs_34 g hLn i0 i6 ck1 mi k73 l73 ti tj tl nx)
theorem Gx.newOA {M : mM} {d pc : Nat} {L S : List mV} {h h0 h2 : mH} {R : Room} (g : Gd M d h0 R G) {a : Int} {c ix N : Nat} {C : String} {T : u_T} (ha : ((hN h : Nat) : Int) = a) (e : nO h c = h2) (hc : kC c C T N) (hw : Cond.classLink M.1.cls ix C ∈ tW) (hd : decode M.2.1 pc = .ok (.new ix, 3)) (k0 : G (pc + 3) L ((2, a) :: S) h2) (rm : hN h2 - hN h0 ≤ R.cells ∧ hZ h2 - hZ h0 ≤ R.slots) : G pc L S h := by
  subst ha; subst e; exact Gx.new g hc hw hd k0 rm
theorem Gx.newJA {M : mM} {d pc : Nat} {L S : List mV} {h h0 : mH} {R : Room} (g : Gd M d h0 R G) {n a : Int} (ha : ((hN h : Nat) : Int) = a) (hw : Cond.arrayClass .long ∈ tW) (hd : decode M.2.1 pc = .ok (.newarray .long, 2)) (h1 : 0 ≤ n) (h3 : n ≤ 1000000) (k0 : G (pc + 2) L ((2, a) :: S) (nA h 11 n)) (rm : hN (nA h 11 n) - hN h0 ≤ R.cells ∧ hZ (nA h 11 n) - hZ h0 ≤ R.slots) : G pc L ((0, n) :: S) h := by
  subst ha; exact Gx.newJ g hw hd h1 h3 k0 rm
theorem law_start (g : Gl Ln xs room_1 G) (hLn : Ln ≤ 3072) (hend : ∀ (L : List mV) (h : mH) (n : Nat), CK h (n : Int) → G 1377 L [(0, 1)] h) : G 0 [(9, 0), (9, 0), (9, 0), (9, 0), (9, 0), (9, 0), (9, 0)] [] e9_0 := by
  obtain ⟨_, t, ct, rfl, fr, h64⟩ := cti_X6
  obtain ⟨ek, el, -, -, -, en, ez⟩ := st_e fr
  have hn : hN t = 73 := by rw [fr.1]; decide +kernel
  have hz : hZ t = 168279 := by rw [fr.2.1]; decide +kernel
  refine Gx.newOA (h2 := e9_1) (a := 0) g.gd (by decide +kernel) rfl kC5 lc_L_8 dL_law_0 ?_ (by decide +kernel)
  refine Gx.dup g.gd dL_law_3 (Or.inr rfl) ?_
  refine Gx.callI (h1 := e9_107) g.gd cti_X5 wc_L_15 rfl iM_X5_init rfl (c := 5) (by decide +kernel) (by decide) dL_law_4 rfl (Nat.le_of_ble_eq_true rfl) rfl (Nat.le_of_ble_eq_true rfl) ?_ (by decide +kernel)
  refine Gx.ast (i := 1) (L' := [(9, 0), (2, 0), (9, 0), (9, 0), (9, 0), (9, 0), (9, 0)]) g.gd (dSt_n dL_law_7) (stO_set (L := [(9, 0), (9, 0), (9, 0), (9, 0), (9, 0), (9, 0), (9, 0)]) (i := 1) (v := (2, 0)) (fun u _ hu => by cases hu; decide)) (by decide) rfl (by decide) ?_
  refine Gx.newOA (h2 := e9_108) (a := 41) g.gd (by decide +kernel) rfl kC6 lc_L_16 dL_law_8 ?_ (by decide +kernel)
  refine Gx.dup g.gd dL_law_11 (Or.inr rfl) ?_
  refine Gx.callI (h1 := t) g.gd ct wc_L_18 rfl iM_X6_init rfl (c := 6) (by decide +kernel) (by decide) dL_law_12 rfl (Nat.le_of_ble_eq_true rfl) rfl (Nat.le_of_ble_eq_true rfl) ?_ ⟨by rw [hn]; decide +kernel, by rw [hz]; decide +kernel⟩
  refine Gx.ast (i := 2) (L' := [(9, 0), (2, 0), (2, 41), (9, 0), (9, 0), (9, 0), (9, 0)]) g.gd (dSt_n dL_law_15) (stO_set (L := [(9, 0), (2, 0), (9, 0), (9, 0), (9, 0), (9, 0), (9, 0)]) (i := 2) (v := (2, 41)) (fun u _ hu => by cases hu; decide)) (by decide) rfl (by decide) ?_
  refine Gx.iconst g.gd dL_law_16 (by decide) ?_
  refine Gx.newJA (a := 73) g.gd (by rw [hn]; rfl) wT_long dL_law_17 (by decide) (by decide) ?_ ⟨by rw [en]; decide +kernel, by rw [ez]; decide +kernel⟩
  refine Gx.ast (i := 3) (L' := [(9, 0), (2, 0), (2, 41), (2, 73), (9, 0), (9, 0), (9, 0)]) g.gd (dSt_n dL_law_19) (stO_set (L := [(9, 0), (2, 0), (2, 41), (9, 0), (9, 0), (9, 0), (9, 0)]) (i := 3) (v := (2, 73)) (fun u _ hu => by cases hu; decide)) (by decide) rfl (by decide) ?_
  refine Gx.iconst g.gd dL_law_20 (by decide) ?_
  refine Gx.ist (i := 4) (L' := Lw 0) g.gd (dSt_w dL_law_21) (stO_set (L := [(9, 0), (2, 0), (2, 41), (2, 73), (9, 0), (9, 0), (9, 0)]) (i := 4) (v := (0, 0)) (fun u _ hu => by cases hu; decide)) (by decide) rfl (by decide) ?_
  exact law_loop g hLn hend 512 _ 0 (by decide) (by decide) (st_ck fr) (st_mi fr h64) (by rw [ek]; decide +kernel) (by rw [el]; decide +kernel) (st_ti fr) (st_tj fr) (st_tl fr)
end LLP
theorem start_kD {s : State} {args : Array Value} (hts : ∀ w ∈ lw_tbl, w.before args s = true) : ∃ D : mD, kD D s := by
  have ht : ∀ w ∈ tW, w.before args s = true := fun w hw => hts w (List.mem_filter.mp hw).1
  obtain ⟨c0, j0, u0⟩ := u_known ht kC0.2.2.2.1 (ht _ kC0.2.2.2.2.2.2.2.2.1)
  obtain ⟨c1, j1, u1⟩ := u_known ht kC1.2.2.2.1 (ht _ kC1.2.2.2.2.2.2.2.2.1)
  obtain ⟨c2, j2, u2⟩ := u_known ht kC2.2.2.2.1 (ht _ kC2.2.2.2.2.2.2.2.2.1)
  obtain ⟨c3, j3, u3⟩ := u_known ht kC3.2.2.2.1 (ht _ kC3.2.2.2.2.2.2.2.2.1)
  obtain ⟨c4, j4, u4⟩ := u_known ht kC4.2.2.2.1 (ht _ kC4.2.2.2.2.2.2.2.2.1)
  obtain ⟨c5, j5, u5⟩ := u_known ht kC5.2.2.2.1 (ht _ kC5.2.2.2.2.2.2.2.2.1)
  obtain ⟨c6, j6, u6⟩ := u_known ht kC6.2.2.2.1 (ht _ kC6.2.2.2.2.2.2.2.2.1)
  obtain ⟨a10, ka10, co10, f10, fk10, fc10⟩ := Cond.arrayClass_spec (ht _ wT_int)
  obtain ⟨a11, ka11, co11, f11, fk11, fc11⟩ := Cond.arrayClass_spec (ht _ wT_long)
  obtain ⟨a12, ka12, co12, f12, fk12, fc12⟩ := Cond.arrayClass_spec (ht _ wT_boolean)
  obtain ⟨a13, ka13, co13, f13, fk13, fc13⟩ := Cond.arrayClass_spec (ht _ wT_byte)
  have ao : va_AO "BeatBench$Sheet" s := va_AO.of (hts (Cond.arrayOver (.object "BeatBench$Sheet")) (List.mem_of_getElem? (i := 90) (by decide +kernel)))
  have aa : va_AOA .long s := (show va_AOA .long s from hts (Cond.arrayOver (.array .long)) (List.mem_of_getElem? (i := 204) (by decide +kernel)))
  obtain ⟨co14, a14, ka14, g1, g2, g3, g4, g5⟩ := Cond.arrayOver_spec ao
  obtain ⟨co15, a15, ka15, m1, -, m2, m3, m4⟩ := arrayOverA_spec aa
  refine ⟨(fun c => match c with | 0 => c0 | 1 => c1 | 2 => c2 | 3 => c3 | 4 => c4 | 5 => c5 | _ => c6, fun c => match c with | 0 => j0 | 1 => j1 | 2 => j2 | 3 => j3 | 4 => j4 | 5 => j5 | _ => j6, fun t => match t with | 10 => a10 | 11 => a11 | 12 => a12 | 13 => a13 | 14 => a14 | _ => a15), ⟨fun c q hq => ?_, fun k q hq => ?_⟩, ao, aa⟩
  · match c, hq with
    | 0, hq => cases hq; exact u0
    | 1, hq => cases hq; exact u1
    | 2, hq => cases hq; exact u2
    | 3, hq => cases hq; exact u3
    | 4, hq => cases hq; exact u4
    | 5, hq => cases hq; exact u5
    | 6, hq => cases hq; exact u6
    | c + 7, hq => cases hq
  · match k, hq with
    | 0, hq => cases hq; exact ⟨fun N z => ⟨(fun k h => by cases h), ka10, fk10, co10, fc10⟩, f10⟩
    | 1, hq => cases hq; exact ⟨fun N z => ⟨(fun k h => by cases h), ka11, fk11, co11, fc11⟩, f11⟩
    | 2, hq => cases hq; exact ⟨fun N z => ⟨(fun k h => by cases h), ka12, fk12, co12, fc12⟩, f12⟩
    | 3, hq => cases hq; exact ⟨fun N z => ⟨(fun k h => by cases h), ka13, fk13, co13, fc13⟩, f13⟩
    | 4, hq => cases hq; exact ⟨fun N z => ⟨(fun k h => by cases h), ka14, g3, co14, g4⟩, ka14, co14, g3, g4, g1, g5⟩
    | 5, hq => cases hq; exact ⟨fun N z => ⟨(fun k h => by cases h), ka15, m2, co15, m3⟩, m4⟩
    | k + 6, hq => cases hq
theorem start_EX {s : State} {b : Nat} (hts : ∀ w ∈ lw_tbl, w.before #[Value.ref b] s = true) (hgv : (Jvm.Cond.and given_1 narrow_1).before #[Value.ref b] s = true) : ∃ sa, EX s.heap.size sa s s.heap := by
  have hs := flat_of_before _ hgv
  have hex : (Cond.exactly (.string "BeatBench" 290) "java/lang/String").before #[Value.ref b] s = true := hs _ (by decide +kernel)
  obtain ⟨sa, c, cA, kA, q1, -⟩ := Cond.exactly_spec (args := #[Value.ref b]) (first := s) (o := none) (s := s) (idx := []) (t := .string "BeatBench" 290) (cls := "java/lang/String") hex
  have hini : (Cond.initialized Bundle.tN).before #[Value.ref b] s = true := hts _ (List.mem_of_getElem? (i := 77) (by decide +kernel))
  refine ⟨sa, vx_Zqof (hts _ (List.mem_of_getElem? (i := 857) (by decide +kernel))) hini (hs _ (by decide +kernel)) (fun a ha => Nat.not_le.mpr ha), vx_Zqof (hts _ (List.mem_of_getElem? (i := 859) (by decide +kernel))) hini (hs _ (by decide +kernel)) (fun a ha => Nat.not_le.mpr ha), vk_R.of (hts _ (List.mem_of_getElem? (i := 869) (by decide +kernel))) q1, fun w hw => va_Nw.of (oxB_on w hw) (hts w (of_decide_eq_true (List.all_eq_true.mp ox_inB w hw)))⟩
