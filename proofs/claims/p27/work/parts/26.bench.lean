/-- what holds of the bench's numbers -/
def BI (h : mH) : Prop := (2 ≤ hF h 2 0 ∧ hF h 2 0 ≤ 4096) ∧ (0 ≤ hF h 2 1 ∧ hF h 2 1 ≤ 24) ∧ (1 ≤ hF h 2 8 ∧ hF h 2 8 ≤ 16) ∧ (∀ k, 0 ≤ k → k < hF h 2 1 → 0 ≤ hA h 4 k ∧ hA h 4 k < hF h 2 0) ∧ ∀ i, 0 ≤ i → i < 16 → 0 ≤ hA h 7 i ∧ hA h 7 i ≤ 4096
theorem ct_isSet (d : Nat) (h : mH) (sh : Sh h) (s : Int) : Ct m_X0_isSet (d + 1) [(2, 2), (0, s)] h (some (0, if kand s (kxor (w32 (kshl 1 (hF h 2 1) - 1)) (-1)) = 0 then 1 else 0)) h := by
  refine Ct.of ?_
  show Wp m_X0_isSet ((d + 1)) 0 [(2, 2), (0, s)] [] h _
  refine Wp.ild_n (j := 1) rfl dX0_isSet_0 ?_
  refine Wp.ald_n (j := 0) rfl dX0_isSet_1 ?_
  refine Wp.callV1 (ct_everyone d h sh) wc_X0_55 iM_X0_everyone se_X0_everyone kC0 (sK2 (h := h) sh) dX0_isSet_2 rfl (Nat.le_of_ble_eq_true rfl) rfl (Nat.le_of_ble_eq_true rfl) ?_
  refine Wp.iconst dX0_isSet_5 (by decide) ?_
  refine Wp.ixor dX0_isSet_6 ?_
  refine Wp.iand dX0_isSet_7 ?_
  refine Wp.ifne dX0_isSet_8 (by decide) (tgt := 15) (fun c8 => ?_) (fun c8 => ?_)
  · refine Wp.iconst dX0_isSet_15 (by decide) ?_
    refine Wp.zret rfl dX0_isSet_16 (by omega) ?_
    refine ⟨?_, rfl⟩
    first | rw [if_pos (by omega)] | rw [if_neg (by omega)]
  · refine Wp.iconst dX0_isSet_11 (by decide) ?_
    refine Wp.goto (tgt := 16) dX0_isSet_12 (by decide) ?_
    refine Wp.zret rfl dX0_isSet_16 (by omega) ?_
    refine ⟨?_, rfl⟩
    first | rw [if_pos (by omega)] | rw [if_neg (by omega)]

theorem ct_bempty (d : Nat) (h : mH) (sh : Sh h) (p : Int) : Ct m_X0_empty d [(2, 2), (0, p)] h none (sF (sF h 2 0 p) 2 1 0) := by
  refine Ct.of ?_
  show Wp m_X0_empty (d) 0 [(2, 2), (0, p)] [] h _
  refine Wp.ald_n (j := 0) rfl dX0_empty_0 ?_
  refine Wp.ild_n (j := 1) rfl dX0_empty_1 ?_
  refine Wp.putf (k := 0) (tg := 0) kC0 (by decide) rfl rfl lf_X0_9 dX0_empty_2 (sK2 (h := h) sh) ?_
  refine Wp.ald_n (j := 0) rfl dX0_empty_5 ?_
  refine Wp.iconst dX0_empty_6 (by decide) ?_
  refine Wp.putf (k := 1) (tg := 0) kC0 (by decide) rfl rfl lf_X0_15 dX0_empty_7 (sK2 (h := h) sh) ?_
  refine Wp.vret rfl dX0_empty_10 ?_
  exact ⟨rfl, rfl⟩

theorem ct_add (d : Nat) (h : mH) (sh : Sh h) (k p : Int) (h0 : 0 ≤ hF h 2 1) (h1 : hF h 2 1 < 24) : Ct m_X0_add d [(2, 2), (0, k), (0, p)] h (some (0, hF h 2 1)) (sF (sE (sE (sE (sE h 3 (hF h 2 1) k) 4 (hF h 2 1) p) 5 (hF h 2 1) 0) 6 (hF h 2 1) 0) 2 1 (hF h 2 1 + 1)) := by
  refine Ct.of ?_
  show Wp m_X0_add (d) 0 [(2, 2), (0, k), (0, p)] [] h _
  refine Wp.ald_n (j := 0) rfl dX0_add_0 ?_
  refine Wp.getf (k := 1) (tg := 0) kC0 (by decide) rfl lf_X0_15 dX0_add_1 (sK2 (h := h) sh) (show hF _ 2 1 = hF h 2 1 from rfl) ?_
  refine Wp.bipush dX0_add_4 (by decide) ?_
  refine Wp.iclt dX0_add_6 (by decide) (tgt := 11) (fun _ => ?_) (fun c6 => absurd c6 (by omega))
  refine Wp.ald_n (j := 0) rfl dX0_add_11 ?_
  refine Wp.getf (k := 3) (tg := 2) kC0 (by decide) rfl lf_X0_21 dX0_add_12 (sK2 (h := h) sh) (sF2_3 (h := h) sh) ?_
  refine Wp.ald_n (j := 0) rfl dX0_add_15 ?_
  refine Wp.getf (k := 1) (tg := 0) kC0 (by decide) rfl lf_X0_15 dX0_add_16 (sK2 (h := h) sh) (show hF _ 2 1 = hF h 2 1 from rfl) ?_
  refine Wp.ild_n (j := 1) rfl dX0_add_19 ?_
  refine Wp.iastore dX0_add_20 (sK3 (h := h) sh) (by omega) (ilt (sL3 (h := h) sh) (by omega)) ?_
  refine Wp.ald_n (j := 0) rfl dX0_add_21 ?_
  refine Wp.getf (k := 4) (tg := 2) kC0 (by decide) rfl lf_X0_25 dX0_add_22 (sK2 (h := h) sh) (sF2_4 (h := h) sh) ?_
  refine Wp.ald_n (j := 0) rfl dX0_add_25 ?_
  refine Wp.getf (k := 1) (tg := 0) kC0 (by decide) rfl lf_X0_15 dX0_add_26 (sK2 (h := h) sh) (show hF _ 2 1 = hF h 2 1 from rfl) ?_
  refine Wp.ild_n (j := 2) rfl dX0_add_29 ?_
  refine Wp.iastore dX0_add_30 (sK4 (h := h) sh) (by omega) (ilt (sL4 (h := h) sh) (by omega)) ?_
  refine Wp.ald_n (j := 0) rfl dX0_add_31 ?_
  refine Wp.getf (k := 5) (tg := 2) kC0 (by decide) rfl lf_X0_28 dX0_add_32 (sK2 (h := h) sh) (sF2_5 (h := h) sh) ?_
  refine Wp.ald_n (j := 0) rfl dX0_add_35 ?_
  refine Wp.getf (k := 1) (tg := 0) kC0 (by decide) rfl lf_X0_15 dX0_add_36 (sK2 (h := h) sh) (show hF _ 2 1 = hF h 2 1 from rfl) ?_
  refine Wp.iconst dX0_add_39 (by decide) ?_
  refine Wp.iastore dX0_add_40 (sK5 (h := h) sh) (by omega) (ilt (sL5 (h := h) sh) (by omega)) ?_
  refine Wp.ald_n (j := 0) rfl dX0_add_41 ?_
  refine Wp.getf (k := 6) (tg := 2) kC0 (by decide) rfl lf_X0_31 dX0_add_42 (sK2 (h := h) sh) (sF2_6 (h := h) sh) ?_
  refine Wp.ald_n (j := 0) rfl dX0_add_45 ?_
  refine Wp.getf (k := 1) (tg := 0) kC0 (by decide) rfl lf_X0_15 dX0_add_46 (sK2 (h := h) sh) (show hF _ 2 1 = hF h 2 1 from rfl) ?_
  refine Wp.iconst dX0_add_49 (by decide) ?_
  refine Wp.iastore dX0_add_50 (sK6 (h := h) sh) (by omega) (ilt (sL6 (h := h) sh) (by omega)) ?_
  refine Wp.ald_n (j := 0) rfl dX0_add_51 ?_
  refine Wp.dup dX0_add_52 (Or.inr rfl) ?_
  refine Wp.getf (k := 1) (tg := 0) kC0 (by decide) rfl lf_X0_15 dX0_add_53 (sK2 (h := h) sh) (show hF _ 2 1 = hF h 2 1 from rfl) ?_
  refine Wp.iconst dX0_add_56 (by decide) ?_
  refine Wp.iaddE dX0_add_57 (by first | exact w32_of (by omega) (by omega) | rfl) ?_
  refine Wp.putf (k := 1) (tg := 0) kC0 (by decide) rfl rfl lf_X0_15 dX0_add_58 (sK2 (h := h) sh) ?_
  refine Wp.ald_n (j := 0) rfl dX0_add_61 ?_
  refine Wp.getf (k := 1) (tg := 0) kC0 (by decide) rfl lf_X0_15 dX0_add_62 (sK2 (h := h) sh) (show hF _ 2 1 = hF h 2 1 + 1 from rfl) ?_
  refine Wp.iconst dX0_add_65 (by decide) ?_
  refine Wp.isubE dX0_add_66 (show w32 (hF h 2 1 + 1 - 1) = hF h 2 1 by rw [w32_of (by omega) (by omega)]; omega) ?_
  refine Wp.iret rfl dX0_add_67 ?_
  exact ⟨rfl, rfl⟩

theorem ct_setRoad (d : Nat) (h : mH) (sh : Sh h) (a b on : Int) (h0 : 0 ≤ a) (h1 : a < 24) : Ct m_X0_setRoad d [(2, 2), (0, a), (0, b), (0, on)] h none (sE h 6 a (if on = 0 then kand (hA h 6 a) (kxor (kshl 1 b) (-1)) else kor (hA h 6 a) (kshl 1 b))) := by
  refine Ct.of ?_
  show Wp m_X0_setRoad (d) 0 [(2, 2), (0, a), (0, b), (0, on)] [] h _
  refine Wp.ald_n (j := 0) rfl dX0_setRoad_0 ?_
  refine Wp.getf (k := 6) (tg := 2) kC0 (by decide) rfl lf_X0_31 dX0_setRoad_1 (sK2 (h := h) sh) (sF2_6 (h := h) sh) ?_
  refine Wp.ild_n (j := 1) rfl dX0_setRoad_4 ?_
  refine Wp.ild_n (j := 3) rfl dX0_setRoad_5 ?_
  refine Wp.ifeq dX0_setRoad_6 (by decide) (tgt := 22) (fun c6 => ?_) (fun c6 => ?_)
  · refine Wp.ald_n (j := 0) rfl dX0_setRoad_22 ?_
    refine Wp.getf (k := 6) (tg := 2) kC0 (by decide) rfl lf_X0_31 dX0_setRoad_23 (sK2 (h := h) sh) (sF2_6 (h := h) sh) ?_
    refine Wp.ild_n (j := 1) rfl dX0_setRoad_26 ?_
    refine Wp.iaload dX0_setRoad_27 (sK6 (h := h) sh) (by omega) (ilt (sL6 (h := h) sh) (by omega)) (show hA _ 6 _ = hA h 6 _ from rfl) ?_
    refine Wp.iconst dX0_setRoad_28 (by decide) ?_
    refine Wp.ild_n (j := 2) rfl dX0_setRoad_29 ?_
    refine Wp.ishl dX0_setRoad_30 ?_
    refine Wp.iconst dX0_setRoad_31 (by decide) ?_
    refine Wp.ixor dX0_setRoad_32 ?_
    refine Wp.iand dX0_setRoad_33 ?_
    refine Wp.iastore dX0_setRoad_34 (sK6 (h := h) sh) (by omega) (ilt (sL6 (h := h) sh) (by omega)) ?_
    refine Wp.vret rfl dX0_setRoad_35 ?_
    refine ⟨rfl, ?_⟩
    first | rw [if_pos c6] | rw [if_neg c6]
  · refine Wp.ald_n (j := 0) rfl dX0_setRoad_9 ?_
    refine Wp.getf (k := 6) (tg := 2) kC0 (by decide) rfl lf_X0_31 dX0_setRoad_10 (sK2 (h := h) sh) (sF2_6 (h := h) sh) ?_
    refine Wp.ild_n (j := 1) rfl dX0_setRoad_13 ?_
    refine Wp.iaload dX0_setRoad_14 (sK6 (h := h) sh) (by omega) (ilt (sL6 (h := h) sh) (by omega)) (show hA _ 6 _ = hA h 6 _ from rfl) ?_
    refine Wp.iconst dX0_setRoad_15 (by decide) ?_
    refine Wp.ild_n (j := 2) rfl dX0_setRoad_16 ?_
    refine Wp.ishl dX0_setRoad_17 ?_
    refine Wp.ior dX0_setRoad_18 ?_
    refine Wp.goto (tgt := 34) dX0_setRoad_19 (by decide) ?_
    refine Wp.iastore dX0_setRoad_34 (sK6 (h := h) sh) (by omega) (ilt (sL6 (h := h) sh) (by omega)) ?_
    refine Wp.vret rfl dX0_setRoad_35 ?_
    refine ⟨rfl, ?_⟩
    first | rw [if_pos c6] | rw [if_neg c6]

/-- what roads(..) lays for beater j -/
def rdF (what n j : Int) : Int := if what = 1 then kand (w32 (kshl 1 n - 1)) (kxor (kshl 1 j) (-1)) else if what = 2 then kshl 1 (if j = 0 then n - 1 else j - 1) else if what = 3 then kor (kshl 1 (if j = 0 then n - 1 else j - 1)) (kshl 1 (if j = n - 1 then 0 else j + 1)) else 0
/-- a row whose first i places hold what g tells -/
def gF (g f : Int → Int) (i : Int) : Int → Int := fun j => if 0 ≤ j ∧ j < i then g j else f j
theorem gF_0 {g f : Int → Int} : gF g f 0 = f := by
  funext j
  unfold gF
  rw [if_neg (by omega)]
theorem gF_s {g f : Int → Int} {i v : Int} (hi : 0 ≤ i) (hv : v = g i) : u1 (gF g f i) i v = gF g f (i + 1) := by
  subst hv
  funext j
  unfold u1 gF
  by_cases hj : j = i
  · rw [if_pos hj, if_pos (by omega), hj]
  · rw [if_neg hj]
    by_cases hk : 0 ≤ j ∧ j < i
    · rw [if_pos hk, if_pos (by omega)]
    · rw [if_neg hk, if_neg (by omega)]
theorem roads_loop (d : Nat) (h : mH) (sh : Sh h) (what : Int) (hn : hF h 2 1 ≤ 24) : ∀ (m : Nat) (i : Int) (x3 x4 : mV), (hF h 2 1 - i).toNat < m → ((x3.1 == 1) = false) → (0 ≤ i) → (i ≤ hF h 2 1) → Wp m_X0_setRoads (d + 1) 2 [(2, 2), (0, what), (0, i), x3, x4] [] (sA h 6 (gF (rdF what (hF h 2 1)) (hA h 6) i)) (fun r t => r = none ∧ t = sA h 6 (gF (rdF what (hF h 2 1)) (hA h 6) (hF h 2 1))) := by
  intro m
  induction m with
  | zero => intro i x3 x4 hm; exact absurd hm (Nat.not_lt_zero _)
  | succ m ih =>
    intro i x3 x4 hm t3 h0 h1
    refine Wp.ild_n (j := 2) rfl dX0_setRoads_2 ?_
    refine Wp.ald_n (j := 0) rfl dX0_setRoads_3 ?_
    refine Wp.getf (k := 1) (tg := 0) kC0 (by decide) rfl lf_X0_15 dX0_setRoads_4 (sK2 (h := h) sh) (show hF _ 2 1 = hF h 2 1 from rfl) ?_
    refine Wp.icge dX0_setRoads_7 (by decide) (tgt := 131) (fun c7 => ?_) (fun c7 => ?_)
    · refine Wp.vret rfl dX0_setRoads_131 ?_
      have : i = hF h 2 1 := by omega
      rw [this]
      exact ⟨rfl, rfl⟩
    · refine Wp.iconst dX0_setRoads_10 (by decide) ?_
      refine Wp.ild_n (j := 2) rfl dX0_setRoads_11 ?_
      refine Wp.ifne dX0_setRoads_12 (by decide) (tgt := 24) (fun c12 => ?_) (fun c12 => ?_)
      · refine Wp.ild_n (j := 2) rfl dX0_setRoads_24 ?_
        refine Wp.iconst dX0_setRoads_25 (by decide) ?_
        refine Wp.isubE dX0_setRoads_26 (by first | exact w32_of (by omega) (by omega) | rfl) ?_
        refine Wp.ishl dX0_setRoads_27 ?_
        refine sti_5_3 rfl (dSt_n dX0_setRoads_28) ?_
        refine Wp.iconst dX0_setRoads_29 (by decide) ?_
        refine Wp.ild_n (j := 2) rfl dX0_setRoads_30 ?_
        refine Wp.ald_n (j := 0) rfl dX0_setRoads_31 ?_
        refine Wp.getf (k := 1) (tg := 0) kC0 (by decide) rfl lf_X0_15 dX0_setRoads_32 (sK2 (h := h) sh) (show hF _ 2 1 = hF h 2 1 from rfl) ?_
        refine Wp.iconst dX0_setRoads_35 (by decide) ?_
        refine Wp.isubE dX0_setRoads_36 (by first | exact w32_of (by omega) (by omega) | rfl) ?_
        refine Wp.icne dX0_setRoads_37 (by decide) (tgt := 44) (fun c37 => ?_) (fun c37 => ?_)
        · refine Wp.ild_n (j := 2) rfl dX0_setRoads_44 ?_
          refine Wp.iconst dX0_setRoads_45 (by decide) ?_
          refine Wp.iaddE dX0_setRoads_46 (by first | exact w32_of (by omega) (by omega) | rfl) ?_
          refine Wp.ishl dX0_setRoads_47 ?_
          refine sti_5_4 rfl (dSt_w dX0_setRoads_48) ?_
          refine Wp.ild_n (j := 1) rfl dX0_setRoads_50 ?_
          rcases (show what = 1 ∨ what = 2 ∨ what = 3 ∨ (what < 1 ∨ 3 < what) by omega) with c51 | c51 | c51 | c51
          · refine Wp.tabIn (tgt := 76) dX0_setRoads_51 (by omega) (by omega) (by rw [c51]; rfl) (by decide) ?_
            refine Wp.ald_n (j := 0) rfl dX0_setRoads_76 ?_
            refine Wp.getf (k := 6) (tg := 2) kC0 (by decide) rfl lf_X0_31 dX0_setRoads_77 (sK2 (h := h) sh) (sF2_6 (h := h) sh) ?_
            refine Wp.ild_n (j := 2) rfl dX0_setRoads_80 ?_
            refine Wp.ald_n (j := 0) rfl dX0_setRoads_81 ?_
            refine Wp.callV1 (show Ct m_X0_everyone d [(2, 2)] (sA h 6 (gF (rdF what (hF h 2 1)) (hA h 6) i)) (some (0, w32 (kshl 1 (hF h 2 1) - 1))) (sA h 6 (gF (rdF what (hF h 2 1)) (hA h 6) i)) from ct_everyone d (sA h 6 (gF (rdF what (hF h 2 1)) (hA h 6) i)) sh) wc_X0_55 iM_X0_everyone se_X0_everyone kC0 (sK2 (h := h) sh) dX0_setRoads_82 rfl (Nat.le_of_ble_eq_true rfl) rfl (Nat.le_of_ble_eq_true rfl) ?_
            refine Wp.iconst dX0_setRoads_85 (by decide) ?_
            refine Wp.ild_n (j := 2) rfl dX0_setRoads_86 ?_
            refine Wp.ishl dX0_setRoads_87 ?_
            refine Wp.iconst dX0_setRoads_88 (by decide) ?_
            refine Wp.ixor dX0_setRoads_89 ?_
            refine Wp.iand dX0_setRoads_90 ?_
            refine Wp.iastore dX0_setRoads_91 (sK6 (h := h) sh) (by omega) (ilt (sL6 (h := h) sh) (by omega)) ?_
            refine Wp.goto (tgt := 125) dX0_setRoads_92 (by decide) ?_
            refine inc_5_2 rfl dX0_setRoads_125 (by first | exact w32_of (by omega) (by omega) | rfl) ?_
            refine Wp.goto (tgt := 2) dX0_setRoads_128 (by decide) ?_
            have e : ∀ v, v = rdF what (hF h 2 1) i → sE (sA h 6 (gF (rdF what (hF h 2 1)) (hA h 6) i)) 6 i v = sA h 6 (gF (rdF what (hF h 2 1)) (hA h 6) (i + 1)) := by
              intro v hv
              unfold sE
              rw [sA_sA, hA_sAs, gF_s h0 hv]
            rw [e _ (by
              unfold rdF
              first | (rw [if_pos c51]; done) | (rw [if_neg (by omega), if_pos c51]; first | (rw [if_pos c12]; done) | (rw [if_neg c12]; done)) | (rw [if_neg (by omega), if_neg (by omega), if_pos c51]; first | (rw [if_pos c12, if_pos c37]; done) | (rw [if_pos c12, if_neg c37]; done) | (rw [if_neg c12, if_pos c37]; done) | (rw [if_neg c12, if_neg c37]; done)) | (rw [if_neg (by omega), if_neg (by omega), if_neg (by omega)]; done))]
            exact ih (i + 1) _ _ (by omega) rfl (by omega) (by omega)
          · refine Wp.tabIn (tgt := 95) dX0_setRoads_51 (by omega) (by omega) (by rw [c51]; rfl) (by decide) ?_
            refine Wp.ald_n (j := 0) rfl dX0_setRoads_95 ?_
            refine Wp.getf (k := 6) (tg := 2) kC0 (by decide) rfl lf_X0_31 dX0_setRoads_96 (sK2 (h := h) sh) (sF2_6 (h := h) sh) ?_
            refine Wp.ild_n (j := 2) rfl dX0_setRoads_99 ?_
            refine Wp.ild_n (j := 3) rfl dX0_setRoads_100 ?_
            refine Wp.iastore dX0_setRoads_101 (sK6 (h := h) sh) (by omega) (ilt (sL6 (h := h) sh) (by omega)) ?_
            refine Wp.goto (tgt := 125) dX0_setRoads_102 (by decide) ?_
            refine inc_5_2 rfl dX0_setRoads_125 (by first | exact w32_of (by omega) (by omega) | rfl) ?_
            refine Wp.goto (tgt := 2) dX0_setRoads_128 (by decide) ?_
            have e : ∀ v, v = rdF what (hF h 2 1) i → sE (sA h 6 (gF (rdF what (hF h 2 1)) (hA h 6) i)) 6 i v = sA h 6 (gF (rdF what (hF h 2 1)) (hA h 6) (i + 1)) := by
              intro v hv
              unfold sE
              rw [sA_sA, hA_sAs, gF_s h0 hv]
            rw [e _ (by
              unfold rdF
              first | (rw [if_pos c51]; done) | (rw [if_neg (by omega), if_pos c51]; first | (rw [if_pos c12]; done) | (rw [if_neg c12]; done)) | (rw [if_neg (by omega), if_neg (by omega), if_pos c51]; first | (rw [if_pos c12, if_pos c37]; done) | (rw [if_pos c12, if_neg c37]; done) | (rw [if_neg c12, if_pos c37]; done) | (rw [if_neg c12, if_neg c37]; done)) | (rw [if_neg (by omega), if_neg (by omega), if_neg (by omega)]; done))]
            exact ih (i + 1) _ _ (by omega) rfl (by omega) (by omega)
          · refine Wp.tabIn (tgt := 105) dX0_setRoads_51 (by omega) (by omega) (by rw [c51]; rfl) (by decide) ?_
            refine Wp.ald_n (j := 0) rfl dX0_setRoads_105 ?_
            refine Wp.getf (k := 6) (tg := 2) kC0 (by decide) rfl lf_X0_31 dX0_setRoads_106 (sK2 (h := h) sh) (sF2_6 (h := h) sh) ?_
            refine Wp.ild_n (j := 2) rfl dX0_setRoads_109 ?_
            refine Wp.ild_n (j := 3) rfl dX0_setRoads_110 ?_
            refine Wp.ild (j := 4) rfl dX0_setRoads_111 ?_
            refine Wp.ior dX0_setRoads_113 ?_
            refine Wp.iastore dX0_setRoads_114 (sK6 (h := h) sh) (by omega) (ilt (sL6 (h := h) sh) (by omega)) ?_
            refine Wp.goto (tgt := 125) dX0_setRoads_115 (by decide) ?_
            refine inc_5_2 rfl dX0_setRoads_125 (by first | exact w32_of (by omega) (by omega) | rfl) ?_
            refine Wp.goto (tgt := 2) dX0_setRoads_128 (by decide) ?_
            have e : ∀ v, v = rdF what (hF h 2 1) i → sE (sA h 6 (gF (rdF what (hF h 2 1)) (hA h 6) i)) 6 i v = sA h 6 (gF (rdF what (hF h 2 1)) (hA h 6) (i + 1)) := by
              intro v hv
              unfold sE
              rw [sA_sA, hA_sAs, gF_s h0 hv]
            rw [e _ (by
              unfold rdF
              first | (rw [if_pos c51]; done) | (rw [if_neg (by omega), if_pos c51]; first | (rw [if_pos c12]; done) | (rw [if_neg c12]; done)) | (rw [if_neg (by omega), if_neg (by omega), if_pos c51]; first | (rw [if_pos c12, if_pos c37]; done) | (rw [if_pos c12, if_neg c37]; done) | (rw [if_neg c12, if_pos c37]; done) | (rw [if_neg c12, if_neg c37]; done)) | (rw [if_neg (by omega), if_neg (by omega), if_neg (by omega)]; done))]
            exact ih (i + 1) _ _ (by omega) rfl (by omega) (by omega)
          · refine Wp.tabOut (tgt := 118) dX0_setRoads_51 c51 (by decide) ?_
            refine Wp.ald_n (j := 0) rfl dX0_setRoads_118 ?_
            refine Wp.getf (k := 6) (tg := 2) kC0 (by decide) rfl lf_X0_31 dX0_setRoads_119 (sK2 (h := h) sh) (sF2_6 (h := h) sh) ?_
            refine Wp.ild_n (j := 2) rfl dX0_setRoads_122 ?_
            refine Wp.iconst dX0_setRoads_123 (by decide) ?_
            refine Wp.iastore dX0_setRoads_124 (sK6 (h := h) sh) (by omega) (ilt (sL6 (h := h) sh) (by omega)) ?_
            refine inc_5_2 rfl dX0_setRoads_125 (by first | exact w32_of (by omega) (by omega) | rfl) ?_
            refine Wp.goto (tgt := 2) dX0_setRoads_128 (by decide) ?_
            have e : ∀ v, v = rdF what (hF h 2 1) i → sE (sA h 6 (gF (rdF what (hF h 2 1)) (hA h 6) i)) 6 i v = sA h 6 (gF (rdF what (hF h 2 1)) (hA h 6) (i + 1)) := by
              intro v hv
              unfold sE
              rw [sA_sA, hA_sAs, gF_s h0 hv]
            rw [e _ (by
              unfold rdF
              first | (rw [if_pos c51]; done) | (rw [if_neg (by omega), if_pos c51]; first | (rw [if_pos c12]; done) | (rw [if_neg c12]; done)) | (rw [if_neg (by omega), if_neg (by omega), if_pos c51]; first | (rw [if_pos c12, if_pos c37]; done) | (rw [if_pos c12, if_neg c37]; done) | (rw [if_neg c12, if_pos c37]; done) | (rw [if_neg c12, if_neg c37]; done)) | (rw [if_neg (by omega), if_neg (by omega), if_neg (by omega)]; done))]
            exact ih (i + 1) _ _ (by omega) rfl (by omega) (by omega)
        · refine Wp.iconst dX0_setRoads_40 (by decide) ?_
          refine Wp.goto (tgt := 47) dX0_setRoads_41 (by decide) ?_
          refine Wp.ishl dX0_setRoads_47 ?_
          refine sti_5_4 rfl (dSt_w dX0_setRoads_48) ?_
          refine Wp.ild_n (j := 1) rfl dX0_setRoads_50 ?_
          rcases (show what = 1 ∨ what = 2 ∨ what = 3 ∨ (what < 1 ∨ 3 < what) by omega) with c51 | c51 | c51 | c51
          · refine Wp.tabIn (tgt := 76) dX0_setRoads_51 (by omega) (by omega) (by rw [c51]; rfl) (by decide) ?_
            refine Wp.ald_n (j := 0) rfl dX0_setRoads_76 ?_
            refine Wp.getf (k := 6) (tg := 2) kC0 (by decide) rfl lf_X0_31 dX0_setRoads_77 (sK2 (h := h) sh) (sF2_6 (h := h) sh) ?_
            refine Wp.ild_n (j := 2) rfl dX0_setRoads_80 ?_
            refine Wp.ald_n (j := 0) rfl dX0_setRoads_81 ?_
            refine Wp.callV1 (show Ct m_X0_everyone d [(2, 2)] (sA h 6 (gF (rdF what (hF h 2 1)) (hA h 6) i)) (some (0, w32 (kshl 1 (hF h 2 1) - 1))) (sA h 6 (gF (rdF what (hF h 2 1)) (hA h 6) i)) from ct_everyone d (sA h 6 (gF (rdF what (hF h 2 1)) (hA h 6) i)) sh) wc_X0_55 iM_X0_everyone se_X0_everyone kC0 (sK2 (h := h) sh) dX0_setRoads_82 rfl (Nat.le_of_ble_eq_true rfl) rfl (Nat.le_of_ble_eq_true rfl) ?_
            refine Wp.iconst dX0_setRoads_85 (by decide) ?_
            refine Wp.ild_n (j := 2) rfl dX0_setRoads_86 ?_
            refine Wp.ishl dX0_setRoads_87 ?_
            refine Wp.iconst dX0_setRoads_88 (by decide) ?_
            refine Wp.ixor dX0_setRoads_89 ?_
            refine Wp.iand dX0_setRoads_90 ?_
            refine Wp.iastore dX0_setRoads_91 (sK6 (h := h) sh) (by omega) (ilt (sL6 (h := h) sh) (by omega)) ?_
            refine Wp.goto (tgt := 125) dX0_setRoads_92 (by decide) ?_
            refine inc_5_2 rfl dX0_setRoads_125 (by first | exact w32_of (by omega) (by omega) | rfl) ?_
            refine Wp.goto (tgt := 2) dX0_setRoads_128 (by decide) ?_
            have e : ∀ v, v = rdF what (hF h 2 1) i → sE (sA h 6 (gF (rdF what (hF h 2 1)) (hA h 6) i)) 6 i v = sA h 6 (gF (rdF what (hF h 2 1)) (hA h 6) (i + 1)) := by
              intro v hv
              unfold sE
              rw [sA_sA, hA_sAs, gF_s h0 hv]
            rw [e _ (by
              unfold rdF
              first | (rw [if_pos c51]; done) | (rw [if_neg (by omega), if_pos c51]; first | (rw [if_pos c12]; done) | (rw [if_neg c12]; done)) | (rw [if_neg (by omega), if_neg (by omega), if_pos c51]; first | (rw [if_pos c12, if_pos c37]; done) | (rw [if_pos c12, if_neg c37]; done) | (rw [if_neg c12, if_pos c37]; done) | (rw [if_neg c12, if_neg c37]; done)) | (rw [if_neg (by omega), if_neg (by omega), if_neg (by omega)]; done))]
            exact ih (i + 1) _ _ (by omega) rfl (by omega) (by omega)
          · refine Wp.tabIn (tgt := 95) dX0_setRoads_51 (by omega) (by omega) (by rw [c51]; rfl) (by decide) ?_
            refine Wp.ald_n (j := 0) rfl dX0_setRoads_95 ?_
            refine Wp.getf (k := 6) (tg := 2) kC0 (by decide) rfl lf_X0_31 dX0_setRoads_96 (sK2 (h := h) sh) (sF2_6 (h := h) sh) ?_
            refine Wp.ild_n (j := 2) rfl dX0_setRoads_99 ?_
            refine Wp.ild_n (j := 3) rfl dX0_setRoads_100 ?_
            refine Wp.iastore dX0_setRoads_101 (sK6 (h := h) sh) (by omega) (ilt (sL6 (h := h) sh) (by omega)) ?_
            refine Wp.goto (tgt := 125) dX0_setRoads_102 (by decide) ?_
            refine inc_5_2 rfl dX0_setRoads_125 (by first | exact w32_of (by omega) (by omega) | rfl) ?_
            refine Wp.goto (tgt := 2) dX0_setRoads_128 (by decide) ?_
            have e : ∀ v, v = rdF what (hF h 2 1) i → sE (sA h 6 (gF (rdF what (hF h 2 1)) (hA h 6) i)) 6 i v = sA h 6 (gF (rdF what (hF h 2 1)) (hA h 6) (i + 1)) := by
              intro v hv
              unfold sE
              rw [sA_sA, hA_sAs, gF_s h0 hv]
            rw [e _ (by
              unfold rdF
              first | (rw [if_pos c51]; done) | (rw [if_neg (by omega), if_pos c51]; first | (rw [if_pos c12]; done) | (rw [if_neg c12]; done)) | (rw [if_neg (by omega), if_neg (by omega), if_pos c51]; first | (rw [if_pos c12, if_pos c37]; done) | (rw [if_pos c12, if_neg c37]; done) | (rw [if_neg c12, if_pos c37]; done) | (rw [if_neg c12, if_neg c37]; done)) | (rw [if_neg (by omega), if_neg (by omega), if_neg (by omega)]; done))]
            exact ih (i + 1) _ _ (by omega) rfl (by omega) (by omega)
          · refine Wp.tabIn (tgt := 105) dX0_setRoads_51 (by omega) (by omega) (by rw [c51]; rfl) (by decide) ?_
            refine Wp.ald_n (j := 0) rfl dX0_setRoads_105 ?_
            refine Wp.getf (k := 6) (tg := 2) kC0 (by decide) rfl lf_X0_31 dX0_setRoads_106 (sK2 (h := h) sh) (sF2_6 (h := h) sh) ?_
            refine Wp.ild_n (j := 2) rfl dX0_setRoads_109 ?_
            refine Wp.ild_n (j := 3) rfl dX0_setRoads_110 ?_
            refine Wp.ild (j := 4) rfl dX0_setRoads_111 ?_
            refine Wp.ior dX0_setRoads_113 ?_
            refine Wp.iastore dX0_setRoads_114 (sK6 (h := h) sh) (by omega) (ilt (sL6 (h := h) sh) (by omega)) ?_
            refine Wp.goto (tgt := 125) dX0_setRoads_115 (by decide) ?_
            refine inc_5_2 rfl dX0_setRoads_125 (by first | exact w32_of (by omega) (by omega) | rfl) ?_
            refine Wp.goto (tgt := 2) dX0_setRoads_128 (by decide) ?_
            have e : ∀ v, v = rdF what (hF h 2 1) i → sE (sA h 6 (gF (rdF what (hF h 2 1)) (hA h 6) i)) 6 i v = sA h 6 (gF (rdF what (hF h 2 1)) (hA h 6) (i + 1)) := by
              intro v hv
              unfold sE
              rw [sA_sA, hA_sAs, gF_s h0 hv]
            rw [e _ (by
              unfold rdF
              first | (rw [if_pos c51]; done) | (rw [if_neg (by omega), if_pos c51]; first | (rw [if_pos c12]; done) | (rw [if_neg c12]; done)) | (rw [if_neg (by omega), if_neg (by omega), if_pos c51]; first | (rw [if_pos c12, if_pos c37]; done) | (rw [if_pos c12, if_neg c37]; done) | (rw [if_neg c12, if_pos c37]; done) | (rw [if_neg c12, if_neg c37]; done)) | (rw [if_neg (by omega), if_neg (by omega), if_neg (by omega)]; done))]
            exact ih (i + 1) _ _ (by omega) rfl (by omega) (by omega)
          · refine Wp.tabOut (tgt := 118) dX0_setRoads_51 c51 (by decide) ?_
            refine Wp.ald_n (j := 0) rfl dX0_setRoads_118 ?_
            refine Wp.getf (k := 6) (tg := 2) kC0 (by decide) rfl lf_X0_31 dX0_setRoads_119 (sK2 (h := h) sh) (sF2_6 (h := h) sh) ?_
            refine Wp.ild_n (j := 2) rfl dX0_setRoads_122 ?_
            refine Wp.iconst dX0_setRoads_123 (by decide) ?_
            refine Wp.iastore dX0_setRoads_124 (sK6 (h := h) sh) (by omega) (ilt (sL6 (h := h) sh) (by omega)) ?_
            refine inc_5_2 rfl dX0_setRoads_125 (by first | exact w32_of (by omega) (by omega) | rfl) ?_
            refine Wp.goto (tgt := 2) dX0_setRoads_128 (by decide) ?_
            have e : ∀ v, v = rdF what (hF h 2 1) i → sE (sA h 6 (gF (rdF what (hF h 2 1)) (hA h 6) i)) 6 i v = sA h 6 (gF (rdF what (hF h 2 1)) (hA h 6) (i + 1)) := by
              intro v hv
              unfold sE
              rw [sA_sA, hA_sAs, gF_s h0 hv]
            rw [e _ (by
              unfold rdF
              first | (rw [if_pos c51]; done) | (rw [if_neg (by omega), if_pos c51]; first | (rw [if_pos c12]; done) | (rw [if_neg c12]; done)) | (rw [if_neg (by omega), if_neg (by omega), if_pos c51]; first | (rw [if_pos c12, if_pos c37]; done) | (rw [if_pos c12, if_neg c37]; done) | (rw [if_neg c12, if_pos c37]; done) | (rw [if_neg c12, if_neg c37]; done)) | (rw [if_neg (by omega), if_neg (by omega), if_neg (by omega)]; done))]
            exact ih (i + 1) _ _ (by omega) rfl (by omega) (by omega)
      · refine Wp.ald_n (j := 0) rfl dX0_setRoads_15 ?_
        refine Wp.getf (k := 1) (tg := 0) kC0 (by decide) rfl lf_X0_15 dX0_setRoads_16 (sK2 (h := h) sh) (show hF _ 2 1 = hF h 2 1 from rfl) ?_
        refine Wp.iconst dX0_setRoads_19 (by decide) ?_
        refine Wp.isubE dX0_setRoads_20 (by first | exact w32_of (by omega) (by omega) | rfl) ?_
        refine Wp.goto (tgt := 27) dX0_setRoads_21 (by decide) ?_
        refine Wp.ishl dX0_setRoads_27 ?_
        refine sti_5_3 rfl (dSt_n dX0_setRoads_28) ?_
        refine Wp.iconst dX0_setRoads_29 (by decide) ?_
        refine Wp.ild_n (j := 2) rfl dX0_setRoads_30 ?_
        refine Wp.ald_n (j := 0) rfl dX0_setRoads_31 ?_
        refine Wp.getf (k := 1) (tg := 0) kC0 (by decide) rfl lf_X0_15 dX0_setRoads_32 (sK2 (h := h) sh) (show hF _ 2 1 = hF h 2 1 from rfl) ?_
        refine Wp.iconst dX0_setRoads_35 (by decide) ?_
        refine Wp.isubE dX0_setRoads_36 (by first | exact w32_of (by omega) (by omega) | rfl) ?_
        refine Wp.icne dX0_setRoads_37 (by decide) (tgt := 44) (fun c37 => ?_) (fun c37 => ?_)
        · refine Wp.ild_n (j := 2) rfl dX0_setRoads_44 ?_
          refine Wp.iconst dX0_setRoads_45 (by decide) ?_
          refine Wp.iaddE dX0_setRoads_46 (by first | exact w32_of (by omega) (by omega) | rfl) ?_
          refine Wp.ishl dX0_setRoads_47 ?_
          refine sti_5_4 rfl (dSt_w dX0_setRoads_48) ?_
          refine Wp.ild_n (j := 1) rfl dX0_setRoads_50 ?_
          rcases (show what = 1 ∨ what = 2 ∨ what = 3 ∨ (what < 1 ∨ 3 < what) by omega) with c51 | c51 | c51 | c51
          · refine Wp.tabIn (tgt := 76) dX0_setRoads_51 (by omega) (by omega) (by rw [c51]; rfl) (by decide) ?_
            refine Wp.ald_n (j := 0) rfl dX0_setRoads_76 ?_
            refine Wp.getf (k := 6) (tg := 2) kC0 (by decide) rfl lf_X0_31 dX0_setRoads_77 (sK2 (h := h) sh) (sF2_6 (h := h) sh) ?_
            refine Wp.ild_n (j := 2) rfl dX0_setRoads_80 ?_
            refine Wp.ald_n (j := 0) rfl dX0_setRoads_81 ?_
            refine Wp.callV1 (show Ct m_X0_everyone d [(2, 2)] (sA h 6 (gF (rdF what (hF h 2 1)) (hA h 6) i)) (some (0, w32 (kshl 1 (hF h 2 1) - 1))) (sA h 6 (gF (rdF what (hF h 2 1)) (hA h 6) i)) from ct_everyone d (sA h 6 (gF (rdF what (hF h 2 1)) (hA h 6) i)) sh) wc_X0_55 iM_X0_everyone se_X0_everyone kC0 (sK2 (h := h) sh) dX0_setRoads_82 rfl (Nat.le_of_ble_eq_true rfl) rfl (Nat.le_of_ble_eq_true rfl) ?_
            refine Wp.iconst dX0_setRoads_85 (by decide) ?_
            refine Wp.ild_n (j := 2) rfl dX0_setRoads_86 ?_
            refine Wp.ishl dX0_setRoads_87 ?_
            refine Wp.iconst dX0_setRoads_88 (by decide) ?_
            refine Wp.ixor dX0_setRoads_89 ?_
            refine Wp.iand dX0_setRoads_90 ?_
            refine Wp.iastore dX0_setRoads_91 (sK6 (h := h) sh) (by omega) (ilt (sL6 (h := h) sh) (by omega)) ?_
            refine Wp.goto (tgt := 125) dX0_setRoads_92 (by decide) ?_
            refine inc_5_2 rfl dX0_setRoads_125 (by first | exact w32_of (by omega) (by omega) | rfl) ?_
            refine Wp.goto (tgt := 2) dX0_setRoads_128 (by decide) ?_
            have e : ∀ v, v = rdF what (hF h 2 1) i → sE (sA h 6 (gF (rdF what (hF h 2 1)) (hA h 6) i)) 6 i v = sA h 6 (gF (rdF what (hF h 2 1)) (hA h 6) (i + 1)) := by
              intro v hv
              unfold sE
              rw [sA_sA, hA_sAs, gF_s h0 hv]
            rw [e _ (by
              unfold rdF
              first | (rw [if_pos c51]; done) | (rw [if_neg (by omega), if_pos c51]; first | (rw [if_pos c12]; done) | (rw [if_neg c12]; done)) | (rw [if_neg (by omega), if_neg (by omega), if_pos c51]; first | (rw [if_pos c12, if_pos c37]; done) | (rw [if_pos c12, if_neg c37]; done) | (rw [if_neg c12, if_pos c37]; done) | (rw [if_neg c12, if_neg c37]; done)) | (rw [if_neg (by omega), if_neg (by omega), if_neg (by omega)]; done))]
            exact ih (i + 1) _ _ (by omega) rfl (by omega) (by omega)
          · refine Wp.tabIn (tgt := 95) dX0_setRoads_51 (by omega) (by omega) (by rw [c51]; rfl) (by decide) ?_
            refine Wp.ald_n (j := 0) rfl dX0_setRoads_95 ?_
            refine Wp.getf (k := 6) (tg := 2) kC0 (by decide) rfl lf_X0_31 dX0_setRoads_96 (sK2 (h := h) sh) (sF2_6 (h := h) sh) ?_
            refine Wp.ild_n (j := 2) rfl dX0_setRoads_99 ?_
            refine Wp.ild_n (j := 3) rfl dX0_setRoads_100 ?_
            refine Wp.iastore dX0_setRoads_101 (sK6 (h := h) sh) (by omega) (ilt (sL6 (h := h) sh) (by omega)) ?_
            refine Wp.goto (tgt := 125) dX0_setRoads_102 (by decide) ?_
            refine inc_5_2 rfl dX0_setRoads_125 (by first | exact w32_of (by omega) (by omega) | rfl) ?_
            refine Wp.goto (tgt := 2) dX0_setRoads_128 (by decide) ?_
            have e : ∀ v, v = rdF what (hF h 2 1) i → sE (sA h 6 (gF (rdF what (hF h 2 1)) (hA h 6) i)) 6 i v = sA h 6 (gF (rdF what (hF h 2 1)) (hA h 6) (i + 1)) := by
              intro v hv
              unfold sE
              rw [sA_sA, hA_sAs, gF_s h0 hv]
            rw [e _ (by
              unfold rdF
              first | (rw [if_pos c51]; done) | (rw [if_neg (by omega), if_pos c51]; first | (rw [if_pos c12]; done) | (rw [if_neg c12]; done)) | (rw [if_neg (by omega), if_neg (by omega), if_pos c51]; first | (rw [if_pos c12, if_pos c37]; done) | (rw [if_pos c12, if_neg c37]; done) | (rw [if_neg c12, if_pos c37]; done) | (rw [if_neg c12, if_neg c37]; done)) | (rw [if_neg (by omega), if_neg (by omega), if_neg (by omega)]; done))]
            exact ih (i + 1) _ _ (by omega) rfl (by omega) (by omega)
          · refine Wp.tabIn (tgt := 105) dX0_setRoads_51 (by omega) (by omega) (by rw [c51]; rfl) (by decide) ?_
            refine Wp.ald_n (j := 0) rfl dX0_setRoads_105 ?_
            refine Wp.getf (k := 6) (tg := 2) kC0 (by decide) rfl lf_X0_31 dX0_setRoads_106 (sK2 (h := h) sh) (sF2_6 (h := h) sh) ?_
            refine Wp.ild_n (j := 2) rfl dX0_setRoads_109 ?_
            refine Wp.ild_n (j := 3) rfl dX0_setRoads_110 ?_
            refine Wp.ild (j := 4) rfl dX0_setRoads_111 ?_
            refine Wp.ior dX0_setRoads_113 ?_
            refine Wp.iastore dX0_setRoads_114 (sK6 (h := h) sh) (by omega) (ilt (sL6 (h := h) sh) (by omega)) ?_
            refine Wp.goto (tgt := 125) dX0_setRoads_115 (by decide) ?_
            refine inc_5_2 rfl dX0_setRoads_125 (by first | exact w32_of (by omega) (by omega) | rfl) ?_
            refine Wp.goto (tgt := 2) dX0_setRoads_128 (by decide) ?_
            have e : ∀ v, v = rdF what (hF h 2 1) i → sE (sA h 6 (gF (rdF what (hF h 2 1)) (hA h 6) i)) 6 i v = sA h 6 (gF (rdF what (hF h 2 1)) (hA h 6) (i + 1)) := by
              intro v hv
              unfold sE
              rw [sA_sA, hA_sAs, gF_s h0 hv]
            rw [e _ (by
              unfold rdF
              first | (rw [if_pos c51]; done) | (rw [if_neg (by omega), if_pos c51]; first | (rw [if_pos c12]; done) | (rw [if_neg c12]; done)) | (rw [if_neg (by omega), if_neg (by omega), if_pos c51]; first | (rw [if_pos c12, if_pos c37]; done) | (rw [if_pos c12, if_neg c37]; done) | (rw [if_neg c12, if_pos c37]; done) | (rw [if_neg c12, if_neg c37]; done)) | (rw [if_neg (by omega), if_neg (by omega), if_neg (by omega)]; done))]
            exact ih (i + 1) _ _ (by omega) rfl (by omega) (by omega)
          · refine Wp.tabOut (tgt := 118) dX0_setRoads_51 c51 (by decide) ?_
            refine Wp.ald_n (j := 0) rfl dX0_setRoads_118 ?_
            refine Wp.getf (k := 6) (tg := 2) kC0 (by decide) rfl lf_X0_31 dX0_setRoads_119 (sK2 (h := h) sh) (sF2_6 (h := h) sh) ?_
            refine Wp.ild_n (j := 2) rfl dX0_setRoads_122 ?_
            refine Wp.iconst dX0_setRoads_123 (by decide) ?_
            refine Wp.iastore dX0_setRoads_124 (sK6 (h := h) sh) (by omega) (ilt (sL6 (h := h) sh) (by omega)) ?_
            refine inc_5_2 rfl dX0_setRoads_125 (by first | exact w32_of (by omega) (by omega) | rfl) ?_
            refine Wp.goto (tgt := 2) dX0_setRoads_128 (by decide) ?_
            have e : ∀ v, v = rdF what (hF h 2 1) i → sE (sA h 6 (gF (rdF what (hF h 2 1)) (hA h 6) i)) 6 i v = sA h 6 (gF (rdF what (hF h 2 1)) (hA h 6) (i + 1)) := by
              intro v hv
              unfold sE
              rw [sA_sA, hA_sAs, gF_s h0 hv]
            rw [e _ (by
              unfold rdF
              first | (rw [if_pos c51]; done) | (rw [if_neg (by omega), if_pos c51]; first | (rw [if_pos c12]; done) | (rw [if_neg c12]; done)) | (rw [if_neg (by omega), if_neg (by omega), if_pos c51]; first | (rw [if_pos c12, if_pos c37]; done) | (rw [if_pos c12, if_neg c37]; done) | (rw [if_neg c12, if_pos c37]; done) | (rw [if_neg c12, if_neg c37]; done)) | (rw [if_neg (by omega), if_neg (by omega), if_neg (by omega)]; done))]
            exact ih (i + 1) _ _ (by omega) rfl (by omega) (by omega)
        · refine Wp.iconst dX0_setRoads_40 (by decide) ?_
          refine Wp.goto (tgt := 47) dX0_setRoads_41 (by decide) ?_
          refine Wp.ishl dX0_setRoads_47 ?_
          refine sti_5_4 rfl (dSt_w dX0_setRoads_48) ?_
          refine Wp.ild_n (j := 1) rfl dX0_setRoads_50 ?_
          rcases (show what = 1 ∨ what = 2 ∨ what = 3 ∨ (what < 1 ∨ 3 < what) by omega) with c51 | c51 | c51 | c51
          · refine Wp.tabIn (tgt := 76) dX0_setRoads_51 (by omega) (by omega) (by rw [c51]; rfl) (by decide) ?_
            refine Wp.ald_n (j := 0) rfl dX0_setRoads_76 ?_
            refine Wp.getf (k := 6) (tg := 2) kC0 (by decide) rfl lf_X0_31 dX0_setRoads_77 (sK2 (h := h) sh) (sF2_6 (h := h) sh) ?_
            refine Wp.ild_n (j := 2) rfl dX0_setRoads_80 ?_
            refine Wp.ald_n (j := 0) rfl dX0_setRoads_81 ?_
            refine Wp.callV1 (show Ct m_X0_everyone d [(2, 2)] (sA h 6 (gF (rdF what (hF h 2 1)) (hA h 6) i)) (some (0, w32 (kshl 1 (hF h 2 1) - 1))) (sA h 6 (gF (rdF what (hF h 2 1)) (hA h 6) i)) from ct_everyone d (sA h 6 (gF (rdF what (hF h 2 1)) (hA h 6) i)) sh) wc_X0_55 iM_X0_everyone se_X0_everyone kC0 (sK2 (h := h) sh) dX0_setRoads_82 rfl (Nat.le_of_ble_eq_true rfl) rfl (Nat.le_of_ble_eq_true rfl) ?_
            refine Wp.iconst dX0_setRoads_85 (by decide) ?_
            refine Wp.ild_n (j := 2) rfl dX0_setRoads_86 ?_
            refine Wp.ishl dX0_setRoads_87 ?_
            refine Wp.iconst dX0_setRoads_88 (by decide) ?_
            refine Wp.ixor dX0_setRoads_89 ?_
            refine Wp.iand dX0_setRoads_90 ?_
            refine Wp.iastore dX0_setRoads_91 (sK6 (h := h) sh) (by omega) (ilt (sL6 (h := h) sh) (by omega)) ?_
            refine Wp.goto (tgt := 125) dX0_setRoads_92 (by decide) ?_
            refine inc_5_2 rfl dX0_setRoads_125 (by first | exact w32_of (by omega) (by omega) | rfl) ?_
            refine Wp.goto (tgt := 2) dX0_setRoads_128 (by decide) ?_
            have e : ∀ v, v = rdF what (hF h 2 1) i → sE (sA h 6 (gF (rdF what (hF h 2 1)) (hA h 6) i)) 6 i v = sA h 6 (gF (rdF what (hF h 2 1)) (hA h 6) (i + 1)) := by
              intro v hv
              unfold sE
              rw [sA_sA, hA_sAs, gF_s h0 hv]
            rw [e _ (by
              unfold rdF
              first | (rw [if_pos c51]; done) | (rw [if_neg (by omega), if_pos c51]; first | (rw [if_pos c12]; done) | (rw [if_neg c12]; done)) | (rw [if_neg (by omega), if_neg (by omega), if_pos c51]; first | (rw [if_pos c12, if_pos c37]; done) | (rw [if_pos c12, if_neg c37]; done) | (rw [if_neg c12, if_pos c37]; done) | (rw [if_neg c12, if_neg c37]; done)) | (rw [if_neg (by omega), if_neg (by omega), if_neg (by omega)]; done))]
            exact ih (i + 1) _ _ (by omega) rfl (by omega) (by omega)
          · refine Wp.tabIn (tgt := 95) dX0_setRoads_51 (by omega) (by omega) (by rw [c51]; rfl) (by decide) ?_
            refine Wp.ald_n (j := 0) rfl dX0_setRoads_95 ?_
            refine Wp.getf (k := 6) (tg := 2) kC0 (by decide) rfl lf_X0_31 dX0_setRoads_96 (sK2 (h := h) sh) (sF2_6 (h := h) sh) ?_
            refine Wp.ild_n (j := 2) rfl dX0_setRoads_99 ?_
            refine Wp.ild_n (j := 3) rfl dX0_setRoads_100 ?_
            refine Wp.iastore dX0_setRoads_101 (sK6 (h := h) sh) (by omega) (ilt (sL6 (h := h) sh) (by omega)) ?_
            refine Wp.goto (tgt := 125) dX0_setRoads_102 (by decide) ?_
            refine inc_5_2 rfl dX0_setRoads_125 (by first | exact w32_of (by omega) (by omega) | rfl) ?_
            refine Wp.goto (tgt := 2) dX0_setRoads_128 (by decide) ?_
            have e : ∀ v, v = rdF what (hF h 2 1) i → sE (sA h 6 (gF (rdF what (hF h 2 1)) (hA h 6) i)) 6 i v = sA h 6 (gF (rdF what (hF h 2 1)) (hA h 6) (i + 1)) := by
              intro v hv
              unfold sE
              rw [sA_sA, hA_sAs, gF_s h0 hv]
            rw [e _ (by
              unfold rdF
              first | (rw [if_pos c51]; done) | (rw [if_neg (by omega), if_pos c51]; first | (rw [if_pos c12]; done) | (rw [if_neg c12]; done)) | (rw [if_neg (by omega), if_neg (by omega), if_pos c51]; first | (rw [if_pos c12, if_pos c37]; done) | (rw [if_pos c12, if_neg c37]; done) | (rw [if_neg c12, if_pos c37]; done) | (rw [if_neg c12, if_neg c37]; done)) | (rw [if_neg (by omega), if_neg (by omega), if_neg (by omega)]; done))]
            exact ih (i + 1) _ _ (by omega) rfl (by omega) (by omega)
          · refine Wp.tabIn (tgt := 105) dX0_setRoads_51 (by omega) (by omega) (by rw [c51]; rfl) (by decide) ?_
            refine Wp.ald_n (j := 0) rfl dX0_setRoads_105 ?_
            refine Wp.getf (k := 6) (tg := 2) kC0 (by decide) rfl lf_X0_31 dX0_setRoads_106 (sK2 (h := h) sh) (sF2_6 (h := h) sh) ?_
            refine Wp.ild_n (j := 2) rfl dX0_setRoads_109 ?_
            refine Wp.ild_n (j := 3) rfl dX0_setRoads_110 ?_
            refine Wp.ild (j := 4) rfl dX0_setRoads_111 ?_
            refine Wp.ior dX0_setRoads_113 ?_
            refine Wp.iastore dX0_setRoads_114 (sK6 (h := h) sh) (by omega) (ilt (sL6 (h := h) sh) (by omega)) ?_
            refine Wp.goto (tgt := 125) dX0_setRoads_115 (by decide) ?_
            refine inc_5_2 rfl dX0_setRoads_125 (by first | exact w32_of (by omega) (by omega) | rfl) ?_
            refine Wp.goto (tgt := 2) dX0_setRoads_128 (by decide) ?_
            have e : ∀ v, v = rdF what (hF h 2 1) i → sE (sA h 6 (gF (rdF what (hF h 2 1)) (hA h 6) i)) 6 i v = sA h 6 (gF (rdF what (hF h 2 1)) (hA h 6) (i + 1)) := by
              intro v hv
              unfold sE
              rw [sA_sA, hA_sAs, gF_s h0 hv]
            rw [e _ (by
              unfold rdF
              first | (rw [if_pos c51]; done) | (rw [if_neg (by omega), if_pos c51]; first | (rw [if_pos c12]; done) | (rw [if_neg c12]; done)) | (rw [if_neg (by omega), if_neg (by omega), if_pos c51]; first | (rw [if_pos c12, if_pos c37]; done) | (rw [if_pos c12, if_neg c37]; done) | (rw [if_neg c12, if_pos c37]; done) | (rw [if_neg c12, if_neg c37]; done)) | (rw [if_neg (by omega), if_neg (by omega), if_neg (by omega)]; done))]
            exact ih (i + 1) _ _ (by omega) rfl (by omega) (by omega)
          · refine Wp.tabOut (tgt := 118) dX0_setRoads_51 c51 (by decide) ?_
            refine Wp.ald_n (j := 0) rfl dX0_setRoads_118 ?_
            refine Wp.getf (k := 6) (tg := 2) kC0 (by decide) rfl lf_X0_31 dX0_setRoads_119 (sK2 (h := h) sh) (sF2_6 (h := h) sh) ?_
            refine Wp.ild_n (j := 2) rfl dX0_setRoads_122 ?_
            refine Wp.iconst dX0_setRoads_123 (by decide) ?_
            refine Wp.iastore dX0_setRoads_124 (sK6 (h := h) sh) (by omega) (ilt (sL6 (h := h) sh) (by omega)) ?_
            refine inc_5_2 rfl dX0_setRoads_125 (by first | exact w32_of (by omega) (by omega) | rfl) ?_
            refine Wp.goto (tgt := 2) dX0_setRoads_128 (by decide) ?_
            have e : ∀ v, v = rdF what (hF h 2 1) i → sE (sA h 6 (gF (rdF what (hF h 2 1)) (hA h 6) i)) 6 i v = sA h 6 (gF (rdF what (hF h 2 1)) (hA h 6) (i + 1)) := by
              intro v hv
              unfold sE
              rw [sA_sA, hA_sAs, gF_s h0 hv]
            rw [e _ (by
              unfold rdF
              first | (rw [if_pos c51]; done) | (rw [if_neg (by omega), if_pos c51]; first | (rw [if_pos c12]; done) | (rw [if_neg c12]; done)) | (rw [if_neg (by omega), if_neg (by omega), if_pos c51]; first | (rw [if_pos c12, if_pos c37]; done) | (rw [if_pos c12, if_neg c37]; done) | (rw [if_neg c12, if_pos c37]; done) | (rw [if_neg c12, if_neg c37]; done)) | (rw [if_neg (by omega), if_neg (by omega), if_neg (by omega)]; done))]
            exact ih (i + 1) _ _ (by omega) rfl (by omega) (by omega)

theorem ct_setRoads (d : Nat) (h : mH) (sh : Sh h) (what : Int) (h0 : 0 ≤ hF h 2 1) (hn : hF h 2 1 ≤ 24) : Ct m_X0_setRoads (d + 1) [(2, 2), (0, what)] h none (sA h 6 (gF (rdF what (hF h 2 1)) (hA h 6) (hF h 2 1))) := by
  refine Ct.of ?_
  show Wp m_X0_setRoads ((d + 1)) 0 [(2, 2), (0, what), (9, 0), (9, 0), (9, 0)] [] h _
  refine Wp.iconst dX0_setRoads_0 (by decide) ?_
  refine sti_5_2 rfl (dSt_n dX0_setRoads_1) ?_
  have e : h = sA h 6 (gF (rdF what (hF h 2 1)) (hA h 6) 0) := by rw [gF_0, sA_self]
  have k := roads_loop d h sh what hn ((hF h 2 1 - 0).toNat + 1) 0 (9, 0) (9, 0) (by omega) rfl (by omega) h0
  rw [← e] at k
  exact k

