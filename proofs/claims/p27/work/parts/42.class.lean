theorem cq_sumOrNone (d : Nat) (h : mH) (sh : Sh h) (x : Int) : Cq m_X5_sumOrNone d [(2, 0), (1, x)] h (fun r t => ∃ y z, r = some (1, y) ∧ t = sF h 0 0 z) := by
  refine Cq.of ?_
  show Wp m_X5_sumOrNone (d) 0 [(2, 0), (1, x), (9, 0)] [] h _
  refine Wp.ald_n (j := 0) rfl dX5_sumOrNone_0 ?_
  refine Wp.lld_n (j := 1) rfl dX5_sumOrNone_1 ?_
  refine Wp.ldc2 (z := -9223372036854775808) lk_X5_277 (by decide) dX5_sumOrNone_2 ?_
  refine Wp.lcne dX5_sumOrNone_5 dX5_sumOrNone_6 (by decide) (tgt := 14) (fun c5 => ?_) (fun c5 => ?_)
  · refine Wp.iconst dX5_sumOrNone_14 (by decide) ?_
    refine Wp.putf (k := 0) (tg := 0) kC5 (by decide) rfl rfl lf_X5_9 dX5_sumOrNone_15 (sK0 (h := h) sh) ?_
    refine Wp.lld_n (j := 1) rfl dX5_sumOrNone_18 ?_
    refine Wp.ldc2 (z := -9223372036854775808) lk_X5_277 (by decide) dX5_sumOrNone_19 ?_
    refine Wp.lcne dX5_sumOrNone_22 dX5_sumOrNone_23 (by decide) (tgt := 32) (fun c22 => ?_) (fun c22 => ?_)
    · refine Wp.lld_n (j := 1) rfl dX5_sumOrNone_32 ?_
      refine Wp.lret rfl dX5_sumOrNone_33 ?_
      exact ⟨_, _, rfl, rfl⟩
    · refine Wp.ldc2 (z := -1) lk_X5_295 (by decide) dX5_sumOrNone_26 ?_
      refine Wp.goto (tgt := 33) dX5_sumOrNone_29 (by decide) ?_
      refine Wp.lret rfl dX5_sumOrNone_33 ?_
      exact ⟨_, _, rfl, rfl⟩
  · refine Wp.bipush dX5_sumOrNone_9 (by decide) ?_
    refine Wp.goto (tgt := 15) dX5_sumOrNone_11 (by decide) ?_
    refine Wp.putf (k := 0) (tg := 0) kC5 (by decide) rfl rfl lf_X5_9 dX5_sumOrNone_15 (sK0 (h := h) sh) ?_
    refine Wp.lld_n (j := 1) rfl dX5_sumOrNone_18 ?_
    refine Wp.ldc2 (z := -9223372036854775808) lk_X5_277 (by decide) dX5_sumOrNone_19 ?_
    refine Wp.lcne dX5_sumOrNone_22 dX5_sumOrNone_23 (by decide) (tgt := 32) (fun c22 => ?_) (fun c22 => ?_)
    · refine Wp.lld_n (j := 1) rfl dX5_sumOrNone_32 ?_
      refine Wp.lret rfl dX5_sumOrNone_33 ?_
      exact ⟨_, _, rfl, rfl⟩
    · refine Wp.ldc2 (z := -1) lk_X5_295 (by decide) dX5_sumOrNone_26 ?_
      refine Wp.goto (tgt := 33) dX5_sumOrNone_29 (by decide) ?_
      refine Wp.lret rfl dX5_sumOrNone_33 ?_
      exact ⟨_, _, rfl, rfl⟩

theorem cq_sums (d : Nat) (h : mH) (sh : Sh h) (spx : SPx h) (n i j : Int) : Cq m_X5_sums (d + 5) [(2, 0), (1, n), (0, i), (0, j)] h (fun r t => (∃ y, r = some (1, y)) ∧ SPx t ∧ Fr sAr ((0, 0) :: sGf) h t) := by
  refine Cq.of ?_
  show Wp m_X5_sums ((d + 5)) 0 [(2, 0), (1, n), (9, 0), (0, i), (0, j)] [] h _
  obtain ⟨pw, sp, rr, sr, spq⟩ := id spx
  have hz := spq.2.2.1
  refine Wp.lld_n (j := 1) rfl dX5_sums_0 ?_
  refine Wp.lconst (z := 0) dX5_sums_1 (by decide) ?_
  refine Wp.lclt dX5_sums_2 dX5_sums_3 (by decide) (tgt := 27) (fun c2 => ?_) (fun c2 => ?_)
  · refine Wp.ald_n (j := 0) rfl dX5_sums_27 ?_
    refine Wp.iconst dX5_sums_28 (by decide) ?_
    refine Wp.callV1 (ct_lack (d + 4) h sh 2) wc_X5_88 iM_X5_lack se_X5_lack kC5 (sK0 (h := h) sh) dX5_sums_29 rfl (Nat.le_of_ble_eq_true rfl) rfl (Nat.le_of_ble_eq_true rfl) ?_
    refine Wp.i2l dX5_sums_32 ?_
    refine Wp.lret rfl dX5_sums_33 ?_
    exact ⟨⟨_, rfl⟩, spx, Fr.f (by decide)⟩
  · refine Wp.lld_n (j := 1) rfl dX5_sums_6 ?_
    refine Wp.ldc2 (z := 1000000000000) lk_X5_263 (by decide) dX5_sums_7 ?_
    refine Wp.lcgt dX5_sums_10 dX5_sums_11 (by decide) (tgt := 27) (fun c10 => ?_) (fun c10 => ?_)
    · refine Wp.ald_n (j := 0) rfl dX5_sums_27 ?_
      refine Wp.iconst dX5_sums_28 (by decide) ?_
      refine Wp.callV1 (ct_lack (d + 4) h sh 2) wc_X5_88 iM_X5_lack se_X5_lack kC5 (sK0 (h := h) sh) dX5_sums_29 rfl (Nat.le_of_ble_eq_true rfl) rfl (Nat.le_of_ble_eq_true rfl) ?_
      refine Wp.i2l dX5_sums_32 ?_
      refine Wp.lret rfl dX5_sums_33 ?_
      exact ⟨⟨_, rfl⟩, spx, Fr.f (by decide)⟩
    · refine Wp.ald_n (j := 0) rfl dX5_sums_14 ?_
      refine Wp.getf (k := 5) (tg := 2) kC5 (by decide) rfl lf_X5_43 dX5_sums_15 (sK0 (h := h) sh) (sF0_5 (h := h) sh) ?_
      refine Wp.ild_n (j := 3) rfl dX5_sums_18 ?_
      refine Wp.ild (j := 4) rfl dX5_sums_19 ?_
      obtain ⟨_, t21, ct21, rfl, e21⟩ := cq_has (d + 4) h sh i j
      rw [e21] at ct21
      refine Wp.callV1 (ct21) wc_X5_240 iM_X3_has se_X3_has kC3 (sK22 (h := h) sh) dX5_sums_21 rfl (Nat.le_of_ble_eq_true rfl) rfl (Nat.le_of_ble_eq_true rfl) ?_
      refine Wp.ifne dX5_sums_24 (by decide) (tgt := 34) (fun c24 => ?_) (fun c24 => ?_)
      · have hb := ite01 c24
        refine Wp.ald_n (j := 0) rfl dX5_sums_34 ?_
        refine Wp.ald_n (j := 0) rfl dX5_sums_35 ?_
        refine Wp.getf (k := 5) (tg := 2) kC5 (by decide) rfl lf_X5_43 dX5_sums_36 (sK0 (h := h) sh) (sF0_5 (h := h) sh) ?_
        refine Wp.lld_n (j := 1) rfl dX5_sums_39 ?_
        refine Wp.ild_n (j := 3) rfl dX5_sums_40 ?_
        refine Wp.ild (j := 4) rfl dX5_sums_41 ?_
        obtain ⟨_, t43, ct43, ⟨y43, rfl⟩, spx43, f43⟩ := cq_sumOf d h sh spx n i j (by omega) (by omega) (by omega) (by omega) (by omega) (by omega)
        have sh43 := sh.fr f43 (by decide +kernel) (by decide)
        refine Wp.callV1 (ct43) wc_X5_265 iM_X3_sumOf se_X3_sumOf kC3 (sK22 (h := h) sh) dX5_sums_43 rfl (Nat.le_of_ble_eq_true rfl) rfl (Nat.le_of_ble_eq_true rfl) ?_
        obtain ⟨_, t46, ct46, y46, z46, rfl, e46⟩ := cq_sumOrNone (d + 4) t43 sh43 y43
        subst e46
        refine Wp.callV1 (ct46) wc_X5_269 iM_X5_sumOrNone se_X5_sumOrNone kC5 (sK0 (h := t43) sh43) dX5_sums_46 rfl (Nat.le_of_ble_eq_true rfl) rfl (Nat.le_of_ble_eq_true rfl) ?_
        refine Wp.lret rfl dX5_sums_49 ?_
        exact ⟨⟨_, rfl⟩, spx43, (f43.mono (fun _ z => z) (fun _ z => List.mem_cons_of_mem _ z)).tr (Fr.f (by decide))⟩
      · refine Wp.ald_n (j := 0) rfl dX5_sums_27 ?_
        refine Wp.iconst dX5_sums_28 (by decide) ?_
        refine Wp.callV1 (ct_lack (d + 4) h sh 2) wc_X5_88 iM_X5_lack se_X5_lack kC5 (sK0 (h := h) sh) dX5_sums_29 rfl (Nat.le_of_ble_eq_true rfl) rfl (Nat.le_of_ble_eq_true rfl) ?_
        refine Wp.i2l dX5_sums_32 ?_
        refine Wp.lret rfl dX5_sums_33 ?_
        exact ⟨⟨_, rfl⟩, spx, Fr.f (by decide)⟩

theorem cq_pace (d : Nat) (h : mH) (sh : Sh h) (spx : SPx h) (x : Int) : Cq m_X5_pace (d + 5) [(2, 0), (0, x)] h (fun r t => (∃ y, r = some (1, y)) ∧ SPx t ∧ Fr sAr ((0, 0) :: sGf) h t) := by
  refine Cq.of ?_
  show Wp m_X5_pace ((d + 5)) 0 [(2, 0), (0, x)] [] h _
  refine Wp.ild_n (j := 1) rfl dX5_pace_0 ?_
  refine Wp.iflt dX5_pace_1 (by decide) (tgt := 9) (fun c1 => ?_) (fun c1 => ?_)
  · refine Wp.ald_n (j := 0) rfl dX5_pace_9 ?_
    refine Wp.iconst dX5_pace_10 (by decide) ?_
    refine Wp.callV1 (ct_lack (d + 4) h sh 2) wc_X5_88 iM_X5_lack se_X5_lack kC5 (sK0 (h := h) sh) dX5_pace_11 rfl (Nat.le_of_ble_eq_true rfl) rfl (Nat.le_of_ble_eq_true rfl) ?_
    refine Wp.i2l dX5_pace_14 ?_
    refine Wp.lret rfl dX5_pace_15 ?_
    exact ⟨⟨_, rfl⟩, spx, Fr.f (by decide)⟩
  · refine Wp.ild_n (j := 1) rfl dX5_pace_4 ?_
    refine Wp.iconst dX5_pace_5 (by decide) ?_
    refine Wp.icle dX5_pace_6 (by decide) (tgt := 16) (fun c6 => ?_) (fun c6 => ?_)
    · refine Wp.ald_n (j := 0) rfl dX5_pace_16 ?_
      refine Wp.getf (k := 5) (tg := 2) kC5 (by decide) rfl lf_X5_43 dX5_pace_17 (sK0 (h := h) sh) (sF0_5 (h := h) sh) ?_
      obtain ⟨_, t20, ct20, ⟨y20, rfl, hy20⟩, spx20, f20⟩ := cq_findPace d h sh spx
      have sh20 := sh.fr f20 (by decide +kernel) (by decide)
      refine Wp.callV1 (ct20) wc_X5_250 iM_X3_findPace se_X3_findPace kC3 (sK22 (h := h) sh) dX5_pace_20 rfl (Nat.le_of_ble_eq_true rfl) rfl (Nat.le_of_ble_eq_true rfl) ?_
      refine Wp.ifne dX5_pace_23 (by decide) (tgt := 34) (fun c23 => ?_) (fun c23 => ?_)
      · refine Wp.ald_n (j := 0) rfl dX5_pace_34 ?_
        refine Wp.iconst dX5_pace_35 (by decide) ?_
        refine Wp.putf (k := 0) (tg := 0) kC5 (by decide) rfl rfl lf_X5_9 dX5_pace_36 (sK0 (h := t20) sh20) ?_
        refine Wp.ild_n (j := 1) rfl dX5_pace_39 ?_
        refine Wp.ifne dX5_pace_40 (by decide) (tgt := 53) (fun c40 => ?_) (fun c40 => ?_)
        · refine Wp.ald_n (j := 0) rfl dX5_pace_53 ?_
          refine Wp.getf (k := 5) (tg := 2) kC5 (by decide) rfl lf_X5_43 dX5_pace_54 (sK0 (h := t20) sh20) (sF0_5 (h := t20) sh20) ?_
          refine Wp.getfN (k := 10) (tg := 1) kC3 (by decide) rfl lf_X5_257 dX5_pace_57 (sK22 (h := t20) sh20) (show hF _ 22 10 = hF t20 22 10 from rfl) ?_
          refine Wp.lret rfl dX5_pace_60 ?_
          exact ⟨⟨_, rfl⟩, spx20, (f20.mono (fun _ z => z) (fun _ z => List.mem_cons_of_mem _ z)).tr (Fr.f (by decide))⟩
        · refine Wp.ald_n (j := 0) rfl dX5_pace_43 ?_
          refine Wp.getf (k := 5) (tg := 2) kC5 (by decide) rfl lf_X5_43 dX5_pace_44 (sK0 (h := t20) sh20) (sF0_5 (h := t20) sh20) ?_
          refine Wp.getfN (k := 9) (tg := 1) kC3 (by decide) rfl lf_X5_253 dX5_pace_47 (sK22 (h := t20) sh20) (show hF _ 22 9 = hF t20 22 9 from rfl) ?_
          refine Wp.goto (tgt := 60) dX5_pace_50 (by decide) ?_
          refine Wp.lret rfl dX5_pace_60 ?_
          exact ⟨⟨_, rfl⟩, spx20, (f20.mono (fun _ z => z) (fun _ z => List.mem_cons_of_mem _ z)).tr (Fr.f (by decide))⟩
      · refine Wp.ald_n (j := 0) rfl dX5_pace_26 ?_
        refine Wp.bipush dX5_pace_27 (by decide) ?_
        refine Wp.callV1 (ct_lack (d + 4) t20 sh20 8) wc_X5_88 iM_X5_lack se_X5_lack kC5 (sK0 (h := t20) sh20) dX5_pace_29 rfl (Nat.le_of_ble_eq_true rfl) rfl (Nat.le_of_ble_eq_true rfl) ?_
        refine Wp.i2l dX5_pace_32 ?_
        refine Wp.lret rfl dX5_pace_33 ?_
        exact ⟨⟨_, rfl⟩, spx20, (f20.mono (fun _ z => z) (fun _ z => List.mem_cons_of_mem _ z)).tr (Fr.f (by decide))⟩
    · refine Wp.ald_n (j := 0) rfl dX5_pace_9 ?_
      refine Wp.iconst dX5_pace_10 (by decide) ?_
      refine Wp.callV1 (ct_lack (d + 4) h sh 2) wc_X5_88 iM_X5_lack se_X5_lack kC5 (sK0 (h := h) sh) dX5_pace_11 rfl (Nat.le_of_ble_eq_true rfl) rfl (Nat.le_of_ble_eq_true rfl) ?_
      refine Wp.i2l dX5_pace_14 ?_
      refine Wp.lret rfl dX5_pace_15 ?_
      exact ⟨⟨_, rfl⟩, spx, Fr.f (by decide)⟩

theorem cq_longest (d : Nat) (h : mH) (sh : Sh h) (spx : SPx h) (i j : Int) : Cq m_X5_longest (d + 5) [(2, 0), (0, i), (0, j)] h (fun r t => (∃ y, r = some (1, y)) ∧ SPx t ∧ Fr sAr ((0, 0) :: sGf) h t) := by
  refine Cq.of ?_
  show Wp m_X5_longest ((d + 5)) 0 [(2, 0), (0, i), (0, j), (9, 0), (9, 0)] [] h _
  obtain ⟨pw, sp, rr, sr, spq⟩ := id spx
  have hz := spq.2.2.1
  refine Wp.ald_n (j := 0) rfl dX5_longest_0 ?_
  refine Wp.getf (k := 5) (tg := 2) kC5 (by decide) rfl lf_X5_43 dX5_longest_1 (sK0 (h := h) sh) (sF0_5 (h := h) sh) ?_
  refine Wp.ild_n (j := 1) rfl dX5_longest_4 ?_
  refine Wp.ild_n (j := 2) rfl dX5_longest_5 ?_
  obtain ⟨_, t6, ct6, rfl, e6⟩ := cq_has (d + 4) h sh i j
  rw [e6] at ct6
  refine Wp.callV1 (ct6) wc_X5_240 iM_X3_has se_X3_has kC3 (sK22 (h := h) sh) dX5_longest_6 rfl (Nat.le_of_ble_eq_true rfl) rfl (Nat.le_of_ble_eq_true rfl) ?_
  refine Wp.ifne dX5_longest_9 (by decide) (tgt := 19) (fun c9 => ?_) (fun c9 => ?_)
  · have hb := ite01 c9
    refine Wp.ald_n (j := 0) rfl dX5_longest_19 ?_
    refine Wp.getf (k := 5) (tg := 2) kC5 (by decide) rfl lf_X5_43 dX5_longest_20 (sK0 (h := h) sh) (sF0_5 (h := h) sh) ?_
    refine Wp.ild_n (j := 1) rfl dX5_longest_23 ?_
    refine Wp.ild_n (j := 2) rfl dX5_longest_24 ?_
    obtain ⟨_, t25, ct25, ⟨y25, rfl⟩, spx25, f25⟩ := cq_longestSum (d + 1) h sh spx i j (by omega) (by omega) (by omega) (by omega)
    have sh25 := sh.fr f25 (by decide +kernel) (by decide)
    refine Wp.callV1 (ct25) wc_X5_273 iM_X3_longestSum se_X3_longestSum kC3 (sK22 (h := h) sh) dX5_longest_25 rfl (Nat.le_of_ble_eq_true rfl) rfl (Nat.le_of_ble_eq_true rfl) ?_
    refine stl_5_3 rfl (dSt_n dX5_longest_28) ?_
    refine Wp.lld_n (j := 3) rfl dX5_longest_29 ?_
    refine Wp.ldc2 (z := -9223372036854775808) lk_X5_277 (by decide) dX5_longest_30 ?_
    refine Wp.lceq dX5_longest_33 dX5_longest_34 (by decide) (tgt := 67) (fun c33 => ?_) (fun c33 => ?_)
    · refine Wp.ald_n (j := 0) rfl dX5_longest_67 ?_
      refine Wp.lld_n (j := 3) rfl dX5_longest_68 ?_
      obtain ⟨_, t69, ct69, y69, z69, rfl, e69⟩ := cq_sumOrNone (d + 4) t25 sh25 y25
      subst e69
      refine Wp.callV1 (ct69) wc_X5_269 iM_X5_sumOrNone se_X5_sumOrNone kC5 (sK0 (h := t25) sh25) dX5_longest_69 rfl (Nat.le_of_ble_eq_true rfl) rfl (Nat.le_of_ble_eq_true rfl) ?_
      refine Wp.lret rfl dX5_longest_72 ?_
      first
      | exact ⟨⟨_, rfl⟩, spx41, ((f25.mono (fun _ z => z) (fun _ z => List.mem_cons_of_mem _ z)).tr (f41.mono (fun _ z => z) (fun _ z => List.mem_cons_of_mem _ z))).tr (Fr.f (by decide))⟩
      | exact ⟨⟨_, rfl⟩, spx25, (f25.mono (fun _ z => z) (fun _ z => List.mem_cons_of_mem _ z)).tr (Fr.f (by decide))⟩
    · refine Wp.ald_n (j := 0) rfl dX5_longest_37 ?_
      refine Wp.getf (k := 5) (tg := 2) kC5 (by decide) rfl lf_X5_43 dX5_longest_38 (sK0 (h := t25) sh25) (sF0_5 (h := t25) sh25) ?_
      obtain ⟨_, t41, ct41, ⟨y41, rfl, hy41⟩, spx41, f41⟩ := cq_findPace d t25 sh25 spx25
      have sh41 := sh25.fr f41 (by decide +kernel) (by decide)
      refine Wp.callV1 (ct41) wc_X5_250 iM_X3_findPace se_X3_findPace kC3 (sK22 (h := t25) sh25) dX5_longest_41 rfl (Nat.le_of_ble_eq_true rfl) rfl (Nat.le_of_ble_eq_true rfl) ?_
      refine Wp.ifeq dX5_longest_44 (by decide) (tgt := 67) (fun c44 => ?_) (fun c44 => ?_)
      · refine Wp.ald_n (j := 0) rfl dX5_longest_67 ?_
        refine Wp.lld_n (j := 3) rfl dX5_longest_68 ?_
        obtain ⟨_, t69, ct69, y69, z69, rfl, e69⟩ := cq_sumOrNone (d + 4) t41 sh41 y25
        subst e69
        refine Wp.callV1 (ct69) wc_X5_269 iM_X5_sumOrNone se_X5_sumOrNone kC5 (sK0 (h := t41) sh41) dX5_longest_69 rfl (Nat.le_of_ble_eq_true rfl) rfl (Nat.le_of_ble_eq_true rfl) ?_
        refine Wp.lret rfl dX5_longest_72 ?_
        first
        | exact ⟨⟨_, rfl⟩, spx41, ((f25.mono (fun _ z => z) (fun _ z => List.mem_cons_of_mem _ z)).tr (f41.mono (fun _ z => z) (fun _ z => List.mem_cons_of_mem _ z))).tr (Fr.f (by decide))⟩
        | exact ⟨⟨_, rfl⟩, spx25, (f25.mono (fun _ z => z) (fun _ z => List.mem_cons_of_mem _ z)).tr (Fr.f (by decide))⟩
      · refine Wp.ald_n (j := 0) rfl dX5_longest_47 ?_
        refine Wp.getf (k := 5) (tg := 2) kC5 (by decide) rfl lf_X5_43 dX5_longest_48 (sK0 (h := t41) sh41) (sF0_5 (h := t41) sh41) ?_
        refine Wp.getfN (k := 9) (tg := 1) kC3 (by decide) rfl lf_X5_253 dX5_longest_51 (sK22 (h := t41) sh41) (show hF _ 22 9 = hF t41 22 9 from rfl) ?_
        refine Wp.lconst (z := 0) dX5_longest_54 (by decide) ?_
        refine Wp.lcle dX5_longest_55 dX5_longest_56 (by decide) (tgt := 67) (fun c55 => ?_) (fun c55 => ?_)
        · refine Wp.ald_n (j := 0) rfl dX5_longest_67 ?_
          refine Wp.lld_n (j := 3) rfl dX5_longest_68 ?_
          obtain ⟨_, t69, ct69, y69, z69, rfl, e69⟩ := cq_sumOrNone (d + 4) t41 sh41 y25
          subst e69
          refine Wp.callV1 (ct69) wc_X5_269 iM_X5_sumOrNone se_X5_sumOrNone kC5 (sK0 (h := t41) sh41) dX5_longest_69 rfl (Nat.le_of_ble_eq_true rfl) rfl (Nat.le_of_ble_eq_true rfl) ?_
          refine Wp.lret rfl dX5_longest_72 ?_
          first
          | exact ⟨⟨_, rfl⟩, spx41, ((f25.mono (fun _ z => z) (fun _ z => List.mem_cons_of_mem _ z)).tr (f41.mono (fun _ z => z) (fun _ z => List.mem_cons_of_mem _ z))).tr (Fr.f (by decide))⟩
          | exact ⟨⟨_, rfl⟩, spx25, (f25.mono (fun _ z => z) (fun _ z => List.mem_cons_of_mem _ z)).tr (Fr.f (by decide))⟩
        · refine Wp.ald_n (j := 0) rfl dX5_longest_59 ?_
          refine Wp.bipush dX5_longest_60 (by decide) ?_
          refine Wp.callV1 (ct_lack (d + 4) t41 sh41 9) wc_X5_88 iM_X5_lack se_X5_lack kC5 (sK0 (h := t41) sh41) dX5_longest_62 rfl (Nat.le_of_ble_eq_true rfl) rfl (Nat.le_of_ble_eq_true rfl) ?_
          refine Wp.i2l dX5_longest_65 ?_
          refine Wp.lret rfl dX5_longest_66 ?_
          exact ⟨⟨_, rfl⟩, spx41, ((f25.mono (fun _ z => z) (fun _ z => List.mem_cons_of_mem _ z)).tr (f41.mono (fun _ z => z) (fun _ z => List.mem_cons_of_mem _ z))).tr (Fr.f (by decide))⟩
  · refine Wp.ald_n (j := 0) rfl dX5_longest_12 ?_
    refine Wp.iconst dX5_longest_13 (by decide) ?_
    refine Wp.callV1 (ct_lack (d + 4) h sh 2) wc_X5_88 iM_X5_lack se_X5_lack kC5 (sK0 (h := h) sh) dX5_longest_14 rfl (Nat.le_of_ble_eq_true rfl) rfl (Nat.le_of_ble_eq_true rfl) ?_
    refine Wp.i2l dX5_longest_17 ?_
    refine Wp.lret rfl dX5_longest_18 ?_
    exact ⟨⟨_, rfl⟩, spx, Fr.f (by decide)⟩

