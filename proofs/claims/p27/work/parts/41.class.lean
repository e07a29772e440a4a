theorem ite01 {p : Prop} [Decidable p] (c : ¬ (if p then (1 : Int) else 0) = 0) : p := by
  by_cases hp : p
  · exact hp
  · rw [if_neg hp] at c
    exact absurd rfl c
theorem cq_beater (d : Nat) (h : mH) (sh : Sh h) (bi : BI h) (k p : Int) : Cq m_X5_beater (d + 1) [(2, 0), (0, k), (0, p)] h (fun r t => (∃ y, r = some (0, y) ∧ ((y = -1 ∧ ¬ ((0 ≤ k ∧ k < 4) ∧ (0 ≤ p ∧ p < hF h 2 0) ∧ hF h 2 1 < 24) ∧ Fr [] [(0, 0)] h t) ∨ (y = hF h 2 1 ∧ ((0 ≤ k ∧ k < 4) ∧ (0 ≤ p ∧ p < hF h 2 0) ∧ hF h 2 1 < 24) ∧ hF t 2 0 = hF h 2 0 ∧ hF t 2 1 = hF h 2 1 + 1 ∧ (hA t 3 = u1 (hA h 3) (hF h 2 1) k ∧ hA t 4 = u1 (hA h 4) (hF h 2 1) p ∧ hA t 6 = u1 (hA h 6) (hF h 2 1) 0 ∧ hA t 5 = u1 (hA h 5) (hF h 2 1) 0) ∧ Fr [3, 4, 5, 6] [(0, 0), (2, 1)] h t))) ∧ BI t ∧ Fr bAr bGf h t) := by
  refine Cq.of ?_
  show Wp m_X5_beater ((d + 1)) 0 [(2, 0), (0, k), (0, p)] [] h _
  obtain ⟨⟨r0, r1⟩, ⟨n0, n1⟩, ⟨m0, m1⟩, hp, hq⟩ := id bi
  refine Wp.ild_n (j := 1) rfl dX5_beater_0 ?_
  refine Wp.callS1 (ct_isKind d h k) wc_X5_113 sM_X5_isKind dX5_beater_1 rfl (Nat.le_of_ble_eq_true rfl) rfl (Nat.le_of_ble_eq_true rfl) ?_
  refine Wp.ifeq dX5_beater_4 (by decide) (tgt := 18) (fun c4 => ?_) (fun c4 => ?_)
  · refine Wp.ald_n (j := 0) rfl dX5_beater_18 ?_
    refine Wp.iconst dX5_beater_19 (by decide) ?_
    refine Wp.callV1 (ct_lack d h sh 2) wc_X5_88 iM_X5_lack se_X5_lack kC5 (sK0 (h := h) sh) dX5_beater_20 rfl (Nat.le_of_ble_eq_true rfl) rfl (Nat.le_of_ble_eq_true rfl) ?_
    refine Wp.iret rfl dX5_beater_23 ?_
    exact ⟨⟨_, rfl, Or.inl ⟨rfl, by omega, Fr.f (by decide)⟩⟩, bi, Fr.f (by decide)⟩
  · refine Wp.ald_n (j := 0) rfl dX5_beater_7 ?_
    refine Wp.getf (k := 2) (tg := 2) kC5 (by decide) rfl lf_X5_22 dX5_beater_8 (sK0 (h := h) sh) (sF0_2 (h := h) sh) ?_
    refine Wp.ild_n (j := 2) rfl dX5_beater_11 ?_
    refine Wp.callV1 (ct_isPhase d h sh p) wc_X5_116 iM_X0_isPhase se_X0_isPhase kC0 (sK2 (h := h) sh) dX5_beater_12 rfl (Nat.le_of_ble_eq_true rfl) rfl (Nat.le_of_ble_eq_true rfl) ?_
    refine Wp.ifne dX5_beater_15 (by decide) (tgt := 24) (fun c15 => ?_) (fun c15 => ?_)
    · have hph := ite01 c15
      refine Wp.ald_n (j := 0) rfl dX5_beater_24 ?_
      refine Wp.getf (k := 2) (tg := 2) kC5 (by decide) rfl lf_X5_22 dX5_beater_25 (sK0 (h := h) sh) (sF0_2 (h := h) sh) ?_
      refine Wp.getfN (k := 1) (tg := 0) kC0 (by decide) rfl lf_X5_119 dX5_beater_28 (sK2 (h := h) sh) (show hF _ 2 1 = hF h 2 1 from rfl) ?_
      refine Wp.bipush dX5_beater_31 (by decide) ?_
      refine Wp.iclt dX5_beater_33 (by decide) (tgt := 43) (fun c33 => ?_) (fun c33 => ?_)
      · refine Wp.ald_n (j := 0) rfl dX5_beater_43 ?_
        refine Wp.ald_n (j := 0) rfl dX5_beater_44 ?_
        refine Wp.getf (k := 2) (tg := 2) kC5 (by decide) rfl lf_X5_22 dX5_beater_45 (sK0 (h := h) sh) (sF0_2 (h := h) sh) ?_
        refine Wp.ild_n (j := 1) rfl dX5_beater_48 ?_
        refine Wp.ild_n (j := 2) rfl dX5_beater_49 ?_
        refine Wp.callV1 (ct_add d h sh k p n0 (by omega)) wc_X5_122 iM_X0_add se_X0_add kC0 (sK2 (h := h) sh) dX5_beater_50 rfl (Nat.le_of_ble_eq_true rfl) rfl (Nat.le_of_ble_eq_true rfl) ?_
        refine Wp.callV1 (ct_answer d _ (sh.fr (A := [3, 4, 5, 6]) (G := [(2, 1)]) ((((Fr.e (by decide)).tr (Fr.e (by decide))).tr ((Fr.e (by decide)).tr (Fr.e (by decide)))).tr (Fr.f (by decide))) (by decide +kernel) (by decide)) _) wc_X5_126 iM_X5_answer se_X5_answer kC5 (sK0 (h := h) sh) dX5_beater_53 rfl (Nat.le_of_ble_eq_true rfl) rfl (Nat.le_of_ble_eq_true rfl) ?_
        refine Wp.iret rfl dX5_beater_56 ?_
        refine ⟨⟨_, rfl, Or.inr ⟨rfl, by omega, rfl, rfl, ⟨rfl, rfl, rfl, rfl⟩, ((((Fr.e (by decide)).tr (Fr.e (by decide))).tr ((Fr.e (by decide)).tr (Fr.e (by decide)))).tr (Fr.f (by decide))).tr (Fr.f (by decide))⟩⟩, ⟨⟨r0, r1⟩, ⟨by show 0 ≤ hF h 2 1 + 1; omega, by show hF h 2 1 + 1 ≤ 24; omega⟩, ⟨m0, m1⟩, fun i i0 i1 => ?_, hq⟩, ((((Fr.e (by decide)).tr (Fr.e (by decide))).tr ((Fr.e (by decide)).tr (Fr.e (by decide)))).tr (Fr.f (by decide))).tr (Fr.f (by decide))⟩
        have i2 : i < hF h 2 1 + 1 := i1
        show 0 ≤ u1 (hA h 4) (hF h 2 1) p i ∧ u1 (hA h 4) (hF h 2 1) p i < hF h 2 0
        by_cases e : i = hF h 2 1
        · rw [e, u1_s]
          exact hph
        · rw [u1_n _ _ e]
          exact hp i i0 (by omega)
      · refine Wp.ald_n (j := 0) rfl dX5_beater_36 ?_
        refine Wp.bipush dX5_beater_37 (by decide) ?_
        refine Wp.callV1 (ct_lack d h sh 7) wc_X5_88 iM_X5_lack se_X5_lack kC5 (sK0 (h := h) sh) dX5_beater_39 rfl (Nat.le_of_ble_eq_true rfl) rfl (Nat.le_of_ble_eq_true rfl) ?_
        refine Wp.iret rfl dX5_beater_42 ?_
        exact ⟨⟨_, rfl, Or.inl ⟨rfl, by omega, Fr.f (by decide)⟩⟩, bi, Fr.f (by decide)⟩
    · refine Wp.ald_n (j := 0) rfl dX5_beater_18 ?_
      refine Wp.iconst dX5_beater_19 (by decide) ?_
      refine Wp.callV1 (ct_lack d h sh 2) wc_X5_88 iM_X5_lack se_X5_lack kC5 (sK0 (h := h) sh) dX5_beater_20 rfl (Nat.le_of_ble_eq_true rfl) rfl (Nat.le_of_ble_eq_true rfl) ?_
      refine Wp.iret rfl dX5_beater_23 ?_
      exact ⟨⟨_, rfl, Or.inl ⟨rfl, by omega, Fr.f (by decide)⟩⟩, bi, Fr.f (by decide)⟩

theorem cq_table (d : Nat) (h : mH) (sh : Sh h) (spx : SPx h) (n : Int) : Cq m_X5_table (d + 2) [(2, 0), (0, n)] h (fun r t => (∃ y, r = some (0, y) ∧ ((y = 0 ∧ ¬ (0 ≤ n ∧ n ≤ 10)) ∨ (y = 1 ∧ (0 ≤ n ∧ n ≤ 10)))) ∧ SPx t ∧ Fr sAr ((0, 0) :: sGf) h t) := by
  refine Cq.of ?_
  show Wp m_X5_table ((d + 2)) 0 [(2, 0), (0, n)] [] h _
  refine Wp.ild_n (j := 1) rfl dX5_table_0 ?_
  refine Wp.iflt dX5_table_1 (by decide) (tgt := 10) (fun c1 => ?_) (fun c1 => ?_)
  · refine Wp.ald_n (j := 0) rfl dX5_table_10 ?_
    refine Wp.iconst dX5_table_11 (by decide) ?_
    refine Wp.callV1 (ct_refuse (d + 1) h sh 2) wc_X5_65 iM_X5_refuse se_X5_refuse kC5 (sK0 (h := h) sh) dX5_table_12 rfl (Nat.le_of_ble_eq_true rfl) rfl (Nat.le_of_ble_eq_true rfl) ?_
    refine Wp.zret rfl dX5_table_15 (by omega) ?_
    exact ⟨⟨_, rfl, Or.inl ⟨rfl, by omega⟩⟩, spx, Fr.f (by decide)⟩
  · refine Wp.ild_n (j := 1) rfl dX5_table_4 ?_
    refine Wp.bipush dX5_table_5 (by decide) ?_
    refine Wp.icle dX5_table_7 (by decide) (tgt := 16) (fun c7 => ?_) (fun c7 => ?_)
    · refine Wp.ald_n (j := 0) rfl dX5_table_16 ?_
      refine Wp.getf (k := 5) (tg := 2) kC5 (by decide) rfl lf_X5_43 dX5_table_17 (sK0 (h := h) sh) (sF0_5 (h := h) sh) ?_
      refine Wp.ild_n (j := 1) rfl dX5_table_20 ?_
      obtain ⟨_, t21, ct21, rfl, spx21, f21⟩ := cq_sempty d h sh spx n (by omega) (by omega)
      have sh21 := sh.fr f21 (by decide +kernel) (by decide)
      refine Wp.callV0 (ct21) wc_X5_239 iM_X3_empty se_X3_empty kC3 (sK22 (h := h) sh) dX5_table_21 rfl (Nat.le_of_ble_eq_true rfl) rfl (Nat.le_of_ble_eq_true rfl) ?_
      refine Wp.ald_n (j := 0) rfl dX5_table_24 ?_
      refine Wp.callV1 (ct_accept (d + 1) t21 sh21) wc_X5_73 iM_X5_accept se_X5_accept kC5 (sK0 (h := t21) sh21) dX5_table_25 rfl (Nat.le_of_ble_eq_true rfl) rfl (Nat.le_of_ble_eq_true rfl) ?_
      refine Wp.zret rfl dX5_table_28 (by omega) ?_
      exact ⟨⟨_, rfl, Or.inr ⟨rfl, by omega⟩⟩, spx21, (f21.mono (fun _ z => z) (fun _ z => List.mem_cons_of_mem _ z)).tr (Fr.f (by decide))⟩
    · refine Wp.ald_n (j := 0) rfl dX5_table_10 ?_
      refine Wp.iconst dX5_table_11 (by decide) ?_
      refine Wp.callV1 (ct_refuse (d + 1) h sh 2) wc_X5_65 iM_X5_refuse se_X5_refuse kC5 (sK0 (h := h) sh) dX5_table_12 rfl (Nat.le_of_ble_eq_true rfl) rfl (Nat.le_of_ble_eq_true rfl) ?_
      refine Wp.zret rfl dX5_table_15 (by omega) ?_
      exact ⟨⟨_, rfl, Or.inl ⟨rfl, by omega⟩⟩, spx, Fr.f (by decide)⟩

theorem cq_span (d : Nat) (h : mH) (sh : Sh h) (spx : SPx h) (i j v : Int) : Cq m_X5_span (d + 2) [(2, 0), (0, i), (0, j), (0, v)] h (fun r t => (∃ y, r = some (0, y) ∧ (y = 0 ∨ y = 1)) ∧ SPx t ∧ Fr sAr ((0, 0) :: sGf) h t) := by
  refine Cq.of ?_
  show Wp m_X5_span ((d + 2)) 0 [(2, 0), (0, i), (0, j), (0, v)] [] h _
  obtain ⟨pw, sp, rr, sr, spq⟩ := id spx
  have hz := spq.2.2.1
  refine Wp.ald_n (j := 0) rfl dX5_span_0 ?_
  refine Wp.getf (k := 5) (tg := 2) kC5 (by decide) rfl lf_X5_43 dX5_span_1 (sK0 (h := h) sh) (sF0_5 (h := h) sh) ?_
  refine Wp.ild_n (j := 1) rfl dX5_span_4 ?_
  refine Wp.ild_n (j := 2) rfl dX5_span_5 ?_
  obtain ⟨_, t6, ct6, rfl, e6⟩ := cq_has (d + 1) h sh i j
  rw [e6] at ct6
  refine Wp.callV1 (ct6) wc_X5_240 iM_X3_has se_X3_has kC3 (sK22 (h := h) sh) dX5_span_6 rfl (Nat.le_of_ble_eq_true rfl) rfl (Nat.le_of_ble_eq_true rfl) ?_
  refine Wp.ifeq dX5_span_9 (by decide) (tgt := 24) (fun c9 => ?_) (fun c9 => ?_)
  · refine Wp.ald_n (j := 0) rfl dX5_span_24 ?_
    refine Wp.iconst dX5_span_25 (by decide) ?_
    refine Wp.callV1 (ct_refuse (d + 1) h sh 2) wc_X5_65 iM_X5_refuse se_X5_refuse kC5 (sK0 (h := h) sh) dX5_span_26 rfl (Nat.le_of_ble_eq_true rfl) rfl (Nat.le_of_ble_eq_true rfl) ?_
    refine Wp.zret rfl dX5_span_29 (by omega) ?_
    exact ⟨⟨_, rfl, Or.inl rfl⟩, spx, Fr.f (by decide)⟩
  · refine Wp.ild_n (j := 3) rfl dX5_span_12 ?_
    refine Wp.ldc (z := -1048576) lk_X5_242 (by decide) dX5_span_13 ?_
    refine Wp.iclt dX5_span_15 (by decide) (tgt := 24) (fun c15 => ?_) (fun c15 => ?_)
    · refine Wp.ald_n (j := 0) rfl dX5_span_24 ?_
      refine Wp.iconst dX5_span_25 (by decide) ?_
      refine Wp.callV1 (ct_refuse (d + 1) h sh 2) wc_X5_65 iM_X5_refuse se_X5_refuse kC5 (sK0 (h := h) sh) dX5_span_26 rfl (Nat.le_of_ble_eq_true rfl) rfl (Nat.le_of_ble_eq_true rfl) ?_
      refine Wp.zret rfl dX5_span_29 (by omega) ?_
      exact ⟨⟨_, rfl, Or.inl rfl⟩, spx, Fr.f (by decide)⟩
    · refine Wp.ild_n (j := 3) rfl dX5_span_18 ?_
      refine Wp.ldc (z := 1048576) lk_X5_243 (by decide) dX5_span_19 ?_
      refine Wp.icle dX5_span_21 (by decide) (tgt := 30) (fun c21 => ?_) (fun c21 => ?_)
      · have hb := ite01 c9
        refine Wp.ald_n (j := 0) rfl dX5_span_30 ?_
        refine Wp.getf (k := 5) (tg := 2) kC5 (by decide) rfl lf_X5_43 dX5_span_31 (sK0 (h := h) sh) (sF0_5 (h := h) sh) ?_
        refine Wp.ild_n (j := 1) rfl dX5_span_34 ?_
        refine Wp.ild_n (j := 2) rfl dX5_span_35 ?_
        refine Wp.ild_n (j := 3) rfl dX5_span_36 ?_
        refine Wp.i2l dX5_span_37 ?_
        refine Wp.callV0 (ct_sput d h sh i j (by omega) (by omega) (by omega) (by omega) _) wc_X5_244 iM_X3_put se_X3_put kC3 (sK22 (h := h) sh) dX5_span_38 rfl (Nat.le_of_ble_eq_true rfl) rfl (Nat.le_of_ble_eq_true rfl) ?_
        refine Wp.ald_n (j := 0) rfl dX5_span_41 ?_
        refine Wp.callV1 (ct_accept (d + 1) _ (sh.fr (A := [23]) (G := []) (Fr.e (by decide)) (by decide +kernel) (by decide))) wc_X5_73 iM_X5_accept se_X5_accept kC5 (sK0 (h := h) sh) dX5_span_42 rfl (Nat.le_of_ble_eq_true rfl) rfl (Nat.le_of_ble_eq_true rfl) ?_
        refine Wp.zret rfl dX5_span_45 (by omega) ?_
        exact ⟨⟨_, rfl, Or.inr rfl⟩, (show SPx (sE h 23 (i * 10 + j) v) from spx.fr (Fr.e (A := [23]) (G := []) (by decide)) (by decide)), (Fr.e (by decide)).tr (Fr.f (by decide))⟩
      · refine Wp.ald_n (j := 0) rfl dX5_span_24 ?_
        refine Wp.iconst dX5_span_25 (by decide) ?_
        refine Wp.callV1 (ct_refuse (d + 1) h sh 2) wc_X5_65 iM_X5_refuse se_X5_refuse kC5 (sK0 (h := h) sh) dX5_span_26 rfl (Nat.le_of_ble_eq_true rfl) rfl (Nat.le_of_ble_eq_true rfl) ?_
        refine Wp.zret rfl dX5_span_29 (by omega) ?_
        exact ⟨⟨_, rfl, Or.inl rfl⟩, spx, Fr.f (by decide)⟩

theorem cq_cut (d : Nat) (h : mH) (sh : Sh h) (spx : SPx h) (i j : Int) : Cq m_X5_cut (d + 2) [(2, 0), (0, i), (0, j)] h (fun r t => (∃ y, r = some (0, y) ∧ (y = 0 ∨ y = 1)) ∧ SPx t ∧ Fr sAr ((0, 0) :: sGf) h t) := by
  refine Cq.of ?_
  show Wp m_X5_cut ((d + 2)) 0 [(2, 0), (0, i), (0, j)] [] h _
  obtain ⟨pw, sp, rr, sr, spq⟩ := id spx
  have hz := spq.2.2.1
  refine Wp.ald_n (j := 0) rfl dX5_cut_0 ?_
  refine Wp.getf (k := 5) (tg := 2) kC5 (by decide) rfl lf_X5_43 dX5_cut_1 (sK0 (h := h) sh) (sF0_5 (h := h) sh) ?_
  refine Wp.ild_n (j := 1) rfl dX5_cut_4 ?_
  refine Wp.ild_n (j := 2) rfl dX5_cut_5 ?_
  obtain ⟨_, t6, ct6, rfl, e6⟩ := cq_has (d + 1) h sh i j
  rw [e6] at ct6
  refine Wp.callV1 (ct6) wc_X5_240 iM_X3_has se_X3_has kC3 (sK22 (h := h) sh) dX5_cut_6 rfl (Nat.le_of_ble_eq_true rfl) rfl (Nat.le_of_ble_eq_true rfl) ?_
  refine Wp.ifne dX5_cut_9 (by decide) (tgt := 18) (fun c9 => ?_) (fun c9 => ?_)
  · have hb := ite01 c9
    refine Wp.ald_n (j := 0) rfl dX5_cut_18 ?_
    refine Wp.getf (k := 5) (tg := 2) kC5 (by decide) rfl lf_X5_43 dX5_cut_19 (sK0 (h := h) sh) (sF0_5 (h := h) sh) ?_
    refine Wp.ild_n (j := 1) rfl dX5_cut_22 ?_
    refine Wp.ild_n (j := 2) rfl dX5_cut_23 ?_
    obtain ⟨_, t24, ct24, ⟨y24, rfl, hy24⟩, f24⟩ := cq_sremove d h sh i j (by omega) (by omega) (by omega) (by omega)
    have sh24 := sh.fr f24 (by decide +kernel) (by decide)
    refine Wp.callV1 (ct24) wc_X5_247 iM_X3_remove se_X3_remove kC3 (sK22 (h := h) sh) dX5_cut_24 rfl (Nat.le_of_ble_eq_true rfl) rfl (Nat.le_of_ble_eq_true rfl) ?_
    refine Wp.ifne dX5_cut_27 (by decide) (tgt := 37) (fun c27 => ?_) (fun c27 => ?_)
    · refine Wp.ald_n (j := 0) rfl dX5_cut_37 ?_
      refine Wp.callV1 (ct_accept (d + 1) t24 sh24) wc_X5_73 iM_X5_accept se_X5_accept kC5 (sK0 (h := t24) sh24) dX5_cut_38 rfl (Nat.le_of_ble_eq_true rfl) rfl (Nat.le_of_ble_eq_true rfl) ?_
      refine Wp.zret rfl dX5_cut_41 (by omega) ?_
      exact ⟨⟨_, rfl, Or.inr rfl⟩, (show SPx t24 from spx.fr f24 (by decide)), (f24.mono (by decide) (by simp)).tr (Fr.f (by decide))⟩
    · refine Wp.ald_n (j := 0) rfl dX5_cut_30 ?_
      refine Wp.bipush dX5_cut_31 (by decide) ?_
      refine Wp.callV1 (ct_refuse (d + 1) t24 sh24 8) wc_X5_65 iM_X5_refuse se_X5_refuse kC5 (sK0 (h := t24) sh24) dX5_cut_33 rfl (Nat.le_of_ble_eq_true rfl) rfl (Nat.le_of_ble_eq_true rfl) ?_
      refine Wp.zret rfl dX5_cut_36 (by omega) ?_
      exact ⟨⟨_, rfl, Or.inl rfl⟩, (show SPx t24 from spx.fr f24 (by decide)), (f24.mono (by decide) (by simp)).tr (Fr.f (by decide))⟩
  · refine Wp.ald_n (j := 0) rfl dX5_cut_12 ?_
    refine Wp.iconst dX5_cut_13 (by decide) ?_
    refine Wp.callV1 (ct_refuse (d + 1) h sh 2) wc_X5_65 iM_X5_refuse se_X5_refuse kC5 (sK0 (h := h) sh) dX5_cut_14 rfl (Nat.le_of_ble_eq_true rfl) rfl (Nat.le_of_ble_eq_true rfl) ?_
    refine Wp.zret rfl dX5_cut_17 (by omega) ?_
    exact ⟨⟨_, rfl, Or.inl rfl⟩, spx, Fr.f (by decide)⟩

