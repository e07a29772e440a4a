abbrev bAr : List Int := [3, 4, 5, 6, 7, 8, 9, 10, 11, 12]
abbrev bGf : List (Int × Nat) := [(0, 0), (2, 0), (2, 1), (2, 2), (2, 8)]
abbrev bGk : List (Int × Nat) := [(0, 0), (2, 2), (2, 8)]
theorem ct_clear (d : Nat) (h : mH) (sh : Sh h) : Ct m_X5_clear (d + 1) [(2, 0)] h (some (0, 1)) (sF (sA (sF h 2 2 0) 5 (flF (hA h 5) 24 0)) 0 0 0) := by
  refine Ct.of ?_
  show Wp m_X5_clear ((d + 1)) 0 [(2, 0)] [] h _
  refine Wp.ald_n (j := 0) rfl dX5_clear_0 ?_
  refine Wp.getf (k := 2) (tg := 2) kC5 (by decide) rfl lf_X5_22 dX5_clear_1 (sK0 (h := h) sh) (sF0_2 (h := h) sh) ?_
  refine Wp.iconst dX5_clear_4 (by decide) ?_
  refine Wp.putfN (k := 2) (tg := 0) kC0 (by decide) rfl rfl lf_X5_164 dX5_clear_5 (sK2 (h := h) sh) ?_
  refine Wp.ald_n (j := 0) rfl dX5_clear_8 ?_
  refine Wp.getf (k := 2) (tg := 2) kC5 (by decide) rfl lf_X5_22 dX5_clear_9 (sK0 (h := h) sh) (sF0_2 (h := h) sh) ?_
  refine Wp.getfN (k := 5) (tg := 2) kC0 (by decide) rfl lf_X5_167 dX5_clear_12 (sK2 (h := h) sh) (sF2_5 (h := h) sh) ?_
  refine Wp.iconst dX5_clear_15 (by decide) ?_
  refine Wp.callS0 (ct_fillI d _ 5 0 24 (sK5 (h := h) sh) (sL5 (h := h) sh) (by decide) (by decide)) wc_X5_170 sM_J7_fill_53178 dX5_clear_16 rfl (Nat.le_of_ble_eq_true rfl) rfl (Nat.le_of_ble_eq_true rfl) ?_
  refine Wp.ald_n (j := 0) rfl dX5_clear_19 ?_
  refine Wp.callV1 (ct_accept d _ (sh.fr (A := [5]) (G := [(2, 2)]) ((Fr.f (by decide)).tr (Fr.a (by decide))) (by decide +kernel) (by decide))) wc_X5_73 iM_X5_accept se_X5_accept kC5 (sK0 (h := h) sh) dX5_clear_20 rfl (Nat.le_of_ble_eq_true rfl) rfl (Nat.le_of_ble_eq_true rfl) ?_
  refine Wp.zret rfl dX5_clear_23 (by omega) ?_
  exact ⟨rfl, rfl⟩

theorem cq_ring (d : Nat) (h : mH) (sh : Sh h) (bi : BI h) (p : Int) : Cq m_X5_ring (d + 1) [(2, 0), (0, p)] h (fun r t => (∃ y, r = some (0, y) ∧ ((y = 0 ∧ ¬ (2 ≤ p ∧ p ≤ 4096) ∧ Fr [] [(0, 0)] h t) ∨ (y = 1 ∧ (2 ≤ p ∧ p ≤ 4096) ∧ hF t 2 0 = p ∧ hF t 2 1 = 0 ∧ Fr [] [(0, 0), (2, 0), (2, 1)] h t))) ∧ BI t ∧ Fr bAr bGf h t) := by
  refine Cq.of ?_
  show Wp m_X5_ring ((d + 1)) 0 [(2, 0), (0, p)] [] h _
  obtain ⟨⟨r0, r1⟩, ⟨n0, n1⟩, ⟨m0, m1⟩, hp, hq⟩ := id bi
  refine Wp.ild_n (j := 1) rfl dX5_ring_0 ?_
  refine Wp.iconst dX5_ring_1 (by decide) ?_
  refine Wp.iclt dX5_ring_2 (by decide) (tgt := 12) (fun c2 => ?_) (fun c2 => ?_)
  · refine Wp.ald_n (j := 0) rfl dX5_ring_12 ?_
    refine Wp.iconst dX5_ring_13 (by decide) ?_
    refine Wp.callV1 (ct_refuse d h sh 2) wc_X5_65 iM_X5_refuse se_X5_refuse kC5 (sK0 (h := h) sh) dX5_ring_14 rfl (Nat.le_of_ble_eq_true rfl) rfl (Nat.le_of_ble_eq_true rfl) ?_
    refine Wp.zret rfl dX5_ring_17 (by omega) ?_
    exact ⟨⟨_, rfl, Or.inl ⟨rfl, by omega, Fr.f (by decide)⟩⟩, bi, Fr.f (by decide)⟩
  · refine Wp.ild_n (j := 1) rfl dX5_ring_5 ?_
    refine Wp.sipush dX5_ring_6 (by decide) ?_
    refine Wp.icle dX5_ring_9 (by decide) (tgt := 18) (fun c9 => ?_) (fun c9 => ?_)
    · refine Wp.ald_n (j := 0) rfl dX5_ring_18 ?_
      refine Wp.getf (k := 2) (tg := 2) kC5 (by decide) rfl lf_X5_22 dX5_ring_19 (sK0 (h := h) sh) (sF0_2 (h := h) sh) ?_
      refine Wp.ild_n (j := 1) rfl dX5_ring_22 ?_
      refine Wp.callV0 (ct_bempty d h sh p) wc_X5_109 iM_X0_empty se_X0_empty kC0 (sK2 (h := h) sh) dX5_ring_23 rfl (Nat.le_of_ble_eq_true rfl) rfl (Nat.le_of_ble_eq_true rfl) ?_
      refine Wp.ald_n (j := 0) rfl dX5_ring_26 ?_
      refine Wp.callV1 (ct_accept d _ (sh.fr (A := []) (G := [(2, 0), (2, 1)]) ((Fr.f (by decide)).tr (Fr.f (by decide))) (by decide +kernel) (by decide))) wc_X5_73 iM_X5_accept se_X5_accept kC5 (sK0 (h := h) sh) dX5_ring_27 rfl (Nat.le_of_ble_eq_true rfl) rfl (Nat.le_of_ble_eq_true rfl) ?_
      refine Wp.zret rfl dX5_ring_30 (by omega) ?_
      exact ⟨⟨_, rfl, Or.inr ⟨rfl, by omega, rfl, rfl, (Fr.f (by decide)).tr ((Fr.f (by decide)).tr (Fr.f (by decide)))⟩⟩, ⟨⟨by show 2 ≤ p; omega, by show p ≤ 4096; omega⟩, ⟨Int.le_refl 0, by show (0 : Int) ≤ 24; decide⟩, ⟨m0, m1⟩, fun k k0 (k1 : k < 0) => absurd k0 (by omega), hq⟩, (Fr.f (by decide)).tr ((Fr.f (by decide)).tr (Fr.f (by decide)))⟩
    · refine Wp.ald_n (j := 0) rfl dX5_ring_12 ?_
      refine Wp.iconst dX5_ring_13 (by decide) ?_
      refine Wp.callV1 (ct_refuse d h sh 2) wc_X5_65 iM_X5_refuse se_X5_refuse kC5 (sK0 (h := h) sh) dX5_ring_14 rfl (Nat.le_of_ble_eq_true rfl) rfl (Nat.le_of_ble_eq_true rfl) ?_
      refine Wp.zret rfl dX5_ring_17 (by omega) ?_
      exact ⟨⟨_, rfl, Or.inl ⟨rfl, by omega, Fr.f (by decide)⟩⟩, bi, Fr.f (by decide)⟩

theorem cq_kind (d : Nat) (h : mH) (sh : Sh h) (bi : BI h) (b k : Int) : Cq m_X5_kind (d + 1) [(2, 0), (0, b), (0, k)] h (fun r t => (∃ y, r = some (0, y) ∧ ((y = 0 ∧ ¬ ((0 ≤ b ∧ b < hF h 2 1) ∧ (0 ≤ k ∧ k < 4)) ∧ Fr [] [(0, 0)] h t) ∨ (y = 1 ∧ ((0 ≤ b ∧ b < hF h 2 1) ∧ (0 ≤ k ∧ k < 4)) ∧ hA t 3 = u1 (hA h 3) b k ∧ Fr [3] [(0, 0)] h t))) ∧ BI t ∧ Fr bAr bGk h t) := by
  refine Cq.of ?_
  show Wp m_X5_kind ((d + 1)) 0 [(2, 0), (0, b), (0, k)] [] h _
  obtain ⟨⟨r0, r1⟩, ⟨n0, n1⟩, ⟨m0, m1⟩, hp, hq⟩ := id bi
  refine Wp.ald_n (j := 0) rfl dX5_kind_0 ?_
  refine Wp.getf (k := 2) (tg := 2) kC5 (by decide) rfl lf_X5_22 dX5_kind_1 (sK0 (h := h) sh) (sF0_2 (h := h) sh) ?_
  refine Wp.ild_n (j := 1) rfl dX5_kind_4 ?_
  refine Wp.callV1 (ct_has d h sh b) wc_X5_129 iM_X0_has se_X0_has kC0 (sK2 (h := h) sh) dX5_kind_5 rfl (Nat.le_of_ble_eq_true rfl) rfl (Nat.le_of_ble_eq_true rfl) ?_
  refine Wp.ifeq dX5_kind_8 (by decide) (tgt := 18) (fun c8 => ?_) (fun c8 => ?_)
  · refine Wp.ald_n (j := 0) rfl dX5_kind_18 ?_
    refine Wp.iconst dX5_kind_19 (by decide) ?_
    refine Wp.callV1 (ct_refuse d h sh 2) wc_X5_65 iM_X5_refuse se_X5_refuse kC5 (sK0 (h := h) sh) dX5_kind_20 rfl (Nat.le_of_ble_eq_true rfl) rfl (Nat.le_of_ble_eq_true rfl) ?_
    refine Wp.zret rfl dX5_kind_23 (by omega) ?_
    exact ⟨⟨_, rfl, Or.inl ⟨rfl, by omega, Fr.f (by decide)⟩⟩, bi, Fr.f (by decide)⟩
  · refine Wp.ild_n (j := 2) rfl dX5_kind_11 ?_
    refine Wp.callS1 (ct_isKind d h k) wc_X5_113 sM_X5_isKind dX5_kind_12 rfl (Nat.le_of_ble_eq_true rfl) rfl (Nat.le_of_ble_eq_true rfl) ?_
    refine Wp.ifne dX5_kind_15 (by decide) (tgt := 24) (fun c15 => ?_) (fun c15 => ?_)
    · have hb : 0 ≤ b ∧ b < hF h 2 1 := by
        by_cases hb : 0 ≤ b ∧ b < hF h 2 1
        · exact hb
        · rw [if_neg hb] at c8
          exact absurd rfl c8
      refine Wp.ald_n (j := 0) rfl dX5_kind_24 ?_
      refine Wp.getf (k := 2) (tg := 2) kC5 (by decide) rfl lf_X5_22 dX5_kind_25 (sK0 (h := h) sh) (sF0_2 (h := h) sh) ?_
      refine Wp.getfN (k := 3) (tg := 2) kC0 (by decide) rfl lf_X5_132 dX5_kind_28 (sK2 (h := h) sh) (sF2_3 (h := h) sh) ?_
      refine Wp.ild_n (j := 1) rfl dX5_kind_31 ?_
      refine Wp.ild_n (j := 2) rfl dX5_kind_32 ?_
      refine Wp.iastore dX5_kind_33 (sK3 (h := h) sh) (by omega) (ilt (sL3 (h := h) sh) (by omega)) ?_
      refine Wp.ald_n (j := 0) rfl dX5_kind_34 ?_
      refine Wp.callV1 (ct_accept d _ (sh.fr (A := [3]) (G := []) (Fr.e (by decide)) (by decide +kernel) (by decide))) wc_X5_73 iM_X5_accept se_X5_accept kC5 (sK0 (h := h) sh) dX5_kind_35 rfl (Nat.le_of_ble_eq_true rfl) rfl (Nat.le_of_ble_eq_true rfl) ?_
      refine Wp.zret rfl dX5_kind_38 (by omega) ?_
      exact ⟨⟨_, rfl, Or.inr ⟨rfl, by omega, rfl, (Fr.e (by decide)).tr (Fr.f (by decide))⟩⟩, ⟨⟨r0, r1⟩, ⟨n0, n1⟩, ⟨m0, m1⟩, hp, hq⟩, (Fr.e (by decide)).tr (Fr.f (by decide))⟩
    · refine Wp.ald_n (j := 0) rfl dX5_kind_18 ?_
      refine Wp.iconst dX5_kind_19 (by decide) ?_
      refine Wp.callV1 (ct_refuse d h sh 2) wc_X5_65 iM_X5_refuse se_X5_refuse kC5 (sK0 (h := h) sh) dX5_kind_20 rfl (Nat.le_of_ble_eq_true rfl) rfl (Nat.le_of_ble_eq_true rfl) ?_
      refine Wp.zret rfl dX5_kind_23 (by omega) ?_
      exact ⟨⟨_, rfl, Or.inl ⟨rfl, by omega, Fr.f (by decide)⟩⟩, bi, Fr.f (by decide)⟩

theorem cq_roads (d : Nat) (h : mH) (sh : Sh h) (bi : BI h) (x : Int) : Cq m_X5_roads (d + 2) [(2, 0), (0, x)] h (fun r t => (∃ y, r = some (0, y) ∧ ((y = 0 ∧ ¬ (0 ≤ x ∧ x ≤ 3) ∧ Fr [] [(0, 0)] h t) ∨ (y = 1 ∧ (0 ≤ x ∧ x ≤ 3) ∧ hA t 6 = gF (rdF x (hF h 2 1)) (hA h 6) (hF h 2 1) ∧ Fr [6] [(0, 0)] h t))) ∧ BI t ∧ Fr bAr bGk h t) := by
  refine Cq.of ?_
  show Wp m_X5_roads ((d + 2)) 0 [(2, 0), (0, x)] [] h _
  obtain ⟨⟨r0, r1⟩, ⟨n0, n1⟩, ⟨m0, m1⟩, hp, hq⟩ := id bi
  refine Wp.ild_n (j := 1) rfl dX5_roads_0 ?_
  refine Wp.iflt dX5_roads_1 (by decide) (tgt := 9) (fun c1 => ?_) (fun c1 => ?_)
  · refine Wp.ald_n (j := 0) rfl dX5_roads_9 ?_
    refine Wp.iconst dX5_roads_10 (by decide) ?_
    refine Wp.callV1 (ct_refuse (d + 1) h sh 2) wc_X5_65 iM_X5_refuse se_X5_refuse kC5 (sK0 (h := h) sh) dX5_roads_11 rfl (Nat.le_of_ble_eq_true rfl) rfl (Nat.le_of_ble_eq_true rfl) ?_
    refine Wp.zret rfl dX5_roads_14 (by omega) ?_
    exact ⟨⟨_, rfl, Or.inl ⟨rfl, by omega, Fr.f (by decide)⟩⟩, bi, Fr.f (by decide)⟩
  · refine Wp.ild_n (j := 1) rfl dX5_roads_4 ?_
    refine Wp.iconst dX5_roads_5 (by decide) ?_
    refine Wp.icle dX5_roads_6 (by decide) (tgt := 15) (fun c6 => ?_) (fun c6 => ?_)
    · refine Wp.ald_n (j := 0) rfl dX5_roads_15 ?_
      refine Wp.getf (k := 2) (tg := 2) kC5 (by decide) rfl lf_X5_22 dX5_roads_16 (sK0 (h := h) sh) (sF0_2 (h := h) sh) ?_
      refine Wp.ild_n (j := 1) rfl dX5_roads_19 ?_
      refine Wp.callV0 (ct_setRoads d h sh x n0 n1) wc_X5_153 iM_X0_setRoads se_X0_setRoads kC0 (sK2 (h := h) sh) dX5_roads_20 rfl (Nat.le_of_ble_eq_true rfl) rfl (Nat.le_of_ble_eq_true rfl) ?_
      refine Wp.ald_n (j := 0) rfl dX5_roads_23 ?_
      refine Wp.callV1 (ct_accept (d + 1) _ (sh.fr (A := [6]) (G := []) (Fr.a (by decide)) (by decide +kernel) (by decide))) wc_X5_73 iM_X5_accept se_X5_accept kC5 (sK0 (h := h) sh) dX5_roads_24 rfl (Nat.le_of_ble_eq_true rfl) rfl (Nat.le_of_ble_eq_true rfl) ?_
      refine Wp.zret rfl dX5_roads_27 (by omega) ?_
      exact ⟨⟨_, rfl, Or.inr ⟨rfl, by omega, rfl, (Fr.a (by decide)).tr (Fr.f (by decide))⟩⟩, ⟨⟨r0, r1⟩, ⟨n0, n1⟩, ⟨m0, m1⟩, hp, hq⟩, (Fr.a (by decide)).tr (Fr.f (by decide))⟩
    · refine Wp.ald_n (j := 0) rfl dX5_roads_9 ?_
      refine Wp.iconst dX5_roads_10 (by decide) ?_
      refine Wp.callV1 (ct_refuse (d + 1) h sh 2) wc_X5_65 iM_X5_refuse se_X5_refuse kC5 (sK0 (h := h) sh) dX5_roads_11 rfl (Nat.le_of_ble_eq_true rfl) rfl (Nat.le_of_ble_eq_true rfl) ?_
      refine Wp.zret rfl dX5_roads_14 (by omega) ?_
      exact ⟨⟨_, rfl, Or.inl ⟨rfl, by omega, Fr.f (by decide)⟩⟩, bi, Fr.f (by decide)⟩

theorem cq_turn (d : Nat) (h : mH) (sh : Sh h) (bi : BI h) (b p : Int) : Cq m_X5_turn (d + 1) [(2, 0), (0, b), (0, p)] h (fun r t => (∃ y, r = some (0, y) ∧ ((y = 0 ∧ ¬ ((0 ≤ b ∧ b < hF h 2 1) ∧ (0 ≤ p ∧ p < hF h 2 0)) ∧ Fr [] [(0, 0)] h t) ∨ (y = 1 ∧ ((0 ≤ b ∧ b < hF h 2 1) ∧ (0 ≤ p ∧ p < hF h 2 0)) ∧ hA t 4 = u1 (hA h 4) b p ∧ Fr [4] [(0, 0)] h t))) ∧ BI t ∧ Fr bAr bGk h t) := by
  refine Cq.of ?_
  show Wp m_X5_turn ((d + 1)) 0 [(2, 0), (0, b), (0, p)] [] h _
  obtain ⟨⟨r0, r1⟩, ⟨n0, n1⟩, ⟨m0, m1⟩, hp, hq⟩ := id bi
  refine Wp.ald_n (j := 0) rfl dX5_turn_0 ?_
  refine Wp.getf (k := 2) (tg := 2) kC5 (by decide) rfl lf_X5_22 dX5_turn_1 (sK0 (h := h) sh) (sF0_2 (h := h) sh) ?_
  refine Wp.ild_n (j := 1) rfl dX5_turn_4 ?_
  refine Wp.callV1 (ct_has d h sh b) wc_X5_129 iM_X0_has se_X0_has kC0 (sK2 (h := h) sh) dX5_turn_5 rfl (Nat.le_of_ble_eq_true rfl) rfl (Nat.le_of_ble_eq_true rfl) ?_
  refine Wp.ifeq dX5_turn_8 (by decide) (tgt := 22) (fun c8 => ?_) (fun c8 => ?_)
  · refine Wp.ald_n (j := 0) rfl dX5_turn_22 ?_
    refine Wp.iconst dX5_turn_23 (by decide) ?_
    refine Wp.callV1 (ct_refuse d h sh 2) wc_X5_65 iM_X5_refuse se_X5_refuse kC5 (sK0 (h := h) sh) dX5_turn_24 rfl (Nat.le_of_ble_eq_true rfl) rfl (Nat.le_of_ble_eq_true rfl) ?_
    refine Wp.zret rfl dX5_turn_27 (by omega) ?_
    exact ⟨⟨_, rfl, Or.inl ⟨rfl, by omega, Fr.f (by decide)⟩⟩, bi, Fr.f (by decide)⟩
  · refine Wp.ald_n (j := 0) rfl dX5_turn_11 ?_
    refine Wp.getf (k := 2) (tg := 2) kC5 (by decide) rfl lf_X5_22 dX5_turn_12 (sK0 (h := h) sh) (sF0_2 (h := h) sh) ?_
    refine Wp.ild_n (j := 2) rfl dX5_turn_15 ?_
    refine Wp.callV1 (ct_isPhase d h sh p) wc_X5_116 iM_X0_isPhase se_X0_isPhase kC0 (sK2 (h := h) sh) dX5_turn_16 rfl (Nat.le_of_ble_eq_true rfl) rfl (Nat.le_of_ble_eq_true rfl) ?_
    refine Wp.ifne dX5_turn_19 (by decide) (tgt := 28) (fun c19 => ?_) (fun c19 => ?_)
    · have hb : 0 ≤ b ∧ b < hF h 2 1 := by
        by_cases hb : 0 ≤ b ∧ b < hF h 2 1
        · exact hb
        · rw [if_neg hb] at c8
          exact absurd rfl c8
      have hph : 0 ≤ p ∧ p < hF h 2 0 := by
        by_cases hb : 0 ≤ p ∧ p < hF h 2 0
        · exact hb
        · rw [if_neg hb] at c19
          exact absurd rfl c19
      refine Wp.ald_n (j := 0) rfl dX5_turn_28 ?_
      refine Wp.getf (k := 2) (tg := 2) kC5 (by decide) rfl lf_X5_22 dX5_turn_29 (sK0 (h := h) sh) (sF0_2 (h := h) sh) ?_
      refine Wp.getfN (k := 4) (tg := 2) kC0 (by decide) rfl lf_X5_135 dX5_turn_32 (sK2 (h := h) sh) (sF2_4 (h := h) sh) ?_
      refine Wp.ild_n (j := 1) rfl dX5_turn_35 ?_
      refine Wp.ild_n (j := 2) rfl dX5_turn_36 ?_
      refine Wp.iastore dX5_turn_37 (sK4 (h := h) sh) (by omega) (ilt (sL4 (h := h) sh) (by omega)) ?_
      refine Wp.ald_n (j := 0) rfl dX5_turn_38 ?_
      refine Wp.callV1 (ct_accept d _ (sh.fr (A := [4]) (G := []) (Fr.e (by decide)) (by decide +kernel) (by decide))) wc_X5_73 iM_X5_accept se_X5_accept kC5 (sK0 (h := h) sh) dX5_turn_39 rfl (Nat.le_of_ble_eq_true rfl) rfl (Nat.le_of_ble_eq_true rfl) ?_
      refine Wp.zret rfl dX5_turn_42 (by omega) ?_
      refine ⟨⟨_, rfl, Or.inr ⟨rfl, by omega, rfl, (Fr.e (by decide)).tr (Fr.f (by decide))⟩⟩, ⟨⟨r0, r1⟩, ⟨n0, n1⟩, ⟨m0, m1⟩, fun k k0 k1 => ?_, hq⟩, (Fr.e (by decide)).tr (Fr.f (by decide))⟩
      show 0 ≤ hA (sE h 4 b p) 4 k ∧ hA (sE h 4 b p) 4 k < hF h 2 0
      rw [hA_sEs]
      by_cases e : k = b
      · subst e
        rw [u1_s]
        exact hph
      · rw [u1_n _ _ e]
        exact hp k k0 k1
    · refine Wp.ald_n (j := 0) rfl dX5_turn_22 ?_
      refine Wp.iconst dX5_turn_23 (by decide) ?_
      refine Wp.callV1 (ct_refuse d h sh 2) wc_X5_65 iM_X5_refuse se_X5_refuse kC5 (sK0 (h := h) sh) dX5_turn_24 rfl (Nat.le_of_ble_eq_true rfl) rfl (Nat.le_of_ble_eq_true rfl) ?_
      refine Wp.zret rfl dX5_turn_27 (by omega) ?_
      exact ⟨⟨_, rfl, Or.inl ⟨rfl, by omega, Fr.f (by decide)⟩⟩, bi, Fr.f (by decide)⟩

theorem cq_road (d : Nat) (h : mH) (sh : Sh h) (bi : BI h) (b c on : Int) : Cq m_X5_road (d + 1) [(2, 0), (0, b), (0, c), (0, on)] h (fun r t => (∃ y, r = some (0, y) ∧ ((y = 0 ∧ ¬ ((0 ≤ b ∧ b < hF h 2 1) ∧ (0 ≤ c ∧ c < hF h 2 1)) ∧ Fr [] [(0, 0)] h t) ∨ (y = 1 ∧ ((0 ≤ b ∧ b < hF h 2 1) ∧ (0 ≤ c ∧ c < hF h 2 1)) ∧ hA t 6 = u1 (hA h 6) b (if on = 0 then kand (hA h 6 b) (kxor (kshl 1 c) (-1)) else kor (hA h 6 b) (kshl 1 c)) ∧ Fr [6] [(0, 0)] h t))) ∧ BI t ∧ Fr bAr bGk h t) := by
  refine Cq.of ?_
  show Wp m_X5_road ((d + 1)) 0 [(2, 0), (0, b), (0, c), (0, on)] [] h _
  obtain ⟨⟨r0, r1⟩, ⟨n0, n1⟩, ⟨m0, m1⟩, hp, hq⟩ := id bi
  refine Wp.ald_n (j := 0) rfl dX5_road_0 ?_
  refine Wp.getf (k := 2) (tg := 2) kC5 (by decide) rfl lf_X5_22 dX5_road_1 (sK0 (h := h) sh) (sF0_2 (h := h) sh) ?_
  refine Wp.ild_n (j := 1) rfl dX5_road_4 ?_
  refine Wp.callV1 (ct_has d h sh b) wc_X5_129 iM_X0_has se_X0_has kC0 (sK2 (h := h) sh) dX5_road_5 rfl (Nat.le_of_ble_eq_true rfl) rfl (Nat.le_of_ble_eq_true rfl) ?_
  refine Wp.ifeq dX5_road_8 (by decide) (tgt := 22) (fun c8 => ?_) (fun c8 => ?_)
  · refine Wp.ald_n (j := 0) rfl dX5_road_22 ?_
    refine Wp.iconst dX5_road_23 (by decide) ?_
    refine Wp.callV1 (ct_refuse d h sh 2) wc_X5_65 iM_X5_refuse se_X5_refuse kC5 (sK0 (h := h) sh) dX5_road_24 rfl (Nat.le_of_ble_eq_true rfl) rfl (Nat.le_of_ble_eq_true rfl) ?_
    refine Wp.zret rfl dX5_road_27 (by omega) ?_
    exact ⟨⟨_, rfl, Or.inl ⟨rfl, by omega, Fr.f (by decide)⟩⟩, bi, Fr.f (by decide)⟩
  · refine Wp.ald_n (j := 0) rfl dX5_road_11 ?_
    refine Wp.getf (k := 2) (tg := 2) kC5 (by decide) rfl lf_X5_22 dX5_road_12 (sK0 (h := h) sh) (sF0_2 (h := h) sh) ?_
    refine Wp.ild_n (j := 2) rfl dX5_road_15 ?_
    refine Wp.callV1 (ct_has d h sh c) wc_X5_129 iM_X0_has se_X0_has kC0 (sK2 (h := h) sh) dX5_road_16 rfl (Nat.le_of_ble_eq_true rfl) rfl (Nat.le_of_ble_eq_true rfl) ?_
    refine Wp.ifne dX5_road_19 (by decide) (tgt := 28) (fun c19 => ?_) (fun c19 => ?_)
    · have hb : 0 ≤ b ∧ b < hF h 2 1 := by
        by_cases hb : 0 ≤ b ∧ b < hF h 2 1
        · exact hb
        · rw [if_neg hb] at c8
          exact absurd rfl c8
      refine Wp.ald_n (j := 0) rfl dX5_road_28 ?_
      refine Wp.getf (k := 2) (tg := 2) kC5 (by decide) rfl lf_X5_22 dX5_road_29 (sK0 (h := h) sh) (sF0_2 (h := h) sh) ?_
      refine Wp.ild_n (j := 1) rfl dX5_road_32 ?_
      refine Wp.ild_n (j := 2) rfl dX5_road_33 ?_
      refine Wp.ild_n (j := 3) rfl dX5_road_34 ?_
      refine Wp.callV0 (ct_setRoad d h sh b c on hb.1 (by omega)) wc_X5_149 iM_X0_setRoad se_X0_setRoad kC0 (sK2 (h := h) sh) dX5_road_35 rfl (Nat.le_of_ble_eq_true rfl) rfl (Nat.le_of_ble_eq_true rfl) ?_
      refine Wp.ald_n (j := 0) rfl dX5_road_38 ?_
      refine Wp.callV1 (ct_accept d _ (sh.fr (A := [6]) (G := []) (Fr.e (by decide)) (by decide +kernel) (by decide))) wc_X5_73 iM_X5_accept se_X5_accept kC5 (sK0 (h := h) sh) dX5_road_39 rfl (Nat.le_of_ble_eq_true rfl) rfl (Nat.le_of_ble_eq_true rfl) ?_
      refine Wp.zret rfl dX5_road_42 (by omega) ?_
      exact ⟨⟨_, rfl, Or.inr ⟨rfl, by omega, rfl, (Fr.e (by decide)).tr (Fr.f (by decide))⟩⟩, ⟨⟨r0, r1⟩, ⟨n0, n1⟩, ⟨m0, m1⟩, hp, hq⟩, (Fr.e (by decide)).tr (Fr.f (by decide))⟩
    · refine Wp.ald_n (j := 0) rfl dX5_road_22 ?_
      refine Wp.iconst dX5_road_23 (by decide) ?_
      refine Wp.callV1 (ct_refuse d h sh 2) wc_X5_65 iM_X5_refuse se_X5_refuse kC5 (sK0 (h := h) sh) dX5_road_24 rfl (Nat.le_of_ble_eq_true rfl) rfl (Nat.le_of_ble_eq_true rfl) ?_
      refine Wp.zret rfl dX5_road_27 (by omega) ?_
      exact ⟨⟨_, rfl, Or.inl ⟨rfl, by omega, Fr.f (by decide)⟩⟩, bi, Fr.f (by decide)⟩

