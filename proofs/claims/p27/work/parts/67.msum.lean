theorem mcr120 (d : Nat) (h : mH) (sh : Sh h) (c f lo : Int) (c0 : 0 ≤ c ∧ c ≤ 10) (l0 : 0 ≤ lo ∧ lo < 10) (Q : Option mV → mH → Prop) (kq : Wp m_X6_critical (d + 4) 147 [(2, 41), (0, c), (0, f), (0, lo), (1, hA h 68 (100 * c + 11 * lo)), (9, 0), (0, lo), (0, 0), (9, 0)] [] (sF h 41 39 c) Q) : Wp m_X6_critical (d + 4) 120 [(2, 41), (0, c), (0, f), (0, lo), (9, 0), (9, 0), (9, 0), (9, 0), (9, 0)] [] h Q := by
  refine Wp.ald_n (j := 0) rfl dX6_critical_120 ?_
  refine Wp.getf (k := 35) (tg := 2) kC6 (by decide) rfl lf_X6_99 dX6_critical_121 (sK41 (h := h) sh) (sF41_35 (h := h) sh) ?_
  refine Wp.bipush dX6_critical_124 (by decide) ?_
  refine Wp.ild_n (j := 1) rfl dX6_critical_126 ?_
  refine Wp.imulE dX6_critical_127 (by first | exact w32_of (by omega) (by omega) | rfl) ?_
  refine Wp.bipush dX6_critical_128 (by decide) ?_
  refine Wp.ild_n (j := 3) rfl dX6_critical_130 ?_
  refine Wp.imulE dX6_critical_131 (by first | exact w32_of (by omega) (by omega) | rfl) ?_
  refine Wp.iaddE dX6_critical_132 (by first | exact w32_of (by omega) (by omega) | rfl) ?_
  refine Wp.laload dX6_critical_133 (sK68 (h := h) sh) (by omega) (ilt (sL68 (h := h) sh) (by omega)) (show hA _ 68 _ = hA h 68 _ from rfl) ?_
  refine stl_9_4 rfl (dSt_w dX6_critical_134) ?_
  refine Wp.ild_n (j := 3) rfl dX6_critical_136 ?_
  refine sti_9_6 rfl (dSt_w dX6_critical_137) ?_
  refine Wp.ald_n (j := 0) rfl dX6_critical_139 ?_
  refine Wp.ild_n (j := 1) rfl dX6_critical_140 ?_
  refine Wp.putf (k := 39) (tg := 0) kC6 (by decide) rfl rfl lf_X6_275 dX6_critical_141 (sK41 (h := h) sh) ?_
  refine Wp.iconst dX6_critical_144 (by decide) ?_
  refine sti_9_7 rfl (dSt_w dX6_critical_145) ?_
  exact kq

theorem cq_mcritical (d : Nat) (h : mH) (sh : Sh h) (mi : MI h) : Cq m_X6_critical (d + 4) [(2, 41)] h (fun r t => (∃ y, r = some (0, y)) ∧ MI t ∧ Fr mAq mGq h t) := by
  refine Cq.of ?_
  show Wp m_X6_critical ((d + 4)) 0 [(2, 41), (9, 0), (9, 0), (9, 0), (9, 0), (9, 0), (9, 0), (9, 0), (9, 0)] [] h _
  refine Wp.ald_n (j := 0) rfl dX6_critical_0 ?_
  refine Wp.iconst dX6_critical_1 (by decide) ?_
  refine Wp.putf (k := 1) (tg := 0) kC6 (by decide) rfl rfl lf_X6_117 dX6_critical_2 (sK41 (h := h) sh) ?_
  refine Wp.ald_n (j := 0) rfl dX6_critical_5 ?_
  refine Wp.iconst dX6_critical_6 (by decide) ?_
  refine Wp.putf (k := 0) (tg := 0) kC6 (by decide) rfl rfl lf_X6_120 dX6_critical_7 (sK41 (h := h) sh) ?_
  refine Wp.ald_n (j := 0) rfl dX6_critical_10 ?_
  obtain ⟨_, t11, ct11, ⟨yt11, rfl, hyt11⟩, ft11, pt11⟩ := cq_paces d (sF (sF h 41 1 0) 41 0 0) sh.m0 mi.2.2.1
  have sht11 : Sh t11 := sh.m0.fr ft11 (by decide +kernel) (by decide)
  have mit11 : MI t11 := MI.fr (h := (sF (sF h 41 1 0) 41 0 0)) mi (ft11.mono (by decide) (by decide))
  have frt11 : Fr mAq mGq h t11 := ((Fr.f (by decide)).tr (Fr.f (by decide))).tr (ft11.mono (by decide) (by decide))
  have e30 : hF t11 41 30 = hF (sF (sF h 41 1 0) 41 0 0) 41 30 := ft11.2.2.2.2.1 41 30 (by decide)
  have e64 : hA t11 64 = hA (sF (sF h 41 1 0) 41 0 0) 64 := ft11.2.2.2.2.2 64 (by decide)
  refine Wp.callV1 (ct11) wc_X6_268 iM_X6_paces se_X6_paces kC6 (sK41 (h := h) sh) dX6_critical_11 rfl (Nat.le_of_ble_eq_true rfl) rfl (Nat.le_of_ble_eq_true rfl) ?_
  refine Wp.ifne dX6_critical_14 (by decide) (tgt := 24) (fun c14 => ?_) (fun c14 => ?_)
  · refine Wp.iconst dX6_critical_24 (by decide) ?_
    refine sti_9_1 rfl (dSt_n dX6_critical_25) ?_
    refine Wp.iconst dX6_critical_26 (by decide) ?_
    refine sti_9_2 rfl (dSt_n dX6_critical_27) ?_
    have pq : PQ9 (hA t11 64) (hF t11 41 30) (hF t11 41 36) (hF t11 41 37) := by
      rw [e30, e64]
      rcases hyt11 with z | z
      · omega
      · exact z.2
    have pt : PT t11 t11 0 (hF t11 41 30) := by
      unfold PT
      rw [e30, e64]
      exact pt11
    have z9 : 0 ≤ hF t11 41 30 ∧ hF t11 41 30 ≤ 10 := mit11.2.2.1.1
    have hs : spK (hA t11 64) := mit11.2.2.1.2
    obtain ⟨n0, i0, h1, h2, h3, h4, h5, h6⟩ := pq.2.2.1
    refine mcr2 d t11 sht11 z9 hs pt pq n0 i0 h1 h2 h3 h4 ⟨h5, h6⟩ _ (fun c i x3 c1 c2 i1 i2 hip => ?_) _ 0 0 _ (Nat.lt_succ_self _) (by omega) (Or.inl ⟨rfl, by omega⟩)
    obtain ⟨p, p0, p1, q1, q2, q3, q4⟩ := mPw_least hs z9.2 (c := c.toNat) (by omega) (by omega) i1 i2 hip.1
    have hmx := (pq.2.2.2 c p c1 c2 p0 p1).resolve_left q3
    have hp2 : mPw (hA t11 64) (hF t11 41 30) p c.toNat p p * hF t11 41 37 = hF t11 41 36 * c := by
      have a1 : vP (hA t11 64) (hF t11 41 30) c i * hF t11 41 37 ≤ mPw (hA t11 64) (hF t11 41 30) p c.toNat p p * hF t11 41 37 := Int.mul_le_mul_of_nonneg_right q2 (by have := pq.1.1; omega)
      have a2 : mPw (hA t11 64) (hF t11 41 30) p c.toNat p p * hF t11 41 37 ≤ vP (hA t11 64) (hF t11 41 30) c p * hF t11 41 37 := Int.mul_le_mul_of_nonneg_right q4 (by have := pq.1.1; omega)
      have a3 := hip.2
      omega
    refine Wp.iconst dX6_critical_78 (by decide) ?_
    refine sti_9_3 rfl (dSt_n dX6_critical_79) ?_
    refine Wp.ald_n (j := 0) rfl dX6_critical_80 ?_
    refine Wp.ild_n (j := 1) rfl dX6_critical_81 ?_
    refine Wp.ild_n (j := 3) rfl dX6_critical_82 ?_
    obtain ⟨_, t83, ct83, rfl, f83, p83⟩ := cq_fillPowers (d + 1) t11 sht11 z9.2 c 0 (by omega) (by omega)
    refine Wp.callV0 ct83 wc_X6_254 iM_X6_fillPowers se_X6_fillPowers kC6 (sK41 sht11) dX6_critical_83 rfl (Nat.le_of_ble_eq_true rfl) rfl (Nat.le_of_ble_eq_true rfl) ?_
    refine mcr3 d t11 sht11 z9 hs pq.1 pq.2.1 c 1 p (by omega) ⟨p0, p1⟩ q1 hp2 _ _ _ _ _ _ (fun t lo frt ptt l0 l1 hv => ?_) _ 0 t83 (Nat.lt_succ_self _) (by omega) p0 f83 p83
    have sht : Sh t := sht11.fr frt (by decide +kernel) (by decide)
    refine mcr120 d t sht c 1 lo (by omega) (by omega) _ ?_
    have g0 : Fr [67, 68] [(41, 39)] t11 (sF t 41 39 c) := (frt.mono (by simp) (by simp)).tr (Fr.f (by decide))
    have g30 : hF (sF t 41 39 c) 41 30 = hF t11 41 30 := g0.2.2.2.2.1 41 30 (by decide)
    have g64 : hA (sF t 41 39 c) 64 = hA t11 64 := g0.2.2.2.2.2 64 (by decide)
    have hrd : hA t 68 (100 * c + 11 * lo) = mPw (hA t11 64) (hF t11 41 30) lo c.toNat lo lo := by
      have := ptt c.toNat lo lo (by omega) (Int.le_refl _) l1 (Int.le_refl _) l1
      rw [show (100 * c + 11 * lo) = 100 * ((c.toNat : Nat) : Int) + 10 * lo + lo by omega]
      exact this
    refine (mcr5 d (sF t 41 39 c) (sht.m (Fr.f (by decide))) c 1 lo (by rw [g30]; exact z9) (by rw [g64]; exact hs) (by omega) l0 ?_ _ 0 lo _ _ _ (Nat.lt_succ_self _) (by omega) (by omega) (by rw [g30]; exact ⟨Int.le_refl _, l1⟩) ?_ ?_ Fr.rf).mono (fun r u q => ?_)
    · unfold PT
      rw [g30, g64]
      exact ptt
    · rw [g30, g64, show (c - 0).toNat = c.toNat by omega]
      exact hrd
    · rw [hrd]
      exact hv
    obtain ⟨hr, fru⟩ := q
    have g1 : Fr [67, 68, 69] [(41, 39)] t11 u := (g0.mono (by simp) (by simp)).tr (fru.mono (by simp) (by simp))
    refine ⟨hr, ⟨mit11.1.fr g1 (by decide) (by decide) (by decide) (by decide) (by decide), mit11.2.1.fr g1 (by decide), mit11.2.2.1.fr g1 (by decide) (by decide), ?_, ?_, ?_⟩, frt11.tr (g1.mono (by decide) (by decide))⟩
    · rw [g1.2.2.2.2.1 41 27 (by decide)]
      exact mit11.2.2.2.1
    · rw [g1.2.2.2.2.1 41 28 (by decide)]
      exact mit11.2.2.2.2.1
    · rw [fru.2.2.2.2.1 41 39 (by simp)]
      show 0 ≤ c ∧ c ≤ 10
      omega
  · refine Wp.ald_n (j := 0) rfl dX6_critical_17 ?_
    refine Wp.bipush dX6_critical_18 (by decide) ?_
    refine Wp.callV1 (ct_mrefuse (d + 3) t11 (sK41 sht11) 8) wc_X6_151 iM_X6_refuse se_X6_refuse kC6 (sK41 (h := t11) sht11) dX6_critical_20 rfl (Nat.le_of_ble_eq_true rfl) rfl (Nat.le_of_ble_eq_true rfl) ?_
    refine Wp.iret rfl dX6_critical_23 ?_
    exact ⟨⟨_, rfl⟩, mit11, frt11.tr (Fr.f (by decide))⟩

theorem cq_mpace (d : Nat) (h : mH) (sh : Sh h) (mi : MI h) (x : Int) : Cq m_X6_pace (d + 4) [(2, 41), (0, x)] h (fun r t => (∃ y, r = some (1, y)) ∧ MI t ∧ Fr mAq mGq h t) := by
  refine Cq.of ?_
  show Wp m_X6_pace ((d + 4)) 0 [(2, 41), (0, x)] [] h _
  refine Wp.ald_n (j := 0) rfl dX6_pace_0 ?_
  refine Wp.iconst dX6_pace_1 (by decide) ?_
  refine Wp.putf (k := 1) (tg := 0) kC6 (by decide) rfl rfl lf_X6_117 dX6_pace_2 (sK41 (h := h) sh) ?_
  refine Wp.ald_n (j := 0) rfl dX6_pace_5 ?_
  refine Wp.iconst dX6_pace_6 (by decide) ?_
  refine Wp.putf (k := 0) (tg := 0) kC6 (by decide) rfl rfl lf_X6_120 dX6_pace_7 (sK41 (h := h) sh) ?_
  refine Wp.ild_n (j := 1) rfl dX6_pace_10 ?_
  refine Wp.iflt dX6_pace_11 (by decide) (tgt := 19) (fun c11 => ?_) (fun c11 => ?_)
  · refine Wp.ald_n (j := 0) rfl dX6_pace_19 ?_
    refine Wp.iconst dX6_pace_20 (by decide) ?_
    refine Wp.callV1 (ct_mrefuse (d + 3) (sF (sF h 41 1 0) 41 0 0) (sK41 (h := h) sh) 2) wc_X6_151 iM_X6_refuse se_X6_refuse kC6 (sK41 (h := h) sh) dX6_pace_21 rfl (Nat.le_of_ble_eq_true rfl) rfl (Nat.le_of_ble_eq_true rfl) ?_
    refine Wp.i2l dX6_pace_24 ?_
    refine Wp.lret rfl dX6_pace_25 ?_
    exact ⟨⟨_, rfl⟩, mi, ((Fr.f (by decide)).tr ((Fr.f (by decide)).tr (Fr.f (by decide))))⟩
  · refine Wp.ild_n (j := 1) rfl dX6_pace_14 ?_
    refine Wp.iconst dX6_pace_15 (by decide) ?_
    refine Wp.icle dX6_pace_16 (by decide) (tgt := 26) (fun c16 => ?_) (fun c16 => ?_)
    · refine Wp.ald_n (j := 0) rfl dX6_pace_26 ?_
      obtain ⟨_, t27, ct27, ⟨yt27, rfl, hyt27⟩, ft27, pt27⟩ := cq_paces d (sF (sF h 41 1 0) 41 0 0) sh.m0 mi.2.2.1
      have sht27 : Sh t27 := sh.m0.fr ft27 (by decide +kernel) (by decide)
      have mit27 : MI t27 := MI.fr (h := (sF (sF h 41 1 0) 41 0 0)) mi (ft27.mono (by decide) (by decide))
      have frt27 : Fr mAq mGq h t27 := ((Fr.f (by decide)).tr (Fr.f (by decide))).tr (ft27.mono (by decide) (by decide))
      have e30 : hF t27 41 30 = hF (sF (sF h 41 1 0) 41 0 0) 41 30 := ft27.2.2.2.2.1 41 30 (by decide)
      have e64 : hA t27 64 = hA (sF (sF h 41 1 0) 41 0 0) 64 := ft27.2.2.2.2.2 64 (by decide)
      refine Wp.callV1 (ct27) wc_X6_268 iM_X6_paces se_X6_paces kC6 (sK41 (h := h) sh) dX6_pace_27 rfl (Nat.le_of_ble_eq_true rfl) rfl (Nat.le_of_ble_eq_true rfl) ?_
      refine Wp.ifne dX6_pace_30 (by decide) (tgt := 41) (fun c30 => ?_) (fun c30 => ?_)
      · refine Wp.ild_n (j := 1) rfl dX6_pace_41 ?_
        refine Wp.ifne dX6_pace_42 (by decide) (tgt := 52) (fun c42 => ?_) (fun c42 => ?_)
        · refine Wp.ald_n (j := 0) rfl dX6_pace_52 ?_
          refine Wp.getf (k := 37) (tg := 1) kC6 (by decide) rfl lf_X6_258 dX6_pace_53 (sK41 (h := t27) sht27) (show hF _ 41 37 = hF t27 41 37 from rfl) ?_
          refine Wp.lret rfl dX6_pace_56 ?_
          exact ⟨⟨_, rfl⟩, mit27, frt27⟩
        · refine Wp.ald_n (j := 0) rfl dX6_pace_45 ?_
          refine Wp.getf (k := 36) (tg := 1) kC6 (by decide) rfl lf_X6_262 dX6_pace_46 (sK41 (h := t27) sht27) (show hF _ 41 36 = hF t27 41 36 from rfl) ?_
          refine Wp.goto (tgt := 56) dX6_pace_49 (by decide) ?_
          refine Wp.lret rfl dX6_pace_56 ?_
          exact ⟨⟨_, rfl⟩, mit27, frt27⟩
      · refine Wp.ald_n (j := 0) rfl dX6_pace_33 ?_
        refine Wp.bipush dX6_pace_34 (by decide) ?_
        refine Wp.callV1 (ct_mrefuse (d + 3) t27 (sK41 sht27) 8) wc_X6_151 iM_X6_refuse se_X6_refuse kC6 (sK41 (h := t27) sht27) dX6_pace_36 rfl (Nat.le_of_ble_eq_true rfl) rfl (Nat.le_of_ble_eq_true rfl) ?_
        refine Wp.i2l dX6_pace_39 ?_
        refine Wp.lret rfl dX6_pace_40 ?_
        exact ⟨⟨_, rfl⟩, mit27, frt27.tr (Fr.f (by decide))⟩
    · refine Wp.ald_n (j := 0) rfl dX6_pace_19 ?_
      refine Wp.iconst dX6_pace_20 (by decide) ?_
      refine Wp.callV1 (ct_mrefuse (d + 3) (sF (sF h 41 1 0) 41 0 0) (sK41 (h := h) sh) 2) wc_X6_151 iM_X6_refuse se_X6_refuse kC6 (sK41 (h := h) sh) dX6_pace_21 rfl (Nat.le_of_ble_eq_true rfl) rfl (Nat.le_of_ble_eq_true rfl) ?_
      refine Wp.i2l dX6_pace_24 ?_
      refine Wp.lret rfl dX6_pace_25 ?_
      exact ⟨⟨_, rfl⟩, mi, ((Fr.f (by decide)).tr ((Fr.f (by decide)).tr (Fr.f (by decide))))⟩

theorem mlo1 (d : Nat) (h : mH) (sh : Sh h) (z1 : 0 ≤ hF h 41 30 ∧ hF h 41 30 ≤ 10) (i j : Int) (ij : (0 ≤ i ∧ i < 10) ∧ 0 ≤ j ∧ j < 10) (n b : Int) (n0 : 0 ≤ n ∧ n ≤ 10) (Q : Option mV → mH → Prop) (kq : ∀ a k : Int, Wp m_X6_longest (d + 3) 132 [(2, 41), (0, i), (0, j), (1, b), (9, 0), (0, a), (0, n), (0, k)] [] h Q) : ∀ (m : Nat) (k a : Int), (hF h 41 30 - k).toNat < m → (0 ≤ k) → Wp m_X6_longest (d + 3) 79 [(2, 41), (0, i), (0, j), (1, b), (9, 0), (0, a), (0, n), (0, k)] [] h Q := by
  intro m
  induction m with
  | zero => intro k a hm; exact absurd hm (Nat.not_lt_zero _)
  | succ m ih =>
    intro k a hm k0
    refine Wp.ild (j := 7) rfl dX6_longest_79 ?_
    refine Wp.ald_n (j := 0) rfl dX6_longest_81 ?_
    refine Wp.getf (k := 30) (tg := 0) kC6 (by decide) rfl lf_X6_230 dX6_longest_82 (sK41 (h := h) sh) (show hF _ 41 30 = hF h 41 30 from rfl) ?_
    refine Wp.icge dX6_longest_85 (by decide) (tgt := 132) (fun c85 => ?_) (fun c85 => ?_)
    · exact kq _ _
    · refine Wp.ild (j := 5) rfl dX6_longest_88 ?_
      refine Wp.ifne dX6_longest_90 (by decide) (tgt := 119) (fun c90 => ?_) (fun c90 => ?_)
      · refine Wp.iconst dX6_longest_119 (by decide) ?_
        refine Wp.goto (tgt := 124) dX6_longest_120 (by decide) ?_
        refine sti_8_5 rfl (dSt_w dX6_longest_124) ?_
        refine inc_8_7 rfl dX6_longest_126 (by first | exact w32_of (by omega) (by omega) | rfl) ?_
        refine Wp.goto (tgt := 79) dX6_longest_129 (by decide) ?_
        exact ih (k + 1) _ (by omega) (by omega)
      · refine Wp.ild (j := 6) rfl dX6_longest_93 ?_
        refine Wp.ifle dX6_longest_95 (by decide) (tgt := 123) (fun c95 => ?_) (fun c95 => ?_)
        · refine Wp.iconst dX6_longest_123 (by decide) ?_
          refine sti_8_5 rfl (dSt_w dX6_longest_124) ?_
          refine inc_8_7 rfl dX6_longest_126 (by first | exact w32_of (by omega) (by omega) | rfl) ?_
          refine Wp.goto (tgt := 79) dX6_longest_129 (by decide) ?_
          exact ih (k + 1) _ (by omega) (by omega)
        · refine Wp.ald_n (j := 0) rfl dX6_longest_98 ?_
          refine Wp.getf (k := 35) (tg := 2) kC6 (by decide) rfl lf_X6_99 dX6_longest_99 (sK41 (h := h) sh) (sF41_35 (h := h) sh) ?_
          refine Wp.bipush dX6_longest_102 (by decide) ?_
          refine Wp.ild (j := 6) rfl dX6_longest_104 ?_
          refine Wp.imulE dX6_longest_106 (by first | exact w32_of (by omega) (by omega) | rfl) ?_
          refine Wp.bipush dX6_longest_107 (by decide) ?_
          refine Wp.ild (j := 7) rfl dX6_longest_109 ?_
          refine Wp.imulE dX6_longest_111 (by first | exact w32_of (by omega) (by omega) | rfl) ?_
          refine Wp.iaddE dX6_longest_112 (by first | exact w32_of (by omega) (by omega) | rfl) ?_
          refine Wp.laload dX6_longest_113 (sK68 (h := h) sh) (by omega) (ilt (sL68 (h := h) sh) (by omega)) (show hA _ 68 _ = hA h 68 _ from rfl) ?_
          refine Wp.lconst (z := 0) dX6_longest_114 (by decide) ?_
          refine Wp.lcle dX6_longest_115 dX6_longest_116 (by decide) (tgt := 123) (fun c115 => ?_) (fun c115 => ?_)
          · refine Wp.iconst dX6_longest_123 (by decide) ?_
            refine sti_8_5 rfl (dSt_w dX6_longest_124) ?_
            refine inc_8_7 rfl dX6_longest_126 (by first | exact w32_of (by omega) (by omega) | rfl) ?_
            refine Wp.goto (tgt := 79) dX6_longest_129 (by decide) ?_
            exact ih (k + 1) _ (by omega) (by omega)
          · refine Wp.iconst dX6_longest_119 (by decide) ?_
            refine Wp.goto (tgt := 124) dX6_longest_120 (by decide) ?_
            refine sti_8_5 rfl (dSt_w dX6_longest_124) ?_
            refine inc_8_7 rfl dX6_longest_126 (by first | exact w32_of (by omega) (by omega) | rfl) ?_
            refine Wp.goto (tgt := 79) dX6_longest_129 (by decide) ?_
            exact ih (k + 1) _ (by omega) (by omega)

theorem mlo2 (d : Nat) (h : mH) (sh : Sh h) (z1 : 0 ≤ hF h 41 30 ∧ hF h 41 30 ≤ 10) (i j : Int) (ij : (0 ≤ i ∧ i < 10) ∧ 0 ≤ j ∧ j < 10) : ∀ (m : Nat) (n b a : Int) (x7 : mV), (hF h 41 30 + 1 - n).toNat < m → (0 ≤ n) → Wp m_X6_longest (d + 3) 45 [(2, 41), (0, i), (0, j), (1, b), (9, 0), (0, a), (0, n), x7] [] h (fun r t => (∃ y, r = some (1, y)) ∧ (t = h ∨ ∃ v, t = sF h 41 0 v)) := by
  intro m
  induction m with
  | zero => intro n b a x7 hm; exact absurd hm (Nat.not_lt_zero _)
  | succ m ih =>
    intro n b a x7 hm n0
    refine Wp.ild (j := 6) rfl dX6_longest_45 ?_
    refine Wp.ald_n (j := 0) rfl dX6_longest_47 ?_
    refine Wp.getf (k := 30) (tg := 0) kC6 (by decide) rfl lf_X6_230 dX6_longest_48 (sK41 (h := h) sh) (show hF _ 41 30 = hF h 41 30 from rfl) ?_
    refine Wp.icgt dX6_longest_51 (by decide) (tgt := 138) (fun c51 => ?_) (fun c51 => ?_)
    · refine Wp.lld_n (j := 3) rfl dX6_longest_138 ?_
      refine Wp.ldc2 (z := -9223372036854775808) lk_X6_115 (by decide) dX6_longest_139 ?_
      refine Wp.lcne dX6_longest_142 dX6_longest_143 (by decide) (tgt := 156) (fun c142 => ?_) (fun c142 => ?_)
      · refine Wp.ild (j := 5) rfl dX6_longest_156 ?_
        refine Wp.ifeq dX6_longest_158 (by decide) (tgt := 171) (fun c158 => ?_) (fun c158 => ?_)
        · refine Wp.lld_n (j := 3) rfl dX6_longest_171 ?_
          refine Wp.lret rfl dX6_longest_172 ?_
          exact ⟨⟨_, rfl⟩, Or.inl rfl⟩
        · refine Wp.ald_n (j := 0) rfl dX6_longest_161 ?_
          refine Wp.bipush dX6_longest_162 (by decide) ?_
          refine Wp.callV1 (ct_mrefuse (d + 2) h (sK41 sh) 9) wc_X6_151 iM_X6_refuse se_X6_refuse kC6 (sK41 (h := h) sh) dX6_longest_164 rfl (Nat.le_of_ble_eq_true rfl) rfl (Nat.le_of_ble_eq_true rfl) ?_
          refine Wp.i2l dX6_longest_167 ?_
          refine Wp.goto (tgt := 172) dX6_longest_168 (by decide) ?_
          refine Wp.lret rfl dX6_longest_172 ?_
          exact ⟨⟨_, rfl⟩, Or.inr ⟨_, rfl⟩⟩
      · refine Wp.ald_n (j := 0) rfl dX6_longest_146 ?_
        refine Wp.bipush dX6_longest_147 (by decide) ?_
        refine Wp.callV1 (ct_mrefuse (d + 2) h (sK41 sh) 8) wc_X6_151 iM_X6_refuse se_X6_refuse kC6 (sK41 (h := h) sh) dX6_longest_149 rfl (Nat.le_of_ble_eq_true rfl) rfl (Nat.le_of_ble_eq_true rfl) ?_
        refine Wp.i2l dX6_longest_152 ?_
        refine Wp.goto (tgt := 172) dX6_longest_153 (by decide) ?_
        refine Wp.lret rfl dX6_longest_172 ?_
        exact ⟨⟨_, rfl⟩, Or.inr ⟨_, rfl⟩⟩
    · refine Wp.lld_n (j := 3) rfl dX6_longest_54 ?_
      refine Wp.ald_n (j := 0) rfl dX6_longest_55 ?_
      refine Wp.getf (k := 35) (tg := 2) kC6 (by decide) rfl lf_X6_99 dX6_longest_56 (sK41 (h := h) sh) (sF41_35 (h := h) sh) ?_
      refine Wp.bipush dX6_longest_59 (by decide) ?_
      refine Wp.ild (j := 6) rfl dX6_longest_61 ?_
      refine Wp.imulE dX6_longest_63 (by first | exact w32_of (by omega) (by omega) | rfl) ?_
      refine Wp.bipush dX6_longest_64 (by decide) ?_
      refine Wp.ild_n (j := 1) rfl dX6_longest_66 ?_
      refine Wp.imulE dX6_longest_67 (by first | exact w32_of (by omega) (by omega) | rfl) ?_
      refine Wp.iaddE dX6_longest_68 (by first | exact w32_of (by omega) (by omega) | rfl) ?_
      refine Wp.ild_n (j := 2) rfl dX6_longest_69 ?_
      refine Wp.iaddE dX6_longest_70 (by first | exact w32_of (by omega) (by omega) | rfl) ?_
      refine Wp.laload dX6_longest_71 (sK68 (h := h) sh) (by omega) (ilt (sL68 (h := h) sh) (by omega)) (show hA _ 68 _ = hA h 68 _ from rfl) ?_
      refine Wp.mlmax wm_X6_239 dX6_longest_72 (Nat.le_of_ble_eq_true rfl) ?_
      refine stl_8_3 rfl (dSt_n dX6_longest_75) ?_
      refine Wp.iconst dX6_longest_76 (by decide) ?_
      refine sti_8_7 rfl (dSt_w dX6_longest_77) ?_
      refine mlo1 d h sh z1 i j ij n _ (by omega) _ (fun a2 k => ?_) _ 0 a (Nat.lt_succ_self _) (by omega)
      refine inc_8_6 rfl dX6_longest_132 (w32_of (by omega) (by omega)) ?_
      refine Wp.goto (tgt := 45) dX6_longest_135 (by decide) ?_
      exact ih (n + 1) _ _ _ (by omega) (by omega)

theorem cq_mlongest (d : Nat) (h : mH) (sh : Sh h) (mi : MI h) (i j : Int) : Cq m_X6_longest (d + 3) [(2, 41), (0, i), (0, j)] h (fun r t => (∃ y, r = some (1, y)) ∧ MI t ∧ Fr mAq mGq h t) := by
  refine Cq.of ?_
  show Wp m_X6_longest ((d + 3)) 0 [(2, 41), (0, i), (0, j), (9, 0), (9, 0), (9, 0), (9, 0), (9, 0)] [] h _
  obtain ⟨⟨⟨r0, r1⟩, ⟨n0, n1⟩, ⟨m0, m1⟩, hp, hq⟩, hms, ⟨⟨z0, z1⟩, hsp⟩, hme⟩ := id mi
  refine Wp.ald_n (j := 0) rfl dX6_longest_0 ?_
  refine Wp.iconst dX6_longest_1 (by decide) ?_
  refine Wp.putf (k := 1) (tg := 0) kC6 (by decide) rfl rfl lf_X6_117 dX6_longest_2 (sK41 (h := h) sh) ?_
  refine Wp.ald_n (j := 0) rfl dX6_longest_5 ?_
  refine Wp.iconst dX6_longest_6 (by decide) ?_
  refine Wp.putf (k := 0) (tg := 0) kC6 (by decide) rfl rfl lf_X6_120 dX6_longest_7 (sK41 (h := h) sh) ?_
  refine Wp.ald_n (j := 0) rfl dX6_longest_10 ?_
  refine Wp.ild_n (j := 1) rfl dX6_longest_11 ?_
  refine Wp.ild_n (j := 2) rfl dX6_longest_12 ?_
  refine Wp.callV1 (show Ct m_X6_isIn (d + 2) [(2, 41), (0, i), (0, j)] (sF (sF h 41 1 0) 41 0 0) (some (0, if (0 ≤ i ∧ i < hF h 41 30) ∧ (0 ≤ j ∧ j < hF h 41 30) then 1 else 0)) (sF (sF h 41 1 0) 41 0 0) from ct_isIn (d + 2) (sF (sF h 41 1 0) 41 0 0) (sK41 (h := h) sh) i j) wc_X6_233 iM_X6_isIn se_X6_isIn kC6 (sK41 (h := h) sh) dX6_longest_13 rfl (Nat.le_of_ble_eq_true rfl) rfl (Nat.le_of_ble_eq_true rfl) ?_
  refine Wp.ifne dX6_longest_16 (by decide) (tgt := 26) (fun c16 => ?_) (fun c16 => ?_)
  · have hb : (0 ≤ i ∧ i < hF h 41 30) ∧ (0 ≤ j ∧ j < hF h 41 30) := by
      by_cases hb : (0 ≤ i ∧ i < hF h 41 30) ∧ (0 ≤ j ∧ j < hF h 41 30)
      · exact hb
      · rw [if_neg hb] at c16
        exact absurd rfl c16
    refine Wp.ald_n (j := 0) rfl dX6_longest_26 ?_
    refine Wp.ald_n (j := 0) rfl dX6_longest_27 ?_
    refine Wp.getf (k := 30) (tg := 0) kC6 (by decide) rfl lf_X6_230 dX6_longest_28 (sK41 (h := h) sh) (show hF _ 41 30 = hF h 41 30 from rfl) ?_
    refine Wp.iconst dX6_longest_31 (by decide) ?_
    obtain ⟨_, t32, ct32, rfl, f32, p32⟩ := cq_fillPowers d (sF (sF h 41 1 0) 41 0 0) sh.m0 z1 (hF h 41 30) 0 (by omega) (by omega)
    have sh32 : Sh t32 := sh.m0.fr f32 (by decide +kernel) (by decide)
    refine Wp.callV0 (ct32) wc_X6_254 iM_X6_fillPowers se_X6_fillPowers kC6 (sK41 (h := h) sh) dX6_longest_32 rfl (Nat.le_of_ble_eq_true rfl) rfl (Nat.le_of_ble_eq_true rfl) ?_
    refine Wp.ldc2 (z := -9223372036854775808) lk_X6_115 (by decide) dX6_longest_35 ?_
    refine stl_8_3 rfl (dSt_n dX6_longest_38) ?_
    refine Wp.iconst dX6_longest_39 (by decide) ?_
    refine sti_8_5 rfl (dSt_w dX6_longest_40) ?_
    refine Wp.iconst dX6_longest_42 (by decide) ?_
    refine sti_8_6 rfl (dSt_w dX6_longest_43) ?_
    have e30 : hF t32 41 30 = hF h 41 30 := f32.2.2.2.2.1 41 30 (by decide)
    refine (mlo2 d t32 sh32 (by rw [e30]; exact ⟨z0, z1⟩) i j (by omega) _ 0 _ _ _ (Nat.lt_succ_self _) (by omega)).mono (fun r t q => ?_)
    have mi32 : MI t32 := MI.fr (h := (sF (sF h 41 1 0) 41 0 0)) mi (f32.mono (by decide) (by decide))
    have fr32 : Fr mAq mGq h t32 := ((Fr.f (by decide)).tr (Fr.f (by decide))).tr (f32.mono (by decide) (by decide))
    obtain ⟨hr, rfl | ⟨v, rfl⟩⟩ := q
    · exact ⟨hr, mi32, fr32⟩
    · exact ⟨hr, mi32, fr32.tr (Fr.f (by decide))⟩
  · refine Wp.ald_n (j := 0) rfl dX6_longest_19 ?_
    refine Wp.iconst dX6_longest_20 (by decide) ?_
    refine Wp.callV1 (ct_mrefuse (d + 2) (sF (sF h 41 1 0) 41 0 0) (sK41 (h := h) sh) 2) wc_X6_151 iM_X6_refuse se_X6_refuse kC6 (sK41 (h := h) sh) dX6_longest_21 rfl (Nat.le_of_ble_eq_true rfl) rfl (Nat.le_of_ble_eq_true rfl) ?_
    refine Wp.i2l dX6_longest_24 ?_
    refine Wp.lret rfl dX6_longest_25 ?_
    exact ⟨⟨_, rfl⟩, mi, ((Fr.f (by decide)).tr ((Fr.f (by decide)).tr (Fr.f (by decide))))⟩

theorem msm1 (d : Nat) (h : mH) (sh : Sh h) (n i j : Int) (Q : Option mV → mH → Prop) (kq : ∀ (t : mH) (k : Int), Fr [66] [] h t → Wp m_X6_sums (d + 2) 80 [(2, 41), (1, n), (9, 0), (0, i), (0, j), (0, k), (9, 0)] [] t Q) : ∀ (m : Nat) (k : Int) (h' : mH), (100 - k).toNat < m → (Fr [66] [] h h') → (0 ≤ k) → Wp m_X6_sums (d + 2) 53 [(2, 41), (1, n), (9, 0), (0, i), (0, j), (0, k), (9, 0)] [] h' Q := by
  intro m
  induction m with
  | zero => intro k h' hm; exact absurd hm (Nat.not_lt_zero _)
  | succ m ih =>
    intro k h' hm fr k0
    have sh' := sh.fr fr (by decide +kernel) (by decide)
    refine Wp.ild (j := 5) rfl dX6_sums_53 ?_
    refine Wp.bipush dX6_sums_55 (by decide) ?_
    refine Wp.icge dX6_sums_57 (by decide) (tgt := 80) (fun c57 => ?_) (fun c57 => ?_)
    · exact kq _ _ fr
    · refine Wp.ald_n (j := 0) rfl dX6_sums_60 ?_
      refine Wp.getf (k := 33) (tg := 2) kC6 (by decide) rfl lf_X6_93 dX6_sums_61 (sK41 (h := h') sh') (sF41_33 (h := h') sh') ?_
      refine Wp.ild (j := 5) rfl dX6_sums_64 ?_
      refine Wp.ald_n (j := 0) rfl dX6_sums_66 ?_
      refine Wp.getf (k := 31) (tg := 2) kC6 (by decide) rfl lf_X6_87 dX6_sums_67 (sK41 (h := h') sh') (sF41_31 (h := h') sh') ?_
      refine Wp.ild (j := 5) rfl dX6_sums_70 ?_
      refine Wp.laload dX6_sums_72 (sK64 (h := h') sh') (by omega) (ilt (sL64 (h := h') sh') (by omega)) (show hA _ 64 _ = hA h' 64 _ from rfl) ?_
      refine Wp.lastore dX6_sums_73 (sK66 (h := h') sh') (by omega) (ilt (sL66 (h := h') sh') (by omega)) ?_
      refine inc_7_5 rfl dX6_sums_74 (by first | exact w32_of (by omega) (by omega) | rfl) ?_
      refine Wp.goto (tgt := 53) dX6_sums_77 (by decide) ?_
      exact ih (k + 1) _ (by omega) (fr.tr (Fr.e (by decide))) (by omega)

theorem msm2 (d : Nat) (h : mH) (sh : Sh h) (z1 : hF h 41 30 ≤ 10) (n i j l : Int) (l1 : 1 < l) (h' : mH) (fr : Fr [65, 66, 67] [] h h') (Q : Option mV → mH → Prop) (kq : ∀ t : mH, Fr [65, 66, 67] [] h t → Wp m_X6_sums (d + 2) 146 [(2, 41), (1, n), (9, 0), (0, i), (0, j), (1, l), (9, 0)] [] t Q) : Wp m_X6_sums (d + 2) 126 [(2, 41), (1, n), (9, 0), (0, i), (0, j), (1, l), (9, 0)] [] h' Q := by
  have sh' := sh.fr fr (by decide +kernel) (by decide)
  have ez : hF h' 41 30 = hF h 41 30 := fr.2.2.2.2.1 41 30 (by simp)
  refine Wp.ald_n (j := 0) rfl dX6_sums_126 ?_
  refine Wp.ald_n (j := 0) rfl dX6_sums_127 ?_
  refine Wp.getf (k := 33) (tg := 2) kC6 (by decide) rfl lf_X6_93 dX6_sums_128 (sK41 (h := h') sh') (sF41_33 (h := h') sh') ?_
  refine Wp.iconst dX6_sums_131 (by decide) ?_
  refine Wp.ald_n (j := 0) rfl dX6_sums_132 ?_
  refine Wp.getf (k := 33) (tg := 2) kC6 (by decide) rfl lf_X6_93 dX6_sums_133 (sK41 (h := h') sh') (sF41_33 (h := h') sh') ?_
  refine Wp.iconst dX6_sums_136 (by decide) ?_
  refine Wp.ald_n (j := 0) rfl dX6_sums_137 ?_
  refine Wp.getf (k := 33) (tg := 2) kC6 (by decide) rfl lf_X6_93 dX6_sums_138 (sK41 (h := h') sh') (sF41_33 (h := h') sh') ?_
  refine Wp.iconst dX6_sums_141 (by decide) ?_
  refine Wp.iconst dX6_sums_142 (by decide) ?_
  obtain ⟨_, t143, ct143, rfl, ft143, -, -⟩ := cq_mmul d h' sh' 66 0 100 66 0 100 66 0 100 0 (sK66 sh') (sK66 sh') (sK66 sh') (sL66 sh') (sL66 sh') (sL66 sh') (by omega) (by omega) (by omega) (by decide) (by decide) (by decide) (by decide) (by omega) (by rw [ez]; exact z1)
  have sht143 : Sh t143 := (sh').fr ft143 (by decide +kernel) (by decide)
  refine Wp.callV0 (ct143) wc_X6_246 iM_X6_multiply se_X6_multiply kC6 (sK41 (h := h') sh') dX6_sums_143 rfl (Nat.le_of_ble_eq_true rfl) rfl (Nat.le_of_ble_eq_true rfl) ?_
  exact kq _ (fr.tr (ft143.mono (by decide) (by simp)))

theorem msm3 (d : Nat) (h : mH) (sh : Sh h) (z1 : hF h 41 30 ≤ 10) (n i j : Int) (Q : Option mV → mH → Prop) (kq : ∀ (t : mH) (l : Int), Fr [65, 66, 67] [] h t → Wp m_X6_sums (d + 2) 155 [(2, 41), (1, n), (9, 0), (0, i), (0, j), (1, l), (9, 0)] [] t Q) : ∀ (m : Nat) (l : Int) (h' : mH), l.toNat < m → (l ≤ 1000000000000) → (Fr [65, 66, 67] [] h h') → Wp m_X6_sums (d + 2) 83 [(2, 41), (1, n), (9, 0), (0, i), (0, j), (1, l), (9, 0)] [] h' Q := by
  intro m
  induction m with
  | zero => intro l h' hm; exact absurd hm (Nat.not_lt_zero _)
  | succ m ih =>
    intro l h' hm l2 fr
    have sh' := sh.fr fr (by decide +kernel) (by decide)
    have ez : hF h' 41 30 = hF h 41 30 := fr.2.2.2.2.1 41 30 (by simp)
    refine Wp.lld (j := 5) rfl dX6_sums_83 ?_
    refine Wp.lconst (z := 0) dX6_sums_85 (by decide) ?_
    refine Wp.lcle dX6_sums_86 dX6_sums_87 (by decide) (tgt := 155) (fun c86 => ?_) (fun c86 => ?_)
    · exact kq h' l fr
    · refine Wp.lld (j := 5) rfl dX6_sums_90 ?_
      refine Wp.lconst (z := 1) dX6_sums_92 (by decide) ?_
      refine Wp.land dX6_sums_93 ?_
      refine Wp.lconst (z := 1) dX6_sums_94 (by decide) ?_
      refine Wp.lcne dX6_sums_95 dX6_sums_96 (by decide) (tgt := 119) (fun c95 => ?_) (fun c95 => ?_)
      · refine Wp.lld (j := 5) rfl dX6_sums_119 ?_
        refine Wp.lconst (z := 1) dX6_sums_121 (by decide) ?_
        refine Wp.lcle dX6_sums_122 dX6_sums_123 (by decide) (tgt := 146) (fun c122 => ?_) (fun c122 => ?_)
        · refine Wp.lld (j := 5) rfl dX6_sums_146 ?_
          refine Wp.iconst dX6_sums_148 (by decide) ?_
          refine Wp.lshr dX6_sums_149 ?_
          refine stl_7_5 rfl (dSt_w dX6_sums_150) ?_
          refine Wp.goto (tgt := 83) dX6_sums_152 (by decide) ?_
          have hq := qshr1 (a := l) (by omega) (by omega)
          rw [hq]
          exact ih _ _ (by omega) (by omega) fr
        · refine msm2 d h sh z1 n i j l (by omega) _ fr Q (fun t frt => ?_)
          refine Wp.lld (j := 5) rfl dX6_sums_146 ?_
          refine Wp.iconst dX6_sums_148 (by decide) ?_
          refine Wp.lshr dX6_sums_149 ?_
          refine stl_7_5 rfl (dSt_w dX6_sums_150) ?_
          refine Wp.goto (tgt := 83) dX6_sums_152 (by decide) ?_
          have hq := qshr1 (a := l) (by omega) (by omega)
          rw [hq]
          exact ih _ _ (by omega) (by omega) frt
      · refine Wp.ald_n (j := 0) rfl dX6_sums_99 ?_
        refine Wp.ald_n (j := 0) rfl dX6_sums_100 ?_
        refine Wp.getf (k := 32) (tg := 2) kC6 (by decide) rfl lf_X6_90 dX6_sums_101 (sK41 (h := h') sh') (sF41_32 (h := h') sh') ?_
        refine Wp.iconst dX6_sums_104 (by decide) ?_
        refine Wp.ald_n (j := 0) rfl dX6_sums_105 ?_
        refine Wp.getf (k := 33) (tg := 2) kC6 (by decide) rfl lf_X6_93 dX6_sums_106 (sK41 (h := h') sh') (sF41_33 (h := h') sh') ?_
        refine Wp.iconst dX6_sums_109 (by decide) ?_
        refine Wp.ald_n (j := 0) rfl dX6_sums_110 ?_
        refine Wp.getf (k := 32) (tg := 2) kC6 (by decide) rfl lf_X6_90 dX6_sums_111 (sK41 (h := h') sh') (sF41_32 (h := h') sh') ?_
        refine Wp.iconst dX6_sums_114 (by decide) ?_
        refine Wp.iconst dX6_sums_115 (by decide) ?_
        obtain ⟨_, t116, ct116, rfl, ft116, -, -⟩ := cq_mmul d h' sh' 65 0 100 66 0 100 65 0 100 0 (sK65 sh') (sK66 sh') (sK65 sh') (sL65 sh') (sL66 sh') (sL65 sh') (by omega) (by omega) (by omega) (by decide) (by decide) (by decide) (by decide) (by omega) (by rw [ez]; exact z1)
        have sht116 : Sh t116 := (sh').fr ft116 (by decide +kernel) (by decide)
        refine Wp.callV0 (ct116) wc_X6_246 iM_X6_multiply se_X6_multiply kC6 (sK41 (h := h') sh') dX6_sums_116 rfl (Nat.le_of_ble_eq_true rfl) rfl (Nat.le_of_ble_eq_true rfl) ?_
        refine Wp.lld (j := 5) rfl dX6_sums_119 ?_
        refine Wp.lconst (z := 1) dX6_sums_121 (by decide) ?_
        refine Wp.lcle dX6_sums_122 dX6_sums_123 (by decide) (tgt := 146) (fun c122 => ?_) (fun c122 => ?_)
        · refine Wp.lld (j := 5) rfl dX6_sums_146 ?_
          refine Wp.iconst dX6_sums_148 (by decide) ?_
          refine Wp.lshr dX6_sums_149 ?_
          refine stl_7_5 rfl (dSt_w dX6_sums_150) ?_
          refine Wp.goto (tgt := 83) dX6_sums_152 (by decide) ?_
          have hq := qshr1 (a := l) (by omega) (by omega)
          rw [hq]
          exact ih _ _ (by omega) (by omega) (fr.tr (ft116.mono (by decide) (by simp)))
        · refine msm2 d h sh z1 n i j l (by omega) _ (fr.tr (ft116.mono (by decide) (by simp))) Q (fun t frt => ?_)
          refine Wp.lld (j := 5) rfl dX6_sums_146 ?_
          refine Wp.iconst dX6_sums_148 (by decide) ?_
          refine Wp.lshr dX6_sums_149 ?_
          refine stl_7_5 rfl (dSt_w dX6_sums_150) ?_
          refine Wp.goto (tgt := 83) dX6_sums_152 (by decide) ?_
          have hq := qshr1 (a := l) (by omega) (by omega)
          rw [hq]
          exact ih _ _ (by omega) (by omega) frt

theorem msm4 (d : Nat) (h : mH) (sh : Sh h) (n i j l : Int) (ij : (0 ≤ i ∧ i < 10) ∧ 0 ≤ j ∧ j < 10) : Wp m_X6_sums (d + 2) 155 [(2, 41), (1, n), (9, 0), (0, i), (0, j), (1, l), (9, 0)] [] h (fun r t => (∃ y, r = some (1, y)) ∧ (t = h ∨ ∃ v, t = sF h 41 0 v)) := by
  refine Wp.ald_n (j := 0) rfl dX6_sums_155 ?_
  refine Wp.getf (k := 32) (tg := 2) kC6 (by decide) rfl lf_X6_90 dX6_sums_156 (sK41 (h := h) sh) (sF41_32 (h := h) sh) ?_
  refine Wp.bipush dX6_sums_159 (by decide) ?_
  refine Wp.ild_n (j := 3) rfl dX6_sums_161 ?_
  refine Wp.imulE dX6_sums_162 (by first | exact w32_of (by omega) (by omega) | rfl) ?_
  refine Wp.ild (j := 4) rfl dX6_sums_163 ?_
  refine Wp.iaddE dX6_sums_165 (by first | exact w32_of (by omega) (by omega) | rfl) ?_
  refine Wp.laload dX6_sums_166 (sK65 (h := h) sh) (by omega) (ilt (sL65 (h := h) sh) (by omega)) (show hA _ 65 _ = hA h 65 _ from rfl) ?_
  refine Wp.ldc2 (z := -9223372036854775808) lk_X6_115 (by decide) dX6_sums_167 ?_
  refine Wp.lcne dX6_sums_170 dX6_sums_171 (by decide) (tgt := 184) (fun c170 => ?_) (fun c170 => ?_)
  · refine Wp.ald_n (j := 0) rfl dX6_sums_184 ?_
    refine Wp.getf (k := 32) (tg := 2) kC6 (by decide) rfl lf_X6_90 dX6_sums_185 (sK41 (h := h) sh) (sF41_32 (h := h) sh) ?_
    refine Wp.bipush dX6_sums_188 (by decide) ?_
    refine Wp.ild_n (j := 3) rfl dX6_sums_190 ?_
    refine Wp.imulE dX6_sums_191 (by first | exact w32_of (by omega) (by omega) | rfl) ?_
    refine Wp.ild (j := 4) rfl dX6_sums_192 ?_
    refine Wp.iaddE dX6_sums_194 (by first | exact w32_of (by omega) (by omega) | rfl) ?_
    refine Wp.laload dX6_sums_195 (sK65 (h := h) sh) (by omega) (ilt (sL65 (h := h) sh) (by omega)) (show hA _ 65 _ = hA h 65 _ from rfl) ?_
    refine Wp.lret rfl dX6_sums_196 ?_
    exact ⟨⟨_, rfl⟩, Or.inl rfl⟩
  · refine Wp.ald_n (j := 0) rfl dX6_sums_174 ?_
    refine Wp.bipush dX6_sums_175 (by decide) ?_
    refine Wp.callV1 (ct_mrefuse (d + 1) h (sK41 sh) 8) wc_X6_151 iM_X6_refuse se_X6_refuse kC6 (sK41 (h := h) sh) dX6_sums_177 rfl (Nat.le_of_ble_eq_true rfl) rfl (Nat.le_of_ble_eq_true rfl) ?_
    refine Wp.i2l dX6_sums_180 ?_
    refine Wp.goto (tgt := 196) dX6_sums_181 (by decide) ?_
    refine Wp.lret rfl dX6_sums_196 ?_
    exact ⟨⟨_, rfl⟩, Or.inr ⟨_, rfl⟩⟩

theorem cq_msums (d : Nat) (h : mH) (sh : Sh h) (mi : MI h) (n i j : Int) : Cq m_X6_sums (d + 2) [(2, 41), (1, n), (0, i), (0, j)] h (fun r t => (∃ y, r = some (1, y)) ∧ MI t ∧ Fr mAq mGq h t) := by
  refine Cq.of ?_
  show Wp m_X6_sums ((d + 2)) 0 [(2, 41), (1, n), (9, 0), (0, i), (0, j), (9, 0), (9, 0)] [] h _
  obtain ⟨⟨⟨r0, r1⟩, ⟨n0, n1⟩, ⟨m0, m1⟩, hp, hq⟩, hms, ⟨⟨z0, z1⟩, hsp⟩, hme⟩ := id mi
  refine Wp.ald_n (j := 0) rfl dX6_sums_0 ?_
  refine Wp.iconst dX6_sums_1 (by decide) ?_
  refine Wp.putf (k := 1) (tg := 0) kC6 (by decide) rfl rfl lf_X6_117 dX6_sums_2 (sK41 (h := h) sh) ?_
  refine Wp.ald_n (j := 0) rfl dX6_sums_5 ?_
  refine Wp.iconst dX6_sums_6 (by decide) ?_
  refine Wp.putf (k := 0) (tg := 0) kC6 (by decide) rfl rfl lf_X6_120 dX6_sums_7 (sK41 (h := h) sh) ?_
  refine Wp.lld_n (j := 1) rfl dX6_sums_10 ?_
  refine Wp.lconst (z := 0) dX6_sums_11 (by decide) ?_
  refine Wp.lclt dX6_sums_12 dX6_sums_13 (by decide) (tgt := 34) (fun c12 => ?_) (fun c12 => ?_)
  · refine Wp.ald_n (j := 0) rfl dX6_sums_34 ?_
    refine Wp.iconst dX6_sums_35 (by decide) ?_
    refine Wp.callV1 (ct_mrefuse (d + 1) (sF (sF h 41 1 0) 41 0 0) (sK41 (h := h) sh) 2) wc_X6_151 iM_X6_refuse se_X6_refuse kC6 (sK41 (h := h) sh) dX6_sums_36 rfl (Nat.le_of_ble_eq_true rfl) rfl (Nat.le_of_ble_eq_true rfl) ?_
    refine Wp.i2l dX6_sums_39 ?_
    refine Wp.lret rfl dX6_sums_40 ?_
    exact ⟨⟨_, rfl⟩, mi, ((Fr.f (by decide)).tr ((Fr.f (by decide)).tr (Fr.f (by decide))))⟩
  · refine Wp.lld_n (j := 1) rfl dX6_sums_16 ?_
    refine Wp.ldc2 (z := 1000000000000) lk_X6_282 (by decide) dX6_sums_17 ?_
    refine Wp.lcgt dX6_sums_20 dX6_sums_21 (by decide) (tgt := 34) (fun c20 => ?_) (fun c20 => ?_)
    · refine Wp.ald_n (j := 0) rfl dX6_sums_34 ?_
      refine Wp.iconst dX6_sums_35 (by decide) ?_
      refine Wp.callV1 (ct_mrefuse (d + 1) (sF (sF h 41 1 0) 41 0 0) (sK41 (h := h) sh) 2) wc_X6_151 iM_X6_refuse se_X6_refuse kC6 (sK41 (h := h) sh) dX6_sums_36 rfl (Nat.le_of_ble_eq_true rfl) rfl (Nat.le_of_ble_eq_true rfl) ?_
      refine Wp.i2l dX6_sums_39 ?_
      refine Wp.lret rfl dX6_sums_40 ?_
      exact ⟨⟨_, rfl⟩, mi, ((Fr.f (by decide)).tr ((Fr.f (by decide)).tr (Fr.f (by decide))))⟩
    · refine Wp.ald_n (j := 0) rfl dX6_sums_24 ?_
      refine Wp.ild_n (j := 3) rfl dX6_sums_25 ?_
      refine Wp.ild (j := 4) rfl dX6_sums_26 ?_
      refine Wp.callV1 (show Ct m_X6_isIn (d + 1) [(2, 41), (0, i), (0, j)] (sF (sF h 41 1 0) 41 0 0) (some (0, if (0 ≤ i ∧ i < hF h 41 30) ∧ (0 ≤ j ∧ j < hF h 41 30) then 1 else 0)) (sF (sF h 41 1 0) 41 0 0) from ct_isIn (d + 1) (sF (sF h 41 1 0) 41 0 0) (sK41 (h := h) sh) i j) wc_X6_233 iM_X6_isIn se_X6_isIn kC6 (sK41 (h := h) sh) dX6_sums_28 rfl (Nat.le_of_ble_eq_true rfl) rfl (Nat.le_of_ble_eq_true rfl) ?_
      refine Wp.ifne dX6_sums_31 (by decide) (tgt := 41) (fun c31 => ?_) (fun c31 => ?_)
      · have hb : (0 ≤ i ∧ i < hF h 41 30) ∧ (0 ≤ j ∧ j < hF h 41 30) := by
          by_cases hb : (0 ≤ i ∧ i < hF h 41 30) ∧ (0 ≤ j ∧ j < hF h 41 30)
          · exact hb
          · rw [if_neg hb] at c31
            exact absurd rfl c31
        refine Wp.ald_n (j := 0) rfl dX6_sums_41 ?_
        refine Wp.ald_n (j := 0) rfl dX6_sums_42 ?_
        refine Wp.getf (k := 32) (tg := 2) kC6 (by decide) rfl lf_X6_90 dX6_sums_43 (sK41 (h := h) sh) (sF41_32 (h := h) sh) ?_
        refine Wp.iconst dX6_sums_46 (by decide) ?_
        obtain ⟨_, t47, ct47, rfl, f47, -⟩ := cq_munit (d + 1) (sF (sF h 41 1 0) 41 0 0) sh.m0 65 0 100 (sK65 (h := h) sh) (sL65 (h := h) sh) (by omega) (by decide)
        have sh47 : Sh t47 := sh.m0.fr f47 (by decide +kernel) (by decide)
        refine Wp.callV0 (ct47) wc_X6_242 iM_X6_unit se_X6_unit kC6 (sK41 (h := h) sh) dX6_sums_47 rfl (Nat.le_of_ble_eq_true rfl) rfl (Nat.le_of_ble_eq_true rfl) ?_
        refine Wp.iconst dX6_sums_50 (by decide) ?_
        refine sti_7_5 rfl (dSt_w dX6_sums_51) ?_
        refine msm1 d t47 sh47 n i j _ (fun t k frt => ?_) _ 0 _ (Nat.lt_succ_self _) Fr.rf (by omega)
        have sht : Sh t := sh47.fr frt (by decide +kernel) (by decide)
        have f1 : Fr [65, 66, 67] [] (sF (sF h 41 1 0) 41 0 0) t := (f47.mono (by decide) (by simp)).tr (frt.mono (by decide) (by simp))
        have e30 : hF t 41 30 = hF h 41 30 := f1.2.2.2.2.1 41 30 (by simp)
        refine Wp.lld_n (j := 1) rfl dX6_sums_80 ?_
        refine stl_7_5 rfl (dSt_w dX6_sums_81) ?_
        refine msm3 d t sht (by rw [e30]; exact z1) n i j _ (fun u l fru => ?_) _ n t (Nat.lt_succ_self _) (by omega) Fr.rf
        have shu : Sh u := sht.fr fru (by decide +kernel) (by decide)
        refine (msm4 d u shu n i j l (by omega)).mono (fun r v q => ?_)
        have miu : MI u := MI.fr (h := (sF (sF h 41 1 0) 41 0 0)) mi ((f1.tr fru).mono (by decide) (by simp))
        have frz : Fr mAq mGq h u := ((Fr.f (by decide)).tr (Fr.f (by decide))).tr ((f1.tr fru).mono (by decide) (by simp))
        obtain ⟨hr, rfl | ⟨w9, rfl⟩⟩ := q
        · exact ⟨hr, miu, frz⟩
        · exact ⟨hr, miu, frz.tr (Fr.f (by decide))⟩
      · refine Wp.ald_n (j := 0) rfl dX6_sums_34 ?_
        refine Wp.iconst dX6_sums_35 (by decide) ?_
        refine Wp.callV1 (ct_mrefuse (d + 1) (sF (sF h 41 1 0) 41 0 0) (sK41 (h := h) sh) 2) wc_X6_151 iM_X6_refuse se_X6_refuse kC6 (sK41 (h := h) sh) dX6_sums_36 rfl (Nat.le_of_ble_eq_true rfl) rfl (Nat.le_of_ble_eq_true rfl) ?_
        refine Wp.i2l dX6_sums_39 ?_
        refine Wp.lret rfl dX6_sums_40 ?_
        exact ⟨⟨_, rfl⟩, mi, ((Fr.f (by decide)).tr ((Fr.f (by decide)).tr (Fr.f (by decide))))⟩

