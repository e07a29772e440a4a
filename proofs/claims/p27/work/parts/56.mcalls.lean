theorem cq_mout (d : Nat) (h : mH) (sh : Sh h) (mi : MI h) (k : Int) : Cq m_X6_out (d + 1) [(2, 41), (0, k)] h (fun r t => (∃ y, r = some (0, y)) ∧ MI t ∧ Fr mAq mGq h t) := by
  refine Cq.of ?_
  show Wp m_X6_out ((d + 1)) 0 [(2, 41), (0, k)] [] h _
  obtain ⟨⟨⟨r0, r1⟩, ⟨n0, n1⟩, ⟨m0, m1⟩, hp, hq⟩, hms, ⟨⟨z0, z1⟩, hsp⟩, hme⟩ := id mi
  have hm2 := hme.2.2
  refine Wp.ald_n (j := 0) rfl dX6_out_0 ?_
  refine Wp.iconst dX6_out_1 (by decide) ?_
  refine Wp.putf (k := 1) (tg := 0) kC6 (by decide) rfl rfl lf_X6_117 dX6_out_2 (sK41 (h := h) sh) ?_
  refine Wp.ild_n (j := 1) rfl dX6_out_5 ?_
  refine Wp.iflt dX6_out_6 (by decide) (tgt := 17) (fun c6 => ?_) (fun c6 => ?_)
  · refine Wp.ald_n (j := 0) rfl dX6_out_17 ?_
    refine Wp.iconst dX6_out_18 (by decide) ?_
    refine Wp.putf (k := 1) (tg := 0) kC6 (by decide) rfl rfl lf_X6_117 dX6_out_19 (sK41 (h := h) sh) ?_
    refine Wp.iconst dX6_out_22 (by decide) ?_
    refine Wp.iret rfl dX6_out_23 ?_
    exact ⟨⟨_, rfl⟩, mi, ((Fr.f (by decide)).tr (Fr.f (by decide)))⟩
  · refine Wp.ild_n (j := 1) rfl dX6_out_9 ?_
    refine Wp.ald_n (j := 0) rfl dX6_out_10 ?_
    refine Wp.getf (k := 39) (tg := 0) kC6 (by decide) rfl lf_X6_275 dX6_out_11 (sK41 (h := h) sh) (show hF _ 41 39 = hF h 41 39 from rfl) ?_
    refine Wp.iclt dX6_out_14 (by decide) (tgt := 24) (fun c14 => ?_) (fun c14 => ?_)
    · refine Wp.ald_n (j := 0) rfl dX6_out_24 ?_
      refine Wp.getf (k := 38) (tg := 2) kC6 (by decide) rfl lf_X6_102 dX6_out_25 (sK41 (h := h) sh) (sF41_38 (h := h) sh) ?_
      refine Wp.ild_n (j := 1) rfl dX6_out_28 ?_
      refine Wp.baload dX6_out_29 (sK69 (h := h) sh) (by omega) (ilt (sL69 (h := h) sh) (by omega)) (show hA _ 69 _ = hA h 69 _ from rfl) ?_
      refine Wp.iret rfl dX6_out_30 ?_
      exact ⟨⟨_, rfl⟩, mi, Fr.f (by decide)⟩
    · refine Wp.ald_n (j := 0) rfl dX6_out_17 ?_
      refine Wp.iconst dX6_out_18 (by decide) ?_
      refine Wp.putf (k := 1) (tg := 0) kC6 (by decide) rfl rfl lf_X6_117 dX6_out_19 (sK41 (h := h) sh) ?_
      refine Wp.iconst dX6_out_22 (by decide) ?_
      refine Wp.iret rfl dX6_out_23 ?_
      exact ⟨⟨_, rfl⟩, mi, ((Fr.f (by decide)).tr (Fr.f (by decide)))⟩

theorem mtable1 (d : Nat) (h : mH) (sh : Sh h) (x : Int) (Q : Option mV → mH → Prop) (kq : ∀ (t : mH) (k : Int), Fr [64] [] h t → (∀ j, 0 ≤ j → j < 100 → hA t 64 j = gNO) → Wp m_X6_table (d + 1) 54 [(2, 41), (0, x), (0, k)] [] t Q) : ∀ (m : Nat) (k : Int) (h' : mH), (100 - k).toNat < m → (Fr [64] [] h h') → (0 ≤ k) → (∀ j, 0 ≤ j → j < k → hA h' 64 j = gNO) → Wp m_X6_table (d + 1) 33 [(2, 41), (0, x), (0, k)] [] h' Q := by
  intro m
  induction m with
  | zero => intro k h' hm; exact absurd hm (Nat.not_lt_zero _)
  | succ m ih =>
    intro k h' hm fr k0 hj
    have sh' := sh.fr fr (by decide +kernel) (by decide)
    refine Wp.ild_n (j := 2) rfl dX6_table_33 ?_
    refine Wp.bipush dX6_table_34 (by decide) ?_
    refine Wp.icge dX6_table_36 (by decide) (tgt := 54) (fun c36 => ?_) (fun c36 => ?_)
    · exact kq _ _ fr (fun j j0 j1 => hj j j0 (by omega))
    · refine Wp.ald_n (j := 0) rfl dX6_table_39 ?_
      refine Wp.getf (k := 31) (tg := 2) kC6 (by decide) rfl lf_X6_87 dX6_table_40 (sK41 (h := h') sh') (sF41_31 (h := h') sh') ?_
      refine Wp.ild_n (j := 2) rfl dX6_table_43 ?_
      refine Wp.ldc2 (z := -9223372036854775808) lk_X6_115 (by decide) dX6_table_44 ?_
      refine Wp.lastore dX6_table_47 (sK64 (h := h') sh') (by omega) (ilt (sL64 (h := h') sh') (by omega)) ?_
      refine inc_3_2 rfl dX6_table_48 (by first | exact w32_of (by omega) (by omega) | rfl) ?_
      refine Wp.goto (tgt := 33) dX6_table_51 (by decide) ?_
      refine ih (k + 1) _ (by omega) (fr.tr (Fr.e (by decide))) (by omega) (fun j j0 j1 => ?_)
      rw [hA_sEs]
      by_cases e : j = k
      · rw [e, u1_s]
      · rw [u1_n _ _ e]
        exact hj j j0 (by omega)

theorem cq_mtable (d : Nat) (h : mH) (sh : Sh h) (mi : MI h) (x : Int) : Cq m_X6_table (d + 1) [(2, 41), (0, x)] h (fun r t => (∃ y, r = some (0, y) ∧ ((y = 0 ∧ ¬ (0 ≤ x ∧ x ≤ 10)) ∨ (y = 1 ∧ (0 ≤ x ∧ x ≤ 10)))) ∧ MI t ∧ Fr mAq mGq h t) := by
  refine Cq.of ?_
  show Wp m_X6_table ((d + 1)) 0 [(2, 41), (0, x), (9, 0)] [] h _
  refine Wp.ald_n (j := 0) rfl dX6_table_0 ?_
  refine Wp.iconst dX6_table_1 (by decide) ?_
  refine Wp.putf (k := 1) (tg := 0) kC6 (by decide) rfl rfl lf_X6_117 dX6_table_2 (sK41 (h := h) sh) ?_
  refine Wp.ald_n (j := 0) rfl dX6_table_5 ?_
  refine Wp.iconst dX6_table_6 (by decide) ?_
  refine Wp.putf (k := 0) (tg := 0) kC6 (by decide) rfl rfl lf_X6_120 dX6_table_7 (sK41 (h := h) sh) ?_
  refine Wp.ild_n (j := 1) rfl dX6_table_10 ?_
  refine Wp.iflt dX6_table_11 (by decide) (tgt := 20) (fun c11 => ?_) (fun c11 => ?_)
  · refine Wp.ald_n (j := 0) rfl dX6_table_20 ?_
    refine Wp.iconst dX6_table_21 (by decide) ?_
    refine Wp.callV1 (ct_mno d (sF (sF h 41 1 0) 41 0 0) (sK41 (h := h) sh) 2) wc_X6_123 iM_X6_no se_X6_no kC6 (sK41 (h := h) sh) dX6_table_22 rfl (Nat.le_of_ble_eq_true rfl) rfl (Nat.le_of_ble_eq_true rfl) ?_
    refine Wp.zret rfl dX6_table_25 (by omega) ?_
    exact ⟨⟨_, rfl, Or.inl ⟨rfl, by omega⟩⟩, mi, ((Fr.f (by decide)).tr ((Fr.f (by decide)).tr (Fr.f (by decide))))⟩
  · refine Wp.ild_n (j := 1) rfl dX6_table_14 ?_
    refine Wp.bipush dX6_table_15 (by decide) ?_
    refine Wp.icle dX6_table_17 (by decide) (tgt := 26) (fun c17 => ?_) (fun c17 => ?_)
    · refine Wp.ald_n (j := 0) rfl dX6_table_26 ?_
      refine Wp.ild_n (j := 1) rfl dX6_table_27 ?_
      refine Wp.putf (k := 30) (tg := 0) kC6 (by decide) rfl rfl lf_X6_230 dX6_table_28 (sK41 (h := h) sh) ?_
      refine Wp.iconst dX6_table_31 (by decide) ?_
      refine sti_3_2 rfl (dSt_n dX6_table_32) ?_
      refine mtable1 d (sF (sF (sF h 41 1 0) 41 0 0) 41 30 x) (sh.m ((Fr.f (by decide)).tr ((Fr.f (by decide)).tr (Fr.f (by decide))))) x _ (fun t k frt ht => ?_) _ 0 _ (Nat.lt_succ_self _) Fr.rf (by omega) (fun j j0 j1 => absurd j1 (by omega))
      refine Wp.iconst dX6_table_54 (by decide) ?_
      refine Wp.zret rfl dX6_table_55 (Or.inr rfl) ?_
      refine ⟨⟨_, rfl, Or.inr ⟨rfl, by omega⟩⟩, ⟨MB.fr (h := (sF (sF (sF h 41 1 0) 41 0 0) 41 30 x)) mi.1 frt (by decide) (by decide) (by decide) (by decide) (by decide), MS.fr (h := (sF (sF (sF h 41 1 0) 41 0 0) 41 30 x)) mi.2.1 frt (by decide), ⟨?_, fun j j0 j1 => Or.inl (ht j j0 j1)⟩, ME.fr (h := (sF (sF (sF h 41 1 0) 41 0 0) 41 30 x)) mi.2.2.2 frt (by decide) (by decide) (by decide)⟩, ((Fr.f (by decide)).tr ((Fr.f (by decide)).tr (Fr.f (by decide)))).tr (frt.mono (by decide) (by simp))⟩
      rw [frt.2.2.2.2.1 41 30 (by decide)]
      exact ⟨by show 0 ≤ x; omega, by show x ≤ 10; omega⟩
    · refine Wp.ald_n (j := 0) rfl dX6_table_20 ?_
      refine Wp.iconst dX6_table_21 (by decide) ?_
      refine Wp.callV1 (ct_mno d (sF (sF h 41 1 0) 41 0 0) (sK41 (h := h) sh) 2) wc_X6_123 iM_X6_no se_X6_no kC6 (sK41 (h := h) sh) dX6_table_22 rfl (Nat.le_of_ble_eq_true rfl) rfl (Nat.le_of_ble_eq_true rfl) ?_
      refine Wp.zret rfl dX6_table_25 (by omega) ?_
      exact ⟨⟨_, rfl, Or.inl ⟨rfl, by omega⟩⟩, mi, ((Fr.f (by decide)).tr ((Fr.f (by decide)).tr (Fr.f (by decide))))⟩

theorem MI.span {h : mH} {p v : Int} (mi : MI h) (hv : v = gNO ∨ (-1048576 ≤ v ∧ v ≤ 1048576)) : MI (sE (sF (sF h 41 1 0) 41 0 0) 64 p v) := by
  refine ⟨mi.1, mi.2.1, ⟨mi.2.2.1.1, fun j j0 j1 => ?_⟩, mi.2.2.2⟩
  rw [hA_sEs]
  unfold u1
  split
  · exact hv
  · exact mi.2.2.1.2 j j0 j1
theorem cq_mspan (d : Nat) (h : mH) (sh : Sh h) (mi : MI h) (i j v : Int) : Cq m_X6_span (d + 1) [(2, 41), (0, i), (0, j), (0, v)] h (fun r t => (∃ y, r = some (0, y) ∧ (y = 0 ∨ y = 1)) ∧ MI t ∧ Fr mAq mGq h t) := by
  refine Cq.of ?_
  show Wp m_X6_span ((d + 1)) 0 [(2, 41), (0, i), (0, j), (0, v)] [] h _
  obtain ⟨⟨⟨r0, r1⟩, ⟨n0, n1⟩, ⟨m0, m1⟩, hp, hq⟩, hms, ⟨⟨z0, z1⟩, hsp⟩, hme⟩ := id mi
  refine Wp.ald_n (j := 0) rfl dX6_span_0 ?_
  refine Wp.iconst dX6_span_1 (by decide) ?_
  refine Wp.putf (k := 1) (tg := 0) kC6 (by decide) rfl rfl lf_X6_117 dX6_span_2 (sK41 (h := h) sh) ?_
  refine Wp.ald_n (j := 0) rfl dX6_span_5 ?_
  refine Wp.iconst dX6_span_6 (by decide) ?_
  refine Wp.putf (k := 0) (tg := 0) kC6 (by decide) rfl rfl lf_X6_120 dX6_span_7 (sK41 (h := h) sh) ?_
  refine Wp.ald_n (j := 0) rfl dX6_span_10 ?_
  refine Wp.ild_n (j := 1) rfl dX6_span_11 ?_
  refine Wp.ild_n (j := 2) rfl dX6_span_12 ?_
  refine Wp.callV1 (show Ct m_X6_isIn d [(2, 41), (0, i), (0, j)] (sF (sF h 41 1 0) 41 0 0) (some (0, if (0 ≤ i ∧ i < hF h 41 30) ∧ (0 ≤ j ∧ j < hF h 41 30) then 1 else 0)) (sF (sF h 41 1 0) 41 0 0) from ct_isIn d (sF (sF h 41 1 0) 41 0 0) (sK41 (h := h) sh) i j) wc_X6_233 iM_X6_isIn se_X6_isIn kC6 (sK41 (h := h) sh) dX6_span_13 rfl (Nat.le_of_ble_eq_true rfl) rfl (Nat.le_of_ble_eq_true rfl) ?_
  refine Wp.ifeq dX6_span_16 (by decide) (tgt := 31) (fun c16 => ?_) (fun c16 => ?_)
  · refine Wp.ald_n (j := 0) rfl dX6_span_31 ?_
    refine Wp.iconst dX6_span_32 (by decide) ?_
    refine Wp.callV1 (ct_mno d (sF (sF h 41 1 0) 41 0 0) (sK41 (h := h) sh) 2) wc_X6_123 iM_X6_no se_X6_no kC6 (sK41 (h := h) sh) dX6_span_33 rfl (Nat.le_of_ble_eq_true rfl) rfl (Nat.le_of_ble_eq_true rfl) ?_
    refine Wp.zret rfl dX6_span_36 (by omega) ?_
    exact ⟨⟨_, rfl, Or.inl rfl⟩, mi, ((Fr.f (by decide)).tr ((Fr.f (by decide)).tr (Fr.f (by decide))))⟩
  · refine Wp.ild_n (j := 3) rfl dX6_span_19 ?_
    refine Wp.ldc (z := -1048576) lk_X6_237 (by decide) dX6_span_20 ?_
    refine Wp.iclt dX6_span_22 (by decide) (tgt := 31) (fun c22 => ?_) (fun c22 => ?_)
    · refine Wp.ald_n (j := 0) rfl dX6_span_31 ?_
      refine Wp.iconst dX6_span_32 (by decide) ?_
      refine Wp.callV1 (ct_mno d (sF (sF h 41 1 0) 41 0 0) (sK41 (h := h) sh) 2) wc_X6_123 iM_X6_no se_X6_no kC6 (sK41 (h := h) sh) dX6_span_33 rfl (Nat.le_of_ble_eq_true rfl) rfl (Nat.le_of_ble_eq_true rfl) ?_
      refine Wp.zret rfl dX6_span_36 (by omega) ?_
      exact ⟨⟨_, rfl, Or.inl rfl⟩, mi, ((Fr.f (by decide)).tr ((Fr.f (by decide)).tr (Fr.f (by decide))))⟩
    · refine Wp.ild_n (j := 3) rfl dX6_span_25 ?_
      refine Wp.ldc (z := 1048576) lk_X6_238 (by decide) dX6_span_26 ?_
      refine Wp.icle dX6_span_28 (by decide) (tgt := 37) (fun c28 => ?_) (fun c28 => ?_)
      · have hb : (0 ≤ i ∧ i < hF h 41 30) ∧ (0 ≤ j ∧ j < hF h 41 30) := by
          by_cases hb : (0 ≤ i ∧ i < hF h 41 30) ∧ (0 ≤ j ∧ j < hF h 41 30)
          · exact hb
          · rw [if_neg hb] at c16
            exact absurd rfl c16
        refine Wp.ald_n (j := 0) rfl dX6_span_37 ?_
        refine Wp.getf (k := 31) (tg := 2) kC6 (by decide) rfl lf_X6_87 dX6_span_38 (sK41 (h := h) sh) (sF41_31 (h := h) sh) ?_
        refine Wp.bipush dX6_span_41 (by decide) ?_
        refine Wp.ild_n (j := 1) rfl dX6_span_43 ?_
        refine Wp.imulE dX6_span_44 (by first | exact w32_of (by omega) (by omega) | rfl) ?_
        refine Wp.ild_n (j := 2) rfl dX6_span_45 ?_
        refine Wp.iaddE dX6_span_46 (by first | exact w32_of (by omega) (by omega) | rfl) ?_
        refine Wp.ild_n (j := 3) rfl dX6_span_47 ?_
        refine Wp.i2l dX6_span_48 ?_
        refine Wp.lastore dX6_span_49 (sK64 (h := h) sh) (by omega) (ilt (sL64 (h := h) sh) (by omega)) ?_
        refine Wp.iconst dX6_span_50 (by decide) ?_
        refine Wp.zret rfl dX6_span_51 (by omega) ?_
        exact ⟨⟨_, rfl, Or.inr rfl⟩, mi.span (Or.inr ⟨by omega, by omega⟩), ((Fr.f (by decide)).tr (Fr.f (by decide))).tr (Fr.e (by decide))⟩
      · refine Wp.ald_n (j := 0) rfl dX6_span_31 ?_
        refine Wp.iconst dX6_span_32 (by decide) ?_
        refine Wp.callV1 (ct_mno d (sF (sF h 41 1 0) 41 0 0) (sK41 (h := h) sh) 2) wc_X6_123 iM_X6_no se_X6_no kC6 (sK41 (h := h) sh) dX6_span_33 rfl (Nat.le_of_ble_eq_true rfl) rfl (Nat.le_of_ble_eq_true rfl) ?_
        refine Wp.zret rfl dX6_span_36 (by omega) ?_
        exact ⟨⟨_, rfl, Or.inl rfl⟩, mi, ((Fr.f (by decide)).tr ((Fr.f (by decide)).tr (Fr.f (by decide))))⟩

theorem cq_mcutS (d : Nat) (h : mH) (sh : Sh h) (mi : MI h) (i j : Int) : Cq m_X6_cut_ (d + 1) [(2, 41), (0, i), (0, j)] h (fun r t => (∃ y, r = some (0, y) ∧ (y = 0 ∨ y = 1)) ∧ MI t ∧ Fr mAq mGq h t) := by
  refine Cq.of ?_
  show Wp m_X6_cut_ ((d + 1)) 0 [(2, 41), (0, i), (0, j)] [] h _
  obtain ⟨⟨⟨r0, r1⟩, ⟨n0, n1⟩, ⟨m0, m1⟩, hp, hq⟩, hms, ⟨⟨z0, z1⟩, hsp⟩, hme⟩ := id mi
  refine Wp.ald_n (j := 0) rfl dX6_cut__0 ?_
  refine Wp.iconst dX6_cut__1 (by decide) ?_
  refine Wp.putf (k := 1) (tg := 0) kC6 (by decide) rfl rfl lf_X6_117 dX6_cut__2 (sK41 (h := h) sh) ?_
  refine Wp.ald_n (j := 0) rfl dX6_cut__5 ?_
  refine Wp.iconst dX6_cut__6 (by decide) ?_
  refine Wp.putf (k := 0) (tg := 0) kC6 (by decide) rfl rfl lf_X6_120 dX6_cut__7 (sK41 (h := h) sh) ?_
  refine Wp.ald_n (j := 0) rfl dX6_cut__10 ?_
  refine Wp.ild_n (j := 1) rfl dX6_cut__11 ?_
  refine Wp.ild_n (j := 2) rfl dX6_cut__12 ?_
  refine Wp.callV1 (show Ct m_X6_isIn d [(2, 41), (0, i), (0, j)] (sF (sF h 41 1 0) 41 0 0) (some (0, if (0 ≤ i ∧ i < hF h 41 30) ∧ (0 ≤ j ∧ j < hF h 41 30) then 1 else 0)) (sF (sF h 41 1 0) 41 0 0) from ct_isIn d (sF (sF h 41 1 0) 41 0 0) (sK41 (h := h) sh) i j) wc_X6_233 iM_X6_isIn se_X6_isIn kC6 (sK41 (h := h) sh) dX6_cut__13 rfl (Nat.le_of_ble_eq_true rfl) rfl (Nat.le_of_ble_eq_true rfl) ?_
  refine Wp.ifne dX6_cut__16 (by decide) (tgt := 25) (fun c16 => ?_) (fun c16 => ?_)
  · have hb : (0 ≤ i ∧ i < hF h 41 30) ∧ (0 ≤ j ∧ j < hF h 41 30) := by
      by_cases hb : (0 ≤ i ∧ i < hF h 41 30) ∧ (0 ≤ j ∧ j < hF h 41 30)
      · exact hb
      · rw [if_neg hb] at c16
        exact absurd rfl c16
    refine Wp.ald_n (j := 0) rfl dX6_cut__25 ?_
    refine Wp.getf (k := 31) (tg := 2) kC6 (by decide) rfl lf_X6_87 dX6_cut__26 (sK41 (h := h) sh) (sF41_31 (h := h) sh) ?_
    refine Wp.bipush dX6_cut__29 (by decide) ?_
    refine Wp.ild_n (j := 1) rfl dX6_cut__31 ?_
    refine Wp.imulE dX6_cut__32 (by first | exact w32_of (by omega) (by omega) | rfl) ?_
    refine Wp.ild_n (j := 2) rfl dX6_cut__33 ?_
    refine Wp.iaddE dX6_cut__34 (by first | exact w32_of (by omega) (by omega) | rfl) ?_
    refine Wp.laload dX6_cut__35 (sK64 (h := h) sh) (by omega) (ilt (sL64 (h := h) sh) (by omega)) (show hA _ 64 _ = hA h 64 _ from rfl) ?_
    refine Wp.ldc2 (z := -9223372036854775808) lk_X6_115 (by decide) dX6_cut__36 ?_
    refine Wp.lcne dX6_cut__39 dX6_cut__40 (by decide) (tgt := 50) (fun c39 => ?_) (fun c39 => ?_)
    · refine Wp.ald_n (j := 0) rfl dX6_cut__50 ?_
      refine Wp.getf (k := 31) (tg := 2) kC6 (by decide) rfl lf_X6_87 dX6_cut__51 (sK41 (h := h) sh) (sF41_31 (h := h) sh) ?_
      refine Wp.bipush dX6_cut__54 (by decide) ?_
      refine Wp.ild_n (j := 1) rfl dX6_cut__56 ?_
      refine Wp.imulE dX6_cut__57 (by first | exact w32_of (by omega) (by omega) | rfl) ?_
      refine Wp.ild_n (j := 2) rfl dX6_cut__58 ?_
      refine Wp.iaddE dX6_cut__59 (by first | exact w32_of (by omega) (by omega) | rfl) ?_
      refine Wp.ldc2 (z := -9223372036854775808) lk_X6_115 (by decide) dX6_cut__60 ?_
      refine Wp.lastore dX6_cut__63 (sK64 (h := h) sh) (by omega) (ilt (sL64 (h := h) sh) (by omega)) ?_
      refine Wp.iconst dX6_cut__64 (by decide) ?_
      refine Wp.zret rfl dX6_cut__65 (by omega) ?_
      exact ⟨⟨_, rfl, Or.inr rfl⟩, mi.span (Or.inl rfl), ((Fr.f (by decide)).tr (Fr.f (by decide))).tr (Fr.e (by decide))⟩
    · refine Wp.ald_n (j := 0) rfl dX6_cut__43 ?_
      refine Wp.bipush dX6_cut__44 (by decide) ?_
      refine Wp.callV1 (ct_mno d (sF (sF h 41 1 0) 41 0 0) (sK41 (h := h) sh) 8) wc_X6_123 iM_X6_no se_X6_no kC6 (sK41 (h := h) sh) dX6_cut__46 rfl (Nat.le_of_ble_eq_true rfl) rfl (Nat.le_of_ble_eq_true rfl) ?_
      refine Wp.zret rfl dX6_cut__49 (by omega) ?_
      exact ⟨⟨_, rfl, Or.inl rfl⟩, mi, ((Fr.f (by decide)).tr ((Fr.f (by decide)).tr (Fr.f (by decide))))⟩
  · refine Wp.ald_n (j := 0) rfl dX6_cut__19 ?_
    refine Wp.iconst dX6_cut__20 (by decide) ?_
    refine Wp.callV1 (ct_mno d (sF (sF h 41 1 0) 41 0 0) (sK41 (h := h) sh) 2) wc_X6_123 iM_X6_no se_X6_no kC6 (sK41 (h := h) sh) dX6_cut__21 rfl (Nat.le_of_ble_eq_true rfl) rfl (Nat.le_of_ble_eq_true rfl) ?_
    refine Wp.zret rfl dX6_cut__24 (by omega) ?_
    exact ⟨⟨_, rfl, Or.inl rfl⟩, mi, ((Fr.f (by decide)).tr ((Fr.f (by decide)).tr (Fr.f (by decide))))⟩

