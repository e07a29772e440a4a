theorem msheet_loop (d : Nat) (h : mH) (sh : Sh h) (s so mn : Int) (s0 : 0 ≤ s ∧ s < 4) (n1 : mn ≤ 100) (Q : Option mV → mH → Prop) (kq : ∀ (t : mH) (k : Int), Fr [44] [] h t → (∀ x, (100 * s ≤ x ∧ x < 100 * s + mn → hA t 44 x = 0) ∧ (¬ (100 * s ≤ x ∧ x < 100 * s + mn) → hA t 44 x = hA h 44 x)) → Wp m_X6_sheet (d + 1) 99 [(2, 41), (0, s), (0, so), (0, mn), (0, k)] [] t Q) : ∀ (m : Nat) (k : Int) (h' : mH), (mn - k).toNat < m → (Fr [44] [] h h') → (0 ≤ k) → (k ≤ mn) → (∀ x, (100 * s ≤ x ∧ x < 100 * s + k → hA h' 44 x = 0) ∧ (¬ (100 * s ≤ x ∧ x < 100 * s + k) → hA h' 44 x = hA h 44 x)) → Wp m_X6_sheet (d + 1) 74 [(2, 41), (0, s), (0, so), (0, mn), (0, k)] [] h' Q := by
  intro m
  induction m with
  | zero => intro k h' hm; exact absurd hm (Nat.not_lt_zero _)
  | succ m ih =>
    intro k h' hm fr k0 k1 iv
    have sh' := sh.fr fr (by decide +kernel) (by decide)
    refine Wp.ild (j := 4) rfl dX6_sheet_74 ?_
    refine Wp.ild_n (j := 3) rfl dX6_sheet_76 ?_
    refine Wp.icge dX6_sheet_77 (by decide) (tgt := 99) (fun c77 => ?_) (fun c77 => ?_)
    · exact kq _ _ fr (fun x => ⟨fun z => (iv x).1 (by omega), fun z => (iv x).2 (by omega)⟩)
    · refine Wp.ald_n (j := 0) rfl dX6_sheet_80 ?_
      refine Wp.getf (k := 4) (tg := 2) kC6 (by decide) rfl lf_X6_18 dX6_sheet_81 (sK41 (h := h') sh') (sF41_4 (h := h') sh') ?_
      refine Wp.bipush dX6_sheet_84 (by decide) ?_
      refine Wp.ild_n (j := 1) rfl dX6_sheet_86 ?_
      refine Wp.imulE dX6_sheet_87 (by first | exact w32_of (by omega) (by omega) | rfl) ?_
      refine Wp.ild (j := 4) rfl dX6_sheet_88 ?_
      refine Wp.iaddE dX6_sheet_90 (by first | exact w32_of (by omega) (by omega) | rfl) ?_
      refine Wp.lconst (z := 0) dX6_sheet_91 (by decide) ?_
      refine Wp.lastore dX6_sheet_92 (sK44 (h := h') sh') (by omega) (ilt (sL44 (h := h') sh') (by omega)) ?_
      refine inc_5_4 rfl dX6_sheet_93 (by first | exact w32_of (by omega) (by omega) | rfl) ?_
      refine Wp.goto (tgt := 74) dX6_sheet_96 (by decide) ?_
      refine ih (k + 1) _ (by omega) (fr.tr (Fr.e (by decide))) (by omega) (by omega) (fun x => ?_)
      have hx := iv x
      rw [hA_sEs]
      by_cases e : x = 100 * s + k
      · rw [e, u1_s]
        exact ⟨fun _ => rfl, fun z => absurd (by omega) z⟩
      · rw [u1_n _ _ e]
        exact ⟨fun z => hx.1 (by omega), fun z => hx.2 (by omega)⟩

theorem MI.sheet {h : mH} {s so mn : Int} (mi : MI h) (n1 : mn ≤ 100) : MI (sE (sE (sF (sF h 41 1 0) 41 0 0) 42 s so) 43 s mn) := by
  refine ⟨mi.1, fun i i0 i1 => ?_, mi.2.2.1, mi.2.2.2⟩
  rw [hA_sEs]
  unfold u1
  split
  · exact n1
  · exact mi.2.1 i i0 i1
theorem cq_msheet (d : Nat) (h : mH) (sh : Sh h) (mi : MI h) (s so mn : Int) : Cq m_X6_sheet (d + 1) [(2, 41), (0, s), (0, so), (0, mn)] h (fun r t => (∃ y, r = some (0, y) ∧ ((y = 0 ∧ ¬ ((0 ≤ s ∧ s < 4) ∧ (0 ≤ so ∧ so < 4) ∧ 0 ≤ mn ∧ mn ≤ 100) ∧ Fr [] [(41, 0), (41, 1)] h t) ∨ (y = 1 ∧ ((0 ≤ s ∧ s < 4) ∧ (0 ≤ so ∧ so < 4) ∧ 0 ≤ mn ∧ mn ≤ 100) ∧ Fr [42, 43, 44] [(41, 0), (41, 1)] h t ∧ SEe s so mn (mTb h) (mTb t)))) ∧ MI t ∧ Fr mAs mGs h t) := by
  refine Cq.of ?_
  show Wp m_X6_sheet ((d + 1)) 0 [(2, 41), (0, s), (0, so), (0, mn), (9, 0)] [] h _
  refine Wp.ald_n (j := 0) rfl dX6_sheet_0 ?_
  refine Wp.iconst dX6_sheet_1 (by decide) ?_
  refine Wp.putf (k := 1) (tg := 0) kC6 (by decide) rfl rfl lf_X6_117 dX6_sheet_2 (sK41 (h := h) sh) ?_
  refine Wp.ald_n (j := 0) rfl dX6_sheet_5 ?_
  refine Wp.iconst dX6_sheet_6 (by decide) ?_
  refine Wp.putf (k := 0) (tg := 0) kC6 (by decide) rfl rfl lf_X6_120 dX6_sheet_7 (sK41 (h := h) sh) ?_
  refine Wp.ild_n (j := 1) rfl dX6_sheet_10 ?_
  refine Wp.iflt dX6_sheet_11 (by decide) (tgt := 28) (fun c11 => ?_) (fun c11 => ?_)
  · refine Wp.ald_n (j := 0) rfl dX6_sheet_28 ?_
    refine Wp.iconst dX6_sheet_29 (by decide) ?_
    refine Wp.callV1 (ct_mno d (sF (sF h 41 1 0) 41 0 0) (sK41 (h := h) sh) 1) wc_X6_123 iM_X6_no se_X6_no kC6 (sK41 (h := h) sh) dX6_sheet_30 rfl (Nat.le_of_ble_eq_true rfl) rfl (Nat.le_of_ble_eq_true rfl) ?_
    refine Wp.zret rfl dX6_sheet_33 (by omega) ?_
    exact ⟨⟨_, rfl, Or.inl ⟨rfl, by omega, ((Fr.f (by decide)).tr ((Fr.f (by decide)).tr (Fr.f (by decide))))⟩⟩, mi, ((Fr.f (by decide)).tr ((Fr.f (by decide)).tr (Fr.f (by decide))))⟩
  · refine Wp.ild_n (j := 1) rfl dX6_sheet_14 ?_
    refine Wp.iconst dX6_sheet_15 (by decide) ?_
    refine Wp.icge dX6_sheet_16 (by decide) (tgt := 28) (fun c16 => ?_) (fun c16 => ?_)
    · refine Wp.ald_n (j := 0) rfl dX6_sheet_28 ?_
      refine Wp.iconst dX6_sheet_29 (by decide) ?_
      refine Wp.callV1 (ct_mno d (sF (sF h 41 1 0) 41 0 0) (sK41 (h := h) sh) 1) wc_X6_123 iM_X6_no se_X6_no kC6 (sK41 (h := h) sh) dX6_sheet_30 rfl (Nat.le_of_ble_eq_true rfl) rfl (Nat.le_of_ble_eq_true rfl) ?_
      refine Wp.zret rfl dX6_sheet_33 (by omega) ?_
      exact ⟨⟨_, rfl, Or.inl ⟨rfl, by omega, ((Fr.f (by decide)).tr ((Fr.f (by decide)).tr (Fr.f (by decide))))⟩⟩, mi, ((Fr.f (by decide)).tr ((Fr.f (by decide)).tr (Fr.f (by decide))))⟩
    · refine Wp.ild_n (j := 2) rfl dX6_sheet_19 ?_
      refine Wp.iflt dX6_sheet_20 (by decide) (tgt := 28) (fun c20 => ?_) (fun c20 => ?_)
      · refine Wp.ald_n (j := 0) rfl dX6_sheet_28 ?_
        refine Wp.iconst dX6_sheet_29 (by decide) ?_
        refine Wp.callV1 (ct_mno d (sF (sF h 41 1 0) 41 0 0) (sK41 (h := h) sh) 1) wc_X6_123 iM_X6_no se_X6_no kC6 (sK41 (h := h) sh) dX6_sheet_30 rfl (Nat.le_of_ble_eq_true rfl) rfl (Nat.le_of_ble_eq_true rfl) ?_
        refine Wp.zret rfl dX6_sheet_33 (by omega) ?_
        exact ⟨⟨_, rfl, Or.inl ⟨rfl, by omega, ((Fr.f (by decide)).tr ((Fr.f (by decide)).tr (Fr.f (by decide))))⟩⟩, mi, ((Fr.f (by decide)).tr ((Fr.f (by decide)).tr (Fr.f (by decide))))⟩
      · refine Wp.ild_n (j := 2) rfl dX6_sheet_23 ?_
        refine Wp.iconst dX6_sheet_24 (by decide) ?_
        refine Wp.icle dX6_sheet_25 (by decide) (tgt := 34) (fun c25 => ?_) (fun c25 => ?_)
        · refine Wp.ild_n (j := 3) rfl dX6_sheet_34 ?_
          refine Wp.bipush dX6_sheet_35 (by decide) ?_
          refine Wp.icle dX6_sheet_37 (by decide) (tgt := 46) (fun c37 => ?_) (fun c37 => ?_)
          · refine Wp.ild_n (j := 3) rfl dX6_sheet_46 ?_
            refine Wp.ifge dX6_sheet_47 (by decide) (tgt := 57) (fun c47 => ?_) (fun c47 => ?_)
            · refine Wp.ald_n (j := 0) rfl dX6_sheet_57 ?_
              refine Wp.getf (k := 2) (tg := 2) kC6 (by decide) rfl lf_X6_9 dX6_sheet_58 (sK41 (h := h) sh) (sF41_2 (h := h) sh) ?_
              refine Wp.ild_n (j := 1) rfl dX6_sheet_61 ?_
              refine Wp.ild_n (j := 2) rfl dX6_sheet_62 ?_
              refine Wp.iastore dX6_sheet_63 (sK42 (h := h) sh) (by omega) (ilt (sL42 (h := h) sh) (by omega)) ?_
              refine Wp.ald_n (j := 0) rfl dX6_sheet_64 ?_
              refine Wp.getf (k := 3) (tg := 2) kC6 (by decide) rfl lf_X6_15 dX6_sheet_65 (sK41 (h := h) sh) (sF41_3 (h := h) sh) ?_
              refine Wp.ild_n (j := 1) rfl dX6_sheet_68 ?_
              refine Wp.ild_n (j := 3) rfl dX6_sheet_69 ?_
              refine Wp.iastore dX6_sheet_70 (sK43 (h := h) sh) (by omega) (ilt (sL43 (h := h) sh) (by omega)) ?_
              refine Wp.iconst dX6_sheet_71 (by decide) ?_
              refine sti_5_4 rfl (dSt_w dX6_sheet_72) ?_
              refine msheet_loop d _ (sh.m (((Fr.f (by decide)).tr (Fr.f (by decide))).tr ((Fr.e (by decide)).tr (Fr.e (by decide))))) s so mn (by omega) (by omega) _ (fun t k frt ht => ?_) _ 0 _ (Nat.lt_succ_self _) Fr.rf (by omega) (by omega) (fun x => ⟨fun z => by omega, fun _ => rfl⟩)
              refine Wp.iconst dX6_sheet_99 (by decide) ?_
              refine Wp.zret rfl dX6_sheet_100 (Or.inr rfl) ?_
              exact ⟨⟨_, rfl, Or.inr ⟨rfl, by omega, (((Fr.f (by decide)).tr (Fr.f (by decide))).tr ((Fr.e (by decide)).tr (Fr.e (by decide)))).tr (frt.mono (by decide) (by simp)), SEe_m (by omega) ((frt.2.2.2.2.2 42 (by decide)).trans ((hA_sEn (by decide)).trans hA_sEs)) ((frt.2.2.2.2.2 43 (by decide)).trans hA_sEs) ht⟩⟩, (mi.sheet (by omega)).fr (frt.mono (by decide) (by simp)), (((Fr.f (by decide)).tr (Fr.f (by decide))).tr ((Fr.e (by decide)).tr (Fr.e (by decide)))).tr (frt.mono (by decide) (by simp))⟩
            · refine Wp.ald_n (j := 0) rfl dX6_sheet_50 ?_
              refine Wp.bipush dX6_sheet_51 (by decide) ?_
              refine Wp.callV1 (ct_mno d (sF (sF h 41 1 0) 41 0 0) (sK41 (h := h) sh) 6) wc_X6_123 iM_X6_no se_X6_no kC6 (sK41 (h := h) sh) dX6_sheet_53 rfl (Nat.le_of_ble_eq_true rfl) rfl (Nat.le_of_ble_eq_true rfl) ?_
              refine Wp.zret rfl dX6_sheet_56 (by omega) ?_
              exact ⟨⟨_, rfl, Or.inl ⟨rfl, by omega, ((Fr.f (by decide)).tr ((Fr.f (by decide)).tr (Fr.f (by decide))))⟩⟩, mi, ((Fr.f (by decide)).tr ((Fr.f (by decide)).tr (Fr.f (by decide))))⟩
          · refine Wp.ald_n (j := 0) rfl dX6_sheet_40 ?_
            refine Wp.iconst dX6_sheet_41 (by decide) ?_
            refine Wp.callV1 (ct_mno d (sF (sF h 41 1 0) 41 0 0) (sK41 (h := h) sh) 2) wc_X6_123 iM_X6_no se_X6_no kC6 (sK41 (h := h) sh) dX6_sheet_42 rfl (Nat.le_of_ble_eq_true rfl) rfl (Nat.le_of_ble_eq_true rfl) ?_
            refine Wp.zret rfl dX6_sheet_45 (by omega) ?_
            exact ⟨⟨_, rfl, Or.inl ⟨rfl, by omega, ((Fr.f (by decide)).tr ((Fr.f (by decide)).tr (Fr.f (by decide))))⟩⟩, mi, ((Fr.f (by decide)).tr ((Fr.f (by decide)).tr (Fr.f (by decide))))⟩
        · refine Wp.ald_n (j := 0) rfl dX6_sheet_28 ?_
          refine Wp.iconst dX6_sheet_29 (by decide) ?_
          refine Wp.callV1 (ct_mno d (sF (sF h 41 1 0) 41 0 0) (sK41 (h := h) sh) 1) wc_X6_123 iM_X6_no se_X6_no kC6 (sK41 (h := h) sh) dX6_sheet_30 rfl (Nat.le_of_ble_eq_true rfl) rfl (Nat.le_of_ble_eq_true rfl) ?_
          refine Wp.zret rfl dX6_sheet_33 (by omega) ?_
          exact ⟨⟨_, rfl, Or.inl ⟨rfl, by omega, ((Fr.f (by decide)).tr ((Fr.f (by decide)).tr (Fr.f (by decide))))⟩⟩, mi, ((Fr.f (by decide)).tr ((Fr.f (by decide)).tr (Fr.f (by decide))))⟩

theorem cq_mwrite (d : Nat) (h : mH) (sh : Sh h) (mi : MI h) (s p v : Int) : Cq m_X6_write (d + 2) [(2, 41), (0, s), (0, p), (1, v)] h (fun r t => (∃ y, r = some (0, y) ∧ ((y = 0 ∧ ¬ ((0 ≤ s ∧ s < 4) ∧ 0 ≤ p ∧ p < hA h 43 s) ∧ Fr [] [(41, 0), (41, 1)] h t) ∨ (y = 1 ∧ ((0 ≤ s ∧ s < 4) ∧ 0 ≤ p ∧ p < hA h 43 s) ∧ Fr [42, 43, 44] [(41, 0), (41, 1)] h t ∧ WEe s p v (mTb h) (mTb t)))) ∧ MI t ∧ Fr mAs mGs h t) := by
  refine Cq.of ?_
  show Wp m_X6_write ((d + 2)) 0 [(2, 41), (0, s), (0, p), (1, v), (9, 0)] [] h _
  obtain ⟨⟨⟨r0, r1⟩, ⟨n0, n1⟩, ⟨m0, m1⟩, hp, hq⟩, hms, ⟨⟨z0, z1⟩, hsp⟩, hme⟩ := id mi
  refine Wp.ald_n (j := 0) rfl dX6_write_0 ?_
  refine Wp.iconst dX6_write_1 (by decide) ?_
  refine Wp.putf (k := 1) (tg := 0) kC6 (by decide) rfl rfl lf_X6_117 dX6_write_2 (sK41 (h := h) sh) ?_
  refine Wp.ald_n (j := 0) rfl dX6_write_5 ?_
  refine Wp.ald_n (j := 0) rfl dX6_write_6 ?_
  refine Wp.ild_n (j := 1) rfl dX6_write_7 ?_
  refine Wp.ild_n (j := 2) rfl dX6_write_8 ?_
  obtain ⟨_, t9, ct9, ⟨y9, rfl, hy9, hz9⟩, e9⟩ := cq_placed d _ sh.m1 s p
  rw [e9] at ct9
  have hz9 : y9 ≤ 0 ↔ (0 ≤ s ∧ s < 4) ∧ 0 ≤ p ∧ p < hA h 43 s := hz9
  refine Wp.callV1 (ct9) wc_X6_131 iM_X6_placed se_X6_placed kC6 (sK41 (h := h) sh) dX6_write_9 rfl (Nat.le_of_ble_eq_true rfl) rfl (Nat.le_of_ble_eq_true rfl) ?_
  refine Wp.putf (k := 0) (tg := 0) kC6 (by decide) rfl rfl lf_X6_120 dX6_write_12 (sK41 (h := h) sh) ?_
  refine Wp.ald_n (j := 0) rfl dX6_write_15 ?_
  refine Wp.getf (k := 0) (tg := 0) kC6 (by decide) rfl lf_X6_120 dX6_write_16 (sK41 (h := h) sh) rfl ?_
  refine Wp.ifle dX6_write_19 (by decide) (tgt := 24) (fun c19 => ?_) (fun c19 => ?_)
  · have hz9 := hz9.mp c19
    have hmx := hms s hz9.1.1 hz9.1.2
    refine Wp.ald_n (j := 0) rfl dX6_write_24 ?_
    refine Wp.getf (k := 4) (tg := 2) kC6 (by decide) rfl lf_X6_18 dX6_write_25 (sK41 (h := h) sh) (sF41_4 (h := h) sh) ?_
    refine Wp.bipush dX6_write_28 (by decide) ?_
    refine Wp.ild_n (j := 1) rfl dX6_write_30 ?_
    refine Wp.imulE dX6_write_31 (by first | exact w32_of (by omega) (by omega) | rfl) ?_
    refine Wp.ild_n (j := 2) rfl dX6_write_32 ?_
    refine Wp.iaddE dX6_write_33 (by first | exact w32_of (by omega) (by omega) | rfl) ?_
    refine Wp.ald_n (j := 0) rfl dX6_write_34 ?_
    refine Wp.getf (k := 2) (tg := 2) kC6 (by decide) rfl lf_X6_9 dX6_write_35 (sK41 (h := h) sh) (sF41_2 (h := h) sh) ?_
    refine Wp.ild_n (j := 1) rfl dX6_write_38 ?_
    refine Wp.iaload dX6_write_39 (sK42 (h := h) sh) (by omega) (ilt (sL42 (h := h) sh) (by omega)) (show hA _ 42 _ = hA h 42 _ from rfl) ?_
    refine Wp.lld_n (j := 3) rfl dX6_write_40 ?_
    obtain ⟨_, t41, ct41, rfl, e41⟩ := cq_mcut (d + 1) (sF (sF h 41 1 0) 41 0 y9) (hA h 42 s) v
    rw [e41] at ct41
    refine Wp.callS1 (ct41) wc_X6_135 sM_X6_cut dX6_write_41 rfl (Nat.le_of_ble_eq_true rfl) rfl (Nat.le_of_ble_eq_true rfl) ?_
    refine Wp.lastore dX6_write_44 (sK44 (h := h) sh) (by omega) (ilt (sL44 (h := h) sh) (by omega)) ?_
    refine Wp.iconst dX6_write_45 (by decide) ?_
    refine Wp.zret rfl dX6_write_46 (by omega) ?_
    exact ⟨⟨_, rfl, Or.inr ⟨rfl, hz9, ((Fr.f (by decide)).tr (Fr.f (by decide))).tr (Fr.e (by decide)), WEe_m (by omega)⟩⟩, mi.fr ((Fr.f (by decide)).tr ((Fr.f (by decide)).tr (Fr.e (by decide)))), ((Fr.f (by decide)).tr (Fr.f (by decide))).tr (Fr.e (by decide))⟩
  · refine Wp.iconst dX6_write_22 (by decide) ?_
    refine Wp.zret rfl dX6_write_23 (by omega) ?_
    exact ⟨⟨_, rfl, Or.inl ⟨rfl, fun z => c19 (hz9.mpr z), ((Fr.f (by decide)).tr (Fr.f (by decide)))⟩⟩, mi, ((Fr.f (by decide)).tr (Fr.f (by decide)))⟩

theorem cq_mread (d : Nat) (h : mH) (sh : Sh h) (mi : MI h) (s p : Int) : Cq m_X6_read (d + 2) [(2, 41), (0, s), (0, p)] h (fun r t => (∃ y, r = some (1, y) ∧ ((y = -1 ∧ ¬ ((0 ≤ s ∧ s < 4) ∧ 0 ≤ p ∧ p < hA h 43 s)) ∨ (y = hA h 44 (100 * s + p) ∧ ((0 ≤ s ∧ s < 4) ∧ 0 ≤ p ∧ p < hA h 43 s)))) ∧ MI t ∧ Fr mAq mGq h t) := by
  refine Cq.of ?_
  show Wp m_X6_read ((d + 2)) 0 [(2, 41), (0, s), (0, p)] [] h _
  obtain ⟨⟨⟨r0, r1⟩, ⟨n0, n1⟩, ⟨m0, m1⟩, hp, hq⟩, hms, ⟨⟨z0, z1⟩, hsp⟩, hme⟩ := id mi
  refine Wp.ald_n (j := 0) rfl dX6_read_0 ?_
  refine Wp.iconst dX6_read_1 (by decide) ?_
  refine Wp.putf (k := 1) (tg := 0) kC6 (by decide) rfl rfl lf_X6_117 dX6_read_2 (sK41 (h := h) sh) ?_
  refine Wp.ald_n (j := 0) rfl dX6_read_5 ?_
  refine Wp.ald_n (j := 0) rfl dX6_read_6 ?_
  refine Wp.ild_n (j := 1) rfl dX6_read_7 ?_
  refine Wp.ild_n (j := 2) rfl dX6_read_8 ?_
  obtain ⟨_, t9, ct9, ⟨y9, rfl, hy9, hz9⟩, e9⟩ := cq_placed d _ sh.m1 s p
  rw [e9] at ct9
  have hz9 : y9 ≤ 0 ↔ (0 ≤ s ∧ s < 4) ∧ 0 ≤ p ∧ p < hA h 43 s := hz9
  refine Wp.callV1 (ct9) wc_X6_131 iM_X6_placed se_X6_placed kC6 (sK41 (h := h) sh) dX6_read_9 rfl (Nat.le_of_ble_eq_true rfl) rfl (Nat.le_of_ble_eq_true rfl) ?_
  refine Wp.putf (k := 0) (tg := 0) kC6 (by decide) rfl rfl lf_X6_120 dX6_read_12 (sK41 (h := h) sh) ?_
  refine Wp.ald_n (j := 0) rfl dX6_read_15 ?_
  refine Wp.getf (k := 0) (tg := 0) kC6 (by decide) rfl lf_X6_120 dX6_read_16 (sK41 (h := h) sh) rfl ?_
  refine Wp.ifle dX6_read_19 (by decide) (tgt := 28) (fun c19 => ?_) (fun c19 => ?_)
  · have hz9 := hz9.mp c19
    have hmx := hms s hz9.1.1 hz9.1.2
    refine Wp.ald_n (j := 0) rfl dX6_read_28 ?_
    refine Wp.getf (k := 4) (tg := 2) kC6 (by decide) rfl lf_X6_18 dX6_read_29 (sK41 (h := h) sh) (sF41_4 (h := h) sh) ?_
    refine Wp.bipush dX6_read_32 (by decide) ?_
    refine Wp.ild_n (j := 1) rfl dX6_read_34 ?_
    refine Wp.imulE dX6_read_35 (by first | exact w32_of (by omega) (by omega) | rfl) ?_
    refine Wp.ild_n (j := 2) rfl dX6_read_36 ?_
    refine Wp.iaddE dX6_read_37 (by first | exact w32_of (by omega) (by omega) | rfl) ?_
    refine Wp.laload dX6_read_38 (sK44 (h := h) sh) (by omega) (ilt (sL44 (h := h) sh) (by omega)) (show hA _ 44 _ = hA h 44 _ from rfl) ?_
    refine Wp.lret rfl dX6_read_39 ?_
    first
    | exact ⟨⟨_, rfl, Or.inl ⟨rfl, fun z => c19 (hz9.mpr z)⟩⟩, mi, ((Fr.f (by decide)).tr (Fr.f (by decide)))⟩
    | exact ⟨⟨_, rfl, Or.inr ⟨rfl, hz9⟩⟩, mi, ((Fr.f (by decide)).tr (Fr.f (by decide)))⟩
  · refine Wp.ldc2 (z := -1) lk_X6_139 (by decide) dX6_read_22 ?_
    refine Wp.goto (tgt := 39) dX6_read_25 (by decide) ?_
    refine Wp.lret rfl dX6_read_39 ?_
    first
    | exact ⟨⟨_, rfl, Or.inl ⟨rfl, fun z => c19 (hz9.mpr z)⟩⟩, mi, ((Fr.f (by decide)).tr (Fr.f (by decide)))⟩
    | exact ⟨⟨_, rfl, Or.inr ⟨rfl, hz9⟩⟩, mi, ((Fr.f (by decide)).tr (Fr.f (by decide)))⟩

theorem mpour_loop (d : Nat) (h : mH) (sh : Sh h) (s i t9 j mn up : Int) (hb : (0 ≤ s ∧ s < 4) ∧ (0 ≤ t9 ∧ t9 < 4) ∧ 0 ≤ i ∧ 0 ≤ j ∧ i + mn ≤ 100 ∧ j + mn ≤ 100) (hu : (up ≠ 0 ∧ i < j) ∨ (up = 0 ∧ j ≤ i)) (Q : Option mV → mH → Prop) (kq : ∀ (t : mH) (k : Int) (x8 : mV), Fr [44] [] h t → PIe (hA h 44) (hA t 44) (100 * s + i) (100 * t9 + j) mn up mn → Wp m_X6_pour (d + 1) 219 [(2, 41), (0, s), (0, i), (0, t9), (0, j), (0, mn), (0, up), (0, k), x8] [] t Q) : ∀ (m : Nat) (k : Int) (x8 : mV) (h' : mH), (mn - k).toNat < m → (Fr [44] [] h h') → (0 ≤ k) → (k ≤ mn) → (PIe (hA h 44) (hA h' 44) (100 * s + i) (100 * t9 + j) mn up k) → Wp m_X6_pour (d + 1) 158 [(2, 41), (0, s), (0, i), (0, t9), (0, j), (0, mn), (0, up), (0, k), x8] [] h' Q := by
  intro m
  induction m with
  | zero => intro k x8 h' hm; exact absurd hm (Nat.not_lt_zero _)
  | succ m ih =>
    intro k x8 h' hm fr k0 k1 iv
    have sh' := sh.fr fr (by decide +kernel) (by decide)
    refine Wp.ild (j := 7) rfl dX6_pour_158 ?_
    refine Wp.ild (j := 5) rfl dX6_pour_160 ?_
    refine Wp.icge dX6_pour_162 (by decide) (tgt := 219) (fun c162 => ?_) (fun c162 => ?_)
    · have ek : k = mn := by omega
      rw [ek] at iv
      exact kq _ _ _ fr iv
    · refine Wp.ild (j := 6) rfl dX6_pour_165 ?_
      refine Wp.ifeq dX6_pour_167 (by decide) (tgt := 180) (fun c167 => ?_) (fun c167 => ?_)
      · refine Wp.ild (j := 7) rfl dX6_pour_180 ?_
        refine sti_9_8 rfl (dSt_w dX6_pour_182) ?_
        refine Wp.ald_n (j := 0) rfl dX6_pour_184 ?_
        refine Wp.getf (k := 4) (tg := 2) kC6 (by decide) rfl lf_X6_18 dX6_pour_185 (sK41 (h := h') sh') (sF41_4 (h := h') sh') ?_
        refine Wp.bipush dX6_pour_188 (by decide) ?_
        refine Wp.ild_n (j := 3) rfl dX6_pour_190 ?_
        refine Wp.imulE dX6_pour_191 (by first | exact w32_of (by omega) (by omega) | rfl) ?_
        refine Wp.ild (j := 4) rfl dX6_pour_192 ?_
        refine Wp.iaddE dX6_pour_194 (by first | exact w32_of (by omega) (by omega) | rfl) ?_
        refine Wp.ild (j := 8) rfl dX6_pour_195 ?_
        refine Wp.iaddE dX6_pour_197 (by first | exact w32_of (by omega) (by omega) | rfl) ?_
        refine Wp.ald_n (j := 0) rfl dX6_pour_198 ?_
        refine Wp.getf (k := 4) (tg := 2) kC6 (by decide) rfl lf_X6_18 dX6_pour_199 (sK41 (h := h') sh') (sF41_4 (h := h') sh') ?_
        refine Wp.bipush dX6_pour_202 (by decide) ?_
        refine Wp.ild_n (j := 1) rfl dX6_pour_204 ?_
        refine Wp.imulE dX6_pour_205 (by first | exact w32_of (by omega) (by omega) | rfl) ?_
        refine Wp.ild_n (j := 2) rfl dX6_pour_206 ?_
        refine Wp.iaddE dX6_pour_207 (by first | exact w32_of (by omega) (by omega) | rfl) ?_
        refine Wp.ild (j := 8) rfl dX6_pour_208 ?_
        refine Wp.iaddE dX6_pour_210 (by first | exact w32_of (by omega) (by omega) | rfl) ?_
        refine Wp.laload dX6_pour_211 (sK44 (h := h') sh') (by omega) (ilt (sL44 (h := h') sh') (by omega)) (show hA _ 44 _ = hA h' 44 _ from rfl) ?_
        refine Wp.lastore dX6_pour_212 (sK44 (h := h') sh') (by omega) (ilt (sL44 (h := h') sh') (by omega)) ?_
        refine inc_9_7 rfl dX6_pour_213 (by first | exact w32_of (by omega) (by omega) | rfl) ?_
        refine Wp.goto (tgt := 158) dX6_pour_216 (by decide) ?_
        refine ih (k + 1) _ _ (by omega) (fr.tr (Fr.e (by decide))) (by omega) (by omega) ?_
        rw [hA_sEs]
        exact iv.step hu hb ⟨k0, by omega⟩ (by omega)
      · refine Wp.ild (j := 5) rfl dX6_pour_170 ?_
        refine Wp.iconst dX6_pour_172 (by decide) ?_
        refine Wp.isubE dX6_pour_173 (by first | exact w32_of (by omega) (by omega) | rfl) ?_
        refine Wp.ild (j := 7) rfl dX6_pour_174 ?_
        refine Wp.isubE dX6_pour_176 (by first | exact w32_of (by omega) (by omega) | rfl) ?_
        refine Wp.goto (tgt := 182) dX6_pour_177 (by decide) ?_
        refine sti_9_8 rfl (dSt_w dX6_pour_182) ?_
        refine Wp.ald_n (j := 0) rfl dX6_pour_184 ?_
        refine Wp.getf (k := 4) (tg := 2) kC6 (by decide) rfl lf_X6_18 dX6_pour_185 (sK41 (h := h') sh') (sF41_4 (h := h') sh') ?_
        refine Wp.bipush dX6_pour_188 (by decide) ?_
        refine Wp.ild_n (j := 3) rfl dX6_pour_190 ?_
        refine Wp.imulE dX6_pour_191 (by first | exact w32_of (by omega) (by omega) | rfl) ?_
        refine Wp.ild (j := 4) rfl dX6_pour_192 ?_
        refine Wp.iaddE dX6_pour_194 (by first | exact w32_of (by omega) (by omega) | rfl) ?_
        refine Wp.ild (j := 8) rfl dX6_pour_195 ?_
        refine Wp.iaddE dX6_pour_197 (by first | exact w32_of (by omega) (by omega) | rfl) ?_
        refine Wp.ald_n (j := 0) rfl dX6_pour_198 ?_
        refine Wp.getf (k := 4) (tg := 2) kC6 (by decide) rfl lf_X6_18 dX6_pour_199 (sK41 (h := h') sh') (sF41_4 (h := h') sh') ?_
        refine Wp.bipush dX6_pour_202 (by decide) ?_
        refine Wp.ild_n (j := 1) rfl dX6_pour_204 ?_
        refine Wp.imulE dX6_pour_205 (by first | exact w32_of (by omega) (by omega) | rfl) ?_
        refine Wp.ild_n (j := 2) rfl dX6_pour_206 ?_
        refine Wp.iaddE dX6_pour_207 (by first | exact w32_of (by omega) (by omega) | rfl) ?_
        refine Wp.ild (j := 8) rfl dX6_pour_208 ?_
        refine Wp.iaddE dX6_pour_210 (by first | exact w32_of (by omega) (by omega) | rfl) ?_
        refine Wp.laload dX6_pour_211 (sK44 (h := h') sh') (by omega) (ilt (sL44 (h := h') sh') (by omega)) (show hA _ 44 _ = hA h' 44 _ from rfl) ?_
        refine Wp.lastore dX6_pour_212 (sK44 (h := h') sh') (by omega) (ilt (sL44 (h := h') sh') (by omega)) ?_
        refine inc_9_7 rfl dX6_pour_213 (by first | exact w32_of (by omega) (by omega) | rfl) ?_
        refine Wp.goto (tgt := 158) dX6_pour_216 (by decide) ?_
        refine ih (k + 1) _ _ (by omega) (fr.tr (Fr.e (by decide))) (by omega) (by omega) ?_
        rw [hA_sEs]
        exact iv.step hu hb ⟨k0, by omega⟩ (by omega)

theorem cq_mpour (d : Nat) (h : mH) (sh : Sh h) (mi : MI h) (s i t9 j mn : Int) (ri : i < 2147483648) (rj : j < 2147483648) (rn : mn < 2147483648) : Cq m_X6_pour (d + 1) [(2, 41), (0, s), (0, i), (0, t9), (0, j), (0, mn)] h (fun r t => (∃ y, r = some (0, y) ∧ ((y = 0 ∧ ¬ (((0 ≤ s ∧ s < 4) ∧ (0 ≤ t9 ∧ t9 < 4)) ∧ (0 ≤ hA h 43 s ∧ 0 ≤ hA h 43 t9) ∧ hA h 42 s = hA h 42 t9 ∧ 0 ≤ mn ∧ 0 ≤ i ∧ 0 ≤ j ∧ i + mn ≤ hA h 43 s ∧ j + mn ≤ hA h 43 t9) ∧ Fr [] [(41, 0), (41, 1)] h t) ∨ (y = 1 ∧ (((0 ≤ s ∧ s < 4) ∧ (0 ≤ t9 ∧ t9 < 4)) ∧ (0 ≤ hA h 43 s ∧ 0 ≤ hA h 43 t9) ∧ hA h 42 s = hA h 42 t9 ∧ 0 ≤ mn ∧ 0 ≤ i ∧ 0 ≤ j ∧ i + mn ≤ hA h 43 s ∧ j + mn ≤ hA h 43 t9) ∧ Fr [42, 43, 44] [(41, 0), (41, 1)] h t ∧ PEe s i t9 j mn (mTb h) (mTb t)))) ∧ MI t ∧ Fr mAs mGs h t) := by
  refine Cq.of ?_
  show Wp m_X6_pour ((d + 1)) 0 [(2, 41), (0, s), (0, i), (0, t9), (0, j), (0, mn), (9, 0), (9, 0), (9, 0)] [] h _
  obtain ⟨⟨⟨r0, r1⟩, ⟨n0, n1⟩, ⟨m0, m1⟩, hp, hq⟩, hms, ⟨⟨z0, z1⟩, hsp⟩, hme⟩ := id mi
  refine Wp.ald_n (j := 0) rfl dX6_pour_0 ?_
  refine Wp.iconst dX6_pour_1 (by decide) ?_
  refine Wp.putf (k := 1) (tg := 0) kC6 (by decide) rfl rfl lf_X6_117 dX6_pour_2 (sK41 (h := h) sh) ?_
  refine Wp.ald_n (j := 0) rfl dX6_pour_5 ?_
  refine Wp.iconst dX6_pour_6 (by decide) ?_
  refine Wp.putf (k := 0) (tg := 0) kC6 (by decide) rfl rfl lf_X6_120 dX6_pour_7 (sK41 (h := h) sh) ?_
  refine Wp.ild_n (j := 1) rfl dX6_pour_10 ?_
  refine Wp.iflt dX6_pour_11 (by decide) (tgt := 28) (fun c11 => ?_) (fun c11 => ?_)
  · refine Wp.ald_n (j := 0) rfl dX6_pour_28 ?_
    refine Wp.iconst dX6_pour_29 (by decide) ?_
    refine Wp.callV1 (ct_mno d (sF (sF h 41 1 0) 41 0 0) (sK41 (h := h) sh) 1) wc_X6_123 iM_X6_no se_X6_no kC6 (sK41 (h := h) sh) dX6_pour_30 rfl (Nat.le_of_ble_eq_true rfl) rfl (Nat.le_of_ble_eq_true rfl) ?_
    refine Wp.zret rfl dX6_pour_33 (by omega) ?_
    exact ⟨⟨_, rfl, Or.inl ⟨rfl, by omega, ((Fr.f (by decide)).tr ((Fr.f (by decide)).tr (Fr.f (by decide))))⟩⟩, mi, ((Fr.f (by decide)).tr ((Fr.f (by decide)).tr (Fr.f (by decide))))⟩
  · refine Wp.ild_n (j := 1) rfl dX6_pour_14 ?_
    refine Wp.iconst dX6_pour_15 (by decide) ?_
    refine Wp.icge dX6_pour_16 (by decide) (tgt := 28) (fun c16 => ?_) (fun c16 => ?_)
    · refine Wp.ald_n (j := 0) rfl dX6_pour_28 ?_
      refine Wp.iconst dX6_pour_29 (by decide) ?_
      refine Wp.callV1 (ct_mno d (sF (sF h 41 1 0) 41 0 0) (sK41 (h := h) sh) 1) wc_X6_123 iM_X6_no se_X6_no kC6 (sK41 (h := h) sh) dX6_pour_30 rfl (Nat.le_of_ble_eq_true rfl) rfl (Nat.le_of_ble_eq_true rfl) ?_
      refine Wp.zret rfl dX6_pour_33 (by omega) ?_
      exact ⟨⟨_, rfl, Or.inl ⟨rfl, by omega, ((Fr.f (by decide)).tr ((Fr.f (by decide)).tr (Fr.f (by decide))))⟩⟩, mi, ((Fr.f (by decide)).tr ((Fr.f (by decide)).tr (Fr.f (by decide))))⟩
    · refine Wp.ild_n (j := 3) rfl dX6_pour_19 ?_
      refine Wp.iflt dX6_pour_20 (by decide) (tgt := 28) (fun c20 => ?_) (fun c20 => ?_)
      · refine Wp.ald_n (j := 0) rfl dX6_pour_28 ?_
        refine Wp.iconst dX6_pour_29 (by decide) ?_
        refine Wp.callV1 (ct_mno d (sF (sF h 41 1 0) 41 0 0) (sK41 (h := h) sh) 1) wc_X6_123 iM_X6_no se_X6_no kC6 (sK41 (h := h) sh) dX6_pour_30 rfl (Nat.le_of_ble_eq_true rfl) rfl (Nat.le_of_ble_eq_true rfl) ?_
        refine Wp.zret rfl dX6_pour_33 (by omega) ?_
        exact ⟨⟨_, rfl, Or.inl ⟨rfl, by omega, ((Fr.f (by decide)).tr ((Fr.f (by decide)).tr (Fr.f (by decide))))⟩⟩, mi, ((Fr.f (by decide)).tr ((Fr.f (by decide)).tr (Fr.f (by decide))))⟩
      · refine Wp.ild_n (j := 3) rfl dX6_pour_23 ?_
        refine Wp.iconst dX6_pour_24 (by decide) ?_
        refine Wp.iclt dX6_pour_25 (by decide) (tgt := 34) (fun c25 => ?_) (fun c25 => ?_)
        · refine Wp.ald_n (j := 0) rfl dX6_pour_34 ?_
          refine Wp.getf (k := 3) (tg := 2) kC6 (by decide) rfl lf_X6_15 dX6_pour_35 (sK41 (h := h) sh) (sF41_3 (h := h) sh) ?_
          refine Wp.ild_n (j := 1) rfl dX6_pour_38 ?_
          refine Wp.iaload dX6_pour_39 (sK43 (h := h) sh) (by omega) (ilt (sL43 (h := h) sh) (by omega)) (show hA _ 43 _ = hA h 43 _ from rfl) ?_
          refine Wp.iflt dX6_pour_40 (by decide) (tgt := 52) (fun c40 => ?_) (fun c40 => ?_)
          · refine Wp.ald_n (j := 0) rfl dX6_pour_52 ?_
            refine Wp.iconst dX6_pour_53 (by decide) ?_
            refine Wp.callV1 (ct_mno d (sF (sF h 41 1 0) 41 0 0) (sK41 (h := h) sh) 3) wc_X6_123 iM_X6_no se_X6_no kC6 (sK41 (h := h) sh) dX6_pour_54 rfl (Nat.le_of_ble_eq_true rfl) rfl (Nat.le_of_ble_eq_true rfl) ?_
            refine Wp.zret rfl dX6_pour_57 (by omega) ?_
            exact ⟨⟨_, rfl, Or.inl ⟨rfl, by omega, ((Fr.f (by decide)).tr ((Fr.f (by decide)).tr (Fr.f (by decide))))⟩⟩, mi, ((Fr.f (by decide)).tr ((Fr.f (by decide)).tr (Fr.f (by decide))))⟩
          · refine Wp.ald_n (j := 0) rfl dX6_pour_43 ?_
            refine Wp.getf (k := 3) (tg := 2) kC6 (by decide) rfl lf_X6_15 dX6_pour_44 (sK41 (h := h) sh) (sF41_3 (h := h) sh) ?_
            refine Wp.ild_n (j := 3) rfl dX6_pour_47 ?_
            refine Wp.iaload dX6_pour_48 (sK43 (h := h) sh) (by omega) (ilt (sL43 (h := h) sh) (by omega)) (show hA _ 43 _ = hA h 43 _ from rfl) ?_
            refine Wp.ifge dX6_pour_49 (by decide) (tgt := 58) (fun c49 => ?_) (fun c49 => ?_)
            · refine Wp.ald_n (j := 0) rfl dX6_pour_58 ?_
              refine Wp.getf (k := 2) (tg := 2) kC6 (by decide) rfl lf_X6_9 dX6_pour_59 (sK41 (h := h) sh) (sF41_2 (h := h) sh) ?_
              refine Wp.ild_n (j := 1) rfl dX6_pour_62 ?_
              refine Wp.iaload dX6_pour_63 (sK42 (h := h) sh) (by omega) (ilt (sL42 (h := h) sh) (by omega)) (show hA _ 42 _ = hA h 42 _ from rfl) ?_
              refine Wp.ald_n (j := 0) rfl dX6_pour_64 ?_
              refine Wp.getf (k := 2) (tg := 2) kC6 (by decide) rfl lf_X6_9 dX6_pour_65 (sK41 (h := h) sh) (sF41_2 (h := h) sh) ?_
              refine Wp.ild_n (j := 3) rfl dX6_pour_68 ?_
              refine Wp.iaload dX6_pour_69 (sK42 (h := h) sh) (by omega) (ilt (sL42 (h := h) sh) (by omega)) (show hA _ 42 _ = hA h 42 _ from rfl) ?_
              refine Wp.iceq dX6_pour_70 (by decide) (tgt := 80) (fun c70 => ?_) (fun c70 => ?_)
              · refine Wp.ild (j := 5) rfl dX6_pour_80 ?_
                refine Wp.ifge dX6_pour_82 (by decide) (tgt := 92) (fun c82 => ?_) (fun c82 => ?_)
                · refine Wp.ild_n (j := 2) rfl dX6_pour_92 ?_
                  refine Wp.iflt dX6_pour_93 (by decide) (tgt := 136) (fun c93 => ?_) (fun c93 => ?_)
                  · refine Wp.ald_n (j := 0) rfl dX6_pour_136 ?_
                    refine Wp.iconst dX6_pour_137 (by decide) ?_
                    refine Wp.callV1 (ct_mno d (sF (sF h 41 1 0) 41 0 0) (sK41 (h := h) sh) 4) wc_X6_123 iM_X6_no se_X6_no kC6 (sK41 (h := h) sh) dX6_pour_138 rfl (Nat.le_of_ble_eq_true rfl) rfl (Nat.le_of_ble_eq_true rfl) ?_
                    refine Wp.zret rfl dX6_pour_141 (by omega) ?_
                    exact ⟨⟨_, rfl, Or.inl ⟨rfl, by omega, ((Fr.f (by decide)).tr ((Fr.f (by decide)).tr (Fr.f (by decide))))⟩⟩, mi, ((Fr.f (by decide)).tr ((Fr.f (by decide)).tr (Fr.f (by decide))))⟩
                  · refine Wp.ild (j := 4) rfl dX6_pour_96 ?_
                    refine Wp.iflt dX6_pour_98 (by decide) (tgt := 136) (fun c98 => ?_) (fun c98 => ?_)
                    · refine Wp.ald_n (j := 0) rfl dX6_pour_136 ?_
                      refine Wp.iconst dX6_pour_137 (by decide) ?_
                      refine Wp.callV1 (ct_mno d (sF (sF h 41 1 0) 41 0 0) (sK41 (h := h) sh) 4) wc_X6_123 iM_X6_no se_X6_no kC6 (sK41 (h := h) sh) dX6_pour_138 rfl (Nat.le_of_ble_eq_true rfl) rfl (Nat.le_of_ble_eq_true rfl) ?_
                      refine Wp.zret rfl dX6_pour_141 (by omega) ?_
                      exact ⟨⟨_, rfl, Or.inl ⟨rfl, by omega, ((Fr.f (by decide)).tr ((Fr.f (by decide)).tr (Fr.f (by decide))))⟩⟩, mi, ((Fr.f (by decide)).tr ((Fr.f (by decide)).tr (Fr.f (by decide))))⟩
                    · have hm1 := hms s (by omega) (by omega)
                      have hm2 := hms t9 (by omega) (by omega)
                      refine Wp.ild_n (j := 2) rfl dX6_pour_101 ?_
                      refine Wp.i2l dX6_pour_102 ?_
                      refine Wp.ild (j := 5) rfl dX6_pour_103 ?_
                      refine Wp.i2l dX6_pour_105 ?_
                      refine Wp.laddE dX6_pour_106 (by first | exact w64_of (by omega) (by omega) | rfl) ?_
                      refine Wp.ald_n (j := 0) rfl dX6_pour_107 ?_
                      refine Wp.getf (k := 3) (tg := 2) kC6 (by decide) rfl lf_X6_15 dX6_pour_108 (sK41 (h := h) sh) (sF41_3 (h := h) sh) ?_
                      refine Wp.ild_n (j := 1) rfl dX6_pour_111 ?_
                      refine Wp.iaload dX6_pour_112 (sK43 (h := h) sh) (by omega) (ilt (sL43 (h := h) sh) (by omega)) (show hA _ 43 _ = hA h 43 _ from rfl) ?_
                      refine Wp.i2l dX6_pour_113 ?_
                      refine Wp.lcgt dX6_pour_114 dX6_pour_115 (by decide) (tgt := 136) (fun c114 => ?_) (fun c114 => ?_)
                      · refine Wp.ald_n (j := 0) rfl dX6_pour_136 ?_
                        refine Wp.iconst dX6_pour_137 (by decide) ?_
                        refine Wp.callV1 (ct_mno d (sF (sF h 41 1 0) 41 0 0) (sK41 (h := h) sh) 4) wc_X6_123 iM_X6_no se_X6_no kC6 (sK41 (h := h) sh) dX6_pour_138 rfl (Nat.le_of_ble_eq_true rfl) rfl (Nat.le_of_ble_eq_true rfl) ?_
                        refine Wp.zret rfl dX6_pour_141 (by omega) ?_
                        exact ⟨⟨_, rfl, Or.inl ⟨rfl, by omega, ((Fr.f (by decide)).tr ((Fr.f (by decide)).tr (Fr.f (by decide))))⟩⟩, mi, ((Fr.f (by decide)).tr ((Fr.f (by decide)).tr (Fr.f (by decide))))⟩
                      · refine Wp.ild (j := 4) rfl dX6_pour_118 ?_
                        refine Wp.i2l dX6_pour_120 ?_
                        refine Wp.ild (j := 5) rfl dX6_pour_121 ?_
                        refine Wp.i2l dX6_pour_123 ?_
                        refine Wp.laddE dX6_pour_124 (by first | exact w64_of (by omega) (by omega) | rfl) ?_
                        refine Wp.ald_n (j := 0) rfl dX6_pour_125 ?_
                        refine Wp.getf (k := 3) (tg := 2) kC6 (by decide) rfl lf_X6_15 dX6_pour_126 (sK41 (h := h) sh) (sF41_3 (h := h) sh) ?_
                        refine Wp.ild_n (j := 3) rfl dX6_pour_129 ?_
                        refine Wp.iaload dX6_pour_130 (sK43 (h := h) sh) (by omega) (ilt (sL43 (h := h) sh) (by omega)) (show hA _ 43 _ = hA h 43 _ from rfl) ?_
                        refine Wp.i2l dX6_pour_131 ?_
                        refine Wp.lcle dX6_pour_132 dX6_pour_133 (by decide) (tgt := 142) (fun c132 => ?_) (fun c132 => ?_)
                        · refine Wp.ild_n (j := 2) rfl dX6_pour_142 ?_
                          refine Wp.ild (j := 4) rfl dX6_pour_143 ?_
                          refine Wp.icge dX6_pour_145 (by decide) (tgt := 152) (fun c145 => ?_) (fun c145 => ?_)
                          · refine Wp.iconst dX6_pour_152 (by decide) ?_
                            refine sti_9_6 rfl (dSt_w dX6_pour_153) ?_
                            refine Wp.iconst dX6_pour_155 (by decide) ?_
                            refine sti_9_7 rfl (dSt_w dX6_pour_156) ?_
                            refine mpour_loop d _ sh.m0 s i t9 j mn _ (by omega) (by omega) _ (fun t k x8 frt ht => ?_) _ 0 _ _ (Nat.lt_succ_self _) Fr.rf (by omega) (by omega) PIe.rf
                            refine Wp.iconst dX6_pour_219 (by decide) ?_
                            refine Wp.zret rfl dX6_pour_220 (Or.inr rfl) ?_
                            exact ⟨⟨_, rfl, Or.inr ⟨rfl, by omega, ((Fr.f (by decide)).tr (Fr.f (by decide))).tr (frt.mono (by decide) (by simp)), PEe_m (by omega) (frt.2.2.2.2.2 42 (by decide)) (frt.2.2.2.2.2 43 (by decide)) ht⟩⟩, MI.fr (h := (sF (sF h 41 1 0) 41 0 0)) mi (frt.mono (by decide) (by simp)), ((Fr.f (by decide)).tr (Fr.f (by decide))).tr (frt.mono (by decide) (by simp))⟩
                          · refine Wp.iconst dX6_pour_148 (by decide) ?_
                            refine Wp.goto (tgt := 153) dX6_pour_149 (by decide) ?_
                            refine sti_9_6 rfl (dSt_w dX6_pour_153) ?_
                            refine Wp.iconst dX6_pour_155 (by decide) ?_
                            refine sti_9_7 rfl (dSt_w dX6_pour_156) ?_
                            refine mpour_loop d _ sh.m0 s i t9 j mn _ (by omega) (by omega) _ (fun t k x8 frt ht => ?_) _ 0 _ _ (Nat.lt_succ_self _) Fr.rf (by omega) (by omega) PIe.rf
                            refine Wp.iconst dX6_pour_219 (by decide) ?_
                            refine Wp.zret rfl dX6_pour_220 (Or.inr rfl) ?_
                            exact ⟨⟨_, rfl, Or.inr ⟨rfl, by omega, ((Fr.f (by decide)).tr (Fr.f (by decide))).tr (frt.mono (by decide) (by simp)), PEe_m (by omega) (frt.2.2.2.2.2 42 (by decide)) (frt.2.2.2.2.2 43 (by decide)) ht⟩⟩, MI.fr (h := (sF (sF h 41 1 0) 41 0 0)) mi (frt.mono (by decide) (by simp)), ((Fr.f (by decide)).tr (Fr.f (by decide))).tr (frt.mono (by decide) (by simp))⟩
                        · refine Wp.ald_n (j := 0) rfl dX6_pour_136 ?_
                          refine Wp.iconst dX6_pour_137 (by decide) ?_
                          refine Wp.callV1 (ct_mno d (sF (sF h 41 1 0) 41 0 0) (sK41 (h := h) sh) 4) wc_X6_123 iM_X6_no se_X6_no kC6 (sK41 (h := h) sh) dX6_pour_138 rfl (Nat.le_of_ble_eq_true rfl) rfl (Nat.le_of_ble_eq_true rfl) ?_
                          refine Wp.zret rfl dX6_pour_141 (by omega) ?_
                          exact ⟨⟨_, rfl, Or.inl ⟨rfl, by omega, ((Fr.f (by decide)).tr ((Fr.f (by decide)).tr (Fr.f (by decide))))⟩⟩, mi, ((Fr.f (by decide)).tr ((Fr.f (by decide)).tr (Fr.f (by decide))))⟩
                · refine Wp.ald_n (j := 0) rfl dX6_pour_85 ?_
                  refine Wp.bipush dX6_pour_86 (by decide) ?_
                  refine Wp.callV1 (ct_mno d (sF (sF h 41 1 0) 41 0 0) (sK41 (h := h) sh) 6) wc_X6_123 iM_X6_no se_X6_no kC6 (sK41 (h := h) sh) dX6_pour_88 rfl (Nat.le_of_ble_eq_true rfl) rfl (Nat.le_of_ble_eq_true rfl) ?_
                  refine Wp.zret rfl dX6_pour_91 (by omega) ?_
                  exact ⟨⟨_, rfl, Or.inl ⟨rfl, by omega, ((Fr.f (by decide)).tr ((Fr.f (by decide)).tr (Fr.f (by decide))))⟩⟩, mi, ((Fr.f (by decide)).tr ((Fr.f (by decide)).tr (Fr.f (by decide))))⟩
              · refine Wp.ald_n (j := 0) rfl dX6_pour_73 ?_
                refine Wp.bipush dX6_pour_74 (by decide) ?_
                refine Wp.callV1 (ct_mno d (sF (sF h 41 1 0) 41 0 0) (sK41 (h := h) sh) 11) wc_X6_123 iM_X6_no se_X6_no kC6 (sK41 (h := h) sh) dX6_pour_76 rfl (Nat.le_of_ble_eq_true rfl) rfl (Nat.le_of_ble_eq_true rfl) ?_
                refine Wp.zret rfl dX6_pour_79 (by omega) ?_
                exact ⟨⟨_, rfl, Or.inl ⟨rfl, by omega, ((Fr.f (by decide)).tr ((Fr.f (by decide)).tr (Fr.f (by decide))))⟩⟩, mi, ((Fr.f (by decide)).tr ((Fr.f (by decide)).tr (Fr.f (by decide))))⟩
            · refine Wp.ald_n (j := 0) rfl dX6_pour_52 ?_
              refine Wp.iconst dX6_pour_53 (by decide) ?_
              refine Wp.callV1 (ct_mno d (sF (sF h 41 1 0) 41 0 0) (sK41 (h := h) sh) 3) wc_X6_123 iM_X6_no se_X6_no kC6 (sK41 (h := h) sh) dX6_pour_54 rfl (Nat.le_of_ble_eq_true rfl) rfl (Nat.le_of_ble_eq_true rfl) ?_
              refine Wp.zret rfl dX6_pour_57 (by omega) ?_
              exact ⟨⟨_, rfl, Or.inl ⟨rfl, by omega, ((Fr.f (by decide)).tr ((Fr.f (by decide)).tr (Fr.f (by decide))))⟩⟩, mi, ((Fr.f (by decide)).tr ((Fr.f (by decide)).tr (Fr.f (by decide))))⟩
        · refine Wp.ald_n (j := 0) rfl dX6_pour_28 ?_
          refine Wp.iconst dX6_pour_29 (by decide) ?_
          refine Wp.callV1 (ct_mno d (sF (sF h 41 1 0) 41 0 0) (sK41 (h := h) sh) 1) wc_X6_123 iM_X6_no se_X6_no kC6 (sK41 (h := h) sh) dX6_pour_30 rfl (Nat.le_of_ble_eq_true rfl) rfl (Nat.le_of_ble_eq_true rfl) ?_
          refine Wp.zret rfl dX6_pour_33 (by omega) ?_
          exact ⟨⟨_, rfl, Or.inl ⟨rfl, by omega, ((Fr.f (by decide)).tr ((Fr.f (by decide)).tr (Fr.f (by decide))))⟩⟩, mi, ((Fr.f (by decide)).tr ((Fr.f (by decide)).tr (Fr.f (by decide))))⟩

theorem mring_loop (d : Nat) (h : mH) (sh : Sh h) (p : Int) (Q : Option mV → mH → Prop) (kq : ∀ (t : mH) (k : Int), Fr [49] [] h t → (∀ x, 0 ≤ x → x < 576 → hA t 49 x = 0) → Wp m_X6_ring (d + 1) 60 [(2, 41), (0, p), (0, k)] [] t Q) : ∀ (m : Nat) (k : Int) (h' : mH), (576 - k).toNat < m → (Fr [49] [] h h') → (0 ≤ k) → (∀ x, 0 ≤ x → x < k → hA h' 49 x = 0) → Wp m_X6_ring (d + 1) 40 [(2, 41), (0, p), (0, k)] [] h' Q := by
  intro m
  induction m with
  | zero => intro k h' hm; exact absurd hm (Nat.not_lt_zero _)
  | succ m ih =>
    intro k h' hm fr k0 iv
    have sh' := sh.fr fr (by decide +kernel) (by decide)
    refine Wp.ild_n (j := 2) rfl dX6_ring_40 ?_
    refine Wp.sipush dX6_ring_41 (by decide) ?_
    refine Wp.icge dX6_ring_44 (by decide) (tgt := 60) (fun c44 => ?_) (fun c44 => ?_)
    · exact kq _ _ fr (fun x x0 x1 => iv x x0 (by omega))
    · refine Wp.ald_n (j := 0) rfl dX6_ring_47 ?_
      refine Wp.getf (k := 13) (tg := 2) kC6 (by decide) rfl lf_X6_41 dX6_ring_48 (sK41 (h := h') sh') (sF41_13 (h := h') sh') ?_
      refine Wp.ild_n (j := 2) rfl dX6_ring_51 ?_
      refine Wp.iconst dX6_ring_52 (by decide) ?_
      refine Wp.zastore dX6_ring_53 (sK49 (h := h') sh') (by omega) (ilt (sL49 (h := h') sh') (by omega)) (by omega) ?_
      refine inc_3_2 rfl dX6_ring_54 (by first | exact w32_of (by omega) (by omega) | rfl) ?_
      refine Wp.goto (tgt := 40) dX6_ring_57 (by decide) ?_
      refine ih (k + 1) _ (by omega) (fr.tr (Fr.e (by decide))) (by omega) (fun x x0 x1 => ?_)
      rw [hA_sEs]
      by_cases e : x = k
      · rw [e, u1_s]
      · rw [u1_n _ _ e]
        exact iv x x0 (by omega)

theorem cq_mring (d : Nat) (h : mH) (sh : Sh h) (mi : MI h) (p : Int) : Cq m_X6_ring (d + 1) [(2, 41), (0, p)] h (fun r t => (∃ y, r = some (0, y) ∧ ((y = 0 ∧ ¬ (2 ≤ p ∧ p ≤ 4096) ∧ Fr [] [(41, 0), (41, 1)] h t) ∨ (y = 1 ∧ (2 ≤ p ∧ p ≤ 4096) ∧ hF t 41 5 = p ∧ hF t 41 6 = 0 ∧ (∀ x, 0 ≤ x → x < 576 → hA t 49 x = 0) ∧ Fr [49] [(41, 0), (41, 1), (41, 5), (41, 6)] h t))) ∧ MI t ∧ Fr mAs mGs h t) := by
  refine Cq.of ?_
  show Wp m_X6_ring ((d + 1)) 0 [(2, 41), (0, p), (9, 0)] [] h _
  obtain ⟨⟨⟨r0, r1⟩, ⟨n0, n1⟩, ⟨m0, m1⟩, hp, hq⟩, hms, ⟨⟨z0, z1⟩, hsp⟩, hme⟩ := id mi
  refine Wp.ald_n (j := 0) rfl dX6_ring_0 ?_
  refine Wp.iconst dX6_ring_1 (by decide) ?_
  refine Wp.putf (k := 1) (tg := 0) kC6 (by decide) rfl rfl lf_X6_117 dX6_ring_2 (sK41 (h := h) sh) ?_
  refine Wp.ald_n (j := 0) rfl dX6_ring_5 ?_
  refine Wp.iconst dX6_ring_6 (by decide) ?_
  refine Wp.putf (k := 0) (tg := 0) kC6 (by decide) rfl rfl lf_X6_120 dX6_ring_7 (sK41 (h := h) sh) ?_
  refine Wp.ild_n (j := 1) rfl dX6_ring_10 ?_
  refine Wp.iconst dX6_ring_11 (by decide) ?_
  refine Wp.iclt dX6_ring_12 (by decide) (tgt := 22) (fun c12 => ?_) (fun c12 => ?_)
  · refine Wp.ald_n (j := 0) rfl dX6_ring_22 ?_
    refine Wp.iconst dX6_ring_23 (by decide) ?_
    refine Wp.callV1 (ct_mno d (sF (sF h 41 1 0) 41 0 0) (sK41 (h := h) sh) 2) wc_X6_123 iM_X6_no se_X6_no kC6 (sK41 (h := h) sh) dX6_ring_24 rfl (Nat.le_of_ble_eq_true rfl) rfl (Nat.le_of_ble_eq_true rfl) ?_
    refine Wp.zret rfl dX6_ring_27 (by omega) ?_
    exact ⟨⟨_, rfl, Or.inl ⟨rfl, by omega, ((Fr.f (by decide)).tr ((Fr.f (by decide)).tr (Fr.f (by decide))))⟩⟩, mi, ((Fr.f (by decide)).tr ((Fr.f (by decide)).tr (Fr.f (by decide))))⟩
  · refine Wp.ild_n (j := 1) rfl dX6_ring_15 ?_
    refine Wp.sipush dX6_ring_16 (by decide) ?_
    refine Wp.icle dX6_ring_19 (by decide) (tgt := 28) (fun c19 => ?_) (fun c19 => ?_)
    · refine Wp.ald_n (j := 0) rfl dX6_ring_28 ?_
      refine Wp.ild_n (j := 1) rfl dX6_ring_29 ?_
      refine Wp.putf (k := 5) (tg := 0) kC6 (by decide) rfl rfl lf_X6_22 dX6_ring_30 (sK41 (h := h) sh) ?_
      refine Wp.ald_n (j := 0) rfl dX6_ring_33 ?_
      refine Wp.iconst dX6_ring_34 (by decide) ?_
      refine Wp.putf (k := 6) (tg := 0) kC6 (by decide) rfl rfl lf_X6_141 dX6_ring_35 (sK41 (h := h) sh) ?_
      refine Wp.iconst dX6_ring_38 (by decide) ?_
      refine sti_3_2 rfl (dSt_n dX6_ring_39) ?_
      refine mring_loop d _ (sh.m ((Fr.f (by decide)).tr ((Fr.f (by decide)).tr ((Fr.f (by decide)).tr (Fr.f (by decide)))))) p _ (fun t k frt ht => ?_) _ 0 _ (Nat.lt_succ_self _) Fr.rf (by omega) (fun x x0 x1 => absurd x1 (by omega))
      refine Wp.iconst dX6_ring_60 (by decide) ?_
      refine Wp.zret rfl dX6_ring_61 (Or.inr rfl) ?_
      refine ⟨⟨_, rfl, Or.inr ⟨rfl, by omega, frt.2.2.2.2.1 41 5 (by simp), frt.2.2.2.2.1 41 6 (by simp), ht, ((Fr.f (by decide)).tr ((Fr.f (by decide)).tr ((Fr.f (by decide)).tr (Fr.f (by decide))))).tr (frt.mono (by decide) (by simp))⟩⟩, MI.fr (h := sF (sF (sF (sF h 41 1 0) 41 0 0) 41 5 p) 41 6 0) ⟨⟨⟨by show 2 ≤ p; omega, by show p ≤ 4096; omega⟩, ⟨Int.le_refl 0, by show (0 : Int) ≤ 24; decide⟩, ⟨m0, m1⟩, fun k k0 (k1 : k < 0) => absurd k0 (by omega), hq⟩, hms, ⟨⟨z0, z1⟩, hsp⟩, hme⟩ (frt.mono (by decide) (by simp)), ((Fr.f (by decide)).tr ((Fr.f (by decide)).tr ((Fr.f (by decide)).tr (Fr.f (by decide))))).tr (frt.mono (by decide) (by simp))⟩
    · refine Wp.ald_n (j := 0) rfl dX6_ring_22 ?_
      refine Wp.iconst dX6_ring_23 (by decide) ?_
      refine Wp.callV1 (ct_mno d (sF (sF h 41 1 0) 41 0 0) (sK41 (h := h) sh) 2) wc_X6_123 iM_X6_no se_X6_no kC6 (sK41 (h := h) sh) dX6_ring_24 rfl (Nat.le_of_ble_eq_true rfl) rfl (Nat.le_of_ble_eq_true rfl) ?_
      refine Wp.zret rfl dX6_ring_27 (by omega) ?_
      exact ⟨⟨_, rfl, Or.inl ⟨rfl, by omega, ((Fr.f (by decide)).tr ((Fr.f (by decide)).tr (Fr.f (by decide))))⟩⟩, mi, ((Fr.f (by decide)).tr ((Fr.f (by decide)).tr (Fr.f (by decide))))⟩

theorem mclears_loop (d : Nat) (h : mH) (sh : Sh h) (Q : Option mV → mH → Prop) (kq : ∀ (t : mH) (k : Int), Fr [48] [] h t → (∀ x, 0 ≤ x → x < 24 → hA t 48 x = 0) → Wp m_X6_clears d 26 [(2, 41), (0, k)] [] t Q) : ∀ (m : Nat) (k : Int) (h' : mH), (24 - k).toNat < m → (Fr [48] [] h h') → (0 ≤ k) → (∀ x, 0 ≤ x → x < k → hA h' 48 x = 0) → Wp m_X6_clears d 7 [(2, 41), (0, k)] [] h' Q := by
  intro m
  induction m with
  | zero => intro k h' hm; exact absurd hm (Nat.not_lt_zero _)
  | succ m ih =>
    intro k h' hm fr k0 iv
    have sh' := sh.fr fr (by decide +kernel) (by decide)
    refine Wp.ild_n (j := 1) rfl dX6_clears_7 ?_
    refine Wp.bipush dX6_clears_8 (by decide) ?_
    refine Wp.icge dX6_clears_10 (by decide) (tgt := 26) (fun c10 => ?_) (fun c10 => ?_)
    · exact kq _ _ fr (fun x x0 x1 => iv x x0 (by omega))
    · refine Wp.ald_n (j := 0) rfl dX6_clears_13 ?_
      refine Wp.getf (k := 12) (tg := 2) kC6 (by decide) rfl lf_X6_38 dX6_clears_14 (sK41 (h := h') sh') (sF41_12 (h := h') sh') ?_
      refine Wp.ild_n (j := 1) rfl dX6_clears_17 ?_
      refine Wp.lconst (z := 0) dX6_clears_18 (by decide) ?_
      refine Wp.lastore dX6_clears_19 (sK48 (h := h') sh') (by omega) (ilt (sL48 (h := h') sh') (by omega)) ?_
      refine inc_2_1 rfl dX6_clears_20 (by first | exact w32_of (by omega) (by omega) | rfl) ?_
      refine Wp.goto (tgt := 7) dX6_clears_23 (by decide) ?_
      refine ih (k + 1) _ (by omega) (fr.tr (Fr.e (by decide))) (by omega) (fun x x0 x1 => ?_)
      rw [hA_sEs]
      by_cases e : x = k
      · rw [e, u1_s]
      · rw [u1_n _ _ e]
        exact iv x x0 (by omega)

theorem cq_mclears (d : Nat) (h : mH) (sh : Sh h) : Cq m_X6_clears d [(2, 41)] h (fun r t => r = none ∧ hF t 41 7 = 0 ∧ Fr [48] [(41, 7)] h t ∧ ∀ x, 0 ≤ x → x < 24 → hA t 48 x = 0) := by
  refine Cq.of ?_
  show Wp m_X6_clears (d) 0 [(2, 41), (9, 0)] [] h _
  refine Wp.ald_n (j := 0) rfl dX6_clears_0 ?_
  refine Wp.iconst dX6_clears_1 (by decide) ?_
  refine Wp.putf (k := 7) (tg := 0) kC6 (by decide) rfl rfl lf_X6_144 dX6_clears_2 (sK41 (h := h) sh) ?_
  refine Wp.iconst dX6_clears_5 (by decide) ?_
  refine sti_2_1 rfl (dSt_n dX6_clears_6) ?_
  refine mclears_loop d _ (sh.m (Fr.f (by decide))) _ (fun t k frt ht => ?_) _ 0 _ (Nat.lt_succ_self _) Fr.rf (by omega) (fun x x0 x1 => absurd x1 (by omega))
  refine Wp.vret rfl dX6_clears_26 ?_
  exact ⟨rfl, frt.2.2.2.2.1 41 7 (by simp), (Fr.f (by decide)).tr (frt.mono (by decide) (by simp)), ht⟩

theorem cq_mclear (d : Nat) (h : mH) (sh : Sh h) (mi : MI h) : Cq m_X6_clear (d + 1) [(2, 41)] h (fun r t => r = some (0, 1) ∧ MI t ∧ hF t 41 7 = 0 ∧ (∀ x, 0 ≤ x → x < 24 → hA t 48 x = 0) ∧ Fr [48] [(41, 0), (41, 1), (41, 7)] h t) := by
  refine Cq.of ?_
  show Wp m_X6_clear ((d + 1)) 0 [(2, 41)] [] h _
  refine Wp.ald_n (j := 0) rfl dX6_clear_0 ?_
  refine Wp.iconst dX6_clear_1 (by decide) ?_
  refine Wp.putf (k := 1) (tg := 0) kC6 (by decide) rfl rfl lf_X6_117 dX6_clear_2 (sK41 (h := h) sh) ?_
  refine Wp.ald_n (j := 0) rfl dX6_clear_5 ?_
  refine Wp.iconst dX6_clear_6 (by decide) ?_
  refine Wp.putf (k := 0) (tg := 0) kC6 (by decide) rfl rfl lf_X6_120 dX6_clear_7 (sK41 (h := h) sh) ?_
  refine Wp.ald_n (j := 0) rfl dX6_clear_10 ?_
  obtain ⟨_, t11, ct11, rfl, z11, f11, b11⟩ := cq_mclears d _ sh.m0
  refine Wp.callV0 (ct11) wc_X6_159 iM_X6_clears se_X6_clears kC6 (sK41 (h := h) sh) dX6_clear_11 rfl (Nat.le_of_ble_eq_true rfl) rfl (Nat.le_of_ble_eq_true rfl) ?_
  refine Wp.iconst dX6_clear_14 (by decide) ?_
  refine Wp.zret rfl dX6_clear_15 (by omega) ?_
  exact ⟨rfl, MI.fr (h := (sF (sF h 41 1 0) 41 0 0)) mi (f11.mono (by decide) (by decide)), z11, b11, ((Fr.f (by decide)).tr (Fr.f (by decide))).tr (f11.mono (by decide) (by decide))⟩

theorem MI.beater {h : mH} {k p : Int} (mi : MI h) (n1 : hF h 41 6 < 24) (hp0 : 0 ≤ p ∧ p < hF h 41 5) : MI (sF (sE (sE (sE (sF (sF h 41 1 0) 41 0 0) 45 (hF h 41 6) k) 46 (hF h 41 6) p) 48 (hF h 41 6) 0) 41 6 (hF h 41 6 + 1)) := by
  obtain ⟨⟨⟨r0, r1⟩, ⟨n0, n1⟩, ⟨m0, m1⟩, hp, hq⟩, hms, ⟨⟨z0, z1⟩, hsp⟩, hme⟩ := id mi
  refine ⟨⟨⟨r0, r1⟩, ⟨by show 0 ≤ hF h 41 6 + 1; omega, by show hF h 41 6 + 1 ≤ 24; omega⟩, ⟨m0, m1⟩, fun j j0 (j1 : j < hF h 41 6 + 1) => ?_, hq⟩, hms, ⟨⟨z0, z1⟩, hsp⟩, hme⟩
  show 0 ≤ u1 (hA h 46) (hF h 41 6) p j ∧ u1 (hA h 46) (hF h 41 6) p j < hF h 41 5
  by_cases e : j = hF h 41 6
  · rw [e, u1_s]
    exact hp0
  · rw [u1_n _ _ e]
    exact hp j j0 (by omega)
theorem MI.turn {h : mH} {b p : Int} (mi : MI h) (hp0 : 0 ≤ p ∧ p < hF h 41 5) : MI (sE (sF (sF h 41 1 0) 41 0 0) 46 b p) := by
  obtain ⟨⟨⟨r0, r1⟩, ⟨n0, n1⟩, ⟨m0, m1⟩, hp, hq⟩, hms, ⟨⟨z0, z1⟩, hsp⟩, hme⟩ := id mi
  refine ⟨⟨⟨r0, r1⟩, ⟨n0, n1⟩, ⟨m0, m1⟩, fun j j0 j1 => ?_, hq⟩, hms, ⟨⟨z0, z1⟩, hsp⟩, hme⟩
  show 0 ≤ u1 (hA h 46) b p j ∧ u1 (hA h 46) b p j < hF h 41 5
  by_cases e : j = b
  · rw [e, u1_s]
    exact hp0
  · rw [u1_n _ _ e]
    exact hp j j0 j1
theorem cq_mbeater (d : Nat) (h : mH) (sh : Sh h) (mi : MI h) (k p : Int) : Cq m_X6_beater (d + 1) [(2, 41), (0, k), (0, p)] h (fun r t => (∃ y, r = some (0, y) ∧ ((y = -1 ∧ ¬ ((0 ≤ k ∧ k < 4) ∧ (0 ≤ p ∧ p < hF h 41 5) ∧ hF h 41 6 < 24) ∧ Fr [] [(41, 0), (41, 1)] h t) ∨ (y = hF h 41 6 ∧ ((0 ≤ k ∧ k < 4) ∧ (0 ≤ p ∧ p < hF h 41 5) ∧ hF h 41 6 < 24) ∧ hF t 41 5 = hF h 41 5 ∧ hF t 41 6 = hF h 41 6 + 1 ∧ (hA t 45 = u1 (hA h 45) (hF h 41 6) k ∧ hA t 46 = u1 (hA h 46) (hF h 41 6) p ∧ hA t 48 = u1 (hA h 48) (hF h 41 6) 0) ∧ Fr [45, 46, 48] [(41, 0), (41, 1), (41, 6)] h t))) ∧ MI t ∧ Fr mAs mGs h t) := by
  refine Cq.of ?_
  show Wp m_X6_beater ((d + 1)) 0 [(2, 41), (0, k), (0, p)] [] h _
  obtain ⟨⟨⟨r0, r1⟩, ⟨n0, n1⟩, ⟨m0, m1⟩, hp, hq⟩, hms, ⟨⟨z0, z1⟩, hsp⟩, hme⟩ := id mi
  refine Wp.ald_n (j := 0) rfl dX6_beater_0 ?_
  refine Wp.iconst dX6_beater_1 (by decide) ?_
  refine Wp.putf (k := 1) (tg := 0) kC6 (by decide) rfl rfl lf_X6_117 dX6_beater_2 (sK41 (h := h) sh) ?_
  refine Wp.ald_n (j := 0) rfl dX6_beater_5 ?_
  refine Wp.iconst dX6_beater_6 (by decide) ?_
  refine Wp.putf (k := 0) (tg := 0) kC6 (by decide) rfl rfl lf_X6_120 dX6_beater_7 (sK41 (h := h) sh) ?_
  refine Wp.ild_n (j := 1) rfl dX6_beater_10 ?_
  refine Wp.iflt dX6_beater_11 (by decide) (tgt := 28) (fun c11 => ?_) (fun c11 => ?_)
  · refine Wp.ald_n (j := 0) rfl dX6_beater_28 ?_
    refine Wp.iconst dX6_beater_29 (by decide) ?_
    refine Wp.callV1 (ct_mrefuse d (sF (sF h 41 1 0) 41 0 0) (sK41 (h := h) sh) 2) wc_X6_151 iM_X6_refuse se_X6_refuse kC6 (sK41 (h := h) sh) dX6_beater_30 rfl (Nat.le_of_ble_eq_true rfl) rfl (Nat.le_of_ble_eq_true rfl) ?_
    refine Wp.iret rfl dX6_beater_33 ?_
    exact ⟨⟨_, rfl, Or.inl ⟨rfl, by omega, ((Fr.f (by decide)).tr ((Fr.f (by decide)).tr (Fr.f (by decide))))⟩⟩, mi, ((Fr.f (by decide)).tr ((Fr.f (by decide)).tr (Fr.f (by decide))))⟩
  · refine Wp.ild_n (j := 1) rfl dX6_beater_14 ?_
    refine Wp.iconst dX6_beater_15 (by decide) ?_
    refine Wp.icgt dX6_beater_16 (by decide) (tgt := 28) (fun c16 => ?_) (fun c16 => ?_)
    · refine Wp.ald_n (j := 0) rfl dX6_beater_28 ?_
      refine Wp.iconst dX6_beater_29 (by decide) ?_
      refine Wp.callV1 (ct_mrefuse d (sF (sF h 41 1 0) 41 0 0) (sK41 (h := h) sh) 2) wc_X6_151 iM_X6_refuse se_X6_refuse kC6 (sK41 (h := h) sh) dX6_beater_30 rfl (Nat.le_of_ble_eq_true rfl) rfl (Nat.le_of_ble_eq_true rfl) ?_
      refine Wp.iret rfl dX6_beater_33 ?_
      exact ⟨⟨_, rfl, Or.inl ⟨rfl, by omega, ((Fr.f (by decide)).tr ((Fr.f (by decide)).tr (Fr.f (by decide))))⟩⟩, mi, ((Fr.f (by decide)).tr ((Fr.f (by decide)).tr (Fr.f (by decide))))⟩
    · refine Wp.ald_n (j := 0) rfl dX6_beater_19 ?_
      refine Wp.ild_n (j := 2) rfl dX6_beater_20 ?_
      refine Wp.i2l dX6_beater_21 ?_
      refine Wp.callV1 (show Ct m_X6_isPhase d [(2, 41), (1, p)] (sF (sF h 41 1 0) 41 0 0) (some (0, if 0 ≤ p ∧ p < hF h 41 5 then 1 else 0)) (sF (sF h 41 1 0) 41 0 0) from ct_misPhase d (sF (sF h 41 1 0) 41 0 0) (sK41 (h := h) sh) p) wc_X6_147 iM_X6_isPhase se_X6_isPhase kC6 (sK41 (h := h) sh) dX6_beater_22 rfl (Nat.le_of_ble_eq_true rfl) rfl (Nat.le_of_ble_eq_true rfl) ?_
      refine Wp.ifne dX6_beater_25 (by decide) (tgt := 34) (fun c25 => ?_) (fun c25 => ?_)
      · have hb : 0 ≤ p ∧ p < hF h 41 5 := by
          by_cases hb : 0 ≤ p ∧ p < hF h 41 5
          · exact hb
          · rw [if_neg hb] at c25
            exact absurd rfl c25
        refine Wp.ald_n (j := 0) rfl dX6_beater_34 ?_
        refine Wp.getf (k := 6) (tg := 0) kC6 (by decide) rfl lf_X6_141 dX6_beater_35 (sK41 (h := h) sh) (show hF _ 41 6 = hF h 41 6 from rfl) ?_
        refine Wp.bipush dX6_beater_38 (by decide) ?_
        refine Wp.icne dX6_beater_40 (by decide) (tgt := 50) (fun c40 => ?_) (fun c40 => ?_)
        · refine Wp.ald_n (j := 0) rfl dX6_beater_50 ?_
          refine Wp.getf (k := 9) (tg := 2) kC6 (by decide) rfl lf_X6_29 dX6_beater_51 (sK41 (h := h) sh) (sF41_9 (h := h) sh) ?_
          refine Wp.ald_n (j := 0) rfl dX6_beater_54 ?_
          refine Wp.getf (k := 6) (tg := 0) kC6 (by decide) rfl lf_X6_141 dX6_beater_55 (sK41 (h := h) sh) (show hF _ 41 6 = hF h 41 6 from rfl) ?_
          refine Wp.ild_n (j := 1) rfl dX6_beater_58 ?_
          refine Wp.iastore dX6_beater_59 (sK45 (h := h) sh) (by omega) (ilt (sL45 (h := h) sh) (by omega)) ?_
          refine Wp.ald_n (j := 0) rfl dX6_beater_60 ?_
          refine Wp.getf (k := 10) (tg := 2) kC6 (by decide) rfl lf_X6_32 dX6_beater_61 (sK41 (h := h) sh) (sF41_10 (h := h) sh) ?_
          refine Wp.ald_n (j := 0) rfl dX6_beater_64 ?_
          refine Wp.getf (k := 6) (tg := 0) kC6 (by decide) rfl lf_X6_141 dX6_beater_65 (sK41 (h := h) sh) (show hF _ 41 6 = hF h 41 6 from rfl) ?_
          refine Wp.ild_n (j := 2) rfl dX6_beater_68 ?_
          refine Wp.iastore dX6_beater_69 (sK46 (h := h) sh) (by omega) (ilt (sL46 (h := h) sh) (by omega)) ?_
          refine Wp.ald_n (j := 0) rfl dX6_beater_70 ?_
          refine Wp.getf (k := 12) (tg := 2) kC6 (by decide) rfl lf_X6_38 dX6_beater_71 (sK41 (h := h) sh) (sF41_12 (h := h) sh) ?_
          refine Wp.ald_n (j := 0) rfl dX6_beater_74 ?_
          refine Wp.getf (k := 6) (tg := 0) kC6 (by decide) rfl lf_X6_141 dX6_beater_75 (sK41 (h := h) sh) (show hF _ 41 6 = hF h 41 6 from rfl) ?_
          refine Wp.lconst (z := 0) dX6_beater_78 (by decide) ?_
          refine Wp.lastore dX6_beater_79 (sK48 (h := h) sh) (by omega) (ilt (sL48 (h := h) sh) (by omega)) ?_
          refine Wp.ald_n (j := 0) rfl dX6_beater_80 ?_
          refine Wp.dup dX6_beater_81 (Or.inr rfl) ?_
          refine Wp.getf (k := 6) (tg := 0) kC6 (by decide) rfl lf_X6_141 dX6_beater_82 (sK41 (h := h) sh) (show hF _ 41 6 = hF h 41 6 from rfl) ?_
          refine Wp.iconst dX6_beater_85 (by decide) ?_
          refine Wp.iaddE dX6_beater_86 (by first | exact w32_of (by omega) (by omega) | rfl) ?_
          refine Wp.putf (k := 6) (tg := 0) kC6 (by decide) rfl rfl lf_X6_141 dX6_beater_87 (sK41 (h := h) sh) ?_
          refine Wp.ald_n (j := 0) rfl dX6_beater_90 ?_
          refine Wp.getf (k := 6) (tg := 0) kC6 (by decide) rfl lf_X6_141 dX6_beater_91 (sK41 (h := h) sh) (show hF _ 41 6 = hF h 41 6 + 1 from rfl) ?_
          refine Wp.iconst dX6_beater_94 (by decide) ?_
          refine Wp.isubE dX6_beater_95 (by first | exact w32_of (by omega) (by omega) | rfl) ?_
          refine Wp.iret rfl dX6_beater_96 ?_
          exact ⟨⟨_, rfl, Or.inr ⟨by omega, by omega, rfl, rfl, ⟨rfl, rfl, rfl⟩, ((Fr.f (by decide)).tr (Fr.f (by decide))).tr (((Fr.e (by decide)).tr ((Fr.e (by decide)).tr (Fr.e (by decide)))).tr (Fr.f (by decide)))⟩⟩, mi.beater (by omega) hb, ((Fr.f (by decide)).tr (Fr.f (by decide))).tr (((Fr.e (by decide)).tr ((Fr.e (by decide)).tr (Fr.e (by decide)))).tr (Fr.f (by decide)))⟩
        · refine Wp.ald_n (j := 0) rfl dX6_beater_43 ?_
          refine Wp.bipush dX6_beater_44 (by decide) ?_
          refine Wp.callV1 (ct_mrefuse d (sF (sF h 41 1 0) 41 0 0) (sK41 (h := h) sh) 7) wc_X6_151 iM_X6_refuse se_X6_refuse kC6 (sK41 (h := h) sh) dX6_beater_46 rfl (Nat.le_of_ble_eq_true rfl) rfl (Nat.le_of_ble_eq_true rfl) ?_
          refine Wp.iret rfl dX6_beater_49 ?_
          exact ⟨⟨_, rfl, Or.inl ⟨rfl, by omega, ((Fr.f (by decide)).tr ((Fr.f (by decide)).tr (Fr.f (by decide))))⟩⟩, mi, ((Fr.f (by decide)).tr ((Fr.f (by decide)).tr (Fr.f (by decide))))⟩
      · refine Wp.ald_n (j := 0) rfl dX6_beater_28 ?_
        refine Wp.iconst dX6_beater_29 (by decide) ?_
        refine Wp.callV1 (ct_mrefuse d (sF (sF h 41 1 0) 41 0 0) (sK41 (h := h) sh) 2) wc_X6_151 iM_X6_refuse se_X6_refuse kC6 (sK41 (h := h) sh) dX6_beater_30 rfl (Nat.le_of_ble_eq_true rfl) rfl (Nat.le_of_ble_eq_true rfl) ?_
        refine Wp.iret rfl dX6_beater_33 ?_
        exact ⟨⟨_, rfl, Or.inl ⟨rfl, by omega, ((Fr.f (by decide)).tr ((Fr.f (by decide)).tr (Fr.f (by decide))))⟩⟩, mi, ((Fr.f (by decide)).tr ((Fr.f (by decide)).tr (Fr.f (by decide))))⟩

theorem cq_mkind (d : Nat) (h : mH) (sh : Sh h) (mi : MI h) (b k : Int) : Cq m_X6_kind (d + 1) [(2, 41), (0, b), (0, k)] h (fun r t => (∃ y, r = some (0, y) ∧ ((y = 0 ∧ ¬ ((0 ≤ b ∧ b < hF h 41 6) ∧ (0 ≤ k ∧ k < 4)) ∧ Fr [] [(41, 0), (41, 1)] h t) ∨ (y = 1 ∧ ((0 ≤ b ∧ b < hF h 41 6) ∧ (0 ≤ k ∧ k < 4)) ∧ hA t 45 = u1 (hA h 45) b k ∧ Fr [45] [(41, 0), (41, 1)] h t))) ∧ MI t ∧ Fr mAs mGs h t) := by
  refine Cq.of ?_
  show Wp m_X6_kind ((d + 1)) 0 [(2, 41), (0, b), (0, k)] [] h _
  obtain ⟨⟨⟨r0, r1⟩, ⟨n0, n1⟩, ⟨m0, m1⟩, hp, hq⟩, hms, ⟨⟨z0, z1⟩, hsp⟩, hme⟩ := id mi
  refine Wp.ald_n (j := 0) rfl dX6_kind_0 ?_
  refine Wp.iconst dX6_kind_1 (by decide) ?_
  refine Wp.putf (k := 1) (tg := 0) kC6 (by decide) rfl rfl lf_X6_117 dX6_kind_2 (sK41 (h := h) sh) ?_
  refine Wp.ald_n (j := 0) rfl dX6_kind_5 ?_
  refine Wp.iconst dX6_kind_6 (by decide) ?_
  refine Wp.putf (k := 0) (tg := 0) kC6 (by decide) rfl rfl lf_X6_120 dX6_kind_7 (sK41 (h := h) sh) ?_
  refine Wp.ald_n (j := 0) rfl dX6_kind_10 ?_
  refine Wp.ild_n (j := 1) rfl dX6_kind_11 ?_
  refine Wp.callV1 (show Ct m_X6_isBeater d [(2, 41), (0, b)] (sF (sF h 41 1 0) 41 0 0) (some (0, if 0 ≤ b ∧ b < hF h 41 6 then 1 else 0)) (sF (sF h 41 1 0) 41 0 0) from ct_isBeater d (sF (sF h 41 1 0) 41 0 0) (sK41 (h := h) sh) b) wc_X6_154 iM_X6_isBeater se_X6_isBeater kC6 (sK41 (h := h) sh) dX6_kind_12 rfl (Nat.le_of_ble_eq_true rfl) rfl (Nat.le_of_ble_eq_true rfl) ?_
  refine Wp.ifeq dX6_kind_15 (by decide) (tgt := 27) (fun c15 => ?_) (fun c15 => ?_)
  · refine Wp.ald_n (j := 0) rfl dX6_kind_27 ?_
    refine Wp.iconst dX6_kind_28 (by decide) ?_
    refine Wp.callV1 (ct_mno d (sF (sF h 41 1 0) 41 0 0) (sK41 (h := h) sh) 2) wc_X6_123 iM_X6_no se_X6_no kC6 (sK41 (h := h) sh) dX6_kind_29 rfl (Nat.le_of_ble_eq_true rfl) rfl (Nat.le_of_ble_eq_true rfl) ?_
    refine Wp.zret rfl dX6_kind_32 (by omega) ?_
    exact ⟨⟨_, rfl, Or.inl ⟨rfl, by omega, ((Fr.f (by decide)).tr ((Fr.f (by decide)).tr (Fr.f (by decide))))⟩⟩, mi, ((Fr.f (by decide)).tr ((Fr.f (by decide)).tr (Fr.f (by decide))))⟩
  · refine Wp.ild_n (j := 2) rfl dX6_kind_18 ?_
    refine Wp.iflt dX6_kind_19 (by decide) (tgt := 27) (fun c19 => ?_) (fun c19 => ?_)
    · refine Wp.ald_n (j := 0) rfl dX6_kind_27 ?_
      refine Wp.iconst dX6_kind_28 (by decide) ?_
      refine Wp.callV1 (ct_mno d (sF (sF h 41 1 0) 41 0 0) (sK41 (h := h) sh) 2) wc_X6_123 iM_X6_no se_X6_no kC6 (sK41 (h := h) sh) dX6_kind_29 rfl (Nat.le_of_ble_eq_true rfl) rfl (Nat.le_of_ble_eq_true rfl) ?_
      refine Wp.zret rfl dX6_kind_32 (by omega) ?_
      exact ⟨⟨_, rfl, Or.inl ⟨rfl, by omega, ((Fr.f (by decide)).tr ((Fr.f (by decide)).tr (Fr.f (by decide))))⟩⟩, mi, ((Fr.f (by decide)).tr ((Fr.f (by decide)).tr (Fr.f (by decide))))⟩
    · refine Wp.ild_n (j := 2) rfl dX6_kind_22 ?_
      refine Wp.iconst dX6_kind_23 (by decide) ?_
      refine Wp.icle dX6_kind_24 (by decide) (tgt := 33) (fun c24 => ?_) (fun c24 => ?_)
      · have hb : 0 ≤ b ∧ b < hF h 41 6 := by
          by_cases hb : 0 ≤ b ∧ b < hF h 41 6
          · exact hb
          · rw [if_neg hb] at c15
            exact absurd rfl c15
        refine Wp.ald_n (j := 0) rfl dX6_kind_33 ?_
        refine Wp.getf (k := 9) (tg := 2) kC6 (by decide) rfl lf_X6_29 dX6_kind_34 (sK41 (h := h) sh) (sF41_9 (h := h) sh) ?_
        refine Wp.ild_n (j := 1) rfl dX6_kind_37 ?_
        refine Wp.ild_n (j := 2) rfl dX6_kind_38 ?_
        refine Wp.iastore dX6_kind_39 (sK45 (h := h) sh) (by omega) (ilt (sL45 (h := h) sh) (by omega)) ?_
        refine Wp.iconst dX6_kind_40 (by decide) ?_
        refine Wp.zret rfl dX6_kind_41 (by omega) ?_
        exact ⟨⟨_, rfl, Or.inr ⟨rfl, by omega, hA_sEs, ((Fr.f (by decide)).tr (Fr.f (by decide))).tr (Fr.e (by decide))⟩⟩, mi, ((Fr.f (by decide)).tr (Fr.f (by decide))).tr (Fr.e (by decide))⟩
      · refine Wp.ald_n (j := 0) rfl dX6_kind_27 ?_
        refine Wp.iconst dX6_kind_28 (by decide) ?_
        refine Wp.callV1 (ct_mno d (sF (sF h 41 1 0) 41 0 0) (sK41 (h := h) sh) 2) wc_X6_123 iM_X6_no se_X6_no kC6 (sK41 (h := h) sh) dX6_kind_29 rfl (Nat.le_of_ble_eq_true rfl) rfl (Nat.le_of_ble_eq_true rfl) ?_
        refine Wp.zret rfl dX6_kind_32 (by omega) ?_
        exact ⟨⟨_, rfl, Or.inl ⟨rfl, by omega, ((Fr.f (by decide)).tr ((Fr.f (by decide)).tr (Fr.f (by decide))))⟩⟩, mi, ((Fr.f (by decide)).tr ((Fr.f (by decide)).tr (Fr.f (by decide))))⟩

theorem cq_mturn (d : Nat) (h : mH) (sh : Sh h) (mi : MI h) (b p : Int) : Cq m_X6_turn (d + 1) [(2, 41), (0, b), (0, p)] h (fun r t => (∃ y, r = some (0, y) ∧ ((y = 0 ∧ ¬ ((0 ≤ b ∧ b < hF h 41 6) ∧ (0 ≤ p ∧ p < hF h 41 5)) ∧ Fr [] [(41, 0), (41, 1)] h t) ∨ (y = 1 ∧ ((0 ≤ b ∧ b < hF h 41 6) ∧ (0 ≤ p ∧ p < hF h 41 5)) ∧ hA t 46 = u1 (hA h 46) b p ∧ Fr [46] [(41, 0), (41, 1)] h t))) ∧ MI t ∧ Fr mAs mGs h t) := by
  refine Cq.of ?_
  show Wp m_X6_turn ((d + 1)) 0 [(2, 41), (0, b), (0, p)] [] h _
  obtain ⟨⟨⟨r0, r1⟩, ⟨n0, n1⟩, ⟨m0, m1⟩, hp, hq⟩, hms, ⟨⟨z0, z1⟩, hsp⟩, hme⟩ := id mi
  refine Wp.ald_n (j := 0) rfl dX6_turn_0 ?_
  refine Wp.iconst dX6_turn_1 (by decide) ?_
  refine Wp.putf (k := 1) (tg := 0) kC6 (by decide) rfl rfl lf_X6_117 dX6_turn_2 (sK41 (h := h) sh) ?_
  refine Wp.ald_n (j := 0) rfl dX6_turn_5 ?_
  refine Wp.iconst dX6_turn_6 (by decide) ?_
  refine Wp.putf (k := 0) (tg := 0) kC6 (by decide) rfl rfl lf_X6_120 dX6_turn_7 (sK41 (h := h) sh) ?_
  refine Wp.ald_n (j := 0) rfl dX6_turn_10 ?_
  refine Wp.ild_n (j := 1) rfl dX6_turn_11 ?_
  refine Wp.callV1 (show Ct m_X6_isBeater d [(2, 41), (0, b)] (sF (sF h 41 1 0) 41 0 0) (some (0, if 0 ≤ b ∧ b < hF h 41 6 then 1 else 0)) (sF (sF h 41 1 0) 41 0 0) from ct_isBeater d (sF (sF h 41 1 0) 41 0 0) (sK41 (h := h) sh) b) wc_X6_154 iM_X6_isBeater se_X6_isBeater kC6 (sK41 (h := h) sh) dX6_turn_12 rfl (Nat.le_of_ble_eq_true rfl) rfl (Nat.le_of_ble_eq_true rfl) ?_
  refine Wp.ifeq dX6_turn_15 (by decide) (tgt := 27) (fun c15 => ?_) (fun c15 => ?_)
  · refine Wp.ald_n (j := 0) rfl dX6_turn_27 ?_
    refine Wp.iconst dX6_turn_28 (by decide) ?_
    refine Wp.callV1 (ct_mno d (sF (sF h 41 1 0) 41 0 0) (sK41 (h := h) sh) 2) wc_X6_123 iM_X6_no se_X6_no kC6 (sK41 (h := h) sh) dX6_turn_29 rfl (Nat.le_of_ble_eq_true rfl) rfl (Nat.le_of_ble_eq_true rfl) ?_
    refine Wp.zret rfl dX6_turn_32 (by omega) ?_
    exact ⟨⟨_, rfl, Or.inl ⟨rfl, by omega, ((Fr.f (by decide)).tr ((Fr.f (by decide)).tr (Fr.f (by decide))))⟩⟩, mi, ((Fr.f (by decide)).tr ((Fr.f (by decide)).tr (Fr.f (by decide))))⟩
  · refine Wp.ald_n (j := 0) rfl dX6_turn_18 ?_
    refine Wp.ild_n (j := 2) rfl dX6_turn_19 ?_
    refine Wp.i2l dX6_turn_20 ?_
    refine Wp.callV1 (show Ct m_X6_isPhase d [(2, 41), (1, p)] (sF (sF h 41 1 0) 41 0 0) (some (0, if 0 ≤ p ∧ p < hF h 41 5 then 1 else 0)) (sF (sF h 41 1 0) 41 0 0) from ct_misPhase d (sF (sF h 41 1 0) 41 0 0) (sK41 (h := h) sh) p) wc_X6_147 iM_X6_isPhase se_X6_isPhase kC6 (sK41 (h := h) sh) dX6_turn_21 rfl (Nat.le_of_ble_eq_true rfl) rfl (Nat.le_of_ble_eq_true rfl) ?_
    refine Wp.ifne dX6_turn_24 (by decide) (tgt := 33) (fun c24 => ?_) (fun c24 => ?_)
    · have hb : 0 ≤ p ∧ p < hF h 41 5 := by
        by_cases hb : 0 ≤ p ∧ p < hF h 41 5
        · exact hb
        · rw [if_neg hb] at c24
          exact absurd rfl c24
      have hp9 := hb
      have hb : 0 ≤ b ∧ b < hF h 41 6 := by
        by_cases hb : 0 ≤ b ∧ b < hF h 41 6
        · exact hb
        · rw [if_neg hb] at c15
          exact absurd rfl c15
      refine Wp.ald_n (j := 0) rfl dX6_turn_33 ?_
      refine Wp.getf (k := 10) (tg := 2) kC6 (by decide) rfl lf_X6_32 dX6_turn_34 (sK41 (h := h) sh) (sF41_10 (h := h) sh) ?_
      refine Wp.ild_n (j := 1) rfl dX6_turn_37 ?_
      refine Wp.ild_n (j := 2) rfl dX6_turn_38 ?_
      refine Wp.iastore dX6_turn_39 (sK46 (h := h) sh) (by omega) (ilt (sL46 (h := h) sh) (by omega)) ?_
      refine Wp.iconst dX6_turn_40 (by decide) ?_
      refine Wp.zret rfl dX6_turn_41 (by omega) ?_
      exact ⟨⟨_, rfl, Or.inr ⟨rfl, by omega, hA_sEs, ((Fr.f (by decide)).tr (Fr.f (by decide))).tr (Fr.e (by decide))⟩⟩, mi.turn hp9, ((Fr.f (by decide)).tr (Fr.f (by decide))).tr (Fr.e (by decide))⟩
    · refine Wp.ald_n (j := 0) rfl dX6_turn_27 ?_
      refine Wp.iconst dX6_turn_28 (by decide) ?_
      refine Wp.callV1 (ct_mno d (sF (sF h 41 1 0) 41 0 0) (sK41 (h := h) sh) 2) wc_X6_123 iM_X6_no se_X6_no kC6 (sK41 (h := h) sh) dX6_turn_29 rfl (Nat.le_of_ble_eq_true rfl) rfl (Nat.le_of_ble_eq_true rfl) ?_
      refine Wp.zret rfl dX6_turn_32 (by omega) ?_
      exact ⟨⟨_, rfl, Or.inl ⟨rfl, by omega, ((Fr.f (by decide)).tr ((Fr.f (by decide)).tr (Fr.f (by decide))))⟩⟩, mi, ((Fr.f (by decide)).tr ((Fr.f (by decide)).tr (Fr.f (by decide))))⟩

theorem cq_mroad (d : Nat) (h : mH) (sh : Sh h) (mi : MI h) (a b on : Int) (on1 : on = 0 ∨ on = 1) : Cq m_X6_road (d + 1) [(2, 41), (0, a), (0, b), (0, on)] h (fun r t => (∃ y, r = some (0, y) ∧ ((y = 0 ∧ ¬ ((0 ≤ a ∧ a < hF h 41 6) ∧ (0 ≤ b ∧ b < hF h 41 6)) ∧ Fr [] [(41, 0), (41, 1)] h t) ∨ (y = 1 ∧ ((0 ≤ a ∧ a < hF h 41 6) ∧ (0 ≤ b ∧ b < hF h 41 6)) ∧ hA t 49 = u1 (hA h 49) (24 * a + b) on ∧ Fr [49] [(41, 0), (41, 1)] h t))) ∧ MI t ∧ Fr mAs mGs h t) := by
  refine Cq.of ?_
  show Wp m_X6_road ((d + 1)) 0 [(2, 41), (0, a), (0, b), (0, on)] [] h _
  obtain ⟨⟨⟨r0, r1⟩, ⟨n0, n1⟩, ⟨m0, m1⟩, hp, hq⟩, hms, ⟨⟨z0, z1⟩, hsp⟩, hme⟩ := id mi
  refine Wp.ald_n (j := 0) rfl dX6_road_0 ?_
  refine Wp.iconst dX6_road_1 (by decide) ?_
  refine Wp.putf (k := 1) (tg := 0) kC6 (by decide) rfl rfl lf_X6_117 dX6_road_2 (sK41 (h := h) sh) ?_
  refine Wp.ald_n (j := 0) rfl dX6_road_5 ?_
  refine Wp.iconst dX6_road_6 (by decide) ?_
  refine Wp.putf (k := 0) (tg := 0) kC6 (by decide) rfl rfl lf_X6_120 dX6_road_7 (sK41 (h := h) sh) ?_
  refine Wp.ald_n (j := 0) rfl dX6_road_10 ?_
  refine Wp.ild_n (j := 1) rfl dX6_road_11 ?_
  refine Wp.callV1 (show Ct m_X6_isBeater d [(2, 41), (0, a)] (sF (sF h 41 1 0) 41 0 0) (some (0, if 0 ≤ a ∧ a < hF h 41 6 then 1 else 0)) (sF (sF h 41 1 0) 41 0 0) from ct_isBeater d (sF (sF h 41 1 0) 41 0 0) (sK41 (h := h) sh) a) wc_X6_154 iM_X6_isBeater se_X6_isBeater kC6 (sK41 (h := h) sh) dX6_road_12 rfl (Nat.le_of_ble_eq_true rfl) rfl (Nat.le_of_ble_eq_true rfl) ?_
  refine Wp.ifeq dX6_road_15 (by decide) (tgt := 26) (fun c15 => ?_) (fun c15 => ?_)
  · refine Wp.ald_n (j := 0) rfl dX6_road_26 ?_
    refine Wp.iconst dX6_road_27 (by decide) ?_
    refine Wp.callV1 (ct_mno d (sF (sF h 41 1 0) 41 0 0) (sK41 (h := h) sh) 2) wc_X6_123 iM_X6_no se_X6_no kC6 (sK41 (h := h) sh) dX6_road_28 rfl (Nat.le_of_ble_eq_true rfl) rfl (Nat.le_of_ble_eq_true rfl) ?_
    refine Wp.zret rfl dX6_road_31 (by omega) ?_
    exact ⟨⟨_, rfl, Or.inl ⟨rfl, by omega, ((Fr.f (by decide)).tr ((Fr.f (by decide)).tr (Fr.f (by decide))))⟩⟩, mi, ((Fr.f (by decide)).tr ((Fr.f (by decide)).tr (Fr.f (by decide))))⟩
  · refine Wp.ald_n (j := 0) rfl dX6_road_18 ?_
    refine Wp.ild_n (j := 2) rfl dX6_road_19 ?_
    refine Wp.callV1 (show Ct m_X6_isBeater d [(2, 41), (0, b)] (sF (sF h 41 1 0) 41 0 0) (some (0, if 0 ≤ b ∧ b < hF h 41 6 then 1 else 0)) (sF (sF h 41 1 0) 41 0 0) from ct_isBeater d (sF (sF h 41 1 0) 41 0 0) (sK41 (h := h) sh) b) wc_X6_154 iM_X6_isBeater se_X6_isBeater kC6 (sK41 (h := h) sh) dX6_road_20 rfl (Nat.le_of_ble_eq_true rfl) rfl (Nat.le_of_ble_eq_true rfl) ?_
    refine Wp.ifne dX6_road_23 (by decide) (tgt := 32) (fun c23 => ?_) (fun c23 => ?_)
    · have hb : 0 ≤ a ∧ a < hF h 41 6 := by
        by_cases hb : 0 ≤ a ∧ a < hF h 41 6
        · exact hb
        · rw [if_neg hb] at c15
          exact absurd rfl c15
      have hp9 := hb
      have hb : 0 ≤ b ∧ b < hF h 41 6 := by
        by_cases hb : 0 ≤ b ∧ b < hF h 41 6
        · exact hb
        · rw [if_neg hb] at c23
          exact absurd rfl c23
      refine Wp.ald_n (j := 0) rfl dX6_road_32 ?_
      refine Wp.getf (k := 13) (tg := 2) kC6 (by decide) rfl lf_X6_41 dX6_road_33 (sK41 (h := h) sh) (sF41_13 (h := h) sh) ?_
      refine Wp.bipush dX6_road_36 (by decide) ?_
      refine Wp.ild_n (j := 1) rfl dX6_road_38 ?_
      refine Wp.imulE dX6_road_39 (by first | exact w32_of (by omega) (by omega) | rfl) ?_
      refine Wp.ild_n (j := 2) rfl dX6_road_40 ?_
      refine Wp.iaddE dX6_road_41 (by first | exact w32_of (by omega) (by omega) | rfl) ?_
      refine Wp.ild_n (j := 3) rfl dX6_road_42 ?_
      refine Wp.zastore dX6_road_43 (sK49 (h := h) sh) (by omega) (ilt (sL49 (h := h) sh) (by omega)) (by omega) ?_
      refine Wp.iconst dX6_road_44 (by decide) ?_
      refine Wp.zret rfl dX6_road_45 (by omega) ?_
      exact ⟨⟨_, rfl, Or.inr ⟨rfl, by omega, hA_sEs, ((Fr.f (by decide)).tr (Fr.f (by decide))).tr (Fr.e (by decide))⟩⟩, mi, ((Fr.f (by decide)).tr (Fr.f (by decide))).tr (Fr.e (by decide))⟩
    · refine Wp.ald_n (j := 0) rfl dX6_road_26 ?_
      refine Wp.iconst dX6_road_27 (by decide) ?_
      refine Wp.callV1 (ct_mno d (sF (sF h 41 1 0) 41 0 0) (sK41 (h := h) sh) 2) wc_X6_123 iM_X6_no se_X6_no kC6 (sK41 (h := h) sh) dX6_road_28 rfl (Nat.le_of_ble_eq_true rfl) rfl (Nat.le_of_ble_eq_true rfl) ?_
      refine Wp.zret rfl dX6_road_31 (by omega) ?_
      exact ⟨⟨_, rfl, Or.inl ⟨rfl, by omega, ((Fr.f (by decide)).tr ((Fr.f (by decide)).tr (Fr.f (by decide))))⟩⟩, mi, ((Fr.f (by decide)).tr ((Fr.f (by decide)).tr (Fr.f (by decide))))⟩

