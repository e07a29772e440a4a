theorem cq_mround (d : Nat) (h : mH) (sh : Sh h) (mi : MI h) (x : Int) : Cq m_X6_round (d + 3) [(2, 41), (0, x)] h (fun r t => (∃ y, r = some (0, y)) ∧ MI t ∧ Fr mAq mGq h t) := by
  refine Cq.of ?_
  show Wp m_X6_round ((d + 3)) 0 [(2, 41), (0, x)] [] h _
  refine Wp.ald_n (j := 0) rfl dX6_round_0 ?_
  refine Wp.iconst dX6_round_1 (by decide) ?_
  refine Wp.putf (k := 1) (tg := 0) kC6 (by decide) rfl rfl lf_X6_117 dX6_round_2 (sK41 (h := h) sh) ?_
  refine Wp.ald_n (j := 0) rfl dX6_round_5 ?_
  refine Wp.iconst dX6_round_6 (by decide) ?_
  refine Wp.putf (k := 0) (tg := 0) kC6 (by decide) rfl rfl lf_X6_120 dX6_round_7 (sK41 (h := h) sh) ?_
  refine Wp.ild_n (j := 1) rfl dX6_round_10 ?_
  refine Wp.iflt dX6_round_11 (by decide) (tgt := 19) (fun c11 => ?_) (fun c11 => ?_)
  · refine Wp.ald_n (j := 0) rfl dX6_round_19 ?_
    refine Wp.iconst dX6_round_20 (by decide) ?_
    refine Wp.callV1 (ct_mrefuse (d + 2) (sF (sF h 41 1 0) 41 0 0) (sK41 (h := h) sh) 2) wc_X6_151 iM_X6_refuse se_X6_refuse kC6 (sK41 (h := h) sh) dX6_round_21 rfl (Nat.le_of_ble_eq_true rfl) rfl (Nat.le_of_ble_eq_true rfl) ?_
    refine Wp.iret rfl dX6_round_24 ?_
    exact ⟨⟨_, rfl⟩, mi, ((Fr.f (by decide)).tr ((Fr.f (by decide)).tr (Fr.f (by decide))))⟩
  · refine Wp.ild_n (j := 1) rfl dX6_round_14 ?_
    refine Wp.iconst dX6_round_15 (by decide) ?_
    refine Wp.icle dX6_round_16 (by decide) (tgt := 25) (fun c16 => ?_) (fun c16 => ?_)
    · refine Wp.ald_n (j := 0) rfl dX6_round_25 ?_
      refine Wp.getf (k := 6) (tg := 0) kC6 (by decide) rfl lf_X6_141 dX6_round_26 (sK41 (h := h) sh) (show hF _ 41 6 = hF h 41 6 from rfl) ?_
      refine Wp.ifne dX6_round_29 (by decide) (tgt := 39) (fun c29 => ?_) (fun c29 => ?_)
      · refine Wp.ald_n (j := 0) rfl dX6_round_39 ?_
        obtain ⟨_, t40, ct40, ⟨y40, rfl, hy40⟩, f40⟩ := cq_rounds d (sF (sF h 41 1 0) 41 0 0) sh.m0 mi.1
        have sh40 : Sh t40 := sh.m0.fr f40 (by decide +kernel) (by decide)
        have mit40 : MI t40 := MI.fr (h := (sF (sF h 41 1 0) 41 0 0)) mi (f40.mono (by decide) (by decide))
        refine Wp.callV1 (ct40) wc_X6_202 iM_X6_rounds se_X6_rounds kC6 (sK41 (h := h) sh) dX6_round_40 rfl (Nat.le_of_ble_eq_true rfl) rfl (Nat.le_of_ble_eq_true rfl) ?_
        refine Wp.ifne dX6_round_43 (by decide) (tgt := 53) (fun c43 => ?_) (fun c43 => ?_)
        · refine Wp.ild_n (j := 1) rfl dX6_round_53 ?_
          refine Wp.ifne dX6_round_54 (by decide) (tgt := 64) (fun c54 => ?_) (fun c54 => ?_)
          · refine Wp.ald_n (j := 0) rfl dX6_round_64 ?_
            refine Wp.getf (k := 41) (tg := 0) kC6 (by decide) rfl lf_X6_191 dX6_round_65 (sK41 (h := t40) sh40) (show hF _ 41 41 = hF t40 41 41 from rfl) ?_
            refine Wp.iret rfl dX6_round_68 ?_
            exact ⟨⟨_, rfl⟩, mit40, ((Fr.f (by decide)).tr (Fr.f (by decide))).tr (f40.mono (by decide) (by decide))⟩
          · refine Wp.ald_n (j := 0) rfl dX6_round_57 ?_
            refine Wp.getf (k := 40) (tg := 0) kC6 (by decide) rfl lf_X6_199 dX6_round_58 (sK41 (h := t40) sh40) (show hF _ 41 40 = hF t40 41 40 from rfl) ?_
            refine Wp.goto (tgt := 68) dX6_round_61 (by decide) ?_
            refine Wp.iret rfl dX6_round_68 ?_
            exact ⟨⟨_, rfl⟩, mit40, ((Fr.f (by decide)).tr (Fr.f (by decide))).tr (f40.mono (by decide) (by decide))⟩
        · refine Wp.ald_n (j := 0) rfl dX6_round_46 ?_
          refine Wp.bipush dX6_round_47 (by decide) ?_
          refine Wp.callV1 (ct_mrefuse (d + 2) t40 (sK41 sh40) 10) wc_X6_151 iM_X6_refuse se_X6_refuse kC6 (sK41 (h := t40) sh40) dX6_round_49 rfl (Nat.le_of_ble_eq_true rfl) rfl (Nat.le_of_ble_eq_true rfl) ?_
          refine Wp.iret rfl dX6_round_52 ?_
          exact ⟨⟨_, rfl⟩, mit40, (((Fr.f (by decide)).tr (Fr.f (by decide))).tr (f40.mono (by decide) (by decide))).tr (Fr.f (by decide))⟩
      · refine Wp.ald_n (j := 0) rfl dX6_round_32 ?_
        refine Wp.bipush dX6_round_33 (by decide) ?_
        refine Wp.callV1 (ct_mrefuse (d + 2) (sF (sF h 41 1 0) 41 0 0) (sK41 (h := h) sh) 8) wc_X6_151 iM_X6_refuse se_X6_refuse kC6 (sK41 (h := h) sh) dX6_round_35 rfl (Nat.le_of_ble_eq_true rfl) rfl (Nat.le_of_ble_eq_true rfl) ?_
        refine Wp.iret rfl dX6_round_38 ?_
        exact ⟨⟨_, rfl⟩, mi, ((Fr.f (by decide)).tr ((Fr.f (by decide)).tr (Fr.f (by decide))))⟩
    · refine Wp.ald_n (j := 0) rfl dX6_round_19 ?_
      refine Wp.iconst dX6_round_20 (by decide) ?_
      refine Wp.callV1 (ct_mrefuse (d + 2) (sF (sF h 41 1 0) 41 0 0) (sK41 (h := h) sh) 2) wc_X6_151 iM_X6_refuse se_X6_refuse kC6 (sK41 (h := h) sh) dX6_round_21 rfl (Nat.le_of_ble_eq_true rfl) rfl (Nat.le_of_ble_eq_true rfl) ?_
      refine Wp.iret rfl dX6_round_24 ?_
      exact ⟨⟨_, rfl⟩, mi, ((Fr.f (by decide)).tr ((Fr.f (by decide)).tr (Fr.f (by decide))))⟩

theorem mmeet1 (d : Nat) (h : mH) (sh : Sh h) (mb : MB h) (x c most : Int) (m1 : most ≤ 20000) (Q0 : Option mV → mH → Prop) (kx : ∀ (t : mH) (y : Int), Fr [50, 51, 52, 53, 54] [] h t → Q0 (some (0, y)) t) (Q : Option mV → mH → Prop) (kq : ∀ (t : mH) (u : Int), Fr [50, 51, 52, 53, 54] [] h t → Wp m_X6_meet (d + 2) 117 [(2, 41), (0, x), (0, c), (0, most), (0, u)] [] t Q) : ∀ (m : Nat) (u : Int) (h' : mH), (most + 1 - u).toNat < m → (Fr [50, 51, 52, 53, 54] [] h h') → (0 ≤ u) → (Q = Q0) → (∀ j, 0 ≤ j → j < hF h 41 6 → 0 ≤ hA h' 54 j ∧ hA h' 54 j < hF h 41 5) → Wp m_X6_meet (d + 2) 82 [(2, 41), (0, x), (0, c), (0, most), (0, u)] [] h' Q := by
  intro m
  induction m with
  | zero => intro u h' hm; exact absurd hm (Nat.not_lt_zero _)
  | succ m ih =>
    intro u h' hm fr u0 eQ hr
    obtain ⟨⟨r0, r1⟩, ⟨n0, n1⟩, ⟨m0, m1x⟩, hp, hq⟩ := id mb
    have sh' := sh.fr fr (by decide +kernel) (by decide)
    have e5 : hF h' 41 5 = hF h 41 5 := fr.2.2.2.2.1 41 5 (by decide)
    have e6 : hF h' 41 6 = hF h 41 6 := fr.2.2.2.2.1 41 6 (by decide)
    refine Wp.ild (j := 4) rfl dX6_meet_82 ?_
    refine Wp.ild_n (j := 3) rfl dX6_meet_84 ?_
    refine Wp.icgt dX6_meet_85 (by decide) (tgt := 117) (fun c85 => ?_) (fun c85 => ?_)
    · exact kq _ _ fr
    · refine Wp.ald_n (j := 0) rfl dX6_meet_88 ?_
      refine Wp.ald_n (j := 0) rfl dX6_meet_89 ?_
      refine Wp.getf (k := 18) (tg := 2) kC6 (by decide) rfl lf_X6_57 dX6_meet_90 (sK41 (h := h') sh') (sF41_18 (h := h') sh') ?_
      obtain ⟨_, t93, ct93, rfl, f93, r93⟩ := cq_mtick d h' sh' (mb.fr fr (by decide) (by decide) (by decide) (by decide) (by decide)) 54 (sK54 sh') (sL54 sh') (by decide) (by rw [e5, e6]; exact hr)
      have sh93 := sh'.fr f93 (by decide +kernel) (by decide)
      have n93 : hF t93 41 6 ≤ 24 := by rw [f93.2.2.2.2.1 41 6 (by decide), e6]; exact n1
      refine Wp.callV0 (ct93) wc_X6_166 iM_X6_tick se_X6_tick kC6 (sK41 (h := h') sh') dX6_meet_93 rfl (Nat.le_of_ble_eq_true rfl) rfl (Nat.le_of_ble_eq_true rfl) ?_
      refine Wp.ald_n (j := 0) rfl dX6_meet_96 ?_
      refine Wp.ald_n (j := 0) rfl dX6_meet_97 ?_
      refine Wp.getf (k := 18) (tg := 2) kC6 (by decide) rfl lf_X6_57 dX6_meet_98 (sK41 (h := t93) sh93) (sF41_18 (h := t93) sh93) ?_
      refine Wp.ild_n (j := 1) rfl dX6_meet_101 ?_
      obtain ⟨_, t102, ct102, ⟨y102, rfl, hy102⟩, e102⟩ := cq_misInStep (d + 1) t93 sh93 n93 54 (sK54 sh93) (sL54 sh93) x
      rw [e102] at ct102
      refine Wp.callV1 (ct102) wc_X6_176 iM_X6_isInStep se_X6_isInStep kC6 (sK41 (h := t93) sh93) dX6_meet_102 rfl (Nat.le_of_ble_eq_true rfl) rfl (Nat.le_of_ble_eq_true rfl) ?_
      refine Wp.ifeq dX6_meet_105 (by decide) (tgt := 111) (fun c105 => ?_) (fun c105 => ?_)
      · refine inc_5_4 rfl dX6_meet_111 (by first | exact w32_of (by omega) (by omega) | rfl) ?_
        refine Wp.goto (tgt := 82) dX6_meet_114 (by decide) ?_
        refine ih (u + 1) t93 (by omega) (fr.tr f93) (by omega) eQ (fun j j0 j1 => ?_)
        have := (r93 j j0 (by rw [e6]; exact j1)).2
        rw [e5] at this
        exact this
      · refine Wp.ild (j := 4) rfl dX6_meet_108 ?_
        refine Wp.iret rfl dX6_meet_110 ?_
        rw [eQ]
        exact kx _ _ (fr.tr f93)

theorem cq_mmeet (d : Nat) (h : mH) (sh : Sh h) (mi : MI h) (x : Int) : Cq m_X6_meet (d + 3) [(2, 41), (0, x)] h (fun r t => (∃ y, r = some (0, y)) ∧ MI t ∧ Fr mAq mGq h t) := by
  refine Cq.of ?_
  show Wp m_X6_meet ((d + 3)) 0 [(2, 41), (0, x), (9, 0), (9, 0), (9, 0)] [] h _
  obtain ⟨⟨⟨r0, r1⟩, ⟨n0, n1⟩, ⟨m0, m1⟩, hp, hq⟩, hms, ⟨⟨z0, z1⟩, hsp⟩, hme⟩ := id mi
  refine Wp.ald_n (j := 0) rfl dX6_meet_0 ?_
  refine Wp.iconst dX6_meet_1 (by decide) ?_
  refine Wp.putf (k := 1) (tg := 0) kC6 (by decide) rfl rfl lf_X6_117 dX6_meet_2 (sK41 (h := h) sh) ?_
  refine Wp.ald_n (j := 0) rfl dX6_meet_5 ?_
  refine Wp.iconst dX6_meet_6 (by decide) ?_
  refine Wp.putf (k := 0) (tg := 0) kC6 (by decide) rfl rfl lf_X6_120 dX6_meet_7 (sK41 (h := h) sh) ?_
  refine Wp.ald_n (j := 0) rfl dX6_meet_10 ?_
  refine Wp.ild_n (j := 1) rfl dX6_meet_11 ?_
  obtain ⟨_, tq, ctq, ⟨yq, rfl, hyq⟩, eq⟩ := cq_misSet (d + 2) (sF (sF h 41 1 0) 41 0 0) (sK41 (h := h) sh) x
  rw [eq] at ctq
  refine Wp.callV1 (ctq) wc_X6_173 iM_X6_isSet se_X6_isSet kC6 (sK41 (h := h) sh) dX6_meet_12 rfl (Nat.le_of_ble_eq_true rfl) rfl (Nat.le_of_ble_eq_true rfl) ?_
  refine Wp.ifne dX6_meet_15 (by decide) (tgt := 24) (fun c15 => ?_) (fun c15 => ?_)
  · refine Wp.ald_n (j := 0) rfl dX6_meet_24 ?_
    refine Wp.ald_n (j := 0) rfl dX6_meet_25 ?_
    refine Wp.getf (k := 18) (tg := 2) kC6 (by decide) rfl lf_X6_57 dX6_meet_26 (sK41 (h := h) sh) (sF41_18 (h := h) sh) ?_
    obtain ⟨_, t29, ct29, rfl, f29, r29⟩ := cq_mbegin (d + 2) (sF (sF h 41 1 0) 41 0 0) sh.m0 n1 54 (sK54 (h := h) sh) (sL54 (h := h) sh) (by decide) (by decide)
    have sh29 : Sh t29 := sh.m0.fr f29 (by decide +kernel) (by decide)
    have mi29 : MI t29 := MI.fr (h := (sF (sF h 41 1 0) 41 0 0)) mi (f29.mono (by decide) (by simp))
    refine Wp.callV0 (ct29) wc_X6_188 iM_X6_begin se_X6_begin kC6 (sK41 (h := h) sh) dX6_meet_29 rfl (Nat.le_of_ble_eq_true rfl) rfl (Nat.le_of_ble_eq_true rfl) ?_
    refine Wp.ald_n (j := 0) rfl dX6_meet_32 ?_
    refine Wp.ald_n (j := 0) rfl dX6_meet_33 ?_
    refine Wp.getf (k := 18) (tg := 2) kC6 (by decide) rfl lf_X6_57 dX6_meet_34 (sK41 (h := t29) sh29) (sF41_18 (h := t29) sh29) ?_
    refine Wp.ild_n (j := 1) rfl dX6_meet_37 ?_
    obtain ⟨_, t38, ct38, ⟨y38, rfl, hy38⟩, e38⟩ := cq_misInStep (d + 2) t29 sh29 mi29.1.2.1.2 54 (sK54 sh29) (sL54 sh29) x
    rw [e38] at ct38
    refine Wp.callV1 (ct38) wc_X6_176 iM_X6_isInStep se_X6_isInStep kC6 (sK41 (h := t29) sh29) dX6_meet_38 rfl (Nat.le_of_ble_eq_true rfl) rfl (Nat.le_of_ble_eq_true rfl) ?_
    refine Wp.ifeq dX6_meet_41 (by decide) (tgt := 46) (fun c41 => ?_) (fun c41 => ?_)
    · refine Wp.ald_n (j := 0) rfl dX6_meet_46 ?_
      obtain ⟨_, t47, ct47, ⟨y47, rfl, hy47⟩, f47⟩ := cq_rounds d t29 sh29 mi29.1
      have sh47 : Sh t47 := sh29.fr f47 (by decide +kernel) (by decide)
      have mit47 : MI t47 := mi29.fr (f47.mono (by decide) (by decide))
      refine Wp.callV1 (ct47) wc_X6_202 iM_X6_rounds se_X6_rounds kC6 (sK41 (h := t29) sh29) dX6_meet_47 rfl (Nat.le_of_ble_eq_true rfl) rfl (Nat.le_of_ble_eq_true rfl) ?_
      refine sti_5_2 rfl (dSt_n dX6_meet_50) ?_
      refine Wp.ild_n (j := 2) rfl dX6_meet_51 ?_
      refine Wp.ifeq dX6_meet_52 (by decide) (tgt := 67) (fun c52 => ?_) (fun c52 => ?_)
      · refine Wp.sipush dX6_meet_67 (by decide) ?_
        refine sti_5_3 rfl (dSt_n dX6_meet_70) ?_
        refine Wp.ald_n (j := 0) rfl dX6_meet_71 ?_
        refine Wp.ald_n (j := 0) rfl dX6_meet_72 ?_
        refine Wp.getf (k := 18) (tg := 2) kC6 (by decide) rfl lf_X6_57 dX6_meet_73 (sK41 (h := t47) sh47) (sF41_18 (h := t47) sh47) ?_
        obtain ⟨_, t76, ct76, rfl, f76, r76⟩ := cq_mbegin (d + 2) t47 sh47 mit47.1.2.1.2 54 (sK54 sh47) (sL54 sh47) (by decide) (by decide)
        have sh76 : Sh t76 := sh47.fr f76 (by decide +kernel) (by decide)
        have mit76 : MI t76 := mit47.fr (f76.mono (by decide) (by simp))
        have fr76 : Fr mAq mGq h t76 := ((((Fr.f (by decide)).tr (Fr.f (by decide))).tr (f29.mono (by decide) (by simp))).tr (f47.mono (by decide) (by decide))).tr (f76.mono (by decide) (by simp))
        refine Wp.callV0 (ct76) wc_X6_188 iM_X6_begin se_X6_begin kC6 (sK41 (h := t47) sh47) dX6_meet_76 rfl (Nat.le_of_ble_eq_true rfl) rfl (Nat.le_of_ble_eq_true rfl) ?_
        refine Wp.iconst dX6_meet_79 (by decide) ?_
        refine sti_5_4 rfl (dSt_w dX6_meet_80) ?_
        refine mmeet1 (d + 1) t76 sh76 mit76.1 x _ _ (by omega) _ (fun t y frt => ⟨⟨_, rfl⟩, mit76.fr (frt.mono (by decide) (by simp)), fr76.tr (frt.mono (by decide) (by simp))⟩) _ (fun t u frt => ?_) _ 1 _ (Nat.lt_succ_self _) Fr.rf (by omega) rfl ?_
        · have sht : Sh t := sh76.fr frt (by decide +kernel) (by decide)
          have mitt : MI t := mit76.fr (frt.mono (by decide) (by simp))
          refine Wp.ald_n (j := 0) rfl dX6_meet_117 ?_
          refine Wp.ild_n (j := 2) rfl dX6_meet_118 ?_
          refine Wp.ifeq dX6_meet_119 (by decide) (tgt := 127) (fun _ => ?_) (fun _ => ?_)
          · refine Wp.bipush dX6_meet_127 (by decide) ?_
            refine Wp.callV1 (ct_mrefuse (d + 2) t (sK41 sht) 10) wc_X6_151 iM_X6_refuse se_X6_refuse kC6 (sK41 sht) dX6_meet_129 rfl (Nat.le_of_ble_eq_true rfl) rfl (Nat.le_of_ble_eq_true rfl) ?_
            refine Wp.iret rfl dX6_meet_132 ?_
            exact ⟨⟨_, rfl⟩, mitt, (fr76.tr (frt.mono (by decide) (by simp))).tr (Fr.f (by decide))⟩
          · refine Wp.bipush dX6_meet_122 (by decide) ?_
            refine Wp.goto (tgt := 129) dX6_meet_124 (by decide) ?_
            refine Wp.callV1 (ct_mrefuse (d + 2) t (sK41 sht) 8) wc_X6_151 iM_X6_refuse se_X6_refuse kC6 (sK41 sht) dX6_meet_129 rfl (Nat.le_of_ble_eq_true rfl) rfl (Nat.le_of_ble_eq_true rfl) ?_
            refine Wp.iret rfl dX6_meet_132 ?_
            exact ⟨⟨_, rfl⟩, mitt, (fr76.tr (frt.mono (by decide) (by simp))).tr (Fr.f (by decide))⟩
        · intro j j0 j1
          have e6 : hF t76 41 6 = hF t47 41 6 := f76.2.2.2.2.1 41 6 (by decide)
          have e5 : hF t76 41 5 = hF t47 41 5 := f76.2.2.2.2.1 41 5 (by decide)
          rw [e6] at j1
          rw [e5, r76 j j0 j1]
          exact mit47.1.2.2.2.1 j j0 j1
      · refine Wp.ald_n (j := 0) rfl dX6_meet_55 ?_
        refine Wp.getf (k := 40) (tg := 0) kC6 (by decide) rfl lf_X6_199 dX6_meet_56 (sK41 (h := t47) sh47) (show hF _ 41 40 = hF t47 41 40 from rfl) ?_
        refine Wp.ald_n (j := 0) rfl dX6_meet_59 ?_
        refine Wp.getf (k := 41) (tg := 0) kC6 (by decide) rfl lf_X6_191 dX6_meet_60 (sK41 (h := t47) sh47) (show hF _ 41 41 = hF t47 41 41 from rfl) ?_
        refine Wp.iaddE dX6_meet_63 (by first | exact w32_of (by omega) (by omega) | rfl) ?_
        refine Wp.goto (tgt := 70) dX6_meet_64 (by decide) ?_
        refine sti_5_3 rfl (dSt_n dX6_meet_70) ?_
        refine Wp.ald_n (j := 0) rfl dX6_meet_71 ?_
        refine Wp.ald_n (j := 0) rfl dX6_meet_72 ?_
        refine Wp.getf (k := 18) (tg := 2) kC6 (by decide) rfl lf_X6_57 dX6_meet_73 (sK41 (h := t47) sh47) (sF41_18 (h := t47) sh47) ?_
        obtain ⟨_, t76, ct76, rfl, f76, r76⟩ := cq_mbegin (d + 2) t47 sh47 mit47.1.2.1.2 54 (sK54 sh47) (sL54 sh47) (by decide) (by decide)
        have sh76 : Sh t76 := sh47.fr f76 (by decide +kernel) (by decide)
        have mit76 : MI t76 := mit47.fr (f76.mono (by decide) (by simp))
        have fr76 : Fr mAq mGq h t76 := ((((Fr.f (by decide)).tr (Fr.f (by decide))).tr (f29.mono (by decide) (by simp))).tr (f47.mono (by decide) (by decide))).tr (f76.mono (by decide) (by simp))
        refine Wp.callV0 (ct76) wc_X6_188 iM_X6_begin se_X6_begin kC6 (sK41 (h := t47) sh47) dX6_meet_76 rfl (Nat.le_of_ble_eq_true rfl) rfl (Nat.le_of_ble_eq_true rfl) ?_
        refine Wp.iconst dX6_meet_79 (by decide) ?_
        refine sti_5_4 rfl (dSt_w dX6_meet_80) ?_
        refine mmeet1 (d + 1) t76 sh76 mit76.1 x _ _ (by omega) _ (fun t y frt => ⟨⟨_, rfl⟩, mit76.fr (frt.mono (by decide) (by simp)), fr76.tr (frt.mono (by decide) (by simp))⟩) _ (fun t u frt => ?_) _ 1 _ (Nat.lt_succ_self _) Fr.rf (by omega) rfl ?_
        · have sht : Sh t := sh76.fr frt (by decide +kernel) (by decide)
          have mitt : MI t := mit76.fr (frt.mono (by decide) (by simp))
          refine Wp.ald_n (j := 0) rfl dX6_meet_117 ?_
          refine Wp.ild_n (j := 2) rfl dX6_meet_118 ?_
          refine Wp.ifeq dX6_meet_119 (by decide) (tgt := 127) (fun _ => ?_) (fun _ => ?_)
          · refine Wp.bipush dX6_meet_127 (by decide) ?_
            refine Wp.callV1 (ct_mrefuse (d + 2) t (sK41 sht) 10) wc_X6_151 iM_X6_refuse se_X6_refuse kC6 (sK41 sht) dX6_meet_129 rfl (Nat.le_of_ble_eq_true rfl) rfl (Nat.le_of_ble_eq_true rfl) ?_
            refine Wp.iret rfl dX6_meet_132 ?_
            exact ⟨⟨_, rfl⟩, mitt, (fr76.tr (frt.mono (by decide) (by simp))).tr (Fr.f (by decide))⟩
          · refine Wp.bipush dX6_meet_122 (by decide) ?_
            refine Wp.goto (tgt := 129) dX6_meet_124 (by decide) ?_
            refine Wp.callV1 (ct_mrefuse (d + 2) t (sK41 sht) 8) wc_X6_151 iM_X6_refuse se_X6_refuse kC6 (sK41 sht) dX6_meet_129 rfl (Nat.le_of_ble_eq_true rfl) rfl (Nat.le_of_ble_eq_true rfl) ?_
            refine Wp.iret rfl dX6_meet_132 ?_
            exact ⟨⟨_, rfl⟩, mitt, (fr76.tr (frt.mono (by decide) (by simp))).tr (Fr.f (by decide))⟩
        · intro j j0 j1
          have e6 : hF t76 41 6 = hF t47 41 6 := f76.2.2.2.2.1 41 6 (by decide)
          have e5 : hF t76 41 5 = hF t47 41 5 := f76.2.2.2.2.1 41 5 (by decide)
          rw [e6] at j1
          rw [e5, r76 j j0 j1]
          exact mit47.1.2.2.2.1 j j0 j1
    · refine Wp.iconst dX6_meet_44 (by decide) ?_
      refine Wp.iret rfl dX6_meet_45 ?_
      exact ⟨⟨_, rfl⟩, mi29, ((Fr.f (by decide)).tr (Fr.f (by decide))).tr (f29.mono (by decide) (by simp))⟩
  · refine Wp.ald_n (j := 0) rfl dX6_meet_18 ?_
    refine Wp.iconst dX6_meet_19 (by decide) ?_
    refine Wp.callV1 (ct_mrefuse (d + 2) (sF (sF h 41 1 0) 41 0 0) (sK41 (h := h) sh) 2) wc_X6_151 iM_X6_refuse se_X6_refuse kC6 (sK41 (h := h) sh) dX6_meet_20 rfl (Nat.le_of_ble_eq_true rfl) rfl (Nat.le_of_ble_eq_true rfl) ?_
    refine Wp.iret rfl dX6_meet_23 ?_
    exact ⟨⟨_, rfl⟩, mi, ((Fr.f (by decide)).tr ((Fr.f (by decide)).tr (Fr.f (by decide))))⟩

theorem cq_mout (d : Nat) (h : mH) (sh : Sh h) (mi : MI h) (k : Int) : Cq m_X6_out (d + 1) [(2, 41), (0, k)] h (fun r t => (∃ y, r = some (0, y)) ∧ MI t ∧ Fr mAq mGq h t) := by
  refine Cq.of ?_
  show Wp m_X6_out ((d + 1)) 0 [(2, 41), (0, k)] [] h _
  obtain ⟨⟨⟨r0, r1⟩, ⟨n0, n1⟩, ⟨m0, m1⟩, hp, hq⟩, hms, ⟨⟨z0, z1⟩, hsp⟩, hme⟩ := id mi
  have hm2 := hme.2.2
  refine Wp.ald_n (j := 0) rfl dX6_out_0 ?_
  refine Wp.iconst dX6_out_1 (by decide) ?_
  refine Wp.putf (k := 1) (tg := 0) kC6 (by decide) rfl rfl lf_X6_117 dX6_out_2 (sK41 (h := h) sh) ?_
  refine Wp.ild_n (j := 1) rfl dX6_out_5 ?_
  refine Wp.iflt dX6_out_6 (by decide) (tgt := 17) (fun c6 => ?_) (fun c6 => ?_)
  · refine Wp.ald_n (j := 0) rfl dX6_out_17 ?_
    refine Wp.iconst dX6_out_18 (by decide) ?_
    refine Wp.putf (k := 1) (tg := 0) kC6 (by decide) rfl rfl lf_X6_117 dX6_out_19 (sK41 (h := h) sh) ?_
    refine Wp.iconst dX6_out_22 (by decide) ?_
    refine Wp.iret rfl dX6_out_23 ?_
    exact ⟨⟨_, rfl⟩, mi, ((Fr.f (by decide)).tr (Fr.f (by decide)))⟩
  · refine Wp.ild_n (j := 1) rfl dX6_out_9 ?_
    refine Wp.ald_n (j := 0) rfl dX6_out_10 ?_
    refine Wp.getf (k := 39) (tg := 0) kC6 (by decide) rfl lf_X6_275 dX6_out_11 (sK41 (h := h) sh) (show hF _ 41 39 = hF h 41 39 from rfl) ?_
    refine Wp.iclt dX6_out_14 (by decide) (tgt := 24) (fun c14 => ?_) (fun c14 => ?_)
    · refine Wp.ald_n (j := 0) rfl dX6_out_24 ?_
      refine Wp.getf (k := 38) (tg := 2) kC6 (by decide) rfl lf_X6_102 dX6_out_25 (sK41 (h := h) sh) (sF41_38 (h := h) sh) ?_
      refine Wp.ild_n (j := 1) rfl dX6_out_28 ?_
      refine Wp.baload dX6_out_29 (sK69 (h := h) sh) (by omega) (ilt (sL69 (h := h) sh) (by omega)) (show hA _ 69 _ = hA h 69 _ from rfl) ?_
      refine Wp.iret rfl dX6_out_30 ?_
      exact ⟨⟨_, rfl⟩, mi, Fr.f (by decide)⟩
    · refine Wp.ald_n (j := 0) rfl dX6_out_17 ?_
      refine Wp.iconst dX6_out_18 (by decide) ?_
      refine Wp.putf (k := 1) (tg := 0) kC6 (by decide) rfl rfl lf_X6_117 dX6_out_19 (sK41 (h := h) sh) ?_
      refine Wp.iconst dX6_out_22 (by decide) ?_
      refine Wp.iret rfl dX6_out_23 ?_
      exact ⟨⟨_, rfl⟩, mi, ((Fr.f (by decide)).tr (Fr.f (by decide)))⟩

theorem cq_mend (d : Nat) (h : mH) (sh : Sh h) (mi : MI h) (k x : Int) : Cq m_X6_end (d + 1) [(2, 41), (0, k), (0, x)] h (fun r t => (∃ y, r = some (0, y)) ∧ MI t ∧ Fr mAq mGq h t) := by
  refine Cq.of ?_
  show Wp m_X6_end ((d + 1)) 0 [(2, 41), (0, k), (0, x)] [] h _
  obtain ⟨⟨⟨r0, r1⟩, ⟨n0, n1⟩, ⟨m0, m1⟩, hp, hq⟩, hms, ⟨⟨z0, z1⟩, hsp⟩, hme⟩ := id mi
  have hm2 := hme.1
  refine Wp.ald_n (j := 0) rfl dX6_end_0 ?_
  refine Wp.iconst dX6_end_1 (by decide) ?_
  refine Wp.putf (k := 1) (tg := 0) kC6 (by decide) rfl rfl lf_X6_117 dX6_end_2 (sK41 (h := h) sh) ?_
  refine Wp.ald_n (j := 0) rfl dX6_end_5 ?_
  refine Wp.iconst dX6_end_6 (by decide) ?_
  refine Wp.putf (k := 0) (tg := 0) kC6 (by decide) rfl rfl lf_X6_120 dX6_end_7 (sK41 (h := h) sh) ?_
  refine Wp.ild_n (j := 2) rfl dX6_end_10 ?_
  refine Wp.iflt dX6_end_11 (by decide) (tgt := 19) (fun c11 => ?_) (fun c11 => ?_)
  · refine Wp.ald_n (j := 0) rfl dX6_end_19 ?_
    refine Wp.iconst dX6_end_20 (by decide) ?_
    refine Wp.callV1 (ct_mrefuse d (sF (sF h 41 1 0) 41 0 0) (sK41 (h := h) sh) 2) wc_X6_151 iM_X6_refuse se_X6_refuse kC6 (sK41 (h := h) sh) dX6_end_21 rfl (Nat.le_of_ble_eq_true rfl) rfl (Nat.le_of_ble_eq_true rfl) ?_
    refine Wp.iret rfl dX6_end_24 ?_
    exact ⟨⟨_, rfl⟩, mi, ((Fr.f (by decide)).tr ((Fr.f (by decide)).tr (Fr.f (by decide))))⟩
  · refine Wp.ild_n (j := 2) rfl dX6_end_14 ?_
    refine Wp.iconst dX6_end_15 (by decide) ?_
    refine Wp.icle dX6_end_16 (by decide) (tgt := 25) (fun c16 => ?_) (fun c16 => ?_)
    · refine Wp.ild_n (j := 1) rfl dX6_end_25 ?_
      refine Wp.iflt dX6_end_26 (by decide) (tgt := 37) (fun c26 => ?_) (fun c26 => ?_)
      · refine Wp.ald_n (j := 0) rfl dX6_end_37 ?_
        refine Wp.bipush dX6_end_38 (by decide) ?_
        refine Wp.callV1 (ct_mrefuse d (sF (sF h 41 1 0) 41 0 0) (sK41 (h := h) sh) 8) wc_X6_151 iM_X6_refuse se_X6_refuse kC6 (sK41 (h := h) sh) dX6_end_40 rfl (Nat.le_of_ble_eq_true rfl) rfl (Nat.le_of_ble_eq_true rfl) ?_
        refine Wp.iret rfl dX6_end_43 ?_
        exact ⟨⟨_, rfl⟩, mi, ((Fr.f (by decide)).tr ((Fr.f (by decide)).tr (Fr.f (by decide))))⟩
      · refine Wp.ild_n (j := 1) rfl dX6_end_29 ?_
        refine Wp.ald_n (j := 0) rfl dX6_end_30 ?_
        refine Wp.getf (k := 27) (tg := 0) kC6 (by decide) rfl lf_X6_224 dX6_end_31 (sK41 (h := h) sh) (show hF _ 41 27 = hF h 41 27 from rfl) ?_
        refine Wp.iclt dX6_end_34 (by decide) (tgt := 44) (fun c34 => ?_) (fun c34 => ?_)
        · refine Wp.ild_n (j := 2) rfl dX6_end_44 ?_
          refine Wp.ifne dX6_end_45 (by decide) (tgt := 57) (fun c45 => ?_) (fun c45 => ?_)
          · refine Wp.ild_n (j := 2) rfl dX6_end_57 ?_
            refine Wp.iconst dX6_end_58 (by decide) ?_
            refine Wp.icne dX6_end_59 (by decide) (tgt := 71) (fun c59 => ?_) (fun c59 => ?_)
            · refine Wp.ald_n (j := 0) rfl dX6_end_71 ?_
              refine Wp.getf (k := 26) (tg := 2) kC6 (by decide) rfl lf_X6_81 dX6_end_72 (sK41 (h := h) sh) (sF41_26 (h := h) sh) ?_
              refine Wp.ild_n (j := 1) rfl dX6_end_75 ?_
              refine Wp.iaload dX6_end_76 (sK62 (h := h) sh) (by omega) (ilt (sL62 (h := h) sh) (by omega)) (show hA _ 62 _ = hA h 62 _ from rfl) ?_
              refine Wp.iret rfl dX6_end_77 ?_
              exact ⟨⟨_, rfl⟩, mi, ((Fr.f (by decide)).tr (Fr.f (by decide)))⟩
            · refine Wp.ald_n (j := 0) rfl dX6_end_62 ?_
              refine Wp.getf (k := 25) (tg := 2) kC6 (by decide) rfl lf_X6_78 dX6_end_63 (sK41 (h := h) sh) (sF41_25 (h := h) sh) ?_
              refine Wp.ild_n (j := 1) rfl dX6_end_66 ?_
              refine Wp.iaload dX6_end_67 (sK61 (h := h) sh) (by omega) (ilt (sL61 (h := h) sh) (by omega)) (show hA _ 61 _ = hA h 61 _ from rfl) ?_
              refine Wp.goto (tgt := 77) dX6_end_68 (by decide) ?_
              refine Wp.iret rfl dX6_end_77 ?_
              exact ⟨⟨_, rfl⟩, mi, ((Fr.f (by decide)).tr (Fr.f (by decide)))⟩
          · refine Wp.ald_n (j := 0) rfl dX6_end_48 ?_
            refine Wp.getf (k := 24) (tg := 2) kC6 (by decide) rfl lf_X6_75 dX6_end_49 (sK41 (h := h) sh) (sF41_24 (h := h) sh) ?_
            refine Wp.ild_n (j := 1) rfl dX6_end_52 ?_
            refine Wp.iaload dX6_end_53 (sK60 (h := h) sh) (by omega) (ilt (sL60 (h := h) sh) (by omega)) (show hA _ 60 _ = hA h 60 _ from rfl) ?_
            refine Wp.goto (tgt := 77) dX6_end_54 (by decide) ?_
            refine Wp.iret rfl dX6_end_77 ?_
            exact ⟨⟨_, rfl⟩, mi, ((Fr.f (by decide)).tr (Fr.f (by decide)))⟩
        · refine Wp.ald_n (j := 0) rfl dX6_end_37 ?_
          refine Wp.bipush dX6_end_38 (by decide) ?_
          refine Wp.callV1 (ct_mrefuse d (sF (sF h 41 1 0) 41 0 0) (sK41 (h := h) sh) 8) wc_X6_151 iM_X6_refuse se_X6_refuse kC6 (sK41 (h := h) sh) dX6_end_40 rfl (Nat.le_of_ble_eq_true rfl) rfl (Nat.le_of_ble_eq_true rfl) ?_
          refine Wp.iret rfl dX6_end_43 ?_
          exact ⟨⟨_, rfl⟩, mi, ((Fr.f (by decide)).tr ((Fr.f (by decide)).tr (Fr.f (by decide))))⟩
    · refine Wp.ald_n (j := 0) rfl dX6_end_19 ?_
      refine Wp.iconst dX6_end_20 (by decide) ?_
      refine Wp.callV1 (ct_mrefuse d (sF (sF h 41 1 0) 41 0 0) (sK41 (h := h) sh) 2) wc_X6_151 iM_X6_refuse se_X6_refuse kC6 (sK41 (h := h) sh) dX6_end_21 rfl (Nat.le_of_ble_eq_true rfl) rfl (Nat.le_of_ble_eq_true rfl) ?_
      refine Wp.iret rfl dX6_end_24 ?_
      exact ⟨⟨_, rfl⟩, mi, ((Fr.f (by decide)).tr ((Fr.f (by decide)).tr (Fr.f (by decide))))⟩

theorem mtable1 (d : Nat) (h : mH) (sh : Sh h) (x : Int) (Q : Option mV → mH → Prop) (kq : ∀ (t : mH) (k : Int), Fr [64] [] h t → (∀ j, 0 ≤ j → j < 100 → hA t 64 j = gNO) → Wp m_X6_table (d + 1) 54 [(2, 41), (0, x), (0, k)] [] t Q) : ∀ (m : Nat) (k : Int) (h' : mH), (100 - k).toNat < m → (Fr [64] [] h h') → (0 ≤ k) → (∀ j, 0 ≤ j → j < k → hA h' 64 j = gNO) → Wp m_X6_table (d + 1) 33 [(2, 41), (0, x), (0, k)] [] h' Q := by
  intro m
  induction m with
  | zero => intro k h' hm; exact absurd hm (Nat.not_lt_zero _)
  | succ m ih =>
    intro k h' hm fr k0 hj
    have sh' := sh.fr fr (by decide +kernel) (by decide)
    refine Wp.ild_n (j := 2) rfl dX6_table_33 ?_
    refine Wp.bipush dX6_table_34 (by decide) ?_
    refine Wp.icge dX6_table_36 (by decide) (tgt := 54) (fun c36 => ?_) (fun c36 => ?_)
    · exact kq _ _ fr (fun j j0 j1 => hj j j0 (by omega))
    · refine Wp.ald_n (j := 0) rfl dX6_table_39 ?_
      refine Wp.getf (k := 31) (tg := 2) kC6 (by decide) rfl lf_X6_87 dX6_table_40 (sK41 (h := h') sh') (sF41_31 (h := h') sh') ?_
      refine Wp.ild_n (j := 2) rfl dX6_table_43 ?_
      refine Wp.ldc2 (z := -9223372036854775808) lk_X6_115 (by decide) dX6_table_44 ?_
      refine Wp.lastore dX6_table_47 (sK64 (h := h') sh') (by omega) (ilt (sL64 (h := h') sh') (by omega)) ?_
      refine inc_3_2 rfl dX6_table_48 (by first | exact w32_of (by omega) (by omega) | rfl) ?_
      refine Wp.goto (tgt := 33) dX6_table_51 (by decide) ?_
      refine ih (k + 1) _ (by omega) (fr.tr (Fr.e (by decide))) (by omega) (fun j j0 j1 => ?_)
      rw [hA_sEs]
      by_cases e : j = k
      · rw [e, u1_s]
      · rw [u1_n _ _ e]
        exact hj j j0 (by omega)

theorem cq_mtable (d : Nat) (h : mH) (sh : Sh h) (mi : MI h) (x : Int) : Cq m_X6_table (d + 1) [(2, 41), (0, x)] h (fun r t => (∃ y, r = some (0, y) ∧ ((y = 0 ∧ ¬ (0 ≤ x ∧ x ≤ 10)) ∨ (y = 1 ∧ (0 ≤ x ∧ x ≤ 10)))) ∧ MI t ∧ Fr mAq mGq h t) := by
  refine Cq.of ?_
  show Wp m_X6_table ((d + 1)) 0 [(2, 41), (0, x), (9, 0)] [] h _
  refine Wp.ald_n (j := 0) rfl dX6_table_0 ?_
  refine Wp.iconst dX6_table_1 (by decide) ?_
  refine Wp.putf (k := 1) (tg := 0) kC6 (by decide) rfl rfl lf_X6_117 dX6_table_2 (sK41 (h := h) sh) ?_
  refine Wp.ald_n (j := 0) rfl dX6_table_5 ?_
  refine Wp.iconst dX6_table_6 (by decide) ?_
  refine Wp.putf (k := 0) (tg := 0) kC6 (by decide) rfl rfl lf_X6_120 dX6_table_7 (sK41 (h := h) sh) ?_
  refine Wp.ild_n (j := 1) rfl dX6_table_10 ?_
  refine Wp.iflt dX6_table_11 (by decide) (tgt := 20) (fun c11 => ?_) (fun c11 => ?_)
  · refine Wp.ald_n (j := 0) rfl dX6_table_20 ?_
    refine Wp.iconst dX6_table_21 (by decide) ?_
    refine Wp.callV1 (ct_mno d (sF (sF h 41 1 0) 41 0 0) (sK41 (h := h) sh) 2) wc_X6_123 iM_X6_no se_X6_no kC6 (sK41 (h := h) sh) dX6_table_22 rfl (Nat.le_of_ble_eq_true rfl) rfl (Nat.le_of_ble_eq_true rfl) ?_
    refine Wp.zret rfl dX6_table_25 (by omega) ?_
    exact ⟨⟨_, rfl, Or.inl ⟨rfl, by omega⟩⟩, mi, ((Fr.f (by decide)).tr ((Fr.f (by decide)).tr (Fr.f (by decide))))⟩
  · refine Wp.ild_n (j := 1) rfl dX6_table_14 ?_
    refine Wp.bipush dX6_table_15 (by decide) ?_
    refine Wp.icle dX6_table_17 (by decide) (tgt := 26) (fun c17 => ?_) (fun c17 => ?_)
    · refine Wp.ald_n (j := 0) rfl dX6_table_26 ?_
      refine Wp.ild_n (j := 1) rfl dX6_table_27 ?_
      refine Wp.putf (k := 30) (tg := 0) kC6 (by decide) rfl rfl lf_X6_230 dX6_table_28 (sK41 (h := h) sh) ?_
      refine Wp.iconst dX6_table_31 (by decide) ?_
      refine sti_3_2 rfl (dSt_n dX6_table_32) ?_
      refine mtable1 d (sF (sF (sF h 41 1 0) 41 0 0) 41 30 x) (sh.m ((Fr.f (by decide)).tr ((Fr.f (by decide)).tr (Fr.f (by decide))))) x _ (fun t k frt ht => ?_) _ 0 _ (Nat.lt_succ_self _) Fr.rf (by omega) (fun j j0 j1 => absurd j1 (by omega))
      refine Wp.iconst dX6_table_54 (by decide) ?_
      refine Wp.zret rfl dX6_table_55 (Or.inr rfl) ?_
      refine ⟨⟨_, rfl, Or.inr ⟨rfl, by omega⟩⟩, ⟨MB.fr (h := (sF (sF (sF h 41 1 0) 41 0 0) 41 30 x)) mi.1 frt (by decide) (by decide) (by decide) (by decide) (by decide), MS.fr (h := (sF (sF (sF h 41 1 0) 41 0 0) 41 30 x)) mi.2.1 frt (by decide), ⟨?_, fun j j0 j1 => Or.inl (ht j j0 j1)⟩, ME.fr (h := (sF (sF (sF h 41 1 0) 41 0 0) 41 30 x)) mi.2.2.2 frt (by decide) (by decide) (by decide)⟩, ((Fr.f (by decide)).tr ((Fr.f (by decide)).tr (Fr.f (by decide)))).tr (frt.mono (by decide) (by simp))⟩
      rw [frt.2.2.2.2.1 41 30 (by decide)]
      exact ⟨by show 0 ≤ x; omega, by show x ≤ 10; omega⟩
    · refine Wp.ald_n (j := 0) rfl dX6_table_20 ?_
      refine Wp.iconst dX6_table_21 (by decide) ?_
      refine Wp.callV1 (ct_mno d (sF (sF h 41 1 0) 41 0 0) (sK41 (h := h) sh) 2) wc_X6_123 iM_X6_no se_X6_no kC6 (sK41 (h := h) sh) dX6_table_22 rfl (Nat.le_of_ble_eq_true rfl) rfl (Nat.le_of_ble_eq_true rfl) ?_
      refine Wp.zret rfl dX6_table_25 (by omega) ?_
      exact ⟨⟨_, rfl, Or.inl ⟨rfl, by omega⟩⟩, mi, ((Fr.f (by decide)).tr ((Fr.f (by decide)).tr (Fr.f (by decide))))⟩

theorem MI.span {h : mH} {p v : Int} (mi : MI h) (hv : v = gNO ∨ (-1048576 ≤ v ∧ v ≤ 1048576)) : MI (sE (sF (sF h 41 1 0) 41 0 0) 64 p v) := by
  refine ⟨mi.1, mi.2.1, ⟨mi.2.2.1.1, fun j j0 j1 => ?_⟩, mi.2.2.2⟩
  rw [hA_sEs]
  unfold u1
  split
  · exact hv
  · exact mi.2.2.1.2 j j0 j1
theorem cq_mspan (d : Nat) (h : mH) (sh : Sh h) (mi : MI h) (i j v : Int) : Cq m_X6_span (d + 1) [(2, 41), (0, i), (0, j), (0, v)] h (fun r t => (∃ y, r = some (0, y) ∧ (y = 0 ∨ y = 1)) ∧ MI t ∧ Fr mAq mGq h t) := by
  refine Cq.of ?_
  show Wp m_X6_span ((d + 1)) 0 [(2, 41), (0, i), (0, j), (0, v)] [] h _
  obtain ⟨⟨⟨r0, r1⟩, ⟨n0, n1⟩, ⟨m0, m1⟩, hp, hq⟩, hms, ⟨⟨z0, z1⟩, hsp⟩, hme⟩ := id mi
  refine Wp.ald_n (j := 0) rfl dX6_span_0 ?_
  refine Wp.iconst dX6_span_1 (by decide) ?_
  refine Wp.putf (k := 1) (tg := 0) kC6 (by decide) rfl rfl lf_X6_117 dX6_span_2 (sK41 (h := h) sh) ?_
  refine Wp.ald_n (j := 0) rfl dX6_span_5 ?_
  refine Wp.iconst dX6_span_6 (by decide) ?_
  refine Wp.putf (k := 0) (tg := 0) kC6 (by decide) rfl rfl lf_X6_120 dX6_span_7 (sK41 (h := h) sh) ?_
  refine Wp.ald_n (j := 0) rfl dX6_span_10 ?_
  refine Wp.ild_n (j := 1) rfl dX6_span_11 ?_
  refine Wp.ild_n (j := 2) rfl dX6_span_12 ?_
  refine Wp.callV1 (show Ct m_X6_isIn d [(2, 41), (0, i), (0, j)] (sF (sF h 41 1 0) 41 0 0) (some (0, if (0 ≤ i ∧ i < hF h 41 30) ∧ (0 ≤ j ∧ j < hF h 41 30) then 1 else 0)) (sF (sF h 41 1 0) 41 0 0) from ct_isIn d (sF (sF h 41 1 0) 41 0 0) (sK41 (h := h) sh) i j) wc_X6_233 iM_X6_isIn se_X6_isIn kC6 (sK41 (h := h) sh) dX6_span_13 rfl (Nat.le_of_ble_eq_true rfl) rfl (Nat.le_of_ble_eq_true rfl) ?_
  refine Wp.ifeq dX6_span_16 (by decide) (tgt := 31) (fun c16 => ?_) (fun c16 => ?_)
  · refine Wp.ald_n (j := 0) rfl dX6_span_31 ?_
    refine Wp.iconst dX6_span_32 (by decide) ?_
    refine Wp.callV1 (ct_mno d (sF (sF h 41 1 0) 41 0 0) (sK41 (h := h) sh) 2) wc_X6_123 iM_X6_no se_X6_no kC6 (sK41 (h := h) sh) dX6_span_33 rfl (Nat.le_of_ble_eq_true rfl) rfl (Nat.le_of_ble_eq_true rfl) ?_
    refine Wp.zret rfl dX6_span_36 (by omega) ?_
    exact ⟨⟨_, rfl, Or.inl rfl⟩, mi, ((Fr.f (by decide)).tr ((Fr.f (by decide)).tr (Fr.f (by decide))))⟩
  · refine Wp.ild_n (j := 3) rfl dX6_span_19 ?_
    refine Wp.ldc (z := -1048576) lk_X6_237 (by decide) dX6_span_20 ?_
    refine Wp.iclt dX6_span_22 (by decide) (tgt := 31) (fun c22 => ?_) (fun c22 => ?_)
    · refine Wp.ald_n (j := 0) rfl dX6_span_31 ?_
      refine Wp.iconst dX6_span_32 (by decide) ?_
      refine Wp.callV1 (ct_mno d (sF (sF h 41 1 0) 41 0 0) (sK41 (h := h) sh) 2) wc_X6_123 iM_X6_no se_X6_no kC6 (sK41 (h := h) sh) dX6_span_33 rfl (Nat.le_of_ble_eq_true rfl) rfl (Nat.le_of_ble_eq_true rfl) ?_
      refine Wp.zret rfl dX6_span_36 (by omega) ?_
      exact ⟨⟨_, rfl, Or.inl rfl⟩, mi, ((Fr.f (by decide)).tr ((Fr.f (by decide)).tr (Fr.f (by decide))))⟩
    · refine Wp.ild_n (j := 3) rfl dX6_span_25 ?_
      refine Wp.ldc (z := 1048576) lk_X6_238 (by decide) dX6_span_26 ?_
      refine Wp.icle dX6_span_28 (by decide) (tgt := 37) (fun c28 => ?_) (fun c28 => ?_)
      · have hb : (0 ≤ i ∧ i < hF h 41 30) ∧ (0 ≤ j ∧ j < hF h 41 30) := by
          by_cases hb : (0 ≤ i ∧ i < hF h 41 30) ∧ (0 ≤ j ∧ j < hF h 41 30)
          · exact hb
          · rw [if_neg hb] at c16
            exact absurd rfl c16
        refine Wp.ald_n (j := 0) rfl dX6_span_37 ?_
        refine Wp.getf (k := 31) (tg := 2) kC6 (by decide) rfl lf_X6_87 dX6_span_38 (sK41 (h := h) sh) (sF41_31 (h := h) sh) ?_
        refine Wp.bipush dX6_span_41 (by decide) ?_
        refine Wp.ild_n (j := 1) rfl dX6_span_43 ?_
        refine Wp.imulE dX6_span_44 (by first | exact w32_of (by omega) (by omega) | rfl) ?_
        refine Wp.ild_n (j := 2) rfl dX6_span_45 ?_
        refine Wp.iaddE dX6_span_46 (by first | exact w32_of (by omega) (by omega) | rfl) ?_
        refine Wp.ild_n (j := 3) rfl dX6_span_47 ?_
        refine Wp.i2l dX6_span_48 ?_
        refine Wp.lastore dX6_span_49 (sK64 (h := h) sh) (by omega) (ilt (sL64 (h := h) sh) (by omega)) ?_
        refine Wp.iconst dX6_span_50 (by decide) ?_
        refine Wp.zret rfl dX6_span_51 (by omega) ?_
        exact ⟨⟨_, rfl, Or.inr rfl⟩, mi.span (Or.inr ⟨by omega, by omega⟩), ((Fr.f (by decide)).tr (Fr.f (by decide))).tr (Fr.e (by decide))⟩
      · refine Wp.ald_n (j := 0) rfl dX6_span_31 ?_
        refine Wp.iconst dX6_span_32 (by decide) ?_
        refine Wp.callV1 (ct_mno d (sF (sF h 41 1 0) 41 0 0) (sK41 (h := h) sh) 2) wc_X6_123 iM_X6_no se_X6_no kC6 (sK41 (h := h) sh) dX6_span_33 rfl (Nat.le_of_ble_eq_true rfl) rfl (Nat.le_of_ble_eq_true rfl) ?_
        refine Wp.zret rfl dX6_span_36 (by omega) ?_
        exact ⟨⟨_, rfl, Or.inl rfl⟩, mi, ((Fr.f (by decide)).tr ((Fr.f (by decide)).tr (Fr.f (by decide))))⟩

theorem cq_mcutS (d : Nat) (h : mH) (sh : Sh h) (mi : MI h) (i j : Int) : Cq m_X6_cut_ (d + 1) [(2, 41), (0, i), (0, j)] h (fun r t => (∃ y, r = some (0, y) ∧ (y = 0 ∨ y = 1)) ∧ MI t ∧ Fr mAq mGq h t) := by
  refine Cq.of ?_
  show Wp m_X6_cut_ ((d + 1)) 0 [(2, 41), (0, i), (0, j)] [] h _
  obtain ⟨⟨⟨r0, r1⟩, ⟨n0, n1⟩, ⟨m0, m1⟩, hp, hq⟩, hms, ⟨⟨z0, z1⟩, hsp⟩, hme⟩ := id mi
  refine Wp.ald_n (j := 0) rfl dX6_cut__0 ?_
  refine Wp.iconst dX6_cut__1 (by decide) ?_
  refine Wp.putf (k := 1) (tg := 0) kC6 (by decide) rfl rfl lf_X6_117 dX6_cut__2 (sK41 (h := h) sh) ?_
  refine Wp.ald_n (j := 0) rfl dX6_cut__5 ?_
  refine Wp.iconst dX6_cut__6 (by decide) ?_
  refine Wp.putf (k := 0) (tg := 0) kC6 (by decide) rfl rfl lf_X6_120 dX6_cut__7 (sK41 (h := h) sh) ?_
  refine Wp.ald_n (j := 0) rfl dX6_cut__10 ?_
  refine Wp.ild_n (j := 1) rfl dX6_cut__11 ?_
  refine Wp.ild_n (j := 2) rfl dX6_cut__12 ?_
  refine Wp.callV1 (show Ct m_X6_isIn d [(2, 41), (0, i), (0, j)] (sF (sF h 41 1 0) 41 0 0) (some (0, if (0 ≤ i ∧ i < hF h 41 30) ∧ (0 ≤ j ∧ j < hF h 41 30) then 1 else 0)) (sF (sF h 41 1 0) 41 0 0) from ct_isIn d (sF (sF h 41 1 0) 41 0 0) (sK41 (h := h) sh) i j) wc_X6_233 iM_X6_isIn se_X6_isIn kC6 (sK41 (h := h) sh) dX6_cut__13 rfl (Nat.le_of_ble_eq_true rfl) rfl (Nat.le_of_ble_eq_true rfl) ?_
  refine Wp.ifne dX6_cut__16 (by decide) (tgt := 25) (fun c16 => ?_) (fun c16 => ?_)
  · have hb : (0 ≤ i ∧ i < hF h 41 30) ∧ (0 ≤ j ∧ j < hF h 41 30) := by
      by_cases hb : (0 ≤ i ∧ i < hF h 41 30) ∧ (0 ≤ j ∧ j < hF h 41 30)
      · exact hb
      · rw [if_neg hb] at c16
        exact absurd rfl c16
    refine Wp.ald_n (j := 0) rfl dX6_cut__25 ?_
    refine Wp.getf (k := 31) (tg := 2) kC6 (by decide) rfl lf_X6_87 dX6_cut__26 (sK41 (h := h) sh) (sF41_31 (h := h) sh) ?_
    refine Wp.bipush dX6_cut__29 (by decide) ?_
    refine Wp.ild_n (j := 1) rfl dX6_cut__31 ?_
    refine Wp.imulE dX6_cut__32 (by first | exact w32_of (by omega) (by omega) | rfl) ?_
    refine Wp.ild_n (j := 2) rfl dX6_cut__33 ?_
    refine Wp.iaddE dX6_cut__34 (by first | exact w32_of (by omega) (by omega) | rfl) ?_
    refine Wp.laload dX6_cut__35 (sK64 (h := h) sh) (by omega) (ilt (sL64 (h := h) sh) (by omega)) (show hA _ 64 _ = hA h 64 _ from rfl) ?_
    refine Wp.ldc2 (z := -9223372036854775808) lk_X6_115 (by decide) dX6_cut__36 ?_
    refine Wp.lcne dX6_cut__39 dX6_cut__40 (by decide) (tgt := 50) (fun c39 => ?_) (fun c39 => ?_)
    · refine Wp.ald_n (j := 0) rfl dX6_cut__50 ?_
      refine Wp.getf (k := 31) (tg := 2) kC6 (by decide) rfl lf_X6_87 dX6_cut__51 (sK41 (h := h) sh) (sF41_31 (h := h) sh) ?_
      refine Wp.bipush dX6_cut__54 (by decide) ?_
      refine Wp.ild_n (j := 1) rfl dX6_cut__56 ?_
      refine Wp.imulE dX6_cut__57 (by first | exact w32_of (by omega) (by omega) | rfl) ?_
      refine Wp.ild_n (j := 2) rfl dX6_cut__58 ?_
      refine Wp.iaddE dX6_cut__59 (by first | exact w32_of (by omega) (by omega) | rfl) ?_
      refine Wp.ldc2 (z := -9223372036854775808) lk_X6_115 (by decide) dX6_cut__60 ?_
      refine Wp.lastore dX6_cut__63 (sK64 (h := h) sh) (by omega) (ilt (sL64 (h := h) sh) (by omega)) ?_
      refine Wp.iconst dX6_cut__64 (by decide) ?_
      refine Wp.zret rfl dX6_cut__65 (by omega) ?_
      exact ⟨⟨_, rfl, Or.inr rfl⟩, mi.span (Or.inl rfl), ((Fr.f (by decide)).tr (Fr.f (by decide))).tr (Fr.e (by decide))⟩
    · refine Wp.ald_n (j := 0) rfl dX6_cut__43 ?_
      refine Wp.bipush dX6_cut__44 (by decide) ?_
      refine Wp.callV1 (ct_mno d (sF (sF h 41 1 0) 41 0 0) (sK41 (h := h) sh) 8) wc_X6_123 iM_X6_no se_X6_no kC6 (sK41 (h := h) sh) dX6_cut__46 rfl (Nat.le_of_ble_eq_true rfl) rfl (Nat.le_of_ble_eq_true rfl) ?_
      refine Wp.zret rfl dX6_cut__49 (by omega) ?_
      exact ⟨⟨_, rfl, Or.inl rfl⟩, mi, ((Fr.f (by decide)).tr ((Fr.f (by decide)).tr (Fr.f (by decide))))⟩
  · refine Wp.ald_n (j := 0) rfl dX6_cut__19 ?_
    refine Wp.iconst dX6_cut__20 (by decide) ?_
    refine Wp.callV1 (ct_mno d (sF (sF h 41 1 0) 41 0 0) (sK41 (h := h) sh) 2) wc_X6_123 iM_X6_no se_X6_no kC6 (sK41 (h := h) sh) dX6_cut__21 rfl (Nat.le_of_ble_eq_true rfl) rfl (Nat.le_of_ble_eq_true rfl) ?_
    refine Wp.zret rfl dX6_cut__24 (by omega) ?_
    exact ⟨⟨_, rfl, Or.inl rfl⟩, mi, ((Fr.f (by decide)).tr ((Fr.f (by decide)).tr (Fr.f (by decide))))⟩

