theorem BI.fr {A : List Int} {G : List (Int × Nat)} {h h' : mH} (bi : BI h) (fr : Fr A G h h') (a4 : (4 : Int) ∉ A) (a7 : (7 : Int) ∉ A) (g0 : ((2 : Int), 0) ∉ G) (g1 : ((2 : Int), 1) ∉ G) (g8 : ((2 : Int), 8) ∉ G) : BI h' := by
  unfold BI
  rw [fr.2.2.2.2.1 2 0 g0, fr.2.2.2.2.1 2 1 g1, fr.2.2.2.2.1 2 8 g8, fr.2.2.2.2.2 4 a4, fr.2.2.2.2.2 7 a7]
  exact bi
theorem kor01 {x : Int} (hx : x = 0 ∨ x = 1) : kor x 1 = 1 ∧ kor x 0 = x := by
  rcases hx with rfl | rfl <;> decide +kernel
theorem tick11_end (d : Nat) (h : mH) (sh : Sh h) (bi : BI h) (h' : mH) (fr : Fr [8, 9, 12, 11] [] h h') (hr : ∀ j, 0 ≤ j → j < hF h 2 1 → 0 ≤ hA h' 8 j ∧ hA h' 8 j < hF h 2 0) (any k : Int) : Wp m_X0_tick (d + 2) 134 [(2, 2), (2, 11), (2, 12), (0, any), (0, k)] [] h' (fun r t => r = none ∧ Fr [8, 9, 12, 11] [] h t ∧ ∀ j, 0 ≤ j → j < hF h 2 1 → 0 ≤ hA t 11 j ∧ hA t 11 j < hF h 2 0) := by
  have sh' := sh.fr fr (by decide +kernel) (by decide)
  have e1 : hF h' 2 1 = hF h 2 1 := fr.2.2.2.2.1 2 1 (by decide)
  obtain ⟨n0, n1⟩ := bi.2.1
  refine Wp.ald_n (j := 0) rfl dX0_tick_134 ?_
  refine Wp.getf (k := 9) (tg := 2) kC0 (by decide) rfl lf_X0_40 dX0_tick_135 (sK2 (h := h') sh') (sF2_9 (h := h') sh') ?_
  refine Wp.iconst dX0_tick_138 (by decide) ?_
  refine Wp.ald_n (j := 1) rfl dX0_tick_139 ?_
  refine Wp.iconst dX0_tick_140 (by decide) ?_
  refine Wp.ald_n (j := 0) rfl dX0_tick_141 ?_
  refine Wp.getf (k := 1) (tg := 0) kC0 (by decide) rfl lf_X0_15 dX0_tick_142 (sK2 (h := h') sh') e1 ?_
  refine Wp.acopy (t := 10) (Or.inl rfl) wa_X0_90 wA2 wA3 wA4 dX0_tick_145 (sK8 (h := h') sh') (sK11 (h := h') sh') (by omega) (by omega) (by omega) (ile (sL8 (h := h') sh') (by omega)) (ile (sL11 (h := h') sh') (by omega)) (Nat.le_of_ble_eq_true rfl) ?_
  refine Wp.vret rfl dX0_tick_148 ?_
  refine ⟨rfl, fr.tr (Fr.a (by decide)), fun j j0 j1 => ?_⟩
  rw [hA_sAs]
  unfold cpF
  rw [if_pos (by omega), show (0 : Int) + (j - 0) = j by omega]
  exact hr j j0 j1

theorem tick11_loop (d : Nat) (h : mH) (sh : Sh h) (bi : BI h) (hrow : ∀ k, 0 ≤ k → k < hF h 2 1 → 0 ≤ hA h 11 k ∧ hA h 11 k < hF h 2 0) : ∀ (m : Nat) (k any : Int) (h' : mH), (hF h 2 1 - k).toNat < m → (0 ≤ k) → (k ≤ hF h 2 1) → (Fr [8] [] h h') → (any = 0 ∨ any = 1) → (∀ j, 0 ≤ j → j < k → 0 ≤ hA h' 8 j ∧ hA h' 8 j ≤ 10000 ∧ (hA h 3 j ≠ 2 → hA h' 8 j < hF h 2 0) ∧ (any = 0 → hA h' 8 j < hF h 2 0)) → Wp m_X0_tick (d + 2) 5 [(2, 2), (2, 11), (2, 12), (0, any), (0, k)] [] h' (fun r t => r = none ∧ Fr [8, 9, 12, 11] [] h t ∧ ∀ j, 0 ≤ j → j < hF h 2 1 → 0 ≤ hA t 11 j ∧ hA t 11 j < hF h 2 0) := by
  intro m
  induction m with
  | zero => intro k any h' hm; exact absurd hm (Nat.not_lt_zero _)
  | succ m ih =>
    intro k any h' hm k0 k1 fr hany hj
    have sh' := sh.fr fr (by decide +kernel) (by decide)
    have e0 : hF h' 2 0 = hF h 2 0 := fr.2.2.2.2.1 2 0 (by decide)
    have e1 : hF h' 2 1 = hF h 2 1 := fr.2.2.2.2.1 2 1 (by decide)
    have e3 : hA h' 3 = hA h 3 := fr.2.2.2.2.2 3 (by decide)
    have ea : hA h' 11 = hA h 11 := fr.2.2.2.2.2 11 (by decide)
    have bi' := bi.fr fr (by decide) (by decide) (by decide) (by decide) (by decide)
    obtain ⟨⟨r0, r1⟩, ⟨n0, n1⟩, -, -, -⟩ := id bi
    refine Wp.ild (j := 4) rfl dX0_tick_5 ?_
    refine Wp.ald_n (j := 0) rfl dX0_tick_7 ?_
    refine Wp.getf (k := 1) (tg := 0) kC0 (by decide) rfl lf_X0_15 dX0_tick_8 (sK2 (h := h') sh') e1 ?_
    refine Wp.icge dX0_tick_11 (by decide) (tgt := 125) (fun c11 => ?_) (fun c11 => ?_)
    · refine Wp.ild_n (j := 3) rfl dX0_tick_125 ?_
      refine Wp.ifeq dX0_tick_126 (by decide) (tgt := 134) (fun c126 => ?_) (fun c126 => ?_)
      · have hk : k = hF h 2 1 := by omega
        subst hk
        refine tick11_end d h sh bi h' (fr.mono (by decide) (by decide)) (fun j j0 j1 => ⟨(hj j j0 j1).1, (hj j j0 j1).2.2.2 c126⟩) any (hF h 2 1)
      · have hk : k = hF h 2 1 := by omega
        subst hk
        obtain ⟨_, t131, ct131, rfl, fr131, hr131⟩ := cq_fire12 d h' sh' bi' (fun j j0 j1 => by
          rw [e1] at j1
          rw [e0, e3]
          exact ⟨(hj j j0 j1).1, (hj j j0 j1).2.1, (hj j j0 j1).2.2.1⟩)
        refine Wp.ald_n (j := 0) rfl dX0_tick_129 ?_
        refine Wp.ald_n (j := 2) rfl dX0_tick_130 ?_
        refine Wp.callV0 (ct131) wc_X0_86 iM_X0_fire se_X0_fire kC0 (sK2 (h := h') sh') dX0_tick_131 rfl (Nat.le_of_ble_eq_true rfl) rfl (Nat.le_of_ble_eq_true rfl) ?_
        rw [e1, e0] at hr131
        exact tick11_end d h sh bi t131 ((fr.mono (by decide) (by decide)).tr (fr131.mono (by decide) (by decide))) hr131 any (hF h 2 1)
    · have hrk := hrow k k0 (by omega)
      refine Wp.ald_n (j := 0) rfl dX0_tick_14 ?_
      refine Wp.getf (k := 3) (tg := 2) kC0 (by decide) rfl lf_X0_21 dX0_tick_15 (sK2 (h := h') sh') (sF2_3 (h := h') sh') ?_
      refine Wp.ild (j := 4) rfl dX0_tick_18 ?_
      refine Wp.iaload dX0_tick_20 (sK3 (h := h') sh') (by omega) (ilt (sL3 (h := h') sh') (by omega)) (congrFun e3 k) ?_
      refine Wp.iconst dX0_tick_21 (by decide) ?_
      refine Wp.icne dX0_tick_22 (by decide) (tgt := 63) (fun c22 => ?_) (fun c22 => ?_)
      · refine Wp.ald_n (j := 0) rfl dX0_tick_63 ?_
        refine Wp.getf (k := 3) (tg := 2) kC0 (by decide) rfl lf_X0_21 dX0_tick_64 (sK2 (h := h') sh') (sF2_3 (h := h') sh') ?_
        refine Wp.ild (j := 4) rfl dX0_tick_67 ?_
        refine Wp.iaload dX0_tick_69 (sK3 (h := h') sh') (by omega) (ilt (sL3 (h := h') sh') (by omega)) (congrFun e3 k) ?_
        refine Wp.iconst dX0_tick_70 (by decide) ?_
        refine Wp.icne dX0_tick_71 (by decide) (tgt := 102) (fun c71 => ?_) (fun c71 => ?_)
        · refine Wp.ald_n (j := 0) rfl dX0_tick_102 ?_
          refine Wp.getf (k := 9) (tg := 2) kC0 (by decide) rfl lf_X0_40 dX0_tick_103 (sK2 (h := h') sh') (sF2_9 (h := h') sh') ?_
          refine Wp.ild (j := 4) rfl dX0_tick_106 ?_
          refine Wp.ald_n (j := 0) rfl dX0_tick_108 ?_
          refine Wp.ald_n (j := 1) rfl dX0_tick_109 ?_
          refine Wp.ild (j := 4) rfl dX0_tick_110 ?_
          refine Wp.iaload dX0_tick_112 (sK11 (h := h') sh') (by omega) (ilt (sL11 (h := h') sh') (by omega)) (congrFun ea k) ?_
          refine Wp.iconst dX0_tick_113 (by decide) ?_
          refine Wp.iaddE dX0_tick_114 (by first | exact w32_of (by omega) (by omega) | rfl) ?_
          have ct115 := fun p p0 p1 => ct_wrap (d + 1) h' sh' p (by omega) (by omega) p0 p1
          rw [e0] at ct115
          refine Wp.callV1 (ct115 _ (by omega) (by omega)) wc_X0_83 iM_X0_wrap se_X0_wrap kC0 (sK2 (h := h') sh') dX0_tick_115 rfl (Nat.le_of_ble_eq_true rfl) rfl (Nat.le_of_ble_eq_true rfl) ?_
          refine Wp.iastore dX0_tick_118 (sK8 (h := h') sh') (by omega) (ilt (sL8 (h := h') sh') (by omega)) ?_
          refine inc_5_4 rfl dX0_tick_119 (by first | exact w32_of (by omega) (by omega) | rfl) ?_
          refine Wp.goto (tgt := 5) dX0_tick_122 (by decide) ?_
          have ko := kor01 hany
          refine ih (k + 1) _ _ (by omega) (by omega) (by omega) ?_ ?_ (fun j j0 j1 => ?_)
          · exact fr.tr (Fr.e (by decide))
          · first | exact hany | (rw [ko.1]; exact Or.inr rfl) | (rw [ko.2]; exact hany)
          · by_cases hjk : j = k
            · subst hjk
              rw [show ∀ v, hA (sE h' 8 j v) 8 j = v from fun v => u1_s (hA h' 8) j v]
              first
              | (refine ⟨by omega, by omega, fun z => absurd c22 z, fun z => ?_⟩
                 first | omega | (exfalso; rw [ko.1] at z; omega))
              | (rw [if_pos (by omega)]; exact ⟨by omega, by omega, fun _ => by omega, fun _ => by omega⟩)
              | (rw [if_neg (by omega), if_pos (by omega)]; exact ⟨by omega, by omega, fun _ => by omega, fun _ => by omega⟩)
              | (rw [if_neg (by omega), if_neg (by omega)]; exact ⟨by omega, by omega, fun _ => by omega, fun _ => by omega⟩)
              | (by_cases z1 : hF h 2 0 ≤ hA h 11 j + 1 + plV (plS (hA h 11) (hF h 2 0) (hA h 11 j) (kand (hA h' 6 j) (kxor (kshl 1 j) (-1))) (hF h 2 1).toNat)
                 · rw [if_pos z1]; exact ⟨by omega, by omega, fun _ => by omega, fun _ => by omega⟩
                 · by_cases z2 : hA h 11 j + 1 + plV (plS (hA h 11) (hF h 2 0) (hA h 11 j) (kand (hA h' 6 j) (kxor (kshl 1 j) (-1))) (hF h 2 1).toNat) < 0
                   · rw [if_neg z1, if_pos z2]; exact ⟨by omega, by omega, fun _ => by omega, fun _ => by omega⟩
                   · rw [if_neg z1, if_neg z2]; exact ⟨by omega, by omega, fun _ => by omega, fun _ => by omega⟩)
              | (by_cases z1 : hF h 2 0 ≤ hA h 11 j + 1
                 · rw [if_pos z1]; exact ⟨by omega, by omega, fun _ => by omega, fun _ => by omega⟩
                 · rw [if_neg z1, if_neg (by omega)]; exact ⟨by omega, by omega, fun _ => by omega, fun _ => by omega⟩)
            · rw [show ∀ v, hA (sE h' 8 k v) 8 j = hA h' 8 j from fun v => u1_n (hA h' 8) v hjk]
              have := hj j j0 (by omega)
              refine ⟨this.1, this.2.1, this.2.2.1, fun z => this.2.2.2 ?_⟩
              first | exact z | (exfalso; rw [ko.1] at z; omega) | (rw [ko.2] at z; exact z)
        · refine Wp.ald_n (j := 0) rfl dX0_tick_74 ?_
          refine Wp.getf (k := 9) (tg := 2) kC0 (by decide) rfl lf_X0_40 dX0_tick_75 (sK2 (h := h') sh') (sF2_9 (h := h') sh') ?_
          refine Wp.ild (j := 4) rfl dX0_tick_78 ?_
          refine Wp.ald_n (j := 0) rfl dX0_tick_80 ?_
          refine Wp.ald_n (j := 1) rfl dX0_tick_81 ?_
          refine Wp.ild (j := 4) rfl dX0_tick_82 ?_
          refine Wp.iaload dX0_tick_84 (sK11 (h := h') sh') (by omega) (ilt (sL11 (h := h') sh') (by omega)) (congrFun ea k) ?_
          refine Wp.iconst dX0_tick_85 (by decide) ?_
          refine Wp.iaddE dX0_tick_86 (by first | exact w32_of (by omega) (by omega) | rfl) ?_
          refine Wp.ald_n (j := 0) rfl dX0_tick_87 ?_
          refine Wp.ild (j := 4) rfl dX0_tick_88 ?_
          refine Wp.ald_n (j := 1) rfl dX0_tick_90 ?_
          have hpb := plS_bd (f := hA h 11) (r := hF h 2 0) (m := hA h 11 k) (s := kand (hA h' 6 k) (kxor (kshl 1 k) (-1))) hrk (hF h 2 1).toNat (fun i i0 i1 => hrow i i0 (by omega))
          have hpv := plV_bd (r := hF h 2 0) (by omega) hpb.1 hpb.2.1 hpb.2.2.1
          have ct91 := ct_pullOn (d + 1) h' sh' 11 k (sK11 (h := h') sh') (sL11 (h := h') sh') k0 (by omega) (by omega) (by omega) (by rw [e0, e1, ea]; exact hrow)
          rw [e0, e1, ea] at ct91
          refine Wp.callV1 (ct91) wc_X0_79 iM_X0_pullOn se_X0_pullOn kC0 (sK2 (h := h') sh') dX0_tick_91 rfl (Nat.le_of_ble_eq_true rfl) rfl (Nat.le_of_ble_eq_true rfl) ?_
          refine Wp.iaddE dX0_tick_94 (by first | exact w32_of (by omega) (by omega) | rfl) ?_
          have ct95 := fun p p0 p1 => ct_wrap (d + 1) h' sh' p (by omega) (by omega) p0 p1
          rw [e0] at ct95
          refine Wp.callV1 (ct95 _ (by omega) (by omega)) wc_X0_83 iM_X0_wrap se_X0_wrap kC0 (sK2 (h := h') sh') dX0_tick_95 rfl (Nat.le_of_ble_eq_true rfl) rfl (Nat.le_of_ble_eq_true rfl) ?_
          refine Wp.iastore dX0_tick_98 (sK8 (h := h') sh') (by omega) (ilt (sL8 (h := h') sh') (by omega)) ?_
          refine Wp.goto (tgt := 119) dX0_tick_99 (by decide) ?_
          refine inc_5_4 rfl dX0_tick_119 (by first | exact w32_of (by omega) (by omega) | rfl) ?_
          refine Wp.goto (tgt := 5) dX0_tick_122 (by decide) ?_
          have ko := kor01 hany
          refine ih (k + 1) _ _ (by omega) (by omega) (by omega) ?_ ?_ (fun j j0 j1 => ?_)
          · exact fr.tr (Fr.e (by decide))
          · first | exact hany | (rw [ko.1]; exact Or.inr rfl) | (rw [ko.2]; exact hany)
          · by_cases hjk : j = k
            · subst hjk
              rw [show ∀ v, hA (sE h' 8 j v) 8 j = v from fun v => u1_s (hA h' 8) j v]
              first
              | (refine ⟨by omega, by omega, fun z => absurd c22 z, fun z => ?_⟩
                 first | omega | (exfalso; rw [ko.1] at z; omega))
              | (rw [if_pos (by omega)]; exact ⟨by omega, by omega, fun _ => by omega, fun _ => by omega⟩)
              | (rw [if_neg (by omega), if_pos (by omega)]; exact ⟨by omega, by omega, fun _ => by omega, fun _ => by omega⟩)
              | (rw [if_neg (by omega), if_neg (by omega)]; exact ⟨by omega, by omega, fun _ => by omega, fun _ => by omega⟩)
              | (by_cases z1 : hF h 2 0 ≤ hA h 11 j + 1 + plV (plS (hA h 11) (hF h 2 0) (hA h 11 j) (kand (hA h' 6 j) (kxor (kshl 1 j) (-1))) (hF h 2 1).toNat)
                 · rw [if_pos z1]; exact ⟨by omega, by omega, fun _ => by omega, fun _ => by omega⟩
                 · by_cases z2 : hA h 11 j + 1 + plV (plS (hA h 11) (hF h 2 0) (hA h 11 j) (kand (hA h' 6 j) (kxor (kshl 1 j) (-1))) (hF h 2 1).toNat) < 0
                   · rw [if_neg z1, if_pos z2]; exact ⟨by omega, by omega, fun _ => by omega, fun _ => by omega⟩
                   · rw [if_neg z1, if_neg z2]; exact ⟨by omega, by omega, fun _ => by omega, fun _ => by omega⟩)
              | (by_cases z1 : hF h 2 0 ≤ hA h 11 j + 1
                 · rw [if_pos z1]; exact ⟨by omega, by omega, fun _ => by omega, fun _ => by omega⟩
                 · rw [if_neg z1, if_neg (by omega)]; exact ⟨by omega, by omega, fun _ => by omega, fun _ => by omega⟩)
            · rw [show ∀ v, hA (sE h' 8 k v) 8 j = hA h' 8 j from fun v => u1_n (hA h' 8) v hjk]
              have := hj j j0 (by omega)
              refine ⟨this.1, this.2.1, this.2.2.1, fun z => this.2.2.2 ?_⟩
              first | exact z | (exfalso; rw [ko.1] at z; omega) | (rw [ko.2] at z; exact z)
      · refine Wp.ald_n (j := 0) rfl dX0_tick_25 ?_
        refine Wp.getf (k := 9) (tg := 2) kC0 (by decide) rfl lf_X0_40 dX0_tick_26 (sK2 (h := h') sh') (sF2_9 (h := h') sh') ?_
        refine Wp.ild (j := 4) rfl dX0_tick_29 ?_
        refine Wp.ald_n (j := 1) rfl dX0_tick_31 ?_
        refine Wp.ild (j := 4) rfl dX0_tick_32 ?_
        refine Wp.iaload dX0_tick_34 (sK11 (h := h') sh') (by omega) (ilt (sL11 (h := h') sh') (by omega)) (congrFun ea k) ?_
        refine Wp.iconst dX0_tick_35 (by decide) ?_
        refine Wp.iaddE dX0_tick_36 (by first | exact w32_of (by omega) (by omega) | rfl) ?_
        refine Wp.iastore dX0_tick_37 (sK8 (h := h') sh') (by omega) (ilt (sL8 (h := h') sh') (by omega)) ?_
        refine Wp.ild_n (j := 3) rfl dX0_tick_38 ?_
        refine Wp.ald_n (j := 0) rfl dX0_tick_39 ?_
        refine Wp.getf (k := 9) (tg := 2) kC0 (by decide) rfl lf_X0_40 dX0_tick_40 (sK2 (h := h') sh') (sF2_9 (h := h') sh') ?_
        refine Wp.ild (j := 4) rfl dX0_tick_43 ?_
        refine Wp.iaload dX0_tick_45 (sK8 (h := h') sh') (by omega) (ilt (sL8 (h := h') sh') (by omega)) (show hA (sE h' 8 k (hA h 11 k + 1)) 8 k = hA h 11 k + 1 from u1_s (hA h' 8) k _) ?_
        refine Wp.ald_n (j := 0) rfl dX0_tick_46 ?_
        refine Wp.getf (k := 0) (tg := 0) kC0 (by decide) rfl lf_X0_9 dX0_tick_47 (sK2 (h := h') sh') e0 ?_
        refine Wp.iclt dX0_tick_50 (by decide) (tgt := 57) (fun c50 => ?_) (fun c50 => ?_)
        · refine Wp.iconst dX0_tick_57 (by decide) ?_
          refine Wp.ior dX0_tick_58 ?_
          refine sti_5_3 rfl (dSt_n dX0_tick_59) ?_
          refine Wp.goto (tgt := 119) dX0_tick_60 (by decide) ?_
          refine inc_5_4 rfl dX0_tick_119 (by first | exact w32_of (by omega) (by omega) | rfl) ?_
          refine Wp.goto (tgt := 5) dX0_tick_122 (by decide) ?_
          have ko := kor01 hany
          refine ih (k + 1) _ _ (by omega) (by omega) (by omega) ?_ ?_ (fun j j0 j1 => ?_)
          · exact fr.tr (Fr.e (by decide))
          · first | exact hany | (rw [ko.1]; exact Or.inr rfl) | (rw [ko.2]; exact hany)
          · by_cases hjk : j = k
            · subst hjk
              rw [show ∀ v, hA (sE h' 8 j v) 8 j = v from fun v => u1_s (hA h' 8) j v]
              first
              | (refine ⟨by omega, by omega, fun z => absurd c22 z, fun z => ?_⟩
                 first | omega | (exfalso; rw [ko.1] at z; omega))
              | (rw [if_pos (by omega)]; exact ⟨by omega, by omega, fun _ => by omega, fun _ => by omega⟩)
              | (rw [if_neg (by omega), if_pos (by omega)]; exact ⟨by omega, by omega, fun _ => by omega, fun _ => by omega⟩)
              | (rw [if_neg (by omega), if_neg (by omega)]; exact ⟨by omega, by omega, fun _ => by omega, fun _ => by omega⟩)
              | (by_cases z1 : hF h 2 0 ≤ hA h 11 j + 1 + plV (plS (hA h 11) (hF h 2 0) (hA h 11 j) (kand (hA h' 6 j) (kxor (kshl 1 j) (-1))) (hF h 2 1).toNat)
                 · rw [if_pos z1]; exact ⟨by omega, by omega, fun _ => by omega, fun _ => by omega⟩
                 · by_cases z2 : hA h 11 j + 1 + plV (plS (hA h 11) (hF h 2 0) (hA h 11 j) (kand (hA h' 6 j) (kxor (kshl 1 j) (-1))) (hF h 2 1).toNat) < 0
                   · rw [if_neg z1, if_pos z2]; exact ⟨by omega, by omega, fun _ => by omega, fun _ => by omega⟩
                   · rw [if_neg z1, if_neg z2]; exact ⟨by omega, by omega, fun _ => by omega, fun _ => by omega⟩)
              | (by_cases z1 : hF h 2 0 ≤ hA h 11 j + 1
                 · rw [if_pos z1]; exact ⟨by omega, by omega, fun _ => by omega, fun _ => by omega⟩
                 · rw [if_neg z1, if_neg (by omega)]; exact ⟨by omega, by omega, fun _ => by omega, fun _ => by omega⟩)
            · rw [show ∀ v, hA (sE h' 8 k v) 8 j = hA h' 8 j from fun v => u1_n (hA h' 8) v hjk]
              have := hj j j0 (by omega)
              refine ⟨this.1, this.2.1, this.2.2.1, fun z => this.2.2.2 ?_⟩
              first | exact z | (exfalso; rw [ko.1] at z; omega) | (rw [ko.2] at z; exact z)
        · refine Wp.iconst dX0_tick_53 (by decide) ?_
          refine Wp.goto (tgt := 58) dX0_tick_54 (by decide) ?_
          refine Wp.ior dX0_tick_58 ?_
          refine sti_5_3 rfl (dSt_n dX0_tick_59) ?_
          refine Wp.goto (tgt := 119) dX0_tick_60 (by decide) ?_
          refine inc_5_4 rfl dX0_tick_119 (by first | exact w32_of (by omega) (by omega) | rfl) ?_
          refine Wp.goto (tgt := 5) dX0_tick_122 (by decide) ?_
          have ko := kor01 hany
          refine ih (k + 1) _ _ (by omega) (by omega) (by omega) ?_ ?_ (fun j j0 j1 => ?_)
          · exact fr.tr (Fr.e (by decide))
          · first | exact hany | (rw [ko.1]; exact Or.inr rfl) | (rw [ko.2]; exact hany)
          · by_cases hjk : j = k
            · subst hjk
              rw [show ∀ v, hA (sE h' 8 j v) 8 j = v from fun v => u1_s (hA h' 8) j v]
              first
              | (refine ⟨by omega, by omega, fun z => absurd c22 z, fun z => ?_⟩
                 first | omega | (exfalso; rw [ko.1] at z; omega))
              | (rw [if_pos (by omega)]; exact ⟨by omega, by omega, fun _ => by omega, fun _ => by omega⟩)
              | (rw [if_neg (by omega), if_pos (by omega)]; exact ⟨by omega, by omega, fun _ => by omega, fun _ => by omega⟩)
              | (rw [if_neg (by omega), if_neg (by omega)]; exact ⟨by omega, by omega, fun _ => by omega, fun _ => by omega⟩)
              | (by_cases z1 : hF h 2 0 ≤ hA h 11 j + 1 + plV (plS (hA h 11) (hF h 2 0) (hA h 11 j) (kand (hA h' 6 j) (kxor (kshl 1 j) (-1))) (hF h 2 1).toNat)
                 · rw [if_pos z1]; exact ⟨by omega, by omega, fun _ => by omega, fun _ => by omega⟩
                 · by_cases z2 : hA h 11 j + 1 + plV (plS (hA h 11) (hF h 2 0) (hA h 11 j) (kand (hA h' 6 j) (kxor (kshl 1 j) (-1))) (hF h 2 1).toNat) < 0
                   · rw [if_neg z1, if_pos z2]; exact ⟨by omega, by omega, fun _ => by omega, fun _ => by omega⟩
                   · rw [if_neg z1, if_neg z2]; exact ⟨by omega, by omega, fun _ => by omega, fun _ => by omega⟩)
              | (by_cases z1 : hF h 2 0 ≤ hA h 11 j + 1
                 · rw [if_pos z1]; exact ⟨by omega, by omega, fun _ => by omega, fun _ => by omega⟩
                 · rw [if_neg z1, if_neg (by omega)]; exact ⟨by omega, by omega, fun _ => by omega, fun _ => by omega⟩)
            · rw [show ∀ v, hA (sE h' 8 k v) 8 j = hA h' 8 j from fun v => u1_n (hA h' 8) v hjk]
              have := hj j j0 (by omega)
              refine ⟨this.1, this.2.1, this.2.2.1, fun z => this.2.2.2 ?_⟩
              first | exact z | (exfalso; rw [ko.1] at z; omega) | (rw [ko.2] at z; exact z)

theorem cq_tick11 (d : Nat) (h : mH) (sh : Sh h) (bi : BI h) (hrow : ∀ k, 0 ≤ k → k < hF h 2 1 → 0 ≤ hA h 11 k ∧ hA h 11 k < hF h 2 0) : Cq m_X0_tick (d + 2) [(2, 2), (2, 11), (2, 12)] h (fun r t => r = none ∧ Fr [8, 9, 12, 11] [] h t ∧ ∀ j, 0 ≤ j → j < hF h 2 1 → 0 ≤ hA t 11 j ∧ hA t 11 j < hF h 2 0) := by
  refine Cq.of ?_
  show Wp m_X0_tick ((d + 2)) 0 [(2, 2), (2, 11), (2, 12), (9, 0), (9, 0)] [] h _
  refine Wp.iconst dX0_tick_0 (by decide) ?_
  refine sti_5_3 rfl (dSt_n dX0_tick_1) ?_
  refine Wp.iconst dX0_tick_2 (by decide) ?_
  refine sti_5_4 rfl (dSt_w dX0_tick_3) ?_
  exact tick11_loop d h sh bi hrow _ 0 0 h (Nat.lt_succ_self _) (Int.le_refl _) bi.2.1.1 Fr.rf (Or.inl rfl) (fun j j0 j1 => by omega)

