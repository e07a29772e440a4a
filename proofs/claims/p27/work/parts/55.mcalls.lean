theorem mph1 (d : Nat) (h : mH) (sh : Sh h) (mb : MB h) (s : Int) (s0 : 0 ≤ s ∧ s < 4) (Q : Option mV → mH → Prop) (kq : (∀ j, 0 ≤ j → j < hF h 41 6 → 0 ≤ hA h 44 (100 * s + j) ∧ hA h 44 (100 * s + j) < hF h 41 5) → ∀ k : Int, Wp m_X6_phases (d + 1) 82 [(2, 41), (0, s), (0, k)] [] h Q) (kx : ∀ j, 0 ≤ j → j < hF h 41 6 → ¬ (0 ≤ hA h 44 (100 * s + j) ∧ hA h 44 (100 * s + j) < hF h 41 5) → Q (some (0, 0)) (sF h 41 0 2)) : ∀ (m : Nat) (k : Int), (hF h 41 6 - k).toNat < m → (0 ≤ k) → (∀ j, 0 ≤ j → j < k → 0 ≤ hA h 44 (100 * s + j) ∧ hA h 44 (100 * s + j) < hF h 41 5) → Wp m_X6_phases (d + 1) 44 [(2, 41), (0, s), (0, k)] [] h Q := by
  intro m
  induction m with
  | zero => intro k hm; exact absurd hm (Nat.not_lt_zero _)
  | succ m ih =>
    intro k hm k0 hj
    obtain ⟨⟨r0, r1⟩, ⟨n0, n1⟩, ⟨m0, m1⟩, hp, hq⟩ := id mb
    refine Wp.ild_n (j := 2) rfl dX6_phases_44 ?_
    refine Wp.ald_n (j := 0) rfl dX6_phases_45 ?_
    refine Wp.getf (k := 6) (tg := 0) kC6 (by decide) rfl lf_X6_141 dX6_phases_46 (sK41 (h := h) sh) (show hF _ 41 6 = hF h 41 6 from rfl) ?_
    refine Wp.icge dX6_phases_49 (by decide) (tgt := 82) (fun c49 => ?_) (fun c49 => ?_)
    · exact kq (fun j j0 j1 => hj j j0 (by omega)) k
    · refine Wp.ald_n (j := 0) rfl dX6_phases_52 ?_
      refine Wp.ald_n (j := 0) rfl dX6_phases_53 ?_
      refine Wp.getf (k := 4) (tg := 2) kC6 (by decide) rfl lf_X6_18 dX6_phases_54 (sK41 (h := h) sh) (sF41_4 (h := h) sh) ?_
      refine Wp.bipush dX6_phases_57 (by decide) ?_
      refine Wp.ild_n (j := 1) rfl dX6_phases_59 ?_
      refine Wp.imulE dX6_phases_60 (by first | exact w32_of (by omega) (by omega) | rfl) ?_
      refine Wp.ild_n (j := 2) rfl dX6_phases_61 ?_
      refine Wp.iaddE dX6_phases_62 (by first | exact w32_of (by omega) (by omega) | rfl) ?_
      refine Wp.laload dX6_phases_63 (sK44 (h := h) sh) (by omega) (ilt (sL44 (h := h) sh) (by omega)) (show hA _ 44 _ = hA h 44 _ from rfl) ?_
      refine Wp.callV1 (ct_misPhase d h (sK41 sh) _) wc_X6_147 iM_X6_isPhase se_X6_isPhase kC6 (sK41 (h := h) sh) dX6_phases_64 rfl (Nat.le_of_ble_eq_true rfl) rfl (Nat.le_of_ble_eq_true rfl) ?_
      refine Wp.ifne dX6_phases_67 (by decide) (tgt := 76) (fun c67 => ?_) (fun c67 => ?_)
      · refine inc_3_2 rfl dX6_phases_76 (by first | exact w32_of (by omega) (by omega) | rfl) ?_
        refine Wp.goto (tgt := 44) dX6_phases_79 (by decide) ?_
        refine ih (k + 1) (by omega) (by omega) (fun j j0 j1 => ?_)
        by_cases e : j = k
        · subst e
          by_cases hb : 0 ≤ hA h 44 (100 * s + j) ∧ hA h 44 (100 * s + j) < hF h 41 5
          · exact hb
          · rw [if_neg hb] at c67
            exact absurd rfl c67
        · exact hj j j0 (by omega)
      · refine Wp.ald_n (j := 0) rfl dX6_phases_70 ?_
        refine Wp.iconst dX6_phases_71 (by decide) ?_
        refine Wp.callV1 (ct_mno d h (sK41 sh) 2) wc_X6_123 iM_X6_no se_X6_no kC6 (sK41 (h := h) sh) dX6_phases_72 rfl (Nat.le_of_ble_eq_true rfl) rfl (Nat.le_of_ble_eq_true rfl) ?_
        refine Wp.zret rfl dX6_phases_75 (by omega) ?_
        exact kx k k0 (by omega) (fun hb => by rw [if_pos hb] at c67; exact absurd c67 (by decide))

theorem mph2 (d : Nat) (h : mH) (sh : Sh h) (mb : MB h) (s : Int) (s0 : 0 ≤ s ∧ s < 4) (hall : ∀ j, 0 ≤ j → j < hF h 41 6 → 0 ≤ hA h 44 (100 * s + j) ∧ hA h 44 (100 * s + j) < hF h 41 5) (Q : Option mV → mH → Prop) (kq : ∀ (t : mH) (k : Int), Fr [46] [] h t → (∀ j, 0 ≤ j → j < hF h 41 6 → hA t 46 j = hA h 44 (100 * s + j) ∧ 0 ≤ hA t 46 j ∧ hA t 46 j < hF h 41 5) → Wp m_X6_phases (d + 1) 116 [(2, 41), (0, s), (0, k)] [] t Q) : ∀ (m : Nat) (k : Int) (h' : mH), (hF h 41 6 - k).toNat < m → (Fr [46] [] h h') → (0 ≤ k) → (∀ j, 0 ≤ j → j < k → hA h' 46 j = hA h 44 (100 * s + j) ∧ 0 ≤ hA h' 46 j ∧ hA h' 46 j < hF h 41 5) → Wp m_X6_phases (d + 1) 84 [(2, 41), (0, s), (0, k)] [] h' Q := by
  intro m
  induction m with
  | zero => intro k h' hm; exact absurd hm (Nat.not_lt_zero _)
  | succ m ih =>
    intro k h' hm fr k0 hj
    obtain ⟨⟨r0, r1⟩, ⟨n0, n1⟩, ⟨m0, m1⟩, hp, hq⟩ := id mb
    have sh' := sh.fr fr (by decide +kernel) (by decide)
    have e6 : hF h' 41 6 = hF h 41 6 := fr.2.2.2.2.1 41 6 (by decide)
    have e44 : hA h' 44 = hA h 44 := fr.2.2.2.2.2 44 (by decide)
    refine Wp.ild_n (j := 2) rfl dX6_phases_84 ?_
    refine Wp.ald_n (j := 0) rfl dX6_phases_85 ?_
    refine Wp.getf (k := 6) (tg := 0) kC6 (by decide) rfl lf_X6_141 dX6_phases_86 (sK41 (h := h') sh') e6 ?_
    refine Wp.icge dX6_phases_89 (by decide) (tgt := 116) (fun c89 => ?_) (fun c89 => ?_)
    · exact kq _ _ fr (fun j j0 j1 => hj j j0 (by omega))
    · have hk := hall k k0 (by omega)
      refine Wp.ald_n (j := 0) rfl dX6_phases_92 ?_
      refine Wp.getf (k := 10) (tg := 2) kC6 (by decide) rfl lf_X6_32 dX6_phases_93 (sK41 (h := h') sh') (sF41_10 (h := h') sh') ?_
      refine Wp.ild_n (j := 2) rfl dX6_phases_96 ?_
      refine Wp.ald_n (j := 0) rfl dX6_phases_97 ?_
      refine Wp.getf (k := 4) (tg := 2) kC6 (by decide) rfl lf_X6_18 dX6_phases_98 (sK41 (h := h') sh') (sF41_4 (h := h') sh') ?_
      refine Wp.bipush dX6_phases_101 (by decide) ?_
      refine Wp.ild_n (j := 1) rfl dX6_phases_103 ?_
      refine Wp.imulE dX6_phases_104 (by first | exact w32_of (by omega) (by omega) | rfl) ?_
      refine Wp.ild_n (j := 2) rfl dX6_phases_105 ?_
      refine Wp.iaddE dX6_phases_106 (by first | exact w32_of (by omega) (by omega) | rfl) ?_
      refine Wp.laload dX6_phases_107 (sK44 (h := h') sh') (by omega) (ilt (sL44 (h := h') sh') (by omega)) (show hA _ 44 _ = hA h 44 _ from congrFun e44 _) ?_
      refine Wp.l2iE dX6_phases_108 (by first | exact w32_of (by omega) (by omega) | rfl) ?_
      refine Wp.iastore dX6_phases_109 (sK46 (h := h') sh') (by omega) (ilt (sL46 (h := h') sh') (by omega)) ?_
      refine inc_3_2 rfl dX6_phases_110 (by first | exact w32_of (by omega) (by omega) | rfl) ?_
      refine Wp.goto (tgt := 84) dX6_phases_113 (by decide) ?_
      refine ih (k + 1) _ (by omega) (fr.tr (Fr.e (by decide))) (by omega) (fun j j0 j1 => ?_)
      rw [hA_sEs]
      by_cases e : j = k
      · rw [e, u1_s]
        exact ⟨rfl, hk⟩
      · rw [u1_n _ _ e]
        exact hj j j0 (by omega)

theorem cq_mphases (d : Nat) (h : mH) (sh : Sh h) (mi : MI h) (s : Int) : Cq m_X6_phases (d + 1) [(2, 41), (0, s)] h (fun r t => (∃ y, r = some (0, y) ∧ ((y = 0 ∧ ¬ ((0 ≤ s ∧ s < 4) ∧ 0 ≤ hA h 43 s ∧ hF h 41 6 ≤ hA h 43 s ∧ ∀ j, 0 ≤ j → j < hF h 41 6 → 0 ≤ hA h 44 (100 * s + j) ∧ hA h 44 (100 * s + j) < hF h 41 5) ∧ Fr [] [(41, 0), (41, 1)] h t) ∨ (y = 1 ∧ ((0 ≤ s ∧ s < 4) ∧ 0 ≤ hA h 43 s ∧ hF h 41 6 ≤ hA h 43 s ∧ ∀ j, 0 ≤ j → j < hF h 41 6 → 0 ≤ hA h 44 (100 * s + j) ∧ hA h 44 (100 * s + j) < hF h 41 5) ∧ (∀ j, 0 ≤ j → j < hF h 41 6 → hA t 46 j = hA h 44 (100 * s + j)) ∧ Fr [46] [(41, 0), (41, 1)] h t))) ∧ MI t ∧ Fr mAs mGs h t) := by
  refine Cq.of ?_
  show Wp m_X6_phases ((d + 1)) 0 [(2, 41), (0, s), (9, 0)] [] h _
  obtain ⟨⟨⟨r0, r1⟩, ⟨n0, n1⟩, ⟨m0, m1⟩, hp, hq⟩, hms, ⟨⟨z0, z1⟩, hsp⟩, hme⟩ := id mi
  refine Wp.ald_n (j := 0) rfl dX6_phases_0 ?_
  refine Wp.iconst dX6_phases_1 (by decide) ?_
  refine Wp.putf (k := 1) (tg := 0) kC6 (by decide) rfl rfl lf_X6_117 dX6_phases_2 (sK41 (h := h) sh) ?_
  refine Wp.ald_n (j := 0) rfl dX6_phases_5 ?_
  refine Wp.ald_n (j := 0) rfl dX6_phases_6 ?_
  refine Wp.ild_n (j := 1) rfl dX6_phases_7 ?_
  obtain ⟨_, t8, ct8, ⟨y8, rfl, hy8, hz8⟩, e8⟩ := cq_sheeted d _ sh.m1 s
  rw [e8] at ct8
  have hz8 : y8 ≤ 0 ↔ (0 ≤ s ∧ s < 4) ∧ 0 ≤ hA h 43 s := hz8
  refine Wp.callV1 (ct8) wc_X6_127 iM_X6_sheeted se_X6_sheeted kC6 (sK41 (h := h) sh) dX6_phases_8 rfl (Nat.le_of_ble_eq_true rfl) rfl (Nat.le_of_ble_eq_true rfl) ?_
  refine Wp.putf (k := 0) (tg := 0) kC6 (by decide) rfl rfl lf_X6_120 dX6_phases_11 (sK41 (h := h) sh) ?_
  refine Wp.ald_n (j := 0) rfl dX6_phases_14 ?_
  refine Wp.getf (k := 0) (tg := 0) kC6 (by decide) rfl lf_X6_120 dX6_phases_15 (sK41 (h := h) sh) rfl ?_
  refine Wp.ifle dX6_phases_18 (by decide) (tgt := 23) (fun c18 => ?_) (fun c18 => ?_)
  · have hz8 := hz8.mp c18
    refine Wp.ald_n (j := 0) rfl dX6_phases_23 ?_
    refine Wp.getf (k := 3) (tg := 2) kC6 (by decide) rfl lf_X6_15 dX6_phases_24 (sK41 (h := h) sh) (sF41_3 (h := h) sh) ?_
    refine Wp.ild_n (j := 1) rfl dX6_phases_27 ?_
    refine Wp.iaload dX6_phases_28 (sK43 (h := h) sh) (by omega) (ilt (sL43 (h := h) sh) (by omega)) (show hA _ 43 _ = hA h 43 _ from rfl) ?_
    refine Wp.ald_n (j := 0) rfl dX6_phases_29 ?_
    refine Wp.getf (k := 6) (tg := 0) kC6 (by decide) rfl lf_X6_141 dX6_phases_30 (sK41 (h := h) sh) (show hF _ 41 6 = hF h 41 6 from rfl) ?_
    refine Wp.icge dX6_phases_33 (by decide) (tgt := 42) (fun c33 => ?_) (fun c33 => ?_)
    · refine Wp.iconst dX6_phases_42 (by decide) ?_
      refine sti_3_2 rfl (dSt_n dX6_phases_43) ?_
      have shp : Sh (sF (sF h 41 1 0) 41 0 y8) := sh.m ((Fr.f (by decide)).tr (Fr.f (by decide)))
      refine mph1 d (sF (sF h 41 1 0) 41 0 y8) shp mi.1 s hz8.1 _ (fun hall k => ?_) (fun j j0 j1 hn => ⟨⟨_, rfl, Or.inl ⟨rfl, fun z => hn (z.2.2.2 j j0 j1), ((Fr.f (by decide)).tr ((Fr.f (by decide)).tr (Fr.f (by decide))))⟩⟩, mi, ((Fr.f (by decide)).tr ((Fr.f (by decide)).tr (Fr.f (by decide))))⟩) _ 0 (Nat.lt_succ_self _) (by omega) (fun j j0 j1 => absurd j1 (by omega))
      refine Wp.iconst dX6_phases_82 (by decide) ?_
      refine sti_3_2 rfl (dSt_n dX6_phases_83) ?_
      refine mph2 d (sF (sF h 41 1 0) 41 0 y8) shp mi.1 s hz8.1 hall _ (fun t k2 frt ht => ?_) _ 0 _ (Nat.lt_succ_self _) Fr.rf (by omega) (fun j j0 j1 => absurd j1 (by omega))
      refine Wp.iconst dX6_phases_116 (by decide) ?_
      refine Wp.zret rfl dX6_phases_117 (Or.inr rfl) ?_
      refine ⟨⟨_, rfl, Or.inr ⟨rfl, ⟨hz8.1, hz8.2, by omega, hall⟩, fun j j0 j1 => (ht j j0 j1).1, ((Fr.f (by decide)).tr (Fr.f (by decide))).tr (frt.mono (by decide) (by simp))⟩⟩, ⟨?_, MS.fr (h := (sF (sF h 41 1 0) 41 0 y8)) mi.2.1 frt (by decide), MT.fr (h := (sF (sF h 41 1 0) 41 0 y8)) mi.2.2.1 frt (by decide) (by decide), ME.fr (h := (sF (sF h 41 1 0) 41 0 y8)) mi.2.2.2 frt (by decide) (by decide) (by decide)⟩, ((Fr.f (by decide)).tr (Fr.f (by decide))).tr (frt.mono (by decide) (by simp))⟩
      unfold MB
      rw [frt.2.2.2.2.1 41 5 (by decide), frt.2.2.2.2.1 41 6 (by decide), frt.2.2.2.2.1 41 8 (by decide), frt.2.2.2.2.2 47 (by decide)]
      exact ⟨⟨r0, r1⟩, ⟨n0, n1⟩, ⟨m0, m1⟩, fun j j0 j1 => (ht j j0 j1).2, hq⟩
    · refine Wp.ald_n (j := 0) rfl dX6_phases_36 ?_
      refine Wp.iconst dX6_phases_37 (by decide) ?_
      refine Wp.callV1 (ct_mno d (sF (sF h 41 1 0) 41 0 y8) (sK41 (h := h) sh) 4) wc_X6_123 iM_X6_no se_X6_no kC6 (sK41 (h := h) sh) dX6_phases_38 rfl (Nat.le_of_ble_eq_true rfl) rfl (Nat.le_of_ble_eq_true rfl) ?_
      refine Wp.zret rfl dX6_phases_41 (by omega) ?_
      exact ⟨⟨_, rfl, Or.inl ⟨rfl, fun z => by have z9 := z.2.2.1; omega, ((Fr.f (by decide)).tr ((Fr.f (by decide)).tr (Fr.f (by decide))))⟩⟩, mi, ((Fr.f (by decide)).tr ((Fr.f (by decide)).tr (Fr.f (by decide))))⟩
  · refine Wp.iconst dX6_phases_21 (by decide) ?_
    refine Wp.zret rfl dX6_phases_22 (by omega) ?_
    exact ⟨⟨_, rfl, Or.inl ⟨rfl, fun z => c18 (hz8.mpr ⟨z.1, z.2.1⟩), ((Fr.f (by decide)).tr (Fr.f (by decide)))⟩⟩, mi, ((Fr.f (by decide)).tr (Fr.f (by decide)))⟩

theorem mro1 (d : Nat) (h : mH) (sh : Sh h) (mb : MB h) (x a : Int) (a0 : 0 ≤ a ∧ a < hF h 41 6) (Q : Option mV → mH → Prop) (kq : ∀ (t : mH) (b : Int) (x4 x5 : mV), Fr [49] [] h t → (∀ j, 0 ≤ j → j < hF h 41 6 → (hA t 49 (24 * a + j) ≠ 0 ↔ RWx x a j (hF h 41 6))) → (∀ y, (y < 24 * a ∨ 24 * a + 24 ≤ y ∨ (24 * a + hF h 41 6 ≤ y)) → hA t 49 y = hA h 49 y) → Wp m_X6_roads (d + 1) 158 [(2, 41), (0, x), (0, a), (0, b), x4, x5] [] t Q) : ∀ (m : Nat) (b : Int) (x4 x5 : mV) (h' : mH), (hF h 41 6 - b).toNat < m → (Fr [49] [] h h') → (0 ≤ b) → (b ≤ hF h 41 6) → (∀ j, 0 ≤ j → j < b → (hA h' 49 (24 * a + j) ≠ 0 ↔ RWx x a j (hF h 41 6))) → (∀ y, (y < 24 * a ∨ 24 * a + b ≤ y) → hA h' 49 y = hA h 49 y) → Wp m_X6_roads (d + 1) 37 [(2, 41), (0, x), (0, a), (0, b), x4, x5] [] h' Q := by
  intro m
  induction m with
  | zero => intro b x4 x5 h' hm; exact absurd hm (Nat.not_lt_zero _)
  | succ m ih =>
    intro b x4 x5 h' hm fr b0 b1 iv iw
    obtain ⟨⟨r0, r1⟩, ⟨n0, n1⟩, ⟨m0, m1⟩, hp, hq⟩ := id mb
    have sh' := sh.fr fr (by decide +kernel) (by decide)
    have e6 : hF h' 41 6 = hF h 41 6 := fr.2.2.2.2.1 41 6 (by decide)
    refine Wp.ild_n (j := 3) rfl dX6_roads_37 ?_
    refine Wp.ald_n (j := 0) rfl dX6_roads_38 ?_
    refine Wp.getf (k := 6) (tg := 0) kC6 (by decide) rfl lf_X6_141 dX6_roads_39 (sK41 (h := h') sh') e6 ?_
    refine Wp.icge dX6_roads_42 (by decide) (tgt := 158) (fun c42 => ?_) (fun c42 => ?_)
    · exact kq _ _ _ _ fr (fun j j0 j1 => iv j j0 (by omega)) (fun y y0 => iw y (by omega))
    · refine Wp.ild_n (j := 3) rfl dX6_roads_45 ?_
      refine Wp.ild_n (j := 2) rfl dX6_roads_46 ?_
      refine Wp.ald_n (j := 0) rfl dX6_roads_47 ?_
      refine Wp.getf (k := 6) (tg := 0) kC6 (by decide) rfl lf_X6_141 dX6_roads_48 (sK41 (h := h') sh') e6 ?_
      refine Wp.iaddE dX6_roads_51 (by first | exact w32_of (by omega) (by omega) | rfl) ?_
      refine Wp.iconst dX6_roads_52 (by decide) ?_
      refine Wp.isubE dX6_roads_53 (by first | exact w32_of (by omega) (by omega) | rfl) ?_
      refine Wp.ald_n (j := 0) rfl dX6_roads_54 ?_
      refine Wp.getf (k := 6) (tg := 0) kC6 (by decide) rfl lf_X6_141 dX6_roads_55 (sK41 (h := h') sh') e6 ?_
      refine Wp.iremE dX6_roads_58 (by omega) rfl ?_
      refine Wp.icne dX6_roads_59 (by decide) (tgt := 66) (fun c59 => ?_) (fun c59 => ?_)
      · refine Wp.iconst dX6_roads_66 (by decide) ?_
        refine sti_6_4 rfl (dSt_w dX6_roads_67) ?_
        refine Wp.ild_n (j := 2) rfl dX6_roads_69 ?_
        refine Wp.ild_n (j := 3) rfl dX6_roads_70 ?_
        refine Wp.ald_n (j := 0) rfl dX6_roads_71 ?_
        refine Wp.getf (k := 6) (tg := 0) kC6 (by decide) rfl lf_X6_141 dX6_roads_72 (sK41 (h := h') sh') e6 ?_
        refine Wp.iaddE dX6_roads_75 (by first | exact w32_of (by omega) (by omega) | rfl) ?_
        refine Wp.iconst dX6_roads_76 (by decide) ?_
        refine Wp.isubE dX6_roads_77 (by first | exact w32_of (by omega) (by omega) | rfl) ?_
        refine Wp.ald_n (j := 0) rfl dX6_roads_78 ?_
        refine Wp.getf (k := 6) (tg := 0) kC6 (by decide) rfl lf_X6_141 dX6_roads_79 (sK41 (h := h') sh') e6 ?_
        refine Wp.iremE dX6_roads_82 (by omega) rfl ?_
        refine Wp.icne dX6_roads_83 (by decide) (tgt := 90) (fun c83 => ?_) (fun c83 => ?_)
        · refine Wp.iconst dX6_roads_90 (by decide) ?_
          refine sti_6_5 rfl (dSt_w dX6_roads_91) ?_
          refine Wp.ald_n (j := 0) rfl dX6_roads_93 ?_
          refine Wp.getf (k := 13) (tg := 2) kC6 (by decide) rfl lf_X6_41 dX6_roads_94 (sK41 (h := h') sh') (sF41_13 (h := h') sh') ?_
          refine Wp.bipush dX6_roads_97 (by decide) ?_
          refine Wp.ild_n (j := 2) rfl dX6_roads_99 ?_
          refine Wp.imulE dX6_roads_100 (by first | exact w32_of (by omega) (by omega) | rfl) ?_
          refine Wp.ild_n (j := 3) rfl dX6_roads_101 ?_
          refine Wp.iaddE dX6_roads_102 (by first | exact w32_of (by omega) (by omega) | rfl) ?_
          refine Wp.ild_n (j := 1) rfl dX6_roads_103 ?_
          refine Wp.iconst dX6_roads_104 (by decide) ?_
          refine Wp.icne dX6_roads_105 (by decide) (tgt := 121) (fun c105 => ?_) (fun c105 => ?_)
          · refine Wp.ild_n (j := 1) rfl dX6_roads_121 ?_
            refine Wp.iconst dX6_roads_122 (by decide) ?_
            refine Wp.icne dX6_roads_123 (by decide) (tgt := 131) (fun c123 => ?_) (fun c123 => ?_)
            · refine Wp.ild_n (j := 1) rfl dX6_roads_131 ?_
              refine Wp.iconst dX6_roads_132 (by decide) ?_
              refine Wp.icne dX6_roads_133 (by decide) (tgt := 150) (fun c133 => ?_) (fun c133 => ?_)
              · refine Wp.iconst dX6_roads_150 (by decide) ?_
                refine Wp.zastore dX6_roads_151 (sK49 (h := h') sh') (by omega) (ilt (sL49 (h := h') sh') (by omega)) (by omega) ?_
                refine inc_6_3 rfl dX6_roads_152 (by first | exact w32_of (by omega) (by omega) | rfl) ?_
                refine Wp.goto (tgt := 37) dX6_roads_155 (by decide) ?_
                refine ih (b + 1) _ _ _ (by omega) (fr.tr (Fr.e (by decide))) (by omega) (by omega) (fun j j0 j1 => ?_) (fun y y0 => ?_)
                · rw [hA_sEs]
                  by_cases e : j = b
                  · rw [e, u1_s]
                    have t1 := rem_prv (n := hF h 41 6) a0.1 a0.2
                    have t2 := rem_prv (n := hF h 41 6) (a := b) b0 (by omega)
                    unfold RWx
                    omega
                  · rw [u1_n _ _ (by omega)]
                    exact iv j j0 (by omega)
                · rw [hA_sEs, u1_n _ _ (by omega)]
                  exact iw y (by omega)
              · refine Wp.ild (j := 4) rfl dX6_roads_136 ?_
                refine Wp.ifne dX6_roads_138 (by decide) (tgt := 146) (fun c => absurd c (by decide)) (fun _ => ?_)
                refine Wp.ild (j := 5) rfl dX6_roads_141 ?_
                refine Wp.ifeq dX6_roads_143 (by decide) (tgt := 150) (fun _ => ?_) (fun c => absurd c (by decide))
                refine Wp.iconst dX6_roads_150 (by decide) ?_
                refine Wp.zastore dX6_roads_151 (sK49 (h := h') sh') (by omega) (ilt (sL49 (h := h') sh') (by omega)) (by omega) ?_
                refine inc_6_3 rfl dX6_roads_152 (by first | exact w32_of (by omega) (by omega) | rfl) ?_
                refine Wp.goto (tgt := 37) dX6_roads_155 (by decide) ?_
                refine ih (b + 1) _ _ _ (by omega) (fr.tr (Fr.e (by decide))) (by omega) (by omega) (fun j j0 j1 => ?_) (fun y y0 => ?_)
                · rw [hA_sEs]
                  by_cases e : j = b
                  · rw [e, u1_s]
                    have t1 := rem_prv (n := hF h 41 6) a0.1 a0.2
                    have t2 := rem_prv (n := hF h 41 6) (a := b) b0 (by omega)
                    unfold RWx
                    omega
                  · rw [u1_n _ _ (by omega)]
                    exact iv j j0 (by omega)
                · rw [hA_sEs, u1_n _ _ (by omega)]
                  exact iw y (by omega)
            · refine Wp.ild (j := 4) rfl dX6_roads_126 ?_
              refine Wp.goto (tgt := 151) dX6_roads_128 (by decide) ?_
              refine Wp.zastore dX6_roads_151 (sK49 (h := h') sh') (by omega) (ilt (sL49 (h := h') sh') (by omega)) (by omega) ?_
              refine inc_6_3 rfl dX6_roads_152 (by first | exact w32_of (by omega) (by omega) | rfl) ?_
              refine Wp.goto (tgt := 37) dX6_roads_155 (by decide) ?_
              refine ih (b + 1) _ _ _ (by omega) (fr.tr (Fr.e (by decide))) (by omega) (by omega) (fun j j0 j1 => ?_) (fun y y0 => ?_)
              · rw [hA_sEs]
                by_cases e : j = b
                · rw [e, u1_s]
                  have t1 := rem_prv (n := hF h 41 6) a0.1 a0.2
                  have t2 := rem_prv (n := hF h 41 6) (a := b) b0 (by omega)
                  unfold RWx
                  omega
                · rw [u1_n _ _ (by omega)]
                  exact iv j j0 (by omega)
              · rw [hA_sEs, u1_n _ _ (by omega)]
                exact iw y (by omega)
          · refine Wp.ild_n (j := 2) rfl dX6_roads_108 ?_
            refine Wp.ild_n (j := 3) rfl dX6_roads_109 ?_
            refine Wp.iceq dX6_roads_110 (by decide) (tgt := 117) (fun c110 => ?_) (fun c110 => ?_)
            · refine Wp.iconst dX6_roads_117 (by decide) ?_
              refine Wp.goto (tgt := 151) dX6_roads_118 (by decide) ?_
              refine Wp.zastore dX6_roads_151 (sK49 (h := h') sh') (by omega) (ilt (sL49 (h := h') sh') (by omega)) (by omega) ?_
              refine inc_6_3 rfl dX6_roads_152 (by first | exact w32_of (by omega) (by omega) | rfl) ?_
              refine Wp.goto (tgt := 37) dX6_roads_155 (by decide) ?_
              refine ih (b + 1) _ _ _ (by omega) (fr.tr (Fr.e (by decide))) (by omega) (by omega) (fun j j0 j1 => ?_) (fun y y0 => ?_)
              · rw [hA_sEs]
                by_cases e : j = b
                · rw [e, u1_s]
                  have t1 := rem_prv (n := hF h 41 6) a0.1 a0.2
                  have t2 := rem_prv (n := hF h 41 6) (a := b) b0 (by omega)
                  unfold RWx
                  omega
                · rw [u1_n _ _ (by omega)]
                  exact iv j j0 (by omega)
              · rw [hA_sEs, u1_n _ _ (by omega)]
                exact iw y (by omega)
            · refine Wp.iconst dX6_roads_113 (by decide) ?_
              refine Wp.goto (tgt := 151) dX6_roads_114 (by decide) ?_
              refine Wp.zastore dX6_roads_151 (sK49 (h := h') sh') (by omega) (ilt (sL49 (h := h') sh') (by omega)) (by omega) ?_
              refine inc_6_3 rfl dX6_roads_152 (by first | exact w32_of (by omega) (by omega) | rfl) ?_
              refine Wp.goto (tgt := 37) dX6_roads_155 (by decide) ?_
              refine ih (b + 1) _ _ _ (by omega) (fr.tr (Fr.e (by decide))) (by omega) (by omega) (fun j j0 j1 => ?_) (fun y y0 => ?_)
              · rw [hA_sEs]
                by_cases e : j = b
                · rw [e, u1_s]
                  have t1 := rem_prv (n := hF h 41 6) a0.1 a0.2
                  have t2 := rem_prv (n := hF h 41 6) (a := b) b0 (by omega)
                  unfold RWx
                  omega
                · rw [u1_n _ _ (by omega)]
                  exact iv j j0 (by omega)
              · rw [hA_sEs, u1_n _ _ (by omega)]
                exact iw y (by omega)
        · refine Wp.iconst dX6_roads_86 (by decide) ?_
          refine Wp.goto (tgt := 91) dX6_roads_87 (by decide) ?_
          refine sti_6_5 rfl (dSt_w dX6_roads_91) ?_
          refine Wp.ald_n (j := 0) rfl dX6_roads_93 ?_
          refine Wp.getf (k := 13) (tg := 2) kC6 (by decide) rfl lf_X6_41 dX6_roads_94 (sK41 (h := h') sh') (sF41_13 (h := h') sh') ?_
          refine Wp.bipush dX6_roads_97 (by decide) ?_
          refine Wp.ild_n (j := 2) rfl dX6_roads_99 ?_
          refine Wp.imulE dX6_roads_100 (by first | exact w32_of (by omega) (by omega) | rfl) ?_
          refine Wp.ild_n (j := 3) rfl dX6_roads_101 ?_
          refine Wp.iaddE dX6_roads_102 (by first | exact w32_of (by omega) (by omega) | rfl) ?_
          refine Wp.ild_n (j := 1) rfl dX6_roads_103 ?_
          refine Wp.iconst dX6_roads_104 (by decide) ?_
          refine Wp.icne dX6_roads_105 (by decide) (tgt := 121) (fun c105 => ?_) (fun c105 => ?_)
          · refine Wp.ild_n (j := 1) rfl dX6_roads_121 ?_
            refine Wp.iconst dX6_roads_122 (by decide) ?_
            refine Wp.icne dX6_roads_123 (by decide) (tgt := 131) (fun c123 => ?_) (fun c123 => ?_)
            · refine Wp.ild_n (j := 1) rfl dX6_roads_131 ?_
              refine Wp.iconst dX6_roads_132 (by decide) ?_
              refine Wp.icne dX6_roads_133 (by decide) (tgt := 150) (fun c133 => ?_) (fun c133 => ?_)
              · refine Wp.iconst dX6_roads_150 (by decide) ?_
                refine Wp.zastore dX6_roads_151 (sK49 (h := h') sh') (by omega) (ilt (sL49 (h := h') sh') (by omega)) (by omega) ?_
                refine inc_6_3 rfl dX6_roads_152 (by first | exact w32_of (by omega) (by omega) | rfl) ?_
                refine Wp.goto (tgt := 37) dX6_roads_155 (by decide) ?_
                refine ih (b + 1) _ _ _ (by omega) (fr.tr (Fr.e (by decide))) (by omega) (by omega) (fun j j0 j1 => ?_) (fun y y0 => ?_)
                · rw [hA_sEs]
                  by_cases e : j = b
                  · rw [e, u1_s]
                    have t1 := rem_prv (n := hF h 41 6) a0.1 a0.2
                    have t2 := rem_prv (n := hF h 41 6) (a := b) b0 (by omega)
                    unfold RWx
                    omega
                  · rw [u1_n _ _ (by omega)]
                    exact iv j j0 (by omega)
                · rw [hA_sEs, u1_n _ _ (by omega)]
                  exact iw y (by omega)
              · refine Wp.ild (j := 4) rfl dX6_roads_136 ?_
                refine Wp.ifne dX6_roads_138 (by decide) (tgt := 146) (fun c => absurd c (by decide)) (fun _ => ?_)
                refine Wp.ild (j := 5) rfl dX6_roads_141 ?_
                refine Wp.ifeq dX6_roads_143 (by decide) (tgt := 150) (fun c => absurd c (by decide)) (fun _ => ?_)
                refine Wp.iconst dX6_roads_146 (by decide) ?_
                refine Wp.goto (tgt := 151) dX6_roads_147 (by decide) ?_
                refine Wp.zastore dX6_roads_151 (sK49 (h := h') sh') (by omega) (ilt (sL49 (h := h') sh') (by omega)) (by omega) ?_
                refine inc_6_3 rfl dX6_roads_152 (by first | exact w32_of (by omega) (by omega) | rfl) ?_
                refine Wp.goto (tgt := 37) dX6_roads_155 (by decide) ?_
                refine ih (b + 1) _ _ _ (by omega) (fr.tr (Fr.e (by decide))) (by omega) (by omega) (fun j j0 j1 => ?_) (fun y y0 => ?_)
                · rw [hA_sEs]
                  by_cases e : j = b
                  · rw [e, u1_s]
                    have t1 := rem_prv (n := hF h 41 6) a0.1 a0.2
                    have t2 := rem_prv (n := hF h 41 6) (a := b) b0 (by omega)
                    unfold RWx
                    omega
                  · rw [u1_n _ _ (by omega)]
                    exact iv j j0 (by omega)
                · rw [hA_sEs, u1_n _ _ (by omega)]
                  exact iw y (by omega)
            · refine Wp.ild (j := 4) rfl dX6_roads_126 ?_
              refine Wp.goto (tgt := 151) dX6_roads_128 (by decide) ?_
              refine Wp.zastore dX6_roads_151 (sK49 (h := h') sh') (by omega) (ilt (sL49 (h := h') sh') (by omega)) (by omega) ?_
              refine inc_6_3 rfl dX6_roads_152 (by first | exact w32_of (by omega) (by omega) | rfl) ?_
              refine Wp.goto (tgt := 37) dX6_roads_155 (by decide) ?_
              refine ih (b + 1) _ _ _ (by omega) (fr.tr (Fr.e (by decide))) (by omega) (by omega) (fun j j0 j1 => ?_) (fun y y0 => ?_)
              · rw [hA_sEs]
                by_cases e : j = b
                · rw [e, u1_s]
                  have t1 := rem_prv (n := hF h 41 6) a0.1 a0.2
                  have t2 := rem_prv (n := hF h 41 6) (a := b) b0 (by omega)
                  unfold RWx
                  omega
                · rw [u1_n _ _ (by omega)]
                  exact iv j j0 (by omega)
              · rw [hA_sEs, u1_n _ _ (by omega)]
                exact iw y (by omega)
          · refine Wp.ild_n (j := 2) rfl dX6_roads_108 ?_
            refine Wp.ild_n (j := 3) rfl dX6_roads_109 ?_
            refine Wp.iceq dX6_roads_110 (by decide) (tgt := 117) (fun c110 => ?_) (fun c110 => ?_)
            · refine Wp.iconst dX6_roads_117 (by decide) ?_
              refine Wp.goto (tgt := 151) dX6_roads_118 (by decide) ?_
              refine Wp.zastore dX6_roads_151 (sK49 (h := h') sh') (by omega) (ilt (sL49 (h := h') sh') (by omega)) (by omega) ?_
              refine inc_6_3 rfl dX6_roads_152 (by first | exact w32_of (by omega) (by omega) | rfl) ?_
              refine Wp.goto (tgt := 37) dX6_roads_155 (by decide) ?_
              refine ih (b + 1) _ _ _ (by omega) (fr.tr (Fr.e (by decide))) (by omega) (by omega) (fun j j0 j1 => ?_) (fun y y0 => ?_)
              · rw [hA_sEs]
                by_cases e : j = b
                · rw [e, u1_s]
                  have t1 := rem_prv (n := hF h 41 6) a0.1 a0.2
                  have t2 := rem_prv (n := hF h 41 6) (a := b) b0 (by omega)
                  unfold RWx
                  omega
                · rw [u1_n _ _ (by omega)]
                  exact iv j j0 (by omega)
              · rw [hA_sEs, u1_n _ _ (by omega)]
                exact iw y (by omega)
            · refine Wp.iconst dX6_roads_113 (by decide) ?_
              refine Wp.goto (tgt := 151) dX6_roads_114 (by decide) ?_
              refine Wp.zastore dX6_roads_151 (sK49 (h := h') sh') (by omega) (ilt (sL49 (h := h') sh') (by omega)) (by omega) ?_
              refine inc_6_3 rfl dX6_roads_152 (by first | exact w32_of (by omega) (by omega) | rfl) ?_
              refine Wp.goto (tgt := 37) dX6_roads_155 (by decide) ?_
              refine ih (b + 1) _ _ _ (by omega) (fr.tr (Fr.e (by decide))) (by omega) (by omega) (fun j j0 j1 => ?_) (fun y y0 => ?_)
              · rw [hA_sEs]
                by_cases e : j = b
                · rw [e, u1_s]
                  have t1 := rem_prv (n := hF h 41 6) a0.1 a0.2
                  have t2 := rem_prv (n := hF h 41 6) (a := b) b0 (by omega)
                  unfold RWx
                  omega
                · rw [u1_n _ _ (by omega)]
                  exact iv j j0 (by omega)
              · rw [hA_sEs, u1_n _ _ (by omega)]
                exact iw y (by omega)
      · refine Wp.iconst dX6_roads_62 (by decide) ?_
        refine Wp.goto (tgt := 67) dX6_roads_63 (by decide) ?_
        refine sti_6_4 rfl (dSt_w dX6_roads_67) ?_
        refine Wp.ild_n (j := 2) rfl dX6_roads_69 ?_
        refine Wp.ild_n (j := 3) rfl dX6_roads_70 ?_
        refine Wp.ald_n (j := 0) rfl dX6_roads_71 ?_
        refine Wp.getf (k := 6) (tg := 0) kC6 (by decide) rfl lf_X6_141 dX6_roads_72 (sK41 (h := h') sh') e6 ?_
        refine Wp.iaddE dX6_roads_75 (by first | exact w32_of (by omega) (by omega) | rfl) ?_
        refine Wp.iconst dX6_roads_76 (by decide) ?_
        refine Wp.isubE dX6_roads_77 (by first | exact w32_of (by omega) (by omega) | rfl) ?_
        refine Wp.ald_n (j := 0) rfl dX6_roads_78 ?_
        refine Wp.getf (k := 6) (tg := 0) kC6 (by decide) rfl lf_X6_141 dX6_roads_79 (sK41 (h := h') sh') e6 ?_
        refine Wp.iremE dX6_roads_82 (by omega) rfl ?_
        refine Wp.icne dX6_roads_83 (by decide) (tgt := 90) (fun c83 => ?_) (fun c83 => ?_)
        · refine Wp.iconst dX6_roads_90 (by decide) ?_
          refine sti_6_5 rfl (dSt_w dX6_roads_91) ?_
          refine Wp.ald_n (j := 0) rfl dX6_roads_93 ?_
          refine Wp.getf (k := 13) (tg := 2) kC6 (by decide) rfl lf_X6_41 dX6_roads_94 (sK41 (h := h') sh') (sF41_13 (h := h') sh') ?_
          refine Wp.bipush dX6_roads_97 (by decide) ?_
          refine Wp.ild_n (j := 2) rfl dX6_roads_99 ?_
          refine Wp.imulE dX6_roads_100 (by first | exact w32_of (by omega) (by omega) | rfl) ?_
          refine Wp.ild_n (j := 3) rfl dX6_roads_101 ?_
          refine Wp.iaddE dX6_roads_102 (by first | exact w32_of (by omega) (by omega) | rfl) ?_
          refine Wp.ild_n (j := 1) rfl dX6_roads_103 ?_
          refine Wp.iconst dX6_roads_104 (by decide) ?_
          refine Wp.icne dX6_roads_105 (by decide) (tgt := 121) (fun c105 => ?_) (fun c105 => ?_)
          · refine Wp.ild_n (j := 1) rfl dX6_roads_121 ?_
            refine Wp.iconst dX6_roads_122 (by decide) ?_
            refine Wp.icne dX6_roads_123 (by decide) (tgt := 131) (fun c123 => ?_) (fun c123 => ?_)
            · refine Wp.ild_n (j := 1) rfl dX6_roads_131 ?_
              refine Wp.iconst dX6_roads_132 (by decide) ?_
              refine Wp.icne dX6_roads_133 (by decide) (tgt := 150) (fun c133 => ?_) (fun c133 => ?_)
              · refine Wp.iconst dX6_roads_150 (by decide) ?_
                refine Wp.zastore dX6_roads_151 (sK49 (h := h') sh') (by omega) (ilt (sL49 (h := h') sh') (by omega)) (by omega) ?_
                refine inc_6_3 rfl dX6_roads_152 (by first | exact w32_of (by omega) (by omega) | rfl) ?_
                refine Wp.goto (tgt := 37) dX6_roads_155 (by decide) ?_
                refine ih (b + 1) _ _ _ (by omega) (fr.tr (Fr.e (by decide))) (by omega) (by omega) (fun j j0 j1 => ?_) (fun y y0 => ?_)
                · rw [hA_sEs]
                  by_cases e : j = b
                  · rw [e, u1_s]
                    have t1 := rem_prv (n := hF h 41 6) a0.1 a0.2
                    have t2 := rem_prv (n := hF h 41 6) (a := b) b0 (by omega)
                    unfold RWx
                    omega
                  · rw [u1_n _ _ (by omega)]
                    exact iv j j0 (by omega)
                · rw [hA_sEs, u1_n _ _ (by omega)]
                  exact iw y (by omega)
              · refine Wp.ild (j := 4) rfl dX6_roads_136 ?_
                refine Wp.ifne dX6_roads_138 (by decide) (tgt := 146) (fun _ => ?_) (fun c => absurd c (by decide))
                refine Wp.iconst dX6_roads_146 (by decide) ?_
                refine Wp.goto (tgt := 151) dX6_roads_147 (by decide) ?_
                refine Wp.zastore dX6_roads_151 (sK49 (h := h') sh') (by omega) (ilt (sL49 (h := h') sh') (by omega)) (by omega) ?_
                refine inc_6_3 rfl dX6_roads_152 (by first | exact w32_of (by omega) (by omega) | rfl) ?_
                refine Wp.goto (tgt := 37) dX6_roads_155 (by decide) ?_
                refine ih (b + 1) _ _ _ (by omega) (fr.tr (Fr.e (by decide))) (by omega) (by omega) (fun j j0 j1 => ?_) (fun y y0 => ?_)
                · rw [hA_sEs]
                  by_cases e : j = b
                  · rw [e, u1_s]
                    have t1 := rem_prv (n := hF h 41 6) a0.1 a0.2
                    have t2 := rem_prv (n := hF h 41 6) (a := b) b0 (by omega)
                    unfold RWx
                    omega
                  · rw [u1_n _ _ (by omega)]
                    exact iv j j0 (by omega)
                · rw [hA_sEs, u1_n _ _ (by omega)]
                  exact iw y (by omega)
            · refine Wp.ild (j := 4) rfl dX6_roads_126 ?_
              refine Wp.goto (tgt := 151) dX6_roads_128 (by decide) ?_
              refine Wp.zastore dX6_roads_151 (sK49 (h := h') sh') (by omega) (ilt (sL49 (h := h') sh') (by omega)) (by omega) ?_
              refine inc_6_3 rfl dX6_roads_152 (by first | exact w32_of (by omega) (by omega) | rfl) ?_
              refine Wp.goto (tgt := 37) dX6_roads_155 (by decide) ?_
              refine ih (b + 1) _ _ _ (by omega) (fr.tr (Fr.e (by decide))) (by omega) (by omega) (fun j j0 j1 => ?_) (fun y y0 => ?_)
              · rw [hA_sEs]
                by_cases e : j = b
                · rw [e, u1_s]
                  have t1 := rem_prv (n := hF h 41 6) a0.1 a0.2
                  have t2 := rem_prv (n := hF h 41 6) (a := b) b0 (by omega)
                  unfold RWx
                  omega
                · rw [u1_n _ _ (by omega)]
                  exact iv j j0 (by omega)
              · rw [hA_sEs, u1_n _ _ (by omega)]
                exact iw y (by omega)
          · refine Wp.ild_n (j := 2) rfl dX6_roads_108 ?_
            refine Wp.ild_n (j := 3) rfl dX6_roads_109 ?_
            refine Wp.iceq dX6_roads_110 (by decide) (tgt := 117) (fun c110 => ?_) (fun c110 => ?_)
            · refine Wp.iconst dX6_roads_117 (by decide) ?_
              refine Wp.goto (tgt := 151) dX6_roads_118 (by decide) ?_
              refine Wp.zastore dX6_roads_151 (sK49 (h := h') sh') (by omega) (ilt (sL49 (h := h') sh') (by omega)) (by omega) ?_
              refine inc_6_3 rfl dX6_roads_152 (by first | exact w32_of (by omega) (by omega) | rfl) ?_
              refine Wp.goto (tgt := 37) dX6_roads_155 (by decide) ?_
              refine ih (b + 1) _ _ _ (by omega) (fr.tr (Fr.e (by decide))) (by omega) (by omega) (fun j j0 j1 => ?_) (fun y y0 => ?_)
              · rw [hA_sEs]
                by_cases e : j = b
                · rw [e, u1_s]
                  have t1 := rem_prv (n := hF h 41 6) a0.1 a0.2
                  have t2 := rem_prv (n := hF h 41 6) (a := b) b0 (by omega)
                  unfold RWx
                  omega
                · rw [u1_n _ _ (by omega)]
                  exact iv j j0 (by omega)
              · rw [hA_sEs, u1_n _ _ (by omega)]
                exact iw y (by omega)
            · refine Wp.iconst dX6_roads_113 (by decide) ?_
              refine Wp.goto (tgt := 151) dX6_roads_114 (by decide) ?_
              refine Wp.zastore dX6_roads_151 (sK49 (h := h') sh') (by omega) (ilt (sL49 (h := h') sh') (by omega)) (by omega) ?_
              refine inc_6_3 rfl dX6_roads_152 (by first | exact w32_of (by omega) (by omega) | rfl) ?_
              refine Wp.goto (tgt := 37) dX6_roads_155 (by decide) ?_
              refine ih (b + 1) _ _ _ (by omega) (fr.tr (Fr.e (by decide))) (by omega) (by omega) (fun j j0 j1 => ?_) (fun y y0 => ?_)
              · rw [hA_sEs]
                by_cases e : j = b
                · rw [e, u1_s]
                  have t1 := rem_prv (n := hF h 41 6) a0.1 a0.2
                  have t2 := rem_prv (n := hF h 41 6) (a := b) b0 (by omega)
                  unfold RWx
                  omega
                · rw [u1_n _ _ (by omega)]
                  exact iv j j0 (by omega)
              · rw [hA_sEs, u1_n _ _ (by omega)]
                exact iw y (by omega)
        · refine Wp.iconst dX6_roads_86 (by decide) ?_
          refine Wp.goto (tgt := 91) dX6_roads_87 (by decide) ?_
          refine sti_6_5 rfl (dSt_w dX6_roads_91) ?_
          refine Wp.ald_n (j := 0) rfl dX6_roads_93 ?_
          refine Wp.getf (k := 13) (tg := 2) kC6 (by decide) rfl lf_X6_41 dX6_roads_94 (sK41 (h := h') sh') (sF41_13 (h := h') sh') ?_
          refine Wp.bipush dX6_roads_97 (by decide) ?_
          refine Wp.ild_n (j := 2) rfl dX6_roads_99 ?_
          refine Wp.imulE dX6_roads_100 (by first | exact w32_of (by omega) (by omega) | rfl) ?_
          refine Wp.ild_n (j := 3) rfl dX6_roads_101 ?_
          refine Wp.iaddE dX6_roads_102 (by first | exact w32_of (by omega) (by omega) | rfl) ?_
          refine Wp.ild_n (j := 1) rfl dX6_roads_103 ?_
          refine Wp.iconst dX6_roads_104 (by decide) ?_
          refine Wp.icne dX6_roads_105 (by decide) (tgt := 121) (fun c105 => ?_) (fun c105 => ?_)
          · refine Wp.ild_n (j := 1) rfl dX6_roads_121 ?_
            refine Wp.iconst dX6_roads_122 (by decide) ?_
            refine Wp.icne dX6_roads_123 (by decide) (tgt := 131) (fun c123 => ?_) (fun c123 => ?_)
            · refine Wp.ild_n (j := 1) rfl dX6_roads_131 ?_
              refine Wp.iconst dX6_roads_132 (by decide) ?_
              refine Wp.icne dX6_roads_133 (by decide) (tgt := 150) (fun c133 => ?_) (fun c133 => ?_)
              · refine Wp.iconst dX6_roads_150 (by decide) ?_
                refine Wp.zastore dX6_roads_151 (sK49 (h := h') sh') (by omega) (ilt (sL49 (h := h') sh') (by omega)) (by omega) ?_
                refine inc_6_3 rfl dX6_roads_152 (by first | exact w32_of (by omega) (by omega) | rfl) ?_
                refine Wp.goto (tgt := 37) dX6_roads_155 (by decide) ?_
                refine ih (b + 1) _ _ _ (by omega) (fr.tr (Fr.e (by decide))) (by omega) (by omega) (fun j j0 j1 => ?_) (fun y y0 => ?_)
                · rw [hA_sEs]
                  by_cases e : j = b
                  · rw [e, u1_s]
                    have t1 := rem_prv (n := hF h 41 6) a0.1 a0.2
                    have t2 := rem_prv (n := hF h 41 6) (a := b) b0 (by omega)
                    unfold RWx
                    omega
                  · rw [u1_n _ _ (by omega)]
                    exact iv j j0 (by omega)
                · rw [hA_sEs, u1_n _ _ (by omega)]
                  exact iw y (by omega)
              · refine Wp.ild (j := 4) rfl dX6_roads_136 ?_
                refine Wp.ifne dX6_roads_138 (by decide) (tgt := 146) (fun _ => ?_) (fun c => absurd c (by decide))
                refine Wp.iconst dX6_roads_146 (by decide) ?_
                refine Wp.goto (tgt := 151) dX6_roads_147 (by decide) ?_
                refine Wp.zastore dX6_roads_151 (sK49 (h := h') sh') (by omega) (ilt (sL49 (h := h') sh') (by omega)) (by omega) ?_
                refine inc_6_3 rfl dX6_roads_152 (by first | exact w32_of (by omega) (by omega) | rfl) ?_
                refine Wp.goto (tgt := 37) dX6_roads_155 (by decide) ?_
                refine ih (b + 1) _ _ _ (by omega) (fr.tr (Fr.e (by decide))) (by omega) (by omega) (fun j j0 j1 => ?_) (fun y y0 => ?_)
                · rw [hA_sEs]
                  by_cases e : j = b
                  · rw [e, u1_s]
                    have t1 := rem_prv (n := hF h 41 6) a0.1 a0.2
                    have t2 := rem_prv (n := hF h 41 6) (a := b) b0 (by omega)
                    unfold RWx
                    omega
                  · rw [u1_n _ _ (by omega)]
                    exact iv j j0 (by omega)
                · rw [hA_sEs, u1_n _ _ (by omega)]
                  exact iw y (by omega)
            · refine Wp.ild (j := 4) rfl dX6_roads_126 ?_
              refine Wp.goto (tgt := 151) dX6_roads_128 (by decide) ?_
              refine Wp.zastore dX6_roads_151 (sK49 (h := h') sh') (by omega) (ilt (sL49 (h := h') sh') (by omega)) (by omega) ?_
              refine inc_6_3 rfl dX6_roads_152 (by first | exact w32_of (by omega) (by omega) | rfl) ?_
              refine Wp.goto (tgt := 37) dX6_roads_155 (by decide) ?_
              refine ih (b + 1) _ _ _ (by omega) (fr.tr (Fr.e (by decide))) (by omega) (by omega) (fun j j0 j1 => ?_) (fun y y0 => ?_)
              · rw [hA_sEs]
                by_cases e : j = b
                · rw [e, u1_s]
                  have t1 := rem_prv (n := hF h 41 6) a0.1 a0.2
                  have t2 := rem_prv (n := hF h 41 6) (a := b) b0 (by omega)
                  unfold RWx
                  omega
                · rw [u1_n _ _ (by omega)]
                  exact iv j j0 (by omega)
              · rw [hA_sEs, u1_n _ _ (by omega)]
                exact iw y (by omega)
          · refine Wp.ild_n (j := 2) rfl dX6_roads_108 ?_
            refine Wp.ild_n (j := 3) rfl dX6_roads_109 ?_
            refine Wp.iceq dX6_roads_110 (by decide) (tgt := 117) (fun c110 => ?_) (fun c110 => ?_)
            · refine Wp.iconst dX6_roads_117 (by decide) ?_
              refine Wp.goto (tgt := 151) dX6_roads_118 (by decide) ?_
              refine Wp.zastore dX6_roads_151 (sK49 (h := h') sh') (by omega) (ilt (sL49 (h := h') sh') (by omega)) (by omega) ?_
              refine inc_6_3 rfl dX6_roads_152 (by first | exact w32_of (by omega) (by omega) | rfl) ?_
              refine Wp.goto (tgt := 37) dX6_roads_155 (by decide) ?_
              refine ih (b + 1) _ _ _ (by omega) (fr.tr (Fr.e (by decide))) (by omega) (by omega) (fun j j0 j1 => ?_) (fun y y0 => ?_)
              · rw [hA_sEs]
                by_cases e : j = b
                · rw [e, u1_s]
                  have t1 := rem_prv (n := hF h 41 6) a0.1 a0.2
                  have t2 := rem_prv (n := hF h 41 6) (a := b) b0 (by omega)
                  unfold RWx
                  omega
                · rw [u1_n _ _ (by omega)]
                  exact iv j j0 (by omega)
              · rw [hA_sEs, u1_n _ _ (by omega)]
                exact iw y (by omega)
            · refine Wp.iconst dX6_roads_113 (by decide) ?_
              refine Wp.goto (tgt := 151) dX6_roads_114 (by decide) ?_
              refine Wp.zastore dX6_roads_151 (sK49 (h := h') sh') (by omega) (ilt (sL49 (h := h') sh') (by omega)) (by omega) ?_
              refine inc_6_3 rfl dX6_roads_152 (by first | exact w32_of (by omega) (by omega) | rfl) ?_
              refine Wp.goto (tgt := 37) dX6_roads_155 (by decide) ?_
              refine ih (b + 1) _ _ _ (by omega) (fr.tr (Fr.e (by decide))) (by omega) (by omega) (fun j j0 j1 => ?_) (fun y y0 => ?_)
              · rw [hA_sEs]
                by_cases e : j = b
                · rw [e, u1_s]
                  have t1 := rem_prv (n := hF h 41 6) a0.1 a0.2
                  have t2 := rem_prv (n := hF h 41 6) (a := b) b0 (by omega)
                  unfold RWx
                  omega
                · rw [u1_n _ _ (by omega)]
                  exact iv j j0 (by omega)
              · rw [hA_sEs, u1_n _ _ (by omega)]
                exact iw y (by omega)

theorem mro2 (d : Nat) (h : mH) (sh : Sh h) (mb : MB h) (x : Int) (Q : Option mV → mH → Prop) (kq : ∀ (t : mH) (a : Int) (x3 x4 x5 : mV), Fr [49] [] h t → (∀ i j, 0 ≤ i → i < hF h 41 6 → 0 ≤ j → j < hF h 41 6 → (hA t 49 (24 * i + j) ≠ 0 ↔ RWx x i j (hF h 41 6))) → (∀ i j, 0 ≤ i → i < 24 → 0 ≤ j → j < 24 → (hF h 41 6 ≤ i ∨ hF h 41 6 ≤ j) → hA t 49 (24 * i + j) = hA h 49 (24 * i + j)) → Wp m_X6_roads (d + 1) 164 [(2, 41), (0, x), (0, a), x3, x4, x5] [] t Q) : ∀ (m : Nat) (a : Int) (x3 x4 x5 : mV) (h' : mH), (hF h 41 6 - a).toNat < m → (Fr [49] [] h h') → (0 ≤ a) → (∀ i j, 0 ≤ i → i < a → 0 ≤ j → j < hF h 41 6 → (hA h' 49 (24 * i + j) ≠ 0 ↔ RWx x i j (hF h 41 6))) → (∀ i j, 0 ≤ i → i < 24 → 0 ≤ j → j < 24 → (hF h 41 6 ≤ i ∨ hF h 41 6 ≤ j) → hA h' 49 (24 * i + j) = hA h 49 (24 * i + j)) → Wp m_X6_roads (d + 1) 27 [(2, 41), (0, x), (0, a), x3, x4, x5] [] h' Q := by
  intro m
  induction m with
  | zero => intro a x3 x4 x5 h' hm; exact absurd hm (Nat.not_lt_zero _)
  | succ m ih =>
    intro a x3 x4 x5 h' hm fr a0 iv iw
    obtain ⟨⟨r0, r1⟩, ⟨n0, n1⟩, ⟨m0, m1⟩, hp, hq⟩ := id mb
    have sh' := sh.fr fr (by decide +kernel) (by decide)
    have e6 : hF h' 41 6 = hF h 41 6 := fr.2.2.2.2.1 41 6 (by decide)
    refine Wp.ild_n (j := 2) rfl dX6_roads_27 ?_
    refine Wp.ald_n (j := 0) rfl dX6_roads_28 ?_
    refine Wp.getf (k := 6) (tg := 0) kC6 (by decide) rfl lf_X6_141 dX6_roads_29 (sK41 (h := h') sh') e6 ?_
    refine Wp.icge dX6_roads_32 (by decide) (tgt := 164) (fun c32 => ?_) (fun c32 => ?_)
    · exact kq _ _ _ _ _ fr (fun i j i0 i1 j0 j1 => iv i j i0 (by omega) j0 j1) iw
    · refine Wp.iconst dX6_roads_35 (by decide) ?_
      refine sti_6_3 rfl (dSt_n dX6_roads_36) ?_
      refine mro1 d h' sh' (mb.fr fr (by decide) (by decide) (by decide) (by decide) (by decide)) x a ⟨a0, by omega⟩ Q (fun t b y4 y5 frt kv kw => ?_) _ 0 _ _ _ (Nat.lt_succ_self _) Fr.rf (by omega) (by omega) (fun j j0 j1 => absurd j1 (by omega)) (fun y _ => rfl)
      rw [e6] at kv kw
      refine inc_6_2 rfl dX6_roads_158 (w32_of (by omega) (by omega)) ?_
      refine Wp.goto (tgt := 27) dX6_roads_161 (by decide) ?_
      refine ih (a + 1) _ _ _ t (by omega) (fr.tr frt) (by omega) (fun i j i0 i1 j0 j1 => ?_) (fun i j i0 i1 j0 j1 z => ?_)
      · by_cases e : i = a
        · rw [e]
          exact kv j j0 j1
        · rw [kw _ (by omega)]
          exact iv i j i0 (by omega) j0 j1
      · rw [kw _ (by omega)]
        exact iw i j i0 i1 j0 j1 z

theorem cq_mroads (d : Nat) (h : mH) (sh : Sh h) (mi : MI h) (x : Int) : Cq m_X6_roads (d + 1) [(2, 41), (0, x)] h (fun r t => (∃ y, r = some (0, y) ∧ ((y = 0 ∧ ¬ (0 ≤ x ∧ x ≤ 3) ∧ Fr [] [(41, 0), (41, 1)] h t) ∨ (y = 1 ∧ (0 ≤ x ∧ x ≤ 3) ∧ ((∀ i j, 0 ≤ i → i < hF h 41 6 → 0 ≤ j → j < hF h 41 6 → (hA t 49 (24 * i + j) ≠ 0 ↔ RWx x i j (hF h 41 6))) ∧ (∀ i j, 0 ≤ i → i < 24 → 0 ≤ j → j < 24 → (hF h 41 6 ≤ i ∨ hF h 41 6 ≤ j) → hA t 49 (24 * i + j) = hA h 49 (24 * i + j))) ∧ Fr [49] [(41, 0), (41, 1)] h t))) ∧ MI t ∧ Fr mAs mGs h t) := by
  refine Cq.of ?_
  show Wp m_X6_roads ((d + 1)) 0 [(2, 41), (0, x), (9, 0), (9, 0), (9, 0), (9, 0)] [] h _
  refine Wp.ald_n (j := 0) rfl dX6_roads_0 ?_
  refine Wp.iconst dX6_roads_1 (by decide) ?_
  refine Wp.putf (k := 1) (tg := 0) kC6 (by decide) rfl rfl lf_X6_117 dX6_roads_2 (sK41 (h := h) sh) ?_
  refine Wp.ald_n (j := 0) rfl dX6_roads_5 ?_
  refine Wp.iconst dX6_roads_6 (by decide) ?_
  refine Wp.putf (k := 0) (tg := 0) kC6 (by decide) rfl rfl lf_X6_120 dX6_roads_7 (sK41 (h := h) sh) ?_
  refine Wp.ild_n (j := 1) rfl dX6_roads_10 ?_
  refine Wp.iflt dX6_roads_11 (by decide) (tgt := 19) (fun c11 => ?_) (fun c11 => ?_)
  · refine Wp.ald_n (j := 0) rfl dX6_roads_19 ?_
    refine Wp.iconst dX6_roads_20 (by decide) ?_
    refine Wp.callV1 (ct_mno d (sF (sF h 41 1 0) 41 0 0) (sK41 (h := h) sh) 2) wc_X6_123 iM_X6_no se_X6_no kC6 (sK41 (h := h) sh) dX6_roads_21 rfl (Nat.le_of_ble_eq_true rfl) rfl (Nat.le_of_ble_eq_true rfl) ?_
    refine Wp.zret rfl dX6_roads_24 (by omega) ?_
    exact ⟨⟨_, rfl, Or.inl ⟨rfl, by omega, ((Fr.f (by decide)).tr ((Fr.f (by decide)).tr (Fr.f (by decide))))⟩⟩, mi, ((Fr.f (by decide)).tr ((Fr.f (by decide)).tr (Fr.f (by decide))))⟩
  · refine Wp.ild_n (j := 1) rfl dX6_roads_14 ?_
    refine Wp.iconst dX6_roads_15 (by decide) ?_
    refine Wp.icle dX6_roads_16 (by decide) (tgt := 25) (fun c16 => ?_) (fun c16 => ?_)
    · refine Wp.iconst dX6_roads_25 (by decide) ?_
      refine sti_6_2 rfl (dSt_n dX6_roads_26) ?_
      refine mro2 d (sF (sF h 41 1 0) 41 0 0) sh.m0 mi.1 x _ (fun t a x3 x4 x5 frt kv kw => ?_) _ 0 _ _ _ _ (Nat.lt_succ_self _) Fr.rf (by omega) (fun i j i0 i1 => absurd i1 (by omega)) (fun i j _ _ _ _ _ => rfl)
      refine Wp.iconst dX6_roads_164 (by decide) ?_
      refine Wp.zret rfl dX6_roads_165 (Or.inr rfl) ?_
      exact ⟨⟨_, rfl, Or.inr ⟨rfl, by omega, ⟨kv, kw⟩, ((Fr.f (by decide)).tr (Fr.f (by decide))).tr (frt.mono (by decide) (by simp))⟩⟩, MI.fr (h := (sF (sF h 41 1 0) 41 0 0)) mi (frt.mono (by decide) (by simp)), ((Fr.f (by decide)).tr (Fr.f (by decide))).tr (frt.mono (by decide) (by simp))⟩
    · refine Wp.ald_n (j := 0) rfl dX6_roads_19 ?_
      refine Wp.iconst dX6_roads_20 (by decide) ?_
      refine Wp.callV1 (ct_mno d (sF (sF h 41 1 0) 41 0 0) (sK41 (h := h) sh) 2) wc_X6_123 iM_X6_no se_X6_no kC6 (sK41 (h := h) sh) dX6_roads_21 rfl (Nat.le_of_ble_eq_true rfl) rfl (Nat.le_of_ble_eq_true rfl) ?_
      refine Wp.zret rfl dX6_roads_24 (by omega) ?_
      exact ⟨⟨_, rfl, Or.inl ⟨rfl, by omega, ((Fr.f (by decide)).tr ((Fr.f (by decide)).tr (Fr.f (by decide))))⟩⟩, mi, ((Fr.f (by decide)).tr ((Fr.f (by decide)).tr (Fr.f (by decide))))⟩

theorem mpu1 (d : Nat) (h : mH) (sh : Sh h) (s : Int) (s0 : 0 ≤ s ∧ s < 4) (mn : Int) (n1 : mn ≤ 16) (Q : Option mV → mH → Prop) (kq : (∀ j, 0 ≤ j → j < mn → 0 ≤ hA h 44 (100 * s + j) ∧ hA h 44 (100 * s + j) ≤ 4096) → ∀ k : Int, Wp m_X6_push (d + 1) 109 [(2, 41), (0, s), (0, mn), (0, k)] [] h Q) (kx : ∀ j, 0 ≤ j → j < mn → ¬ (0 ≤ hA h 44 (100 * s + j) ∧ hA h 44 (100 * s + j) ≤ 4096) → Q (some (0, 0)) (sF h 41 0 2)) : ∀ (m : Nat) (k : Int), (mn - k).toNat < m → (0 ≤ k) → (∀ j, 0 ≤ j → j < k → 0 ≤ hA h 44 (100 * s + j) ∧ hA h 44 (100 * s + j) ≤ 4096) → Wp m_X6_push (d + 1) 58 [(2, 41), (0, s), (0, mn), (0, k)] [] h Q := by
  intro m
  induction m with
  | zero => intro k hm; exact absurd hm (Nat.not_lt_zero _)
  | succ m ih =>
    intro k hm k0 hj
    refine Wp.ild_n (j := 3) rfl dX6_push_58 ?_
    refine Wp.ild_n (j := 2) rfl dX6_push_59 ?_
    refine Wp.icge dX6_push_60 (by decide) (tgt := 109) (fun c60 => ?_) (fun c60 => ?_)
    · exact kq (fun j j0 j1 => hj j j0 (by omega)) k
    · refine Wp.ald_n (j := 0) rfl dX6_push_63 ?_
      refine Wp.getf (k := 4) (tg := 2) kC6 (by decide) rfl lf_X6_18 dX6_push_64 (sK41 (h := h) sh) (sF41_4 (h := h) sh) ?_
      refine Wp.bipush dX6_push_67 (by decide) ?_
      refine Wp.ild_n (j := 1) rfl dX6_push_69 ?_
      refine Wp.imulE dX6_push_70 (by first | exact w32_of (by omega) (by omega) | rfl) ?_
      refine Wp.ild_n (j := 3) rfl dX6_push_71 ?_
      refine Wp.iaddE dX6_push_72 (by first | exact w32_of (by omega) (by omega) | rfl) ?_
      refine Wp.laload dX6_push_73 (sK44 (h := h) sh) (by omega) (ilt (sL44 (h := h) sh) (by omega)) (show hA _ 44 _ = hA h 44 _ from rfl) ?_
      refine Wp.lconst (z := 0) dX6_push_74 (by decide) ?_
      refine Wp.lclt dX6_push_75 dX6_push_76 (by decide) (tgt := 97) (fun c75 => ?_) (fun c75 => ?_)
      · refine Wp.ald_n (j := 0) rfl dX6_push_97 ?_
        refine Wp.iconst dX6_push_98 (by decide) ?_
        refine Wp.callV1 (ct_mno d h (sK41 sh) 2) wc_X6_123 iM_X6_no se_X6_no kC6 (sK41 (h := h) sh) dX6_push_99 rfl (Nat.le_of_ble_eq_true rfl) rfl (Nat.le_of_ble_eq_true rfl) ?_
        refine Wp.zret rfl dX6_push_102 (by omega) ?_
        exact kx k k0 (by omega) (by omega)
      · refine Wp.ald_n (j := 0) rfl dX6_push_79 ?_
        refine Wp.getf (k := 4) (tg := 2) kC6 (by decide) rfl lf_X6_18 dX6_push_80 (sK41 (h := h) sh) (sF41_4 (h := h) sh) ?_
        refine Wp.bipush dX6_push_83 (by decide) ?_
        refine Wp.ild_n (j := 1) rfl dX6_push_85 ?_
        refine Wp.imulE dX6_push_86 (by first | exact w32_of (by omega) (by omega) | rfl) ?_
        refine Wp.ild_n (j := 3) rfl dX6_push_87 ?_
        refine Wp.iaddE dX6_push_88 (by first | exact w32_of (by omega) (by omega) | rfl) ?_
        refine Wp.laload dX6_push_89 (sK44 (h := h) sh) (by omega) (ilt (sL44 (h := h) sh) (by omega)) (show hA _ 44 _ = hA h 44 _ from rfl) ?_
        refine Wp.ldc2 (z := 4096) lk_X6_157 (by decide) dX6_push_90 ?_
        refine Wp.lcle dX6_push_93 dX6_push_94 (by decide) (tgt := 103) (fun c93 => ?_) (fun c93 => ?_)
        · refine inc_4_3 rfl dX6_push_103 (by first | exact w32_of (by omega) (by omega) | rfl) ?_
          refine Wp.goto (tgt := 58) dX6_push_106 (by decide) ?_
          refine ih (k + 1) (by omega) (by omega) (fun j j0 j1 => ?_)
          by_cases e : j = k
          · subst e
            omega
          · exact hj j j0 (by omega)
        · refine Wp.ald_n (j := 0) rfl dX6_push_97 ?_
          refine Wp.iconst dX6_push_98 (by decide) ?_
          refine Wp.callV1 (ct_mno d h (sK41 sh) 2) wc_X6_123 iM_X6_no se_X6_no kC6 (sK41 (h := h) sh) dX6_push_99 rfl (Nat.le_of_ble_eq_true rfl) rfl (Nat.le_of_ble_eq_true rfl) ?_
          refine Wp.zret rfl dX6_push_102 (by omega) ?_
          exact kx k k0 (by omega) (by omega)

theorem mpu2 (d : Nat) (h : mH) (sh : Sh h) (s : Int) (s0 : 0 ≤ s ∧ s < 4) (mn : Int) (n1 : mn ≤ 16) (hall : ∀ j, 0 ≤ j → j < mn → 0 ≤ hA h 44 (100 * s + j) ∧ hA h 44 (100 * s + j) ≤ 4096) (hq : ∀ i, 0 ≤ i → i < 16 → 0 ≤ hA h 47 i ∧ hA h 47 i ≤ 4096) (Q : Option mV → mH → Prop) (kq : ∀ (t : mH) (k : Int), Fr [47] [] h t → (∀ j, 0 ≤ j → j < 16 → 0 ≤ hA t 47 j ∧ hA t 47 j ≤ 4096) → (∀ j, hA t 47 j = if 0 ≤ j ∧ j < mn then hA h 44 (100 * s + j) else hA h 47 j) → Wp m_X6_push (d + 1) 145 [(2, 41), (0, s), (0, mn), (0, k)] [] t Q) : ∀ (m : Nat) (k : Int) (h' : mH), (mn - k).toNat < m → (Fr [47] [] h h') → (0 ≤ k) → (k ≤ mn) → (∀ j, 0 ≤ j → j < 16 → 0 ≤ hA h' 47 j ∧ hA h' 47 j ≤ 4096) → (∀ j, hA h' 47 j = if 0 ≤ j ∧ j < k then hA h 44 (100 * s + j) else hA h 47 j) → Wp m_X6_push (d + 1) 116 [(2, 41), (0, s), (0, mn), (0, k)] [] h' Q := by
  intro m
  induction m with
  | zero => intro k h' hm; exact absurd hm (Nat.not_lt_zero _)
  | succ m ih =>
    intro k h' hm fr k0 k1 hj iv
    have sh' := sh.fr fr (by decide +kernel) (by decide)
    have e44 : hA h' 44 = hA h 44 := fr.2.2.2.2.2 44 (by decide)
    refine Wp.ild_n (j := 3) rfl dX6_push_116 ?_
    refine Wp.ild_n (j := 2) rfl dX6_push_117 ?_
    refine Wp.icge dX6_push_118 (by decide) (tgt := 145) (fun c118 => ?_) (fun c118 => ?_)
    · have ek : k = mn := by omega
      rw [ek] at iv
      exact kq _ _ fr hj iv
    · have hk := hall k k0 (by omega)
      refine Wp.ald_n (j := 0) rfl dX6_push_121 ?_
      refine Wp.getf (k := 11) (tg := 2) kC6 (by decide) rfl lf_X6_35 dX6_push_122 (sK41 (h := h') sh') (sF41_11 (h := h') sh') ?_
      refine Wp.ild_n (j := 3) rfl dX6_push_125 ?_
      refine Wp.ald_n (j := 0) rfl dX6_push_126 ?_
      refine Wp.getf (k := 4) (tg := 2) kC6 (by decide) rfl lf_X6_18 dX6_push_127 (sK41 (h := h') sh') (sF41_4 (h := h') sh') ?_
      refine Wp.bipush dX6_push_130 (by decide) ?_
      refine Wp.ild_n (j := 1) rfl dX6_push_132 ?_
      refine Wp.imulE dX6_push_133 (by first | exact w32_of (by omega) (by omega) | rfl) ?_
      refine Wp.ild_n (j := 3) rfl dX6_push_134 ?_
      refine Wp.iaddE dX6_push_135 (by first | exact w32_of (by omega) (by omega) | rfl) ?_
      refine Wp.laload dX6_push_136 (sK44 (h := h') sh') (by omega) (ilt (sL44 (h := h') sh') (by omega)) (show hA _ 44 _ = hA h 44 _ from congrFun e44 _) ?_
      refine Wp.l2iE dX6_push_137 (by first | exact w32_of (by omega) (by omega) | rfl) ?_
      refine Wp.iastore dX6_push_138 (sK47 (h := h') sh') (by omega) (ilt (sL47 (h := h') sh') (by omega)) ?_
      refine inc_4_3 rfl dX6_push_139 (by first | exact w32_of (by omega) (by omega) | rfl) ?_
      refine Wp.goto (tgt := 116) dX6_push_142 (by decide) ?_
      refine ih (k + 1) _ (by omega) (fr.tr (Fr.e (by decide))) (by omega) (by omega) (fun j j0 j1 => ?_) (fun j => ?_)
      · rw [hA_sEs]
        by_cases e : j = k
        · rw [e, u1_s]
          exact hk
        · rw [u1_n _ _ e]
          exact hj j j0 (by omega)
      · rw [hA_sEs]
        by_cases e : j = k
        · rw [e, u1_s, if_pos (by omega)]
        · rw [u1_n _ _ e, iv j]
          by_cases z : 0 ≤ j ∧ j < k
          · rw [if_pos z, if_pos (by omega)]
          · rw [if_neg z, if_neg (by omega)]

theorem cq_mpush (d : Nat) (h : mH) (sh : Sh h) (mi : MI h) (s mn : Int) : Cq m_X6_push (d + 1) [(2, 41), (0, s), (0, mn)] h (fun r t => (∃ y, r = some (0, y) ∧ ((y = 0 ∧ ¬ ((0 ≤ s ∧ s < 4) ∧ 0 ≤ hA h 43 s ∧ (1 ≤ mn ∧ mn ≤ 16) ∧ mn ≤ hA h 43 s ∧ ∀ j, 0 ≤ j → j < mn → 0 ≤ hA h 44 (100 * s + j) ∧ hA h 44 (100 * s + j) ≤ 4096) ∧ Fr [] [(41, 0), (41, 1)] h t) ∨ (y = 1 ∧ ((0 ≤ s ∧ s < 4) ∧ 0 ≤ hA h 43 s ∧ (1 ≤ mn ∧ mn ≤ 16) ∧ mn ≤ hA h 43 s ∧ ∀ j, 0 ≤ j → j < mn → 0 ≤ hA h 44 (100 * s + j) ∧ hA h 44 (100 * s + j) ≤ 4096) ∧ hF t 41 8 = mn ∧ (∀ j, hA t 47 j = if 0 ≤ j ∧ j < mn then hA h 44 (100 * s + j) else hA h 47 j) ∧ Fr [47] [(41, 0), (41, 1), (41, 8)] h t))) ∧ MI t ∧ Fr mAs mGs h t) := by
  refine Cq.of ?_
  show Wp m_X6_push ((d + 1)) 0 [(2, 41), (0, s), (0, mn), (9, 0)] [] h _
  obtain ⟨⟨⟨r0, r1⟩, ⟨n0, n1⟩, ⟨m0, m1⟩, hp, hq⟩, hms, ⟨⟨z0, z1⟩, hsp⟩, hme⟩ := id mi
  refine Wp.ald_n (j := 0) rfl dX6_push_0 ?_
  refine Wp.iconst dX6_push_1 (by decide) ?_
  refine Wp.putf (k := 1) (tg := 0) kC6 (by decide) rfl rfl lf_X6_117 dX6_push_2 (sK41 (h := h) sh) ?_
  refine Wp.ald_n (j := 0) rfl dX6_push_5 ?_
  refine Wp.ald_n (j := 0) rfl dX6_push_6 ?_
  refine Wp.ild_n (j := 1) rfl dX6_push_7 ?_
  obtain ⟨_, t8, ct8, ⟨y8, rfl, hy8, hz8⟩, e8⟩ := cq_sheeted d _ sh.m1 s
  rw [e8] at ct8
  have hz8 : y8 ≤ 0 ↔ (0 ≤ s ∧ s < 4) ∧ 0 ≤ hA h 43 s := hz8
  refine Wp.callV1 (ct8) wc_X6_127 iM_X6_sheeted se_X6_sheeted kC6 (sK41 (h := h) sh) dX6_push_8 rfl (Nat.le_of_ble_eq_true rfl) rfl (Nat.le_of_ble_eq_true rfl) ?_
  refine Wp.putf (k := 0) (tg := 0) kC6 (by decide) rfl rfl lf_X6_120 dX6_push_11 (sK41 (h := h) sh) ?_
  refine Wp.ald_n (j := 0) rfl dX6_push_14 ?_
  refine Wp.getf (k := 0) (tg := 0) kC6 (by decide) rfl lf_X6_120 dX6_push_15 (sK41 (h := h) sh) rfl ?_
  refine Wp.ifle dX6_push_18 (by decide) (tgt := 23) (fun c18 => ?_) (fun c18 => ?_)
  · have hz8 := hz8.mp c18
    refine Wp.ild_n (j := 2) rfl dX6_push_23 ?_
    refine Wp.iconst dX6_push_24 (by decide) ?_
    refine Wp.iclt dX6_push_25 (by decide) (tgt := 34) (fun c25 => ?_) (fun c25 => ?_)
    · refine Wp.ald_n (j := 0) rfl dX6_push_34 ?_
      refine Wp.iconst dX6_push_35 (by decide) ?_
      refine Wp.callV1 (ct_mno d (sF (sF h 41 1 0) 41 0 y8) (sK41 (h := h) sh) 2) wc_X6_123 iM_X6_no se_X6_no kC6 (sK41 (h := h) sh) dX6_push_36 rfl (Nat.le_of_ble_eq_true rfl) rfl (Nat.le_of_ble_eq_true rfl) ?_
      refine Wp.zret rfl dX6_push_39 (by omega) ?_
      exact ⟨⟨_, rfl, Or.inl ⟨rfl, fun z => by have z9 := z.2.2.1; have z8 := z.2.2.2.1; omega, ((Fr.f (by decide)).tr ((Fr.f (by decide)).tr (Fr.f (by decide))))⟩⟩, mi, ((Fr.f (by decide)).tr ((Fr.f (by decide)).tr (Fr.f (by decide))))⟩
    · refine Wp.ild_n (j := 2) rfl dX6_push_28 ?_
      refine Wp.bipush dX6_push_29 (by decide) ?_
      refine Wp.icle dX6_push_31 (by decide) (tgt := 40) (fun c31 => ?_) (fun c31 => ?_)
      · refine Wp.ild_n (j := 2) rfl dX6_push_40 ?_
        refine Wp.ald_n (j := 0) rfl dX6_push_41 ?_
        refine Wp.getf (k := 3) (tg := 2) kC6 (by decide) rfl lf_X6_15 dX6_push_42 (sK41 (h := h) sh) (sF41_3 (h := h) sh) ?_
        refine Wp.ild_n (j := 1) rfl dX6_push_45 ?_
        refine Wp.iaload dX6_push_46 (sK43 (h := h) sh) (by omega) (ilt (sL43 (h := h) sh) (by omega)) (show hA _ 43 _ = hA h 43 _ from rfl) ?_
        refine Wp.icle dX6_push_47 (by decide) (tgt := 56) (fun c47 => ?_) (fun c47 => ?_)
        · refine Wp.iconst dX6_push_56 (by decide) ?_
          refine sti_4_3 rfl (dSt_n dX6_push_57) ?_
          have shp : Sh (sF (sF h 41 1 0) 41 0 y8) := sh.m ((Fr.f (by decide)).tr (Fr.f (by decide)))
          refine mpu1 d (sF (sF h 41 1 0) 41 0 y8) shp s hz8.1 mn (by omega) _ (fun hall k => ?_) (fun j j0 j1 hn => ⟨⟨_, rfl, Or.inl ⟨rfl, fun z => hn (z.2.2.2.2 j j0 j1), ((Fr.f (by decide)).tr ((Fr.f (by decide)).tr (Fr.f (by decide))))⟩⟩, mi, ((Fr.f (by decide)).tr ((Fr.f (by decide)).tr (Fr.f (by decide))))⟩) _ 0 (Nat.lt_succ_self _) (by omega) (fun j j0 j1 => absurd j1 (by omega))
          refine Wp.ald_n (j := 0) rfl dX6_push_109 ?_
          refine Wp.ild_n (j := 2) rfl dX6_push_110 ?_
          refine Wp.putf (k := 8) (tg := 0) kC6 (by decide) rfl rfl lf_X6_26 dX6_push_111 (sK41 (h := h) sh) ?_
          refine Wp.iconst dX6_push_114 (by decide) ?_
          refine sti_4_3 rfl (dSt_n dX6_push_115) ?_
          refine mpu2 d (sF (sF (sF h 41 1 0) 41 0 y8) 41 8 mn) (sh.m ((Fr.f (by decide)).tr ((Fr.f (by decide)).tr (Fr.f (by decide))))) s hz8.1 mn (by omega) hall hq _ (fun t k2 frt ht hv => ?_) _ 0 _ (Nat.lt_succ_self _) Fr.rf (by omega) (by omega) hq (fun j => by rw [if_neg (by omega)])
          refine Wp.iconst dX6_push_145 (by decide) ?_
          refine Wp.zret rfl dX6_push_146 (Or.inr rfl) ?_
          refine ⟨⟨_, rfl, Or.inr ⟨rfl, ⟨hz8.1, hz8.2, by omega, by omega, hall⟩, frt.2.2.2.2.1 41 8 (by simp), hv, ((Fr.f (by decide)).tr ((Fr.f (by decide)).tr (Fr.f (by decide)))).tr (frt.mono (by decide) (by simp))⟩⟩, ⟨?_, MS.fr (h := (sF (sF (sF h 41 1 0) 41 0 y8) 41 8 mn)) mi.2.1 frt (by decide), MT.fr (h := (sF (sF (sF h 41 1 0) 41 0 y8) 41 8 mn)) mi.2.2.1 frt (by decide) (by decide), ME.fr (h := (sF (sF (sF h 41 1 0) 41 0 y8) 41 8 mn)) mi.2.2.2 frt (by decide) (by decide) (by decide)⟩, ((Fr.f (by decide)).tr ((Fr.f (by decide)).tr (Fr.f (by decide)))).tr (frt.mono (by decide) (by simp))⟩
          unfold MB
          rw [frt.2.2.2.2.1 41 5 (by decide), frt.2.2.2.2.1 41 6 (by decide), frt.2.2.2.2.1 41 8 (by decide), frt.2.2.2.2.2 46 (by decide)]
          exact ⟨⟨r0, r1⟩, ⟨n0, n1⟩, ⟨by show 1 ≤ mn; omega, by show mn ≤ 16; omega⟩, hp, ht⟩
        · refine Wp.ald_n (j := 0) rfl dX6_push_50 ?_
          refine Wp.iconst dX6_push_51 (by decide) ?_
          refine Wp.callV1 (ct_mno d (sF (sF h 41 1 0) 41 0 y8) (sK41 (h := h) sh) 4) wc_X6_123 iM_X6_no se_X6_no kC6 (sK41 (h := h) sh) dX6_push_52 rfl (Nat.le_of_ble_eq_true rfl) rfl (Nat.le_of_ble_eq_true rfl) ?_
          refine Wp.zret rfl dX6_push_55 (by omega) ?_
          exact ⟨⟨_, rfl, Or.inl ⟨rfl, fun z => by have z9 := z.2.2.1; have z8 := z.2.2.2.1; omega, ((Fr.f (by decide)).tr ((Fr.f (by decide)).tr (Fr.f (by decide))))⟩⟩, mi, ((Fr.f (by decide)).tr ((Fr.f (by decide)).tr (Fr.f (by decide))))⟩
      · refine Wp.ald_n (j := 0) rfl dX6_push_34 ?_
        refine Wp.iconst dX6_push_35 (by decide) ?_
        refine Wp.callV1 (ct_mno d (sF (sF h 41 1 0) 41 0 y8) (sK41 (h := h) sh) 2) wc_X6_123 iM_X6_no se_X6_no kC6 (sK41 (h := h) sh) dX6_push_36 rfl (Nat.le_of_ble_eq_true rfl) rfl (Nat.le_of_ble_eq_true rfl) ?_
        refine Wp.zret rfl dX6_push_39 (by omega) ?_
        exact ⟨⟨_, rfl, Or.inl ⟨rfl, fun z => by have z9 := z.2.2.1; have z8 := z.2.2.2.1; omega, ((Fr.f (by decide)).tr ((Fr.f (by decide)).tr (Fr.f (by decide))))⟩⟩, mi, ((Fr.f (by decide)).tr ((Fr.f (by decide)).tr (Fr.f (by decide))))⟩
  · refine Wp.iconst dX6_push_21 (by decide) ?_
    refine Wp.zret rfl dX6_push_22 (by omega) ?_
    exact ⟨⟨_, rfl, Or.inl ⟨rfl, fun z => c18 (hz8.mpr ⟨z.1, z.2.1⟩), ((Fr.f (by decide)).tr (Fr.f (by decide)))⟩⟩, mi, ((Fr.f (by decide)).tr (Fr.f (by decide)))⟩

theorem mgo1 (d : Nat) (h : mH) (sh : Sh h) (mb : MB h) (x t9 : Int) (Q : Option mV → mH → Prop) (kq : ∀ (t : mH) (a : Int), Fr [48] [] h t → (∀ j, 0 ≤ j → j < hF h 41 6 → hA t 48 j = w64 (hA h 48 j + (if hA h 53 j = 0 then 0 else 1))) → Wp m_X6_go (d + 2) 81 [(2, 41), (0, x), (0, t9), (0, a)] [] t Q) : ∀ (m : Nat) (a : Int) (h' : mH), (hF h 41 6 - a).toNat < m → (Fr [48] [] h h') → (0 ≤ a) → (∀ j, 0 ≤ j → j < hF h 41 6 → hA h' 48 j = if j < a then w64 (hA h 48 j + (if hA h 53 j = 0 then 0 else 1)) else hA h 48 j) → Wp m_X6_go (d + 2) 44 [(2, 41), (0, x), (0, t9), (0, a)] [] h' Q := by
  intro m
  induction m with
  | zero => intro a h' hm; exact absurd hm (Nat.not_lt_zero _)
  | succ m ih =>
    intro a h' hm fr a0 iv
    obtain ⟨⟨r0, r1⟩, ⟨n0, n1⟩, ⟨m0, m1⟩, hp, hq⟩ := id mb
    have sh' := sh.fr fr (by decide +kernel) (by decide)
    have e6 : hF h' 41 6 = hF h 41 6 := fr.2.2.2.2.1 41 6 (by decide)
    have e53 : hA h' 53 = hA h 53 := fr.2.2.2.2.2 53 (by decide)
    refine Wp.ild_n (j := 3) rfl dX6_go_44 ?_
    refine Wp.ald_n (j := 0) rfl dX6_go_45 ?_
    refine Wp.getf (k := 6) (tg := 0) kC6 (by decide) rfl lf_X6_141 dX6_go_46 (sK41 (h := h') sh') e6 ?_
    refine Wp.icge dX6_go_49 (by decide) (tgt := 81) (fun c49 => ?_) (fun c49 => ?_)
    · exact kq _ _ fr (fun j j0 j1 => by rw [iv j j0 j1, if_pos (by omega)])
    · refine Wp.ald_n (j := 0) rfl dX6_go_52 ?_
      refine Wp.getf (k := 12) (tg := 2) kC6 (by decide) rfl lf_X6_38 dX6_go_53 (sK41 (h := h') sh') (sF41_12 (h := h') sh') ?_
      refine Wp.ild_n (j := 3) rfl dX6_go_56 ?_
      refine Wp.dup2 dX6_go_57 (Or.inl rfl) (Or.inr rfl) ?_
      refine Wp.laload dX6_go_58 (sK48 (h := h') sh') (by omega) (ilt (sL48 (h := h') sh') (by omega)) (show hA _ 48 _ = hA h' 48 _ from rfl) ?_
      refine Wp.ald_n (j := 0) rfl dX6_go_59 ?_
      refine Wp.getf (k := 17) (tg := 2) kC6 (by decide) rfl lf_X6_54 dX6_go_60 (sK41 (h := h') sh') (sF41_17 (h := h') sh') ?_
      refine Wp.ild_n (j := 3) rfl dX6_go_63 ?_
      refine Wp.zaload dX6_go_64 (sK53 (h := h') sh') (by omega) (ilt (sL53 (h := h') sh') (by omega)) (show hA _ 53 _ = hA h' 53 _ from rfl) ?_
      refine Wp.ifeq dX6_go_65 (by decide) (tgt := 72) (fun c65 => ?_) (fun c65 => ?_)
      · refine Wp.lconst (z := 0) dX6_go_72 (by decide) ?_
        refine Wp.laddE dX6_go_73 rfl ?_
        refine Wp.lastore dX6_go_74 (sK48 (h := h') sh') (by omega) (ilt (sL48 (h := h') sh') (by omega)) ?_
        refine inc_4_3 rfl dX6_go_75 (by first | exact w32_of (by omega) (by omega) | rfl) ?_
        refine Wp.goto (tgt := 44) dX6_go_78 (by decide) ?_
        have h53 := congrFun e53 a
        have h48 := iv a a0 (by omega)
        rw [if_neg (by omega)] at h48
        refine ih (a + 1) _ (by omega) (fr.tr (Fr.e (by decide))) (by omega) (fun j j0 j1 => ?_)
        rw [hA_sEs]
        by_cases e : j = a
        · rw [e, u1_s, if_pos (by omega), h48]
          refine congrArg w64 ?_
          split <;> omega
        · rw [u1_n _ _ e, iv j j0 j1]
          by_cases z : j < a
          · rw [if_pos z, if_pos (show j < a + 1 by omega)]
          · rw [if_neg z, if_neg (show ¬ j < a + 1 by omega)]
      · refine Wp.lconst (z := 1) dX6_go_68 (by decide) ?_
        refine Wp.goto (tgt := 73) dX6_go_69 (by decide) ?_
        refine Wp.laddE dX6_go_73 rfl ?_
        refine Wp.lastore dX6_go_74 (sK48 (h := h') sh') (by omega) (ilt (sL48 (h := h') sh') (by omega)) ?_
        refine inc_4_3 rfl dX6_go_75 (by first | exact w32_of (by omega) (by omega) | rfl) ?_
        refine Wp.goto (tgt := 44) dX6_go_78 (by decide) ?_
        have h53 := congrFun e53 a
        have h48 := iv a a0 (by omega)
        rw [if_neg (by omega)] at h48
        refine ih (a + 1) _ (by omega) (fr.tr (Fr.e (by decide))) (by omega) (fun j j0 j1 => ?_)
        rw [hA_sEs]
        by_cases e : j = a
        · rw [e, u1_s, if_pos (by omega), h48]
          refine congrArg w64 ?_
          split <;> omega
        · rw [u1_n _ _ e, iv j j0 j1]
          by_cases z : j < a
          · rw [if_pos z, if_pos (show j < a + 1 by omega)]
          · rw [if_neg z, if_neg (show ¬ j < a + 1 by omega)]

theorem MB.row {h t : mH} (mb : MB h) (fr : Fr [46, 48, 50, 51, 52, 53] [] h t) (hr : ∀ j, 0 ≤ j → j < hF h 41 6 → 0 ≤ hA t 46 j ∧ hA t 46 j < hF h 41 5) : MB t := by
  unfold MB
  rw [fr.2.2.2.2.1 41 5 (by decide), fr.2.2.2.2.1 41 6 (by decide), fr.2.2.2.2.1 41 8 (by decide), fr.2.2.2.2.2 47 (by decide)]
  exact ⟨mb.1, mb.2.1, mb.2.2.1, hr, mb.2.2.2.2⟩
theorem mgo2 (d : Nat) (h : mH) (sh : Sh h) (mb : MB h) (x : Int) (x1 : x ≤ 20000) (Q : Option mV → mH → Prop) (kq : ∀ (t : mH) (t9 : Int) (x3 : mV), Fr [46, 48, 50, 51, 52, 53] [] h t → MB t → (∀ j, 0 ≤ j → j < hF h 41 6 → hA t 46 j = mI9 (mcf h) (hA h 46) x.toNat j) → (∀ j, 0 ≤ j → j < hF h 41 6 → hA t 48 j = mB9 (mcf h) (hA h 46) (hA h 48) x.toNat j) → Wp m_X6_go (d + 2) 87 [(2, 41), (0, x), (0, t9), x3] [] t Q) : ∀ (m : Nat) (t9 : Int) (x3 : mV) (h' : mH), (x - t9).toNat < m → (Fr [46, 48, 50, 51, 52, 53] [] h h') → (0 ≤ t9) → (t9 ≤ x) → (MB h') → (∀ j, 0 ≤ j → j < hF h 41 6 → hA h' 46 j = mI9 (mcf h) (hA h 46) t9.toNat j) → (∀ j, 0 ≤ j → j < hF h 41 6 → hA h' 48 j = mB9 (mcf h) (hA h 46) (hA h 48) t9.toNat j) → Wp m_X6_go (d + 2) 29 [(2, 41), (0, x), (0, t9), x3] [] h' Q := by
  intro m
  induction m with
  | zero => intro t9 x3 h' hm; exact absurd hm (Nat.not_lt_zero _)
  | succ m ih =>
    intro t9 x3 h' hm fr t0 t1 mb' iv ib
    have sh' := sh.fr fr (by decide +kernel) (by decide)
    have e6 : hF h' 41 6 = hF h 41 6 := fr.2.2.2.2.1 41 6 (by decide)
    refine Wp.ild_n (j := 2) rfl dX6_go_29 ?_
    refine Wp.ild_n (j := 1) rfl dX6_go_30 ?_
    refine Wp.icge dX6_go_31 (by decide) (tgt := 87) (fun c31 => ?_) (fun c31 => ?_)
    · have et : t9 = x := by omega
      rw [et] at iv ib
      exact kq _ _ _ fr mb' iv ib
    · refine Wp.ald_n (j := 0) rfl dX6_go_34 ?_
      refine Wp.ald_n (j := 0) rfl dX6_go_35 ?_
      refine Wp.getf (k := 10) (tg := 2) kC6 (by decide) rfl lf_X6_32 dX6_go_36 (sK41 (h := h') sh') (sF41_10 (h := h') sh') ?_
      obtain ⟨_, t39, ct39, rfl, f39, r39, b39⟩ := cq_mtickB d h' sh' mb' 46 (sK46 sh') (sL46 sh') (by decide) mb'.2.2.2.1
      have sh39 := sh'.fr f39 (by decide +kernel) (by decide)
      have fr39 : Fr [46, 48, 50, 51, 52, 53] [] h t39 := fr.tr (f39.mono (by decide) (by simp))
      have mb39 : MB t39 := mb'.row (f39.mono (by decide) (by simp)) (fun j j0 j1 => (r39 j j0 j1).2)
      refine Wp.callV0 (ct39) wc_X6_166 iM_X6_tick se_X6_tick kC6 (sK41 (h := h') sh') dX6_go_39 rfl (Nat.le_of_ble_eq_true rfl) rfl (Nat.le_of_ble_eq_true rfl) ?_
      refine Wp.iconst dX6_go_42 (by decide) ?_
      refine sti_4_3 rfl (dSt_n dX6_go_43) ?_
      refine mgo1 d t39 sh39 mb39 x t9 Q (fun u a fru bu => ?_) _ 0 _ (Nat.lt_succ_self _) Fr.rf (by omega) (fun j j0 j1 => by rw [if_neg (by omega)])
      refine inc_4_2 rfl dX6_go_81 (w32_of (by omega) (by omega)) ?_
      refine Wp.goto (tgt := 29) dX6_go_84 (by decide) ?_
      refine ih (t9 + 1) _ u (by omega) (fr39.tr (fru.mono (by decide) (by simp))) (by omega) (by omega) (mb39.fr fru (by decide) (by decide) (by decide) (by decide) (by decide)) (fun j j0 j1 => ?_) (fun j j0 j1 => ?_)
      · have ec : mcf h' = mcf h := mcf_fr fr (by decide) (by decide) (by decide) (by simp) (by simp) (by simp)
        rw [fru.2.2.2.2.2 46 (by decide), (r39 j j0 (by omega)).1, ec, mT_eq (c := mcf h) (f := hA h' 46) (g := mI9 (mcf h) (hA h 46) t9.toNat) (fun i i0 i1 => iv i i0 i1), show (t9 + 1).toNat = t9.toNat + 1 by omega]
        rfl
      · have ec : mcf h' = mcf h := mcf_fr fr (by decide) (by decide) (by decide) (by simp) (by simp) (by simp)
        have b9 := b39 j j0 (by omega)
        rw [ec, mF9_eq (c := mcf h) (f := hA h' 46) (g := mI9 (mcf h) (hA h 46) t9.toNat) (fun i i0 i1 => iv i i0 i1)] at b9
        have e39 : hF t39 41 6 = hF h' 41 6 := f39.2.2.2.2.1 41 6 (by simp)
        rw [bu j j0 (by omega), f39.2.2.2.2.2 48 (by decide), ib j j0 j1, show (t9 + 1).toNat = t9.toNat + 1 by omega]
        show w64 (mB9 (mcf h) (hA h 46) (hA h 48) t9.toNat j + (if hA t39 53 j = 0 then 0 else 1)) = w64 (mB9 (mcf h) (hA h 46) (hA h 48) t9.toNat j + (if (mF9 (mcf h) (mI9 (mcf h) (hA h 46) t9.toNat)).2.2.2 j = 0 then 0 else 1))
        refine congrArg (fun z => w64 (mB9 (mcf h) (hA h 46) (hA h 48) t9.toNat j + z)) ?_
        by_cases z : hA t39 53 j = 0
        · rw [if_pos z, if_pos (Classical.byContradiction (fun y => b9.mpr y z))]
        · rw [if_neg z, if_neg (b9.mp z)]

theorem cq_mgo (d : Nat) (h : mH) (sh : Sh h) (mi : MI h) (x : Int) : Cq m_X6_go (d + 2) [(2, 41), (0, x)] h (fun r t => (∃ y, r = some (0, y) ∧ ((y = 0 ∧ ¬ (0 ≤ x ∧ x ≤ 20000) ∧ Fr [] [(41, 0), (41, 1)] h t) ∨ (y = 1 ∧ (0 ≤ x ∧ x ≤ 20000) ∧ hF t 41 7 = w32 (hF h 41 7 + x) ∧ (∀ j, 0 ≤ j → j < hF h 41 6 → hA t 46 j = mI9 (mcf h) (hA h 46) x.toNat j) ∧ (∀ j, 0 ≤ j → j < hF h 41 6 → hA t 48 j = mB9 (mcf h) (hA h 46) (hA h 48) x.toNat j) ∧ Fr [46, 48, 50, 51, 52, 53] [(41, 0), (41, 1), (41, 7)] h t))) ∧ MI t ∧ Fr mAs mGs h t) := by
  refine Cq.of ?_
  show Wp m_X6_go ((d + 2)) 0 [(2, 41), (0, x), (9, 0), (9, 0)] [] h _
  refine Wp.ald_n (j := 0) rfl dX6_go_0 ?_
  refine Wp.iconst dX6_go_1 (by decide) ?_
  refine Wp.putf (k := 1) (tg := 0) kC6 (by decide) rfl rfl lf_X6_117 dX6_go_2 (sK41 (h := h) sh) ?_
  refine Wp.ald_n (j := 0) rfl dX6_go_5 ?_
  refine Wp.iconst dX6_go_6 (by decide) ?_
  refine Wp.putf (k := 0) (tg := 0) kC6 (by decide) rfl rfl lf_X6_120 dX6_go_7 (sK41 (h := h) sh) ?_
  refine Wp.ild_n (j := 1) rfl dX6_go_10 ?_
  refine Wp.iflt dX6_go_11 (by decide) (tgt := 21) (fun c11 => ?_) (fun c11 => ?_)
  · refine Wp.ald_n (j := 0) rfl dX6_go_21 ?_
    refine Wp.iconst dX6_go_22 (by decide) ?_
    refine Wp.callV1 (ct_mno (d + 1) (sF (sF h 41 1 0) 41 0 0) (sK41 (h := h) sh) 2) wc_X6_123 iM_X6_no se_X6_no kC6 (sK41 (h := h) sh) dX6_go_23 rfl (Nat.le_of_ble_eq_true rfl) rfl (Nat.le_of_ble_eq_true rfl) ?_
    refine Wp.zret rfl dX6_go_26 (by omega) ?_
    exact ⟨⟨_, rfl, Or.inl ⟨rfl, by omega, ((Fr.f (by decide)).tr ((Fr.f (by decide)).tr (Fr.f (by decide))))⟩⟩, mi, ((Fr.f (by decide)).tr ((Fr.f (by decide)).tr (Fr.f (by decide))))⟩
  · refine Wp.ild_n (j := 1) rfl dX6_go_14 ?_
    refine Wp.sipush dX6_go_15 (by decide) ?_
    refine Wp.icle dX6_go_18 (by decide) (tgt := 27) (fun c18 => ?_) (fun c18 => ?_)
    · refine Wp.iconst dX6_go_27 (by decide) ?_
      refine sti_4_2 rfl (dSt_n dX6_go_28) ?_
      refine mgo2 d (sF (sF h 41 1 0) 41 0 0) sh.m0 mi.1 x (by omega) _ (fun t t9 x3 frt mbt hv hbv => ?_) _ 0 _ _ (Nat.lt_succ_self _) Fr.rf (by omega) (by omega) mi.1 (fun j j0 j1 => rfl) (fun j j0 j1 => rfl)
      refine Wp.ald_n (j := 0) rfl dX6_go_87 ?_
      refine Wp.dup dX6_go_88 (Or.inr rfl) ?_
      refine Wp.getf (k := 7) (tg := 0) kC6 (by decide) rfl lf_X6_144 dX6_go_89 (sK41 (sh.m0.fr frt (by decide +kernel) (by decide))) rfl ?_
      refine Wp.ild_n (j := 1) rfl dX6_go_92 ?_
      refine Wp.iaddE dX6_go_93 rfl ?_
      refine Wp.putf (k := 7) (tg := 0) kC6 (by decide) rfl rfl lf_X6_144 dX6_go_94 (sK41 (sh.m0.fr frt (by decide +kernel) (by decide))) ?_
      refine Wp.iconst dX6_go_97 (by decide) ?_
      refine Wp.zret rfl dX6_go_98 (Or.inr rfl) ?_
      have mit : MI t := ⟨mbt, MS.fr (h := (sF (sF h 41 1 0) 41 0 0)) mi.2.1 frt (by decide), MT.fr (h := (sF (sF h 41 1 0) 41 0 0)) mi.2.2.1 frt (by decide) (by decide), ME.fr (h := (sF (sF h 41 1 0) 41 0 0)) mi.2.2.2 frt (by decide) (by decide) (by decide)⟩
      refine ⟨⟨_, rfl, Or.inr ⟨rfl, by omega, ?_, hv, hbv, (((Fr.f (by decide)).tr (Fr.f (by decide))).tr (frt.mono (by decide) (by simp))).tr (Fr.f (by decide))⟩⟩, mit, (((Fr.f (by decide)).tr (Fr.f (by decide))).tr (frt.mono (by decide) (by simp))).tr (Fr.f (by decide))⟩
      exact congrArg (fun z => w32 (z + x)) (frt.2.2.2.2.1 41 7 (by simp))
    · refine Wp.ald_n (j := 0) rfl dX6_go_21 ?_
      refine Wp.iconst dX6_go_22 (by decide) ?_
      refine Wp.callV1 (ct_mno (d + 1) (sF (sF h 41 1 0) 41 0 0) (sK41 (h := h) sh) 2) wc_X6_123 iM_X6_no se_X6_no kC6 (sK41 (h := h) sh) dX6_go_23 rfl (Nat.le_of_ble_eq_true rfl) rfl (Nat.le_of_ble_eq_true rfl) ?_
      refine Wp.zret rfl dX6_go_26 (by omega) ?_
      exact ⟨⟨_, rfl, Or.inl ⟨rfl, by omega, ((Fr.f (by decide)).tr ((Fr.f (by decide)).tr (Fr.f (by decide))))⟩⟩, mi, ((Fr.f (by decide)).tr ((Fr.f (by decide)).tr (Fr.f (by decide))))⟩

