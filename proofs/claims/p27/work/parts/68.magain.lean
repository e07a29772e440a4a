theorem mag1 (d : Nat) (h : mH) (sh : Sh h) (z1 : 0 ≤ hF h 41 30 ∧ hF h 41 30 ≤ 10) (a c : Int) (a0 : 0 ≤ a) (c0 : 0 ≤ c) (ac : a + c ≤ 200) (m9 i : Int) (i0 : 0 ≤ i ∧ i < 10) (Q : Option mV → mH → Prop) (kx : Q (some (0, 0)) h) (kq : ∀ (j : Int) (x7 x8 x9 x10 : mV), Wp m_X6_isAgain d 137 [(2, 41), (0, a), (0, c), (1, m9), (9, 0), (0, i), (0, j), x7, x8, x9, x10] [] h Q) : ∀ (m : Nat) (j : Int) (x7 x8 x9 x10 : mV), (hF h 41 30 - j).toNat < m → (0 ≤ j) → Wp m_X6_isAgain d 47 [(2, 41), (0, a), (0, c), (1, m9), (9, 0), (0, i), (0, j), x7, x8, x9, x10] [] h Q := by
  intro m
  induction m with
  | zero => intro j x7 x8 x9 x10 hm; exact absurd hm (Nat.not_lt_zero _)
  | succ m ih =>
    intro j x7 x8 x9 x10 hm j0
    refine Wp.ild (j := 6) rfl dX6_isAgain_47 ?_
    refine Wp.ald_n (j := 0) rfl dX6_isAgain_49 ?_
    refine Wp.getf (k := 30) (tg := 0) kC6 (by decide) rfl lf_X6_230 dX6_isAgain_50 (sK41 (h := h) sh) (show hF _ 41 30 = hF h 41 30 from rfl) ?_
    refine Wp.icge dX6_isAgain_53 (by decide) (tgt := 137) (fun c53 => ?_) (fun c53 => ?_)
    · exact kq _ _ _ _ _
    · refine Wp.ald_n (j := 0) rfl dX6_isAgain_56 ?_
      refine Wp.getf (k := 35) (tg := 2) kC6 (by decide) rfl lf_X6_99 dX6_isAgain_57 (sK41 (h := h) sh) (sF41_35 (h := h) sh) ?_
      refine Wp.bipush dX6_isAgain_60 (by decide) ?_
      refine Wp.ild_n (j := 1) rfl dX6_isAgain_62 ?_
      refine Wp.imulE dX6_isAgain_63 (by first | exact w32_of (by omega) (by omega) | rfl) ?_
      refine Wp.bipush dX6_isAgain_64 (by decide) ?_
      refine Wp.ild (j := 5) rfl dX6_isAgain_66 ?_
      refine Wp.imulE dX6_isAgain_68 (by first | exact w32_of (by omega) (by omega) | rfl) ?_
      refine Wp.iaddE dX6_isAgain_69 (by first | exact w32_of (by omega) (by omega) | rfl) ?_
      refine Wp.ild (j := 6) rfl dX6_isAgain_70 ?_
      refine Wp.iaddE dX6_isAgain_72 (by first | exact w32_of (by omega) (by omega) | rfl) ?_
      refine Wp.laload dX6_isAgain_73 (sK68 (h := h) sh) (by omega) (ilt (sL68 (h := h) sh) (by omega)) (show hA _ 68 _ = hA h 68 _ from rfl) ?_
      refine stl_11_7 rfl (dSt_w dX6_isAgain_74) ?_
      refine Wp.ald_n (j := 0) rfl dX6_isAgain_76 ?_
      refine Wp.getf (k := 35) (tg := 2) kC6 (by decide) rfl lf_X6_99 dX6_isAgain_77 (sK41 (h := h) sh) (sF41_35 (h := h) sh) ?_
      refine Wp.bipush dX6_isAgain_80 (by decide) ?_
      refine Wp.ild_n (j := 1) rfl dX6_isAgain_82 ?_
      refine Wp.ild_n (j := 2) rfl dX6_isAgain_83 ?_
      refine Wp.iaddE dX6_isAgain_84 (by first | exact w32_of (by omega) (by omega) | rfl) ?_
      refine Wp.imulE dX6_isAgain_85 (by first | exact w32_of (by omega) (by omega) | rfl) ?_
      refine Wp.bipush dX6_isAgain_86 (by decide) ?_
      refine Wp.ild (j := 5) rfl dX6_isAgain_88 ?_
      refine Wp.imulE dX6_isAgain_90 (by first | exact w32_of (by omega) (by omega) | rfl) ?_
      refine Wp.iaddE dX6_isAgain_91 (by first | exact w32_of (by omega) (by omega) | rfl) ?_
      refine Wp.ild (j := 6) rfl dX6_isAgain_92 ?_
      refine Wp.iaddE dX6_isAgain_94 (by first | exact w32_of (by omega) (by omega) | rfl) ?_
      refine Wp.laload dX6_isAgain_95 (sK68 (h := h) sh) (by omega) (ilt (sL68 (h := h) sh) (by omega)) (show hA _ 68 _ = hA h 68 _ from rfl) ?_
      refine stl_11_9 rfl (dSt_w dX6_isAgain_96) ?_
      refine Wp.lld (j := 7) rfl dX6_isAgain_98 ?_
      refine Wp.ldc2 (z := -9223372036854775808) lk_X6_115 (by decide) dX6_isAgain_100 ?_
      refine Wp.lcne dX6_isAgain_103 dX6_isAgain_104 (by decide) (tgt := 119) (fun c103 => ?_) (fun c103 => ?_)
      · refine Wp.lld (j := 9) rfl dX6_isAgain_119 ?_
        refine Wp.lld (j := 7) rfl dX6_isAgain_121 ?_
        refine Wp.lld_n (j := 3) rfl dX6_isAgain_123 ?_
        refine Wp.laddE dX6_isAgain_124 rfl ?_
        refine Wp.lceq dX6_isAgain_125 dX6_isAgain_126 (by decide) (tgt := 131) (fun c125 => ?_) (fun c125 => ?_)
        · refine inc_11_6 rfl dX6_isAgain_131 (by first | exact w32_of (by omega) (by omega) | rfl) ?_
          refine Wp.goto (tgt := 47) dX6_isAgain_134 (by decide) ?_
          exact ih (j + 1) _ _ _ _ (by omega) (by omega)
        · refine Wp.iconst dX6_isAgain_129 (by decide) ?_
          refine Wp.zret rfl dX6_isAgain_130 (by omega) ?_
          exact kx
      · refine Wp.lld (j := 9) rfl dX6_isAgain_107 ?_
        refine Wp.ldc2 (z := -9223372036854775808) lk_X6_115 (by decide) dX6_isAgain_109 ?_
        refine Wp.lceq dX6_isAgain_112 dX6_isAgain_113 (by decide) (tgt := 131) (fun c112 => ?_) (fun c112 => ?_)
        · refine inc_11_6 rfl dX6_isAgain_131 (by first | exact w32_of (by omega) (by omega) | rfl) ?_
          refine Wp.goto (tgt := 47) dX6_isAgain_134 (by decide) ?_
          exact ih (j + 1) _ _ _ _ (by omega) (by omega)
        · refine Wp.goto (tgt := 129) dX6_isAgain_116 (by decide) ?_
          refine Wp.iconst dX6_isAgain_129 (by decide) ?_
          refine Wp.zret rfl dX6_isAgain_130 (by omega) ?_
          exact kx

theorem mag2 (d : Nat) (h : mH) (sh : Sh h) (z1 : 0 ≤ hF h 41 30 ∧ hF h 41 30 ≤ 10) (a c : Int) (a0 : 0 ≤ a) (c0 : 0 ≤ c) (ac : a + c ≤ 200) (m9 : Int) : ∀ (m : Nat) (i : Int) (x6 x7 x8 x9 x10 : mV), (hF h 41 30 - i).toNat < m → (0 ≤ i) → Wp m_X6_isAgain d 35 [(2, 41), (0, a), (0, c), (1, m9), (9, 0), (0, i), x6, x7, x8, x9, x10] [] h (fun r t => (∃ y, r = some (0, y) ∧ (y = 0 ∨ y = 1)) ∧ t = h) := by
  intro m
  induction m with
  | zero => intro i x6 x7 x8 x9 x10 hm; exact absurd hm (Nat.not_lt_zero _)
  | succ m ih =>
    intro i x6 x7 x8 x9 x10 hm i0
    refine Wp.ild (j := 5) rfl dX6_isAgain_35 ?_
    refine Wp.ald_n (j := 0) rfl dX6_isAgain_37 ?_
    refine Wp.getf (k := 30) (tg := 0) kC6 (by decide) rfl lf_X6_230 dX6_isAgain_38 (sK41 (h := h) sh) (show hF _ 41 30 = hF h 41 30 from rfl) ?_
    refine Wp.icge dX6_isAgain_41 (by decide) (tgt := 143) (fun c41 => ?_) (fun c41 => ?_)
    · refine Wp.iconst dX6_isAgain_143 (by decide) ?_
      refine Wp.zret rfl dX6_isAgain_144 (by omega) ?_
      exact ⟨⟨_, rfl, Or.inr rfl⟩, rfl⟩
    · refine Wp.iconst dX6_isAgain_44 (by decide) ?_
      refine sti_11_6 rfl (dSt_w dX6_isAgain_45) ?_
      refine mag1 d h sh z1 a c a0 c0 ac m9 i (by omega) _ ⟨⟨_, rfl, Or.inl rfl⟩, rfl⟩ (fun j y7 y8 y9 y10 => ?_) _ 0 _ _ _ _ (Nat.lt_succ_self _) (by omega)
      refine inc_11_5 rfl dX6_isAgain_137 (w32_of (by omega) (by omega)) ?_
      refine Wp.goto (tgt := 35) dX6_isAgain_140 (by decide) ?_
      exact ih (i + 1) _ _ _ _ _ (by omega) (by omega)

theorem cq_isAgain (d : Nat) (h : mH) (sh : Sh h) (z1 : 0 ≤ hF h 41 30 ∧ hF h 41 30 ≤ 10) (a c : Int) (a0 : 0 ≤ a) (c0 : 0 ≤ c) (ac : a + c ≤ 200) (hl : 1 ≤ hF h 41 37) : Cq m_X6_isAgain d [(2, 41), (0, a), (0, c)] h (fun r t => (∃ y, r = some (0, y) ∧ (y = 0 ∨ y = 1)) ∧ t = h) := by
  refine Cq.of ?_
  show Wp m_X6_isAgain (d) 0 [(2, 41), (0, a), (0, c), (9, 0), (9, 0), (9, 0), (9, 0), (9, 0), (9, 0), (9, 0), (9, 0)] [] h _
  refine Wp.ild_n (j := 2) rfl dX6_isAgain_0 ?_
  refine Wp.i2l dX6_isAgain_1 ?_
  refine Wp.ald_n (j := 0) rfl dX6_isAgain_2 ?_
  refine Wp.getf (k := 36) (tg := 1) kC6 (by decide) rfl lf_X6_262 dX6_isAgain_3 (sK41 (h := h) sh) (show hF _ 41 36 = hF h 41 36 from rfl) ?_
  refine Wp.lmulE dX6_isAgain_6 rfl ?_
  refine Wp.ald_n (j := 0) rfl dX6_isAgain_7 ?_
  refine Wp.getf (k := 37) (tg := 1) kC6 (by decide) rfl lf_X6_258 dX6_isAgain_8 (sK41 (h := h) sh) (show hF _ 41 37 = hF h 41 37 from rfl) ?_
  refine Wp.lremE dX6_isAgain_11 (by omega) rfl ?_
  refine Wp.lconst (z := 0) dX6_isAgain_12 (by decide) ?_
  refine Wp.lceq dX6_isAgain_13 dX6_isAgain_14 (by decide) (tgt := 19) (fun c13 => ?_) (fun c13 => ?_)
  · refine Wp.ild_n (j := 2) rfl dX6_isAgain_19 ?_
    refine Wp.i2l dX6_isAgain_20 ?_
    refine Wp.ald_n (j := 0) rfl dX6_isAgain_21 ?_
    refine Wp.getf (k := 36) (tg := 1) kC6 (by decide) rfl lf_X6_262 dX6_isAgain_22 (sK41 (h := h) sh) (show hF _ 41 36 = hF h 41 36 from rfl) ?_
    refine Wp.lmulE dX6_isAgain_25 rfl ?_
    refine Wp.ald_n (j := 0) rfl dX6_isAgain_26 ?_
    refine Wp.getf (k := 37) (tg := 1) kC6 (by decide) rfl lf_X6_258 dX6_isAgain_27 (sK41 (h := h) sh) (show hF _ 41 37 = hF h 41 37 from rfl) ?_
    refine Wp.ldivE dX6_isAgain_30 (by omega) rfl ?_
    refine stl_11_3 rfl (dSt_n dX6_isAgain_31) ?_
    refine Wp.iconst dX6_isAgain_32 (by decide) ?_
    refine sti_11_5 rfl (dSt_w dX6_isAgain_33) ?_
    exact mag2 d h sh z1 a c a0 c0 ac _ _ 0 _ _ _ _ _ (Nat.lt_succ_self _) (by omega)
  · refine Wp.iconst dX6_isAgain_17 (by decide) ?_
    refine Wp.zret rfl dX6_isAgain_18 (by omega) ?_
    exact ⟨⟨_, rfl, Or.inl rfl⟩, rfl⟩

theorem mag3 (d : Nat) (h : mH) (sh : Sh h) (z1 : 0 ≤ hF h 41 30 ∧ hF h 41 30 ≤ 10) (hl : 1 ≤ hF h 41 37) (x : Int) (a : Int) (a0 : 0 ≤ a ∧ a < 200) (Q : Option mV → mH → Prop) (kx : ∀ y : Int, Q (some (0, y)) h) (kq : ∀ c : Int, Wp m_X6_again (d + 4) 92 [(2, 41), (0, x), (0, a), (0, c)] [] h Q) : ∀ (m : Nat) (c : Int), (201 - c).toNat < m → (1 ≤ c) → (c ≤ 201) → Wp m_X6_again (d + 4) 58 [(2, 41), (0, x), (0, a), (0, c)] [] h Q := by
  intro m
  induction m with
  | zero => intro c hm; exact absurd hm (Nat.not_lt_zero _)
  | succ m ih =>
    intro c hm c0 c1
    refine Wp.ild_n (j := 2) rfl dX6_again_58 ?_
    refine Wp.ild_n (j := 3) rfl dX6_again_59 ?_
    refine Wp.iaddE dX6_again_60 (by first | exact w32_of (by omega) (by omega) | rfl) ?_
    refine Wp.sipush dX6_again_61 (by decide) ?_
    refine Wp.icgt dX6_again_64 (by decide) (tgt := 92) (fun c64 => ?_) (fun c64 => ?_)
    · exact kq _
    · refine Wp.ald_n (j := 0) rfl dX6_again_67 ?_
      refine Wp.ild_n (j := 2) rfl dX6_again_68 ?_
      refine Wp.ild_n (j := 3) rfl dX6_again_69 ?_
      obtain ⟨_, t70, ct70, ⟨y70, rfl, hy70⟩, e70⟩ := cq_isAgain (d + 3) h sh z1 a c (by omega) (by omega) (by omega) hl
      rw [e70] at ct70
      refine Wp.callV1 (ct70) wc_X6_284 iM_X6_isAgain se_X6_isAgain kC6 (sK41 (h := h) sh) dX6_again_70 rfl (Nat.le_of_ble_eq_true rfl) rfl (Nat.le_of_ble_eq_true rfl) ?_
      refine Wp.ifeq dX6_again_73 (by decide) (tgt := 86) (fun c73 => ?_) (fun c73 => ?_)
      · refine inc_4_3 rfl dX6_again_86 (by first | exact w32_of (by omega) (by omega) | rfl) ?_
        refine Wp.goto (tgt := 58) dX6_again_89 (by decide) ?_
        exact ih (c + 1) (by omega) (by omega) (by omega)
      · refine Wp.ild_n (j := 1) rfl dX6_again_76 ?_
        refine Wp.ifne dX6_again_77 (by decide) (tgt := 84) (fun c77 => ?_) (fun c77 => ?_)
        · refine Wp.ild_n (j := 3) rfl dX6_again_84 ?_
          refine Wp.iret rfl dX6_again_85 ?_
          exact kx _
        · refine Wp.ild_n (j := 2) rfl dX6_again_80 ?_
          refine Wp.goto (tgt := 85) dX6_again_81 (by decide) ?_
          refine Wp.iret rfl dX6_again_85 ?_
          exact kx _

theorem mag4 (d : Nat) (h : mH) (sh : Sh h) (z1 : 0 ≤ hF h 41 30 ∧ hF h 41 30 ≤ 10) (hl : 1 ≤ hF h 41 37) (x : Int) : ∀ (m : Nat) (a : Int) (x3 : mV), (200 - a).toNat < m → (0 ≤ a) → Wp m_X6_again (d + 4) 49 [(2, 41), (0, x), (0, a), x3] [] h (fun r t => (∃ y, r = some (0, y)) ∧ (t = h ∨ ∃ v, t = sF h 41 0 v)) := by
  intro m
  induction m with
  | zero => intro a x3 hm; exact absurd hm (Nat.not_lt_zero _)
  | succ m ih =>
    intro a x3 hm a0
    refine Wp.ild_n (j := 2) rfl dX6_again_49 ?_
    refine Wp.sipush dX6_again_50 (by decide) ?_
    refine Wp.icge dX6_again_53 (by decide) (tgt := 98) (fun c53 => ?_) (fun c53 => ?_)
    · refine Wp.ald_n (j := 0) rfl dX6_again_98 ?_
      refine Wp.bipush dX6_again_99 (by decide) ?_
      refine Wp.callV1 (ct_mrefuse (d + 3) h (sK41 sh) 10) wc_X6_151 iM_X6_refuse se_X6_refuse kC6 (sK41 (h := h) sh) dX6_again_101 rfl (Nat.le_of_ble_eq_true rfl) rfl (Nat.le_of_ble_eq_true rfl) ?_
      refine Wp.iret rfl dX6_again_104 ?_
      exact ⟨⟨_, rfl⟩, Or.inr ⟨_, rfl⟩⟩
    · refine Wp.iconst dX6_again_56 (by decide) ?_
      refine sti_4_3 rfl (dSt_n dX6_again_57) ?_
      refine mag3 d h sh z1 hl x a (by omega) _ (fun y => ⟨⟨_, rfl⟩, Or.inl rfl⟩) (fun c => ?_) _ 1 (Nat.lt_succ_self _) (by omega) (by omega)
      refine inc_4_2 rfl dX6_again_92 (w32_of (by omega) (by omega)) ?_
      refine Wp.goto (tgt := 49) dX6_again_95 (by decide) ?_
      exact ih (a + 1) _ (by omega) (by omega)

theorem cq_magain (d : Nat) (h : mH) (sh : Sh h) (mi : MI h) (x : Int) : Cq m_X6_again (d + 4) [(2, 41), (0, x)] h (fun r t => (∃ y, r = some (0, y)) ∧ MI t ∧ Fr mAq mGq h t) := by
  refine Cq.of ?_
  show Wp m_X6_again ((d + 4)) 0 [(2, 41), (0, x), (9, 0), (9, 0)] [] h _
  obtain ⟨⟨⟨r0, r1⟩, ⟨n0, n1⟩, ⟨m0, m1⟩, hp, hq⟩, hms, ⟨⟨z0, z1⟩, hsp⟩, hme⟩ := id mi
  refine Wp.ald_n (j := 0) rfl dX6_again_0 ?_
  refine Wp.iconst dX6_again_1 (by decide) ?_
  refine Wp.putf (k := 1) (tg := 0) kC6 (by decide) rfl rfl lf_X6_117 dX6_again_2 (sK41 (h := h) sh) ?_
  refine Wp.ald_n (j := 0) rfl dX6_again_5 ?_
  refine Wp.iconst dX6_again_6 (by decide) ?_
  refine Wp.putf (k := 0) (tg := 0) kC6 (by decide) rfl rfl lf_X6_120 dX6_again_7 (sK41 (h := h) sh) ?_
  refine Wp.ild_n (j := 1) rfl dX6_again_10 ?_
  refine Wp.iflt dX6_again_11 (by decide) (tgt := 19) (fun c11 => ?_) (fun c11 => ?_)
  · refine Wp.ald_n (j := 0) rfl dX6_again_19 ?_
    refine Wp.iconst dX6_again_20 (by decide) ?_
    refine Wp.callV1 (ct_mrefuse (d + 3) (sF (sF h 41 1 0) 41 0 0) (sK41 (h := h) sh) 2) wc_X6_151 iM_X6_refuse se_X6_refuse kC6 (sK41 (h := h) sh) dX6_again_21 rfl (Nat.le_of_ble_eq_true rfl) rfl (Nat.le_of_ble_eq_true rfl) ?_
    refine Wp.iret rfl dX6_again_24 ?_
    exact ⟨⟨_, rfl⟩, mi, ((Fr.f (by decide)).tr ((Fr.f (by decide)).tr (Fr.f (by decide))))⟩
  · refine Wp.ild_n (j := 1) rfl dX6_again_14 ?_
    refine Wp.iconst dX6_again_15 (by decide) ?_
    refine Wp.icle dX6_again_16 (by decide) (tgt := 25) (fun c16 => ?_) (fun c16 => ?_)
    · refine Wp.ald_n (j := 0) rfl dX6_again_25 ?_
      obtain ⟨_, t26, ct26, ⟨yt26, rfl, hyt26⟩, ft26, pt26⟩ := cq_paces d (sF (sF h 41 1 0) 41 0 0) sh.m0 mi.2.2.1
      have sht26 : Sh t26 := sh.m0.fr ft26 (by decide +kernel) (by decide)
      have mit26 : MI t26 := MI.fr (h := (sF (sF h 41 1 0) 41 0 0)) mi (ft26.mono (by decide) (by decide))
      have frt26 : Fr mAq mGq h t26 := ((Fr.f (by decide)).tr (Fr.f (by decide))).tr (ft26.mono (by decide) (by decide))
      refine Wp.callV1 (ct26) wc_X6_268 iM_X6_paces se_X6_paces kC6 (sK41 (h := h) sh) dX6_again_26 rfl (Nat.le_of_ble_eq_true rfl) rfl (Nat.le_of_ble_eq_true rfl) ?_
      refine Wp.ifne dX6_again_29 (by decide) (tgt := 39) (fun c29 => ?_) (fun c29 => ?_)
      · refine Wp.ald_n (j := 0) rfl dX6_again_39 ?_
        refine Wp.sipush dX6_again_40 (by decide) ?_
        refine Wp.iconst dX6_again_43 (by decide) ?_
        obtain ⟨_, t44, ct44, rfl, f44, p44⟩ := cq_fillPowers (d + 1) t26 sht26 mit26.2.2.1.1.2 200 0 (by omega) (by omega)
        have sh44 : Sh t44 := sht26.fr f44 (by decide +kernel) (by decide)
        refine Wp.callV0 (ct44) wc_X6_254 iM_X6_fillPowers se_X6_fillPowers kC6 (sK41 (h := t26) sht26) dX6_again_44 rfl (Nat.le_of_ble_eq_true rfl) rfl (Nat.le_of_ble_eq_true rfl) ?_
        refine Wp.iconst dX6_again_47 (by decide) ?_
        refine sti_4_2 rfl (dSt_n dX6_again_48) ?_
        refine (mag4 d t44 sh44 (by rw [f44.2.2.2.2.1 41 30 (by decide)]; exact mit26.2.2.1.1) ?_ x _ 0 _ (Nat.lt_succ_self _) (by omega)).mono (fun r t q => ?_)
        · rw [f44.2.2.2.2.1 41 37 (by decide)]
          rcases hyt26 with z | z
          · omega
          · exact z.2.1.1
        have mi44 : MI t44 := mit26.fr (f44.mono (by decide) (by decide))
        have fr44 : Fr mAq mGq h t44 := frt26.tr (f44.mono (by decide) (by decide))
        obtain ⟨hr, rfl | ⟨v, rfl⟩⟩ := q
        · exact ⟨hr, mi44, fr44⟩
        · exact ⟨hr, mi44, fr44.tr (Fr.f (by decide))⟩
      · refine Wp.ald_n (j := 0) rfl dX6_again_32 ?_
        refine Wp.bipush dX6_again_33 (by decide) ?_
        refine Wp.callV1 (ct_mrefuse (d + 3) t26 (sK41 sht26) 8) wc_X6_151 iM_X6_refuse se_X6_refuse kC6 (sK41 (h := t26) sht26) dX6_again_35 rfl (Nat.le_of_ble_eq_true rfl) rfl (Nat.le_of_ble_eq_true rfl) ?_
        refine Wp.iret rfl dX6_again_38 ?_
        exact ⟨⟨_, rfl⟩, mit26, frt26.tr (Fr.f (by decide))⟩
    · refine Wp.ald_n (j := 0) rfl dX6_again_19 ?_
      refine Wp.iconst dX6_again_20 (by decide) ?_
      refine Wp.callV1 (ct_mrefuse (d + 3) (sF (sF h 41 1 0) 41 0 0) (sK41 (h := h) sh) 2) wc_X6_151 iM_X6_refuse se_X6_refuse kC6 (sK41 (h := h) sh) dX6_again_21 rfl (Nat.le_of_ble_eq_true rfl) rfl (Nat.le_of_ble_eq_true rfl) ?_
      refine Wp.iret rfl dX6_again_24 ?_
      exact ⟨⟨_, rfl⟩, mi, ((Fr.f (by decide)).tr ((Fr.f (by decide)).tr (Fr.f (by decide))))⟩

