theorem msu1X (d : Nat) (h : mH) (sh : Sh h) (mb : MB h) (n : Int) (n1 : n ≤ 20736) (hn : ∀ j, 0 ≤ j → j < n → 0 ≤ hA h 58 j ∧ hA h 58 j < n) (ez : EZ n (hA h 58) (hA h 59)) (x s : Int) (s0 : 0 ≤ s) (s1 : s < n) (c : Nat) (hc : itn (hA h 58) c s = s) (Q : Option mV → mH → Prop) (kq : ∀ (t : mH) (is9 j : Int), Fr [54] [] h t → (is9 = 0 ∨ is9 = 1) → (is9 = 1 ↔ ∀ i : Nat, sp9 (dig9 (hF h 41 5) (itn (hA h 58) i s)) (hF h 41 6) x) → Wp m_X6_sure (d + 3) 119 [(2, 41), (0, x), (0, n), (0, s), (0, is9), (0, j)] [] t Q) : ∀ (m : Nat) (u : Nat) (is9 : Int) (h' : mH), c - u < m → (Fr [54] [] h h') → (u < c) → (is9 = 0 ∨ is9 = 1) → (is9 = 1 ↔ ∀ i : Nat, i < u → sp9 (dig9 (hF h 41 5) (itn (hA h 58) i s)) (hF h 41 6) x) → Wp m_X6_sure (d + 3) 70 [(2, 41), (0, x), (0, n), (0, s), (0, is9), (0, (itn (hA h 58) u s))] [] h' Q := by
  intro m
  induction m with
  | zero => intro u is9 h' hm; exact absurd hm (Nat.not_lt_zero _)
  | succ m ih =>
    intro u is9 h' hm fr u1 i01 hi9
    have sh' := sh.fr fr (by decide +kernel) (by decide)
    have e5 : hF h' 41 5 = hF h 41 5 := fr.2.2.2.2.1 41 5 (by decide)
    have e6 : hF h' 41 6 = hF h 41 6 := fr.2.2.2.2.1 41 6 (by decide)
    have e58 : hA h' 58 = hA h 58 := fr.2.2.2.2.2 58 (by decide)
    have hk := itn_in hn s0 s1 u
    have n24 := mb.2.1.2
    refine Wp.ald_n (j := 0) rfl dX6_sure_70 ?_
    refine Wp.ild (j := 5) rfl dX6_sure_71 ?_
    refine Wp.ald_n (j := 0) rfl dX6_sure_73 ?_
    refine Wp.getf (k := 18) (tg := 2) kC6 (by decide) rfl lf_X6_57 dX6_sure_74 (sK41 (h := h') sh') (sF41_18 (h := h') sh') ?_
    obtain ⟨_, t77, ct77, rfl, f77, r77⟩ := cq_stateToX (d + 2) h' sh' (mb.fr fr (by decide) (by decide) (by decide) (by decide) (by decide)) 54 (sK54 sh') (sL54 sh') (by decide) _ hk.1 (by omega)
    have sh77 : Sh t77 := sh'.fr f77 (by decide +kernel) (by decide)
    have e77 : hA t77 58 = hA h 58 := (f77.2.2.2.2.2 58 (by decide)).trans e58
    have g77 : hF t77 41 6 = hF h 41 6 := (f77.2.2.2.2.1 41 6 (by decide)).trans e6
    have n77 : hF t77 41 6 ≤ 24 := by rw [g77]; exact n24
    rw [e6, e5] at r77
    refine Wp.callV0 (ct77) wc_X6_208 iM_X6_stateTo se_X6_stateTo kC6 (sK41 (h := h') sh') dX6_sure_77 rfl (Nat.le_of_ble_eq_true rfl) rfl (Nat.le_of_ble_eq_true rfl) ?_
    refine Wp.ild (j := 4) rfl dX6_sure_80 ?_
    refine Wp.ifeq dX6_sure_82 (by decide) (tgt := 101) (fun c82 => ?_) (fun c82 => ?_)
    · refine Wp.iconst dX6_sure_101 (by decide) ?_
      refine sti_6_4 rfl (dSt_w dX6_sure_102) ?_
      refine Wp.ald_n (j := 0) rfl dX6_sure_104 ?_
      refine Wp.getf (k := 22) (tg := 2) kC6 (by decide) rfl lf_X6_69 dX6_sure_105 (sK41 (h := t77) sh77) (sF41_22 (h := t77) sh77) ?_
      refine Wp.ild (j := 5) rfl dX6_sure_108 ?_
      refine Wp.iaload dX6_sure_110 (sK58 (h := t77) sh77) (by omega) (ilt (sL58 (h := t77) sh77) (by omega)) (show hA _ 58 _ = hA h 58 _ from congrFun e77 _) ?_
      refine sti_6_5 rfl (dSt_w dX6_sure_111) ?_
      refine Wp.ild (j := 5) rfl dX6_sure_113 ?_
      refine Wp.ild_n (j := 3) rfl dX6_sure_115 ?_
      refine Wp.icne dX6_sure_116 (by decide) (tgt := 70) (fun c116 => ?_) (fun c116 => ?_)
      · have hne : u + 1 ≠ c := fun e => c116 (by
          have : itn (hA h 58) (u + 1) s = s := by rw [e]; exact hc
          exact this)
        have hnew : ∀ v : Int, (v = 1 ↔ (is9 = 1 ∧ sp9 (dig9 (hF h 41 5) (itn (hA h 58) u s)) (hF h 41 6) x)) → (v = 1 ↔ ∀ i : Nat, i < u + 1 → sp9 (dig9 (hF h 41 5) (itn (hA h 58) i s)) (hF h 41 6) x) := fun v hv => hv.trans ⟨fun z i hi => by
          by_cases y : i < u
          · exact (hi9.mp z.1) i y
          · rw [show i = u by omega]
            exact z.2, fun z => ⟨hi9.mpr (fun i hi => z i (by omega)), z u (by omega)⟩⟩
        refine ih (u + 1) _ _ (by omega) (fr.tr f77) (by omega) (by omega) ?_
        first
        | (exact hnew 1 ⟨fun _ => ⟨by omega, hs91.mp (by omega)⟩, fun _ => rfl⟩)
        | (exact hnew 0 ⟨fun z => absurd z (by decide), fun z => by have := hs91.mpr z.2; omega⟩)
        | (exact hnew 0 ⟨fun z => absurd z (by decide), fun z => by have := z.1; omega⟩)
      · have hnew : ∀ v : Int, (v = 1 ↔ (is9 = 1 ∧ sp9 (dig9 (hF h 41 5) (itn (hA h 58) u s)) (hF h 41 6) x)) → (v = 1 ↔ ∀ i : Nat, i < u + 1 → sp9 (dig9 (hF h 41 5) (itn (hA h 58) i s)) (hF h 41 6) x) := fun v hv => hv.trans ⟨fun z i hi => by
          by_cases y : i < u
          · exact (hi9.mp z.1) i y
          · rw [show i = u by omega]
            exact z.2, fun z => ⟨hi9.mpr (fun i hi => z i (by omega)), z u (by omega)⟩⟩
        have hr9 : itn (hA h 58) (u + 1) s = s := c116
        refine kq _ _ _ (fr.tr f77) (by omega) (Iff.trans ?_ (itn_all (nx := hA h 58) (s := s) (m := u + 1) (by omega) hr9 (fun l => sp9 (dig9 (hF h 41 5) l) (hF h 41 6) x)))
        first
        | (exact hnew 1 ⟨fun _ => ⟨by omega, hs91.mp (by omega)⟩, fun _ => rfl⟩)
        | (exact hnew 0 ⟨fun z => absurd z (by decide), fun z => by have := hs91.mpr z.2; omega⟩)
        | (exact hnew 0 ⟨fun z => absurd z (by decide), fun z => by have := z.1; omega⟩)
    · refine Wp.ald_n (j := 0) rfl dX6_sure_85 ?_
      refine Wp.ald_n (j := 0) rfl dX6_sure_86 ?_
      refine Wp.getf (k := 18) (tg := 2) kC6 (by decide) rfl lf_X6_57 dX6_sure_87 (sK41 (h := t77) sh77) (sF41_18 (h := t77) sh77) ?_
      refine Wp.ild_n (j := 1) rfl dX6_sure_90 ?_
      obtain ⟨_, t91, ct91, ⟨y91, rfl, hy91, hs91⟩, e91⟩ := cq_misInStepX (d + 2) t77 sh77 n77 54 (sK54 sh77) (sL54 sh77) (fun j j0 j1 => (r77 j j0 (by rw [g77] at j1; exact j1)).2.1) x
      rw [e91] at ct91
      rw [g77, sp9_cg (fun j j0 j1 => (r77 j j0 j1).1)] at hs91
      refine Wp.callV1 (ct91) wc_X6_176 iM_X6_isInStep se_X6_isInStep kC6 (sK41 (h := t77) sh77) dX6_sure_91 rfl (Nat.le_of_ble_eq_true rfl) rfl (Nat.le_of_ble_eq_true rfl) ?_
      refine Wp.ifeq dX6_sure_94 (by decide) (tgt := 101) (fun c94 => ?_) (fun c94 => ?_)
      · refine Wp.iconst dX6_sure_101 (by decide) ?_
        refine sti_6_4 rfl (dSt_w dX6_sure_102) ?_
        refine Wp.ald_n (j := 0) rfl dX6_sure_104 ?_
        refine Wp.getf (k := 22) (tg := 2) kC6 (by decide) rfl lf_X6_69 dX6_sure_105 (sK41 (h := t77) sh77) (sF41_22 (h := t77) sh77) ?_
        refine Wp.ild (j := 5) rfl dX6_sure_108 ?_
        refine Wp.iaload dX6_sure_110 (sK58 (h := t77) sh77) (by omega) (ilt (sL58 (h := t77) sh77) (by omega)) (show hA _ 58 _ = hA h 58 _ from congrFun e77 _) ?_
        refine sti_6_5 rfl (dSt_w dX6_sure_111) ?_
        refine Wp.ild (j := 5) rfl dX6_sure_113 ?_
        refine Wp.ild_n (j := 3) rfl dX6_sure_115 ?_
        refine Wp.icne dX6_sure_116 (by decide) (tgt := 70) (fun c116 => ?_) (fun c116 => ?_)
        · have hne : u + 1 ≠ c := fun e => c116 (by
            have : itn (hA h 58) (u + 1) s = s := by rw [e]; exact hc
            exact this)
          have hnew : ∀ v : Int, (v = 1 ↔ (is9 = 1 ∧ sp9 (dig9 (hF h 41 5) (itn (hA h 58) u s)) (hF h 41 6) x)) → (v = 1 ↔ ∀ i : Nat, i < u + 1 → sp9 (dig9 (hF h 41 5) (itn (hA h 58) i s)) (hF h 41 6) x) := fun v hv => hv.trans ⟨fun z i hi => by
            by_cases y : i < u
            · exact (hi9.mp z.1) i y
            · rw [show i = u by omega]
              exact z.2, fun z => ⟨hi9.mpr (fun i hi => z i (by omega)), z u (by omega)⟩⟩
          refine ih (u + 1) _ _ (by omega) (fr.tr f77) (by omega) (by omega) ?_
          first
          | (exact hnew 1 ⟨fun _ => ⟨by omega, hs91.mp (by omega)⟩, fun _ => rfl⟩)
          | (exact hnew 0 ⟨fun z => absurd z (by decide), fun z => by have := hs91.mpr z.2; omega⟩)
          | (exact hnew 0 ⟨fun z => absurd z (by decide), fun z => by have := z.1; omega⟩)
        · have hnew : ∀ v : Int, (v = 1 ↔ (is9 = 1 ∧ sp9 (dig9 (hF h 41 5) (itn (hA h 58) u s)) (hF h 41 6) x)) → (v = 1 ↔ ∀ i : Nat, i < u + 1 → sp9 (dig9 (hF h 41 5) (itn (hA h 58) i s)) (hF h 41 6) x) := fun v hv => hv.trans ⟨fun z i hi => by
            by_cases y : i < u
            · exact (hi9.mp z.1) i y
            · rw [show i = u by omega]
              exact z.2, fun z => ⟨hi9.mpr (fun i hi => z i (by omega)), z u (by omega)⟩⟩
          have hr9 : itn (hA h 58) (u + 1) s = s := c116
          refine kq _ _ _ (fr.tr f77) (by omega) (Iff.trans ?_ (itn_all (nx := hA h 58) (s := s) (m := u + 1) (by omega) hr9 (fun l => sp9 (dig9 (hF h 41 5) l) (hF h 41 6) x)))
          first
          | (exact hnew 1 ⟨fun _ => ⟨by omega, hs91.mp (by omega)⟩, fun _ => rfl⟩)
          | (exact hnew 0 ⟨fun z => absurd z (by decide), fun z => by have := hs91.mpr z.2; omega⟩)
          | (exact hnew 0 ⟨fun z => absurd z (by decide), fun z => by have := z.1; omega⟩)
      · refine Wp.iconst dX6_sure_97 (by decide) ?_
        refine Wp.goto (tgt := 102) dX6_sure_98 (by decide) ?_
        refine sti_6_4 rfl (dSt_w dX6_sure_102) ?_
        refine Wp.ald_n (j := 0) rfl dX6_sure_104 ?_
        refine Wp.getf (k := 22) (tg := 2) kC6 (by decide) rfl lf_X6_69 dX6_sure_105 (sK41 (h := t77) sh77) (sF41_22 (h := t77) sh77) ?_
        refine Wp.ild (j := 5) rfl dX6_sure_108 ?_
        refine Wp.iaload dX6_sure_110 (sK58 (h := t77) sh77) (by omega) (ilt (sL58 (h := t77) sh77) (by omega)) (show hA _ 58 _ = hA h 58 _ from congrFun e77 _) ?_
        refine sti_6_5 rfl (dSt_w dX6_sure_111) ?_
        refine Wp.ild (j := 5) rfl dX6_sure_113 ?_
        refine Wp.ild_n (j := 3) rfl dX6_sure_115 ?_
        refine Wp.icne dX6_sure_116 (by decide) (tgt := 70) (fun c116 => ?_) (fun c116 => ?_)
        · have hne : u + 1 ≠ c := fun e => c116 (by
            have : itn (hA h 58) (u + 1) s = s := by rw [e]; exact hc
            exact this)
          have hnew : ∀ v : Int, (v = 1 ↔ (is9 = 1 ∧ sp9 (dig9 (hF h 41 5) (itn (hA h 58) u s)) (hF h 41 6) x)) → (v = 1 ↔ ∀ i : Nat, i < u + 1 → sp9 (dig9 (hF h 41 5) (itn (hA h 58) i s)) (hF h 41 6) x) := fun v hv => hv.trans ⟨fun z i hi => by
            by_cases y : i < u
            · exact (hi9.mp z.1) i y
            · rw [show i = u by omega]
              exact z.2, fun z => ⟨hi9.mpr (fun i hi => z i (by omega)), z u (by omega)⟩⟩
          refine ih (u + 1) _ _ (by omega) (fr.tr f77) (by omega) (by omega) ?_
          first
          | (exact hnew 1 ⟨fun _ => ⟨by omega, hs91.mp (by omega)⟩, fun _ => rfl⟩)
          | (exact hnew 0 ⟨fun z => absurd z (by decide), fun z => by have := hs91.mpr z.2; omega⟩)
          | (exact hnew 0 ⟨fun z => absurd z (by decide), fun z => by have := z.1; omega⟩)
        · have hnew : ∀ v : Int, (v = 1 ↔ (is9 = 1 ∧ sp9 (dig9 (hF h 41 5) (itn (hA h 58) u s)) (hF h 41 6) x)) → (v = 1 ↔ ∀ i : Nat, i < u + 1 → sp9 (dig9 (hF h 41 5) (itn (hA h 58) i s)) (hF h 41 6) x) := fun v hv => hv.trans ⟨fun z i hi => by
            by_cases y : i < u
            · exact (hi9.mp z.1) i y
            · rw [show i = u by omega]
              exact z.2, fun z => ⟨hi9.mpr (fun i hi => z i (by omega)), z u (by omega)⟩⟩
          have hr9 : itn (hA h 58) (u + 1) s = s := c116
          refine kq _ _ _ (fr.tr f77) (by omega) (Iff.trans ?_ (itn_all (nx := hA h 58) (s := s) (m := u + 1) (by omega) hr9 (fun l => sp9 (dig9 (hF h 41 5) l) (hF h 41 6) x)))
          first
          | (exact hnew 1 ⟨fun _ => ⟨by omega, hs91.mp (by omega)⟩, fun _ => rfl⟩)
          | (exact hnew 0 ⟨fun z => absurd z (by decide), fun z => by have := hs91.mpr z.2; omega⟩)
          | (exact hnew 0 ⟨fun z => absurd z (by decide), fun z => by have := z.1; omega⟩)

theorem msu119X (d : Nat) (h : mH) (sh : Sh h) (x n s is9 j : Int) (i01 : is9 = 0 ∨ is9 = 1) (s0 : 0 ≤ s) (s1 : s < 20736) (Q : Option mV → mH → Prop) (kq : Wp m_X6_sure (d + 3) 46 [(2, 41), (0, x), (0, n), (0, s + 1), (0, is9), (0, j)] [] (sE h 71 s is9) Q) : Wp m_X6_sure (d + 3) 119 [(2, 41), (0, x), (0, n), (0, s), (0, is9), (0, j)] [] h Q := by
  refine Wp.ald_n (j := 0) rfl dX6_sure_119 ?_
  refine Wp.getf (k := 43) (tg := 2) kC6 (by decide) rfl lf_X6_109 dX6_sure_120 (sK41 (h := h) sh) (sF41_43 (h := h) sh) ?_
  refine Wp.ild_n (j := 3) rfl dX6_sure_123 ?_
  refine Wp.ild (j := 4) rfl dX6_sure_124 ?_
  refine Wp.ifeq dX6_sure_126 (by decide) (tgt := 133) (fun c126 => ?_) (fun c126 => ?_)
  · refine Wp.iconst dX6_sure_133 (by decide) ?_
    refine Wp.iastore dX6_sure_134 (sK71 (h := h) sh) (by omega) (ilt (sL71 (h := h) sh) (by omega)) ?_
    refine inc_6_3 rfl dX6_sure_135 (by first | exact w32_of (by omega) (by omega) | rfl) ?_
    refine Wp.goto (tgt := 46) dX6_sure_138 (by decide) ?_
    first
    | (have e : is9 = 1 := by omega
       subst e
       exact kq)
    | (have e : is9 = 0 := by omega
       subst e
       exact kq)
  · refine Wp.iconst dX6_sure_129 (by decide) ?_
    refine Wp.goto (tgt := 134) dX6_sure_130 (by decide) ?_
    refine Wp.iastore dX6_sure_134 (sK71 (h := h) sh) (by omega) (ilt (sL71 (h := h) sh) (by omega)) ?_
    refine inc_6_3 rfl dX6_sure_135 (by first | exact w32_of (by omega) (by omega) | rfl) ?_
    refine Wp.goto (tgt := 46) dX6_sure_138 (by decide) ?_
    first
    | (have e : is9 = 1 := by omega
       subst e
       exact kq)
    | (have e : is9 = 0 := by omega
       subst e
       exact kq)

theorem msu2X (d : Nat) (h : mH) (sh : Sh h) (mb : MB h) (n : Int) (n1 : n ≤ 20736) (hn : ∀ j, 0 ≤ j → j < n → 0 ≤ hA h 58 j ∧ hA h 58 j < n) (ez : EZ n (hA h 58) (hA h 59)) (x : Int) (Q : Option mV → mH → Prop) (kq : ∀ (t : mH) (s : Int) (x4 x5 : mV), Fr [54, 71] [] h t → PM9 (hA h 58) (hA h 59) (hA t 71) (hF h 41 5) (hF h 41 6) x n → Wp m_X6_sure (d + 3) 141 [(2, 41), (0, x), (0, n), (0, s), x4, x5] [] t Q) : ∀ (m : Nat) (s : Int) (x4 x5 : mV) (h' : mH), (n - s).toNat < m → (Fr [54, 71] [] h h') → (0 ≤ s) → (s ≤ n) → (PM9 (hA h 58) (hA h 59) (hA h' 71) (hF h 41 5) (hF h 41 6) x s) → Wp m_X6_sure (d + 3) 46 [(2, 41), (0, x), (0, n), (0, s), x4, x5] [] h' Q := by
  intro m
  induction m with
  | zero => intro s x4 x5 h' hm; exact absurd hm (Nat.not_lt_zero _)
  | succ m ih =>
    intro s x4 x5 h' hm fr s0 sn pm
    have sh' := sh.fr fr (by decide +kernel) (by decide)
    have e5 : hF h' 41 5 = hF h 41 5 := fr.2.2.2.2.1 41 5 (by decide)
    have e6 : hF h' 41 6 = hF h 41 6 := fr.2.2.2.2.1 41 6 (by decide)
    have e58 : hA h' 58 = hA h 58 := fr.2.2.2.2.2 58 (by decide)
    have e59 : hA h' 59 = hA h 59 := fr.2.2.2.2.2 59 (by decide)
    refine Wp.ild_n (j := 3) rfl dX6_sure_46 ?_
    refine Wp.ild_n (j := 2) rfl dX6_sure_47 ?_
    refine Wp.icge dX6_sure_48 (by decide) (tgt := 141) (fun c48 => ?_) (fun c48 => ?_)
    · exact kq _ _ _ _ fr (by rw [show n = s by omega]; exact pm)
    · refine Wp.ald_n (j := 0) rfl dX6_sure_51 ?_
      refine Wp.getf (k := 23) (tg := 2) kC6 (by decide) rfl lf_X6_72 dX6_sure_52 (sK41 (h := h') sh') (sF41_23 (h := h') sh') ?_
      refine Wp.ild_n (j := 3) rfl dX6_sure_55 ?_
      refine Wp.iaload dX6_sure_56 (sK59 (h := h') sh') (by omega) (ilt (sL59 (h := h') sh') (by omega)) (show hA _ 59 _ = hA h 59 _ from congrFun e59 _) ?_
      refine Wp.ild_n (j := 3) rfl dX6_sure_57 ?_
      refine Wp.iceq dX6_sure_58 (by decide) (tgt := 64) (fun c58 => ?_) (fun c58 => ?_)
      · refine Wp.iconst dX6_sure_64 (by decide) ?_
        refine sti_6_4 rfl (dSt_w dX6_sure_65) ?_
        refine Wp.ild_n (j := 3) rfl dX6_sure_67 ?_
        refine sti_6_5 rfl (dSt_w dX6_sure_68) ?_
        have hz := ez s s0 (by omega)
        rw [c58] at hz
        obtain ⟨c, hc1, hc2⟩ := hz.2.2.2
        have k9 := msu1X d h' sh' (mb.fr fr (by decide) (by decide) (by decide) (by decide) (by decide)) n n1 (by rw [e58]; exact hn) (by rw [e58, e59]; exact ez) x s s0 (by omega) c (by rw [e58]; exact hc2) Q (fun t is9 j frt hi hp9 => msu119X d t (sh'.fr frt (by decide +kernel) (by decide)) x n s is9 j hi s0 (by omega) Q ?_) _ 0 1 h' (Nat.lt_succ_self _) Fr.rf (by omega) (Or.inr rfl) ⟨fun _ i hi => absurd hi (by omega), fun _ => rfl⟩
        · exact k9
        rw [e58, e5, e6] at hp9
        have f71 : hA t 71 = hA h' 71 := frt.2.2.2.2.2 71 (by decide)
        refine ih (s + 1) _ _ _ (by omega) ((fr.tr (frt.mono (by decide) (by simp))).tr (Fr.e (by decide))) (by omega) (by omega) (fun l l0 l1 hl => ?_)
        rw [hA_sEs, f71]
        by_cases e : l = s
        · rw [e, u1_s]
          exact ⟨hi, hp9⟩
        · rw [u1_n _ _ e]
          exact pm l l0 (by omega) hl
      · refine Wp.goto (tgt := 135) dX6_sure_61 (by decide) ?_
        refine inc_6_3 rfl dX6_sure_135 (by first | exact w32_of (by omega) (by omega) | rfl) ?_
        refine Wp.goto (tgt := 46) dX6_sure_138 (by decide) ?_
        exact ih (s + 1) _ _ h' (by omega) fr (by omega) (by omega) (fun l l0 l1 hl => pm l l0 (by
          by_cases e : l = s
          · rw [e] at hl
            exact absurd hl c58
          · omega) hl)

theorem msu3X (d : Nat) (h : mH) (sh : Sh h) (n : Int) (n1 : n ≤ 20736) (hn : ∀ j, 0 ≤ j → j < n → 0 ≤ hA h 58 j ∧ hA h 58 j < n) (ez : EZ n (hA h 58) (hA h 59)) (x : Int) (x5 : mV) : ∀ (m : Nat) (s a : Int), (n - s).toNat < m → (0 ≤ s) → (s ≤ n) → (a = w32 (sm9 (hA h 59) (hA h 71) s.toNat)) → Wp m_X6_sure (d + 3) 146 [(2, 41), (0, x), (0, n), (0, a), (0, s), x5] [] h (fun r t => r = some (0, w32 (sm9 (hA h 59) (hA h 71) n.toNat)) ∧ t = h) := by
  intro m
  induction m with
  | zero => intro s a hm; exact absurd hm (Nat.not_lt_zero _)
  | succ m ih =>
    intro s a hm s0 sn ea
    refine Wp.ild (j := 4) rfl dX6_sure_146 ?_
    refine Wp.ild_n (j := 2) rfl dX6_sure_148 ?_
    refine Wp.icge dX6_sure_149 (by decide) (tgt := 173) (fun c149 => ?_) (fun c149 => ?_)
    · refine Wp.ild_n (j := 3) rfl dX6_sure_173 ?_
      refine Wp.iret rfl dX6_sure_174 ?_
      exact ⟨by rw [ea, show s = n by omega], rfl⟩
    · have hz := ez s s0 (by omega)
      refine Wp.ild_n (j := 3) rfl dX6_sure_152 ?_
      refine Wp.ald_n (j := 0) rfl dX6_sure_153 ?_
      refine Wp.getf (k := 43) (tg := 2) kC6 (by decide) rfl lf_X6_109 dX6_sure_154 (sK41 (h := h) sh) (sF41_43 (h := h) sh) ?_
      refine Wp.ald_n (j := 0) rfl dX6_sure_157 ?_
      refine Wp.getf (k := 23) (tg := 2) kC6 (by decide) rfl lf_X6_72 dX6_sure_158 (sK41 (h := h) sh) (sF41_23 (h := h) sh) ?_
      refine Wp.ild (j := 4) rfl dX6_sure_161 ?_
      refine Wp.iaload dX6_sure_163 (sK59 (h := h) sh) (by omega) (ilt (sL59 (h := h) sh) (by omega)) (show hA _ 59 _ = hA h 59 _ from rfl) ?_
      refine Wp.iaload dX6_sure_164 (sK71 (h := h) sh) (by omega) (ilt (sL71 (h := h) sh) (by omega)) (show hA _ 71 _ = hA h 71 _ from rfl) ?_
      refine Wp.iaddE dX6_sure_165 rfl ?_
      refine sti_6_3 rfl (dSt_n dX6_sure_166) ?_
      refine inc_6_4 rfl dX6_sure_167 (by first | exact w32_of (by omega) (by omega) | rfl) ?_
      refine Wp.goto (tgt := 146) dX6_sure_170 (by decide) ?_
      exact ih (s + 1) _ (by omega) (by omega) (by omega) (by rw [ea, w32_addl, sm9_s s0])

theorem cq_msureX (d : Nat) (h : mH) (sh : Sh h) (mi : MI h) (x : Int) : Cq m_X6_sure (d + 3) [(2, 41), (0, x)] h (fun r t => (∃ y, r = some (0, y) ∧ ((¬ ((0 ≤ x ∧ x < kshl 1 (hF h 41 6)) ∧ (hF h 41 6 ≠ 0 ∧ hF h 41 5 ^ (hF h 41 6).toNat ≤ 20736)) ∧ y = -1) ∨ (((0 ≤ x ∧ x < kshl 1 (hF h 41 6)) ∧ (hF h 41 6 ≠ 0 ∧ hF h 41 5 ^ (hF h 41 6).toNat ≤ 20736)) ∧ ∃ H p : Int → Int, HM9 (hF h 41 5 ^ (hF h 41 6).toNat) (mG9 (mcf h)) H ∧ PM9 (mG9 (mcf h)) H p (hF h 41 5) (hF h 41 6) x (hF h 41 5 ^ (hF h 41 6).toNat) ∧ y = w32 (sm9 H p (hF h 41 5 ^ (hF h 41 6).toNat).toNat)))) ∧ MI t ∧ Fr mAq mGq h t) := by
  refine Cq.of ?_
  show Wp m_X6_sure ((d + 3)) 0 [(2, 41), (0, x), (9, 0), (9, 0), (9, 0), (9, 0)] [] h _
  obtain ⟨⟨⟨r0, r1⟩, ⟨n0, n1⟩, ⟨m0, m1⟩, hp, hq⟩, hms, ⟨⟨z0, z1⟩, hsp⟩, hme⟩ := id mi
  refine Wp.ald_n (j := 0) rfl dX6_sure_0 ?_
  refine Wp.iconst dX6_sure_1 (by decide) ?_
  refine Wp.putf (k := 1) (tg := 0) kC6 (by decide) rfl rfl lf_X6_117 dX6_sure_2 (sK41 (h := h) sh) ?_
  refine Wp.ald_n (j := 0) rfl dX6_sure_5 ?_
  refine Wp.iconst dX6_sure_6 (by decide) ?_
  refine Wp.putf (k := 0) (tg := 0) kC6 (by decide) rfl rfl lf_X6_120 dX6_sure_7 (sK41 (h := h) sh) ?_
  refine Wp.ald_n (j := 0) rfl dX6_sure_10 ?_
  refine Wp.ild_n (j := 1) rfl dX6_sure_11 ?_
  obtain ⟨_, tq, ctq, ⟨yq, rfl, hyq⟩, eq⟩ := cq_misSetX (d + 2) (sF (sF h 41 1 0) 41 0 0) (sK41 (h := h) sh) x
  rw [eq] at ctq
  have hyq : (yq = 0 ∧ ¬ (0 ≤ x ∧ x < kshl 1 (hF h 41 6))) ∨ (yq = 1 ∧ (0 ≤ x ∧ x < kshl 1 (hF h 41 6))) := hyq
  refine Wp.callV1 (ctq) wc_X6_173 iM_X6_isSet se_X6_isSet kC6 (sK41 (h := h) sh) dX6_sure_12 rfl (Nat.le_of_ble_eq_true rfl) rfl (Nat.le_of_ble_eq_true rfl) ?_
  refine Wp.ifne dX6_sure_15 (by decide) (tgt := 24) (fun c15 => ?_) (fun c15 => ?_)
  · refine Wp.ald_n (j := 0) rfl dX6_sure_24 ?_
    obtain ⟨_, tq2, ctq2, ⟨yq2, rfl, hyq2⟩, eq2⟩ := cq_mstatesX (d + 2) (sF (sF h 41 1 0) 41 0 0) sh.m0 mi.1
    rw [eq2] at ctq2
    have hyq2 : (yq2 = -1 ∧ (hF h 41 6 = 0 ∨ 20736 < hF h 41 5 ^ (hF h 41 6).toNat)) ∨ (yq2 = hF h 41 5 ^ (hF h 41 6).toNat ∧ 1 ≤ yq2 ∧ yq2 ≤ 20736 ∧ hF h 41 6 ≠ 0) := hyq2
    refine Wp.callV1 (ctq2) wc_X6_216 iM_X6_states se_X6_states kC6 (sK41 (h := h) sh) dX6_sure_25 rfl (Nat.le_of_ble_eq_true rfl) rfl (Nat.le_of_ble_eq_true rfl) ?_
    refine sti_6_2 rfl (dSt_n dX6_sure_28) ?_
    refine Wp.ild_n (j := 2) rfl dX6_sure_29 ?_
    refine Wp.ifge dX6_sure_30 (by decide) (tgt := 39) (fun c30 => ?_) (fun c30 => ?_)
    · refine Wp.ald_n (j := 0) rfl dX6_sure_39 ?_
      refine Wp.ild_n (j := 2) rfl dX6_sure_40 ?_
      obtain ⟨hy1, hy2, hy3, hy4⟩ : yq2 = hF h 41 5 ^ (hF h 41 6).toNat ∧ 1 ≤ yq2 ∧ yq2 ≤ 20736 ∧ hF h 41 6 ≠ 0 := by
        rcases hyq2 with z | z
        · omega
        · exact z
      obtain ⟨_, t41, ct41, rfl, ft41, hnt41, hgt41, hmt41⟩ := cq_fillEndsX d (sF (sF h 41 1 0) 41 0 0) sh.m0 mi.1 yq2 hy1 hy3
      have ezt41 := hmt41.ez
      have hgt41 : ∀ j, 0 ≤ j → j < yq2 → hA t41 58 j = mG9 (mcf h) j := hgt41
      have sht41 : Sh t41 := sh.m0.fr ft41 (by decide +kernel) (by decide)
      have mit41 : MI t41 := MI.fr (h := (sF (sF h 41 1 0) 41 0 0)) mi (ft41.mono (by decide) (by simp))
      have frt41 : Fr mAq mGq h t41 := ((Fr.f (by decide)).tr (Fr.f (by decide))).tr (ft41.mono (by decide) (by simp))
      refine Wp.callV0 (ct41) wc_X6_220 iM_X6_fillEnds se_X6_fillEnds kC6 (sK41 (h := h) sh) dX6_sure_41 rfl (Nat.le_of_ble_eq_true rfl) rfl (Nat.le_of_ble_eq_true rfl) ?_
      refine Wp.iconst dX6_sure_44 (by decide) ?_
      refine sti_6_3 rfl (dSt_n dX6_sure_45) ?_
      have m5 : hF t41 41 5 = hF h 41 5 := ft41.2.2.2.2.1 41 5 (by decide)
      have m6 : hF t41 41 6 = hF h 41 6 := ft41.2.2.2.2.1 41 6 (by decide)
      refine msu2X d t41 sht41 mit41.1 yq2 hy3 hnt41 ezt41 x _ (fun t s x4 x5 frt pm => ?_) _ 0 _ _ _ (Nat.lt_succ_self _) Fr.rf (by omega) (by omega) (fun l l0 l1 => absurd l1 (by omega))
      rw [m5, m6] at pm
      have e58 : hA t 58 = hA t41 58 := frt.2.2.2.2.2 58 (by decide)
      have e59 : hA t 59 = hA t41 59 := frt.2.2.2.2.2 59 (by decide)
      refine Wp.iconst dX6_sure_141 (by decide) ?_
      refine sti_6_3 rfl (dSt_n dX6_sure_142) ?_
      refine Wp.iconst dX6_sure_143 (by decide) ?_
      refine sti_6_4 rfl (dSt_w dX6_sure_144) ?_
      refine (msu3X d t (sht41.fr frt (by decide +kernel) (by decide)) yq2 hy3 (by rw [e58]; exact hnt41) (by rw [e58, e59]; exact ezt41) x _ _ 0 0 (Nat.lt_succ_self _) (by omega) (by omega) rfl).mono (fun r v q => ?_)
      obtain ⟨rfl, rfl⟩ := q
      refine ⟨⟨_, rfl, Or.inr ⟨⟨by omega, hy4, by omega⟩, hA t41 59, hA v 71, ?_, ?_, ?_⟩⟩, mit41.fr (frt.mono (by decide) (by simp)), frt41.tr (frt.mono (by decide) (by simp))⟩
      · rw [← hy1]
        exact HM9.cg hnt41 hgt41 (fun _ _ _ => rfl) hmt41
      · rw [← hy1]
        exact PM9.cg hnt41 hgt41 pm
      · rw [← hy1, e59]
    · refine Wp.ald_n (j := 0) rfl dX6_sure_33 ?_
      refine Wp.iconst dX6_sure_34 (by decide) ?_
      refine Wp.callV1 (ct_mrefuse (d + 2) (sF (sF h 41 1 0) 41 0 0) (sK41 (h := h) sh) 5) wc_X6_151 iM_X6_refuse se_X6_refuse kC6 (sK41 (h := h) sh) dX6_sure_35 rfl (Nat.le_of_ble_eq_true rfl) rfl (Nat.le_of_ble_eq_true rfl) ?_
      refine Wp.iret rfl dX6_sure_38 ?_
      have ns : ¬ (hF h 41 6 ≠ 0 ∧ hF h 41 5 ^ (hF h 41 6).toNat ≤ 20736) := fun z => by
        rcases hyq2 with y | y
        · have := z.1
          have := z.2
          omega
        · omega
      exact ⟨⟨_, rfl, Or.inl ⟨fun z => ns z.2, rfl⟩⟩, mi, ((Fr.f (by decide)).tr ((Fr.f (by decide)).tr (Fr.f (by decide))))⟩
  · refine Wp.ald_n (j := 0) rfl dX6_sure_18 ?_
    refine Wp.iconst dX6_sure_19 (by decide) ?_
    refine Wp.callV1 (ct_mrefuse (d + 2) (sF (sF h 41 1 0) 41 0 0) (sK41 (h := h) sh) 2) wc_X6_151 iM_X6_refuse se_X6_refuse kC6 (sK41 (h := h) sh) dX6_sure_20 rfl (Nat.le_of_ble_eq_true rfl) rfl (Nat.le_of_ble_eq_true rfl) ?_
    refine Wp.iret rfl dX6_sure_23 ?_
    exact ⟨⟨_, rfl, Or.inl ⟨fun z => by have := z.1; omega, rfl⟩⟩, mi, ((Fr.f (by decide)).tr ((Fr.f (by decide)).tr (Fr.f (by decide))))⟩

