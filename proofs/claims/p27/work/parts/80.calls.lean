theorem un9_s {h : mH} {u : Int} (u0 : 0 ≤ u) (un : ∀ i j : Nat, i < j → (j : Int) < u → ¬ EQ9 (hF h 2 1) (cI9 (ccf h) (hA h 4)) i j) (ua : ∀ i, 0 ≤ i → i < u → ¬ AL9 h i u) : ∀ i j : Nat, i < j → (j : Int) < u + 1 → ¬ EQ9 (hF h 2 1) (cI9 (ccf h) (hA h 4)) i j := by
  intro i j hij hj
  by_cases z : (j : Int) < u
  · exact un i j hij z
  · have ej : j = u.toNat := by omega
    rw [ej]
    exact ua (i : Int) (by omega) (by omega)
theorem un9_rp {h : mH} {y u : Int} (un : ∀ i j : Nat, i < j → (j : Int) < u → ¬ EQ9 (hF h 2 1) (cI9 (ccf h) (hA h 4)) i j) (y0 : 0 ≤ y) (y1 : y < u) (al : AL9 h y u) : Rp (hF h 2 1) (cI9 (ccf h) (hA h 4)) y.toNat u.toNat := ⟨by omega, al, fun i j a b => un i j a (by omega)⟩
theorem round_loop (d : Nat) (h : mH) (shh : Sh h) (bih : BI h) (rx : (hF h 17 3 = 21 ∨ 74 ≤ hF h 17 3) ∧ hF h 17 3 < hN h ∧ hK h (hF h 17 3) = 10) (P : Int) (x : Int) (Q : Option mV → mH → Prop) (kq : ∀ (t : mH) (y v : Int), W9 h t P → RD9 (hF h 2 1) (cI9 (ccf h) (hA h 4)) x y → Q (some (0, y)) (sF t 0 0 v)) : ∀ (m : Nat) (u : Int) (x3 : mV) (h' : mH), (20001 - u).toNat < m → (0 ≤ u) → (u ≤ 20001) → (W9 h h' P) → (W9B h h' u u) → (∀ i j : Nat, i < j → (j : Int) < u → ¬ EQ9 (hF h 2 1) (cI9 (ccf h) (hA h 4)) i j) → Wp m_X5_round (d + 4) 55 [(2, 0), (0, x), (0, u), x3] [] h' Q := by
  intro m
  induction m with
  | zero => intro u x3 h' hm; exact absurd hm (Nat.not_lt_zero _)
  | succ m ih =>
    intro u x3 h' hm u0 u1 wk wb un
    have sh' := wk.1
    refine Wp.ild_n (j := 2) rfl dX5_round_55 ?_
    refine Wp.sipush dX5_round_56 (by decide) ?_
    refine Wp.icgt dX5_round_59 (by decide) (tgt := 118) (fun c59 => ?_) (fun c59 => ?_)
    · refine Wp.ald_n (j := 0) rfl dX5_round_118 ?_
      refine Wp.bipush dX5_round_119 (by decide) ?_
      refine Wp.callV1 (ct_lack (d + 3) h' sh' 10) wc_X5_88 iM_X5_lack se_X5_lack kC5 (sK0 (h := h') sh') dX5_round_121 rfl (Nat.le_of_ble_eq_true rfl) rfl (Nat.le_of_ble_eq_true rfl) ?_
      refine Wp.iret rfl dX5_round_124 ?_
      exact kq _ _ _ wk (Or.inr ⟨rfl, fun s t r => Classical.byContradiction (fun z => un s t r.1 (by omega) r.2.1)⟩)
    · refine Wp.ald_n (j := 0) rfl dX5_round_62 ?_
      refine Wp.getf (k := 3) (tg := 2) kC5 (by decide) rfl lf_X5_29 dX5_round_63 (sK0 (h := h') sh') (sF0_3 (h := h') sh') ?_
      refine Wp.ald_n (j := 0) rfl dX5_round_66 ?_
      refine Wp.getf (k := 2) (tg := 2) kC5 (by decide) rfl lf_X5_22 dX5_round_67 (sK0 (h := h') sh') (sF0_2 (h := h') sh') ?_
      refine Wp.getfN (k := 12) (tg := 2) kC0 (by decide) rfl lf_X5_207 dX5_round_70 (sK2 (h := h') sh') (sF2_12 (h := h') sh') ?_
      refine Wp.ald_n (j := 0) rfl dX5_round_73 ?_
      refine Wp.getf (k := 2) (tg := 2) kC5 (by decide) rfl lf_X5_22 dX5_round_74 (sK0 (h := h') sh') (sF0_2 (h := h') sh') ?_
      refine Wp.getfN (k := 1) (tg := 0) kC0 (by decide) rfl lf_X5_119 dX5_round_77 (sK2 (h := h') sh') (show hF _ 2 1 = hF h' 2 1 from rfl) ?_
      obtain ⟨y80, t80, ct80, w80, hy80, n80⟩ := w9_stepOf d shh bih rx wk wb u0 (by omega)
      have sh80 := w80.1
      refine Wp.callV1 (ct80) wc_X5_210 iM_X4_stepOf se_X4_stepOf kC4 (sK13 (h := h') sh') dX5_round_80 rfl (Nat.le_of_ble_eq_true rfl) rfl (Nat.le_of_ble_eq_true rfl) ?_
      refine sti_4_3 rfl (dSt_n dX5_round_83) ?_
      refine Wp.ild_n (j := 3) rfl dX5_round_84 ?_
      refine Wp.iconst dX5_round_85 (by decide) ?_
      refine Wp.iceq dX5_round_86 (by decide) (tgt := 105) (fun c86 => ?_) (fun c86 => ?_)
      · refine Wp.ald_n (j := 0) rfl dX5_round_105 ?_
        refine Wp.getf (k := 2) (tg := 2) kC5 (by decide) rfl lf_X5_22 dX5_round_106 (sK0 (h := t80) sh80) (sF0_2 (h := t80) sh80) ?_
        obtain ⟨wb80, ua80⟩ : W9B h t80 (u + 1) u ∧ ∀ i, 0 ≤ i → i < u → ¬ AL9 h i u := by
          rcases hy80 with ⟨-, a, b⟩ | ⟨a, b, c⟩
          · exact ⟨a, b⟩
          · omega
        obtain ⟨t109, ct109, w109, wb109, n109⟩ := w9_walk d shh w80 u0 wb80
        have sh109 := w109.1
        refine Wp.callV0 (ct109) wc_X5_214 iM_X0_walk se_X0_walk kC0 (sK2 (h := t80) sh80) dX5_round_109 rfl (Nat.le_of_ble_eq_true rfl) rfl (Nat.le_of_ble_eq_true rfl) ?_
        refine inc_4_2 rfl dX5_round_112 (by first | exact w32_of (by omega) (by omega) | rfl) ?_
        refine Wp.goto (tgt := 55) dX5_round_115 (by decide) ?_
        exact ih (u + 1) _ t109 (by omega) (by omega) (by omega) w109 wb109 (un9_s u0 un ua80)
      · refine Wp.ald_n (j := 0) rfl dX5_round_89 ?_
        refine Wp.ild_n (j := 1) rfl dX5_round_90 ?_
        refine Wp.ifne dX5_round_91 (by decide) (tgt := 98) (fun c91 => ?_) (fun c91 => ?_)
        · refine Wp.ild_n (j := 2) rfl dX5_round_98 ?_
          refine Wp.ild_n (j := 3) rfl dX5_round_99 ?_
          refine Wp.isubE dX5_round_100 (by first | exact w32_of (by omega) (by omega) | rfl) ?_
          refine Wp.callV1 (ct_answer (d + 3) t80 sh80 _) wc_X5_126 iM_X5_answer se_X5_answer kC5 (sK0 (h := t80) sh80) dX5_round_101 rfl (Nat.le_of_ble_eq_true rfl) rfl (Nat.le_of_ble_eq_true rfl) ?_
          refine Wp.iret rfl dX5_round_104 ?_
          rcases hy80 with ⟨z, -⟩ | ⟨y0, y1, al⟩
          · omega
          have rp := un9_rp un y0 y1 al
          first
          | exact kq _ _ _ w80 (Or.inl ⟨_, _, rp, by omega, by rw [if_pos (by omega)]; omega⟩)
          | exact kq _ _ _ w80 (Or.inl ⟨_, _, rp, by omega, by rw [if_neg (by omega)]; omega⟩)
        · refine Wp.ild_n (j := 3) rfl dX5_round_94 ?_
          refine Wp.goto (tgt := 101) dX5_round_95 (by decide) ?_
          refine Wp.callV1 (ct_answer (d + 3) t80 sh80 _) wc_X5_126 iM_X5_answer se_X5_answer kC5 (sK0 (h := t80) sh80) dX5_round_101 rfl (Nat.le_of_ble_eq_true rfl) rfl (Nat.le_of_ble_eq_true rfl) ?_
          refine Wp.iret rfl dX5_round_104 ?_
          rcases hy80 with ⟨z, -⟩ | ⟨y0, y1, al⟩
          · omega
          have rp := un9_rp un y0 y1 al
          first
          | exact kq _ _ _ w80 (Or.inl ⟨_, _, rp, by omega, by rw [if_pos (by omega)]; omega⟩)
          | exact kq _ _ _ w80 (Or.inl ⟨_, _, rp, by omega, by rw [if_neg (by omega)]; omega⟩)

theorem meet_loop (d : Nat) (h : mH) (shh : Sh h) (bih : BI h) (rx : (hF h 17 3 = 21 ∨ 74 ≤ hF h 17 3) ∧ hF h 17 3 < hN h ∧ hK h (hF h 17 3) = 10) (P : Int) (x : Int) (Q : Option mV → mH → Prop) (kq : ∀ (t : mH) (y v : Int), W9 h t P → MT9 (hF h 2 1) (cI9 (ccf h) (hA h 4)) (fun i => sp9 ((cI9 (ccf h) (hA h 4)) i) (hF h 2 1) x) y → Q (some (0, y)) (sF t 0 0 v)) : ∀ (m : Nat) (u : Int) (h' : mH), (20001 - u).toNat < m → (0 ≤ u) → (u ≤ 20001) → (W9 h h' P) → (W9B h h' u u) → (∀ i j : Nat, i < j → (j : Int) < u → ¬ EQ9 (hF h 2 1) (cI9 (ccf h) (hA h 4)) i j) → (∀ i : Nat, (i : Int) < u → ¬ sp9 ((cI9 (ccf h) (hA h 4)) i) (hF h 2 1) x) → Wp m_X5_meet (d + 4) 40 [(2, 0), (0, x), (0, u)] [] h' Q := by
  intro m
  induction m with
  | zero => intro u h' hm; exact absurd hm (Nat.not_lt_zero _)
  | succ m ih =>
    intro u h' hm u0 u1 wk wb un nf
    have sh' := wk.1
    have h74h := shh.2.2.2.2
    have f1 : hF h' 2 1 = hF h 2 1 := wk.2.2.2.1.2.2.2.2.1 2 1 (by omega) (by decide)
    refine Wp.ild_n (j := 2) rfl dX5_meet_40 ?_
    refine Wp.sipush dX5_meet_41 (by decide) ?_
    refine Wp.icgt dX5_meet_44 (by decide) (tgt := 116) (fun c44 => ?_) (fun c44 => ?_)
    · refine Wp.ald_n (j := 0) rfl dX5_meet_116 ?_
      refine Wp.bipush dX5_meet_117 (by decide) ?_
      refine Wp.callV1 (ct_lack (d + 3) h' sh' 10) wc_X5_88 iM_X5_lack se_X5_lack kC5 (sK0 (h := h') sh') dX5_meet_119 rfl (Nat.le_of_ble_eq_true rfl) rfl (Nat.le_of_ble_eq_true rfl) ?_
      refine Wp.iret rfl dX5_meet_122 ?_
      exact kq _ _ _ wk (Or.inr ⟨rfl, fun t t1 hl => nf t (by omega)⟩)
    · refine Wp.ald_n (j := 0) rfl dX5_meet_47 ?_
      refine Wp.getf (k := 2) (tg := 2) kC5 (by decide) rfl lf_X5_22 dX5_meet_48 (sK0 (h := h') sh') (sF0_2 (h := h') sh') ?_
      refine Wp.ald_n (j := 0) rfl dX5_meet_51 ?_
      refine Wp.getf (k := 2) (tg := 2) kC5 (by decide) rfl lf_X5_22 dX5_meet_52 (sK0 (h := h') sh') (sF0_2 (h := h') sh') ?_
      refine Wp.getfN (k := 12) (tg := 2) kC0 (by decide) rfl lf_X5_207 dX5_meet_55 (sK2 (h := h') sh') (sF2_12 (h := h') sh') ?_
      refine Wp.ild_n (j := 1) rfl dX5_meet_58 ?_
      obtain ⟨_, t59, ct59, ⟨y59, rfl, hy59, hs59⟩, e59⟩ := cq_inStepX (d + 2) h' sh' 11 x (sK11 sh') (sL11 sh') wk.2.1.2.1.2 (fun j j0 j1 => (wk.2.2.2.2.2.2.1 j j0 j1).1)
      rw [e59] at ct59
      rw [sp9_eq (g := (cI9 (ccf h) (hA h 4)) u.toNat) (fun j j0 j1 => wb.2.2.2.2.2 j j0 j1), f1] at hs59
      refine Wp.callV1 (ct59) wc_X5_194 iM_X0_inStep se_X0_inStep kC0 (sK2 (h := h') sh') dX5_meet_59 rfl (Nat.le_of_ble_eq_true rfl) rfl (Nat.le_of_ble_eq_true rfl) ?_
      refine Wp.ifeq dX5_meet_62 (by decide) (tgt := 71) (fun c62 => ?_) (fun c62 => ?_)
      · have nf59 : ¬ sp9 ((cI9 (ccf h) (hA h 4)) u.toNat) (hF h 2 1) x := fun z => by
          have := hs59.mpr z
          omega
        refine Wp.ald_n (j := 0) rfl dX5_meet_71 ?_
        refine Wp.getf (k := 3) (tg := 2) kC5 (by decide) rfl lf_X5_29 dX5_meet_72 (sK0 (h := h') sh') (sF0_3 (h := h') sh') ?_
        refine Wp.ald_n (j := 0) rfl dX5_meet_75 ?_
        refine Wp.getf (k := 2) (tg := 2) kC5 (by decide) rfl lf_X5_22 dX5_meet_76 (sK0 (h := h') sh') (sF0_2 (h := h') sh') ?_
        refine Wp.getfN (k := 12) (tg := 2) kC0 (by decide) rfl lf_X5_207 dX5_meet_79 (sK2 (h := h') sh') (sF2_12 (h := h') sh') ?_
        refine Wp.ald_n (j := 0) rfl dX5_meet_82 ?_
        refine Wp.getf (k := 2) (tg := 2) kC5 (by decide) rfl lf_X5_22 dX5_meet_83 (sK0 (h := h') sh') (sF0_2 (h := h') sh') ?_
        refine Wp.getfN (k := 1) (tg := 0) kC0 (by decide) rfl lf_X5_119 dX5_meet_86 (sK2 (h := h') sh') (show hF _ 2 1 = hF h' 2 1 from rfl) ?_
        obtain ⟨y89, t89, ct89, w89, hy89, n89⟩ := w9_stepOf d shh bih rx wk wb u0 (by omega)
        have sh89 := w89.1
        refine Wp.callV1 (ct89) wc_X5_210 iM_X4_stepOf se_X4_stepOf kC4 (sK13 (h := h') sh') dX5_meet_89 rfl (Nat.le_of_ble_eq_true rfl) rfl (Nat.le_of_ble_eq_true rfl) ?_
        refine Wp.iconst dX5_meet_92 (by decide) ?_
        refine Wp.iceq dX5_meet_93 (by decide) (tgt := 103) (fun c93 => ?_) (fun c93 => ?_)
        · refine Wp.ald_n (j := 0) rfl dX5_meet_103 ?_
          refine Wp.getf (k := 2) (tg := 2) kC5 (by decide) rfl lf_X5_22 dX5_meet_104 (sK0 (h := t89) sh89) (sF0_2 (h := t89) sh89) ?_
          obtain ⟨wb89, ua89⟩ : W9B h t89 (u + 1) u ∧ ∀ i, 0 ≤ i → i < u → ¬ AL9 h i u := by
            rcases hy89 with ⟨-, a, b⟩ | ⟨a, b, c⟩
            · exact ⟨a, b⟩
            · omega
          obtain ⟨t107, ct107, w107, wb107, n107⟩ := w9_walk d shh w89 u0 wb89
          have sh107 := w107.1
          refine Wp.callV0 (ct107) wc_X5_214 iM_X0_walk se_X0_walk kC0 (sK2 (h := t89) sh89) dX5_meet_107 rfl (Nat.le_of_ble_eq_true rfl) rfl (Nat.le_of_ble_eq_true rfl) ?_
          refine inc_3_2 rfl dX5_meet_110 (by first | exact w32_of (by omega) (by omega) | rfl) ?_
          refine Wp.goto (tgt := 40) dX5_meet_113 (by decide) ?_
          refine ih (u + 1) t107 (by omega) (by omega) (by omega) w107 wb107 (un9_s u0 un ua89) (fun i hi => ?_)
          by_cases z : (i : Int) < u
          · exact nf i z
          · rw [show i = u.toNat by omega]
            exact nf59
        · refine Wp.ald_n (j := 0) rfl dX5_meet_96 ?_
          refine Wp.bipush dX5_meet_97 (by decide) ?_
          refine Wp.callV1 (ct_lack (d + 3) t89 sh89 8) wc_X5_88 iM_X5_lack se_X5_lack kC5 (sK0 (h := t89) sh89) dX5_meet_99 rfl (Nat.le_of_ble_eq_true rfl) rfl (Nat.le_of_ble_eq_true rfl) ?_
          refine Wp.iret rfl dX5_meet_102 ?_
          rcases hy89 with ⟨z, -⟩ | ⟨y0, y1, al⟩
          · omega
          have rp := un9_rp un y0 y1 al
          refine kq _ _ _ w89 (Or.inr ⟨rfl, fun t t1 hl => ?_⟩)
          have ht := hl _ _ rp
          by_cases z : (t : Int) < u
          · exact nf t z
          · rw [show t = u.toNat by omega]
            exact nf59
      · refine Wp.ald_n (j := 0) rfl dX5_meet_65 ?_
        refine Wp.ild_n (j := 2) rfl dX5_meet_66 ?_
        refine Wp.callV1 (ct_answer (d + 3) h' sh' _) wc_X5_126 iM_X5_answer se_X5_answer kC5 (sK0 (h := h') sh') dX5_meet_67 rfl (Nat.le_of_ble_eq_true rfl) rfl (Nat.le_of_ble_eq_true rfl) ?_
        refine Wp.iret rfl dX5_meet_70 ?_
        exact kq _ _ _ wk (Or.inl ⟨u.toNat, by omega, by omega, hs59.mp (by omega), fun i hi => nf i (by omega), fun s t r => Classical.byContradiction (fun z => un s t r.1 (by omega) r.2.1)⟩)

theorem kx_round (h : mH) (K : Int) (ck : CK h (K + 1)) (x : Int) : Cq m_X5_round 9 [(2, 0), (0, x)] h (fun r t => (∃ y, r = some (0, y) ∧ ((¬ ((0 ≤ x ∧ x ≤ 1) ∧ hF h 2 1 ≠ 0) ∧ y = -1) ∨ (((0 ≤ x ∧ x ≤ 1) ∧ hF h 2 1 ≠ 0) ∧ RD9 (hF h 2 1) (cI9 (ccf h) (hA h 4)) x y))) ∧ CK t K ∧ Kp h t ∧ Cn h t ∧ Kl h t ∧ Kr h t) := by
  refine Cq.of ?_
  show Wp m_X5_round (9) 0 [(2, 0), (0, x), (9, 0), (9, 0)] [] h _
  have sh := ck.1
  have bi := ck.2.1
  obtain ⟨⟨r0, r1⟩, ⟨n0, n1⟩, ⟨m0, m1⟩, hp, hq⟩ := id bi
  obtain ⟨hd, lk, wd, nh, nl, nw, af, ho, bs, rw, na, nr, ob, n9, mn, nv, w9, kq⟩ := id ck.2.2.2.2.2.2
  have tr := kq.1
  refine Wp.ild_n (j := 1) rfl dX5_round_0 ?_
  refine Wp.iflt dX5_round_1 (by decide) (tgt := 9) (fun c1 => ?_) (fun c1 => ?_)
  · refine Wp.ald_n (j := 0) rfl dX5_round_9 ?_
    refine Wp.iconst dX5_round_10 (by decide) ?_
    refine Wp.callV1 (ct_lack 8 h sh 2) wc_X5_88 iM_X5_lack se_X5_lack kC5 (sK0 (h := h) sh) dX5_round_11 rfl (Nat.le_of_ble_eq_true rfl) rfl (Nat.le_of_ble_eq_true rfl) ?_
    refine Wp.iret rfl dX5_round_14 ?_
    exact ⟨⟨_, rfl, Or.inl ⟨by omega, rfl⟩⟩, ck.stat (Fr.f (by decide))⟩
  · refine Wp.ild_n (j := 1) rfl dX5_round_4 ?_
    refine Wp.iconst dX5_round_5 (by decide) ?_
    refine Wp.icle dX5_round_6 (by decide) (tgt := 15) (fun c6 => ?_) (fun c6 => ?_)
    · refine Wp.ald_n (j := 0) rfl dX5_round_15 ?_
      refine Wp.getf (k := 2) (tg := 2) kC5 (by decide) rfl lf_X5_22 dX5_round_16 (sK0 (h := h) sh) (sF0_2 (h := h) sh) ?_
      refine Wp.getfN (k := 1) (tg := 0) kC0 (by decide) rfl lf_X5_119 dX5_round_19 (sK2 (h := h) sh) (show hF _ 2 1 = hF h 2 1 from rfl) ?_
      refine Wp.ifne dX5_round_22 (by decide) (tgt := 32) (fun c22 => ?_) (fun c22 => ?_)
      · refine Wp.ald_n (j := 0) rfl dX5_round_32 ?_
        refine Wp.getf (k := 2) (tg := 2) kC5 (by decide) rfl lf_X5_22 dX5_round_33 (sK0 (h := h) sh) (sF0_2 (h := h) sh) ?_
        obtain ⟨t36, u36, ct36, n36, sh36, cu36, w36, wb36, m36⟩ := w9_start 7 sh bi ck.rx tr (by rw [kq.2.1.2.2.2.1.1]; exact kq.dj)
        refine Wp.callV0 (ct36) wc_X5_201 iM_X0_startWalk se_X0_startWalk kC0 (sK2 (h := h) sh) dX5_round_36 rfl (Nat.le_of_ble_eq_true rfl) rfl (Nat.le_of_ble_eq_true rfl) ?_
        refine Wp.ald_n (j := 0) rfl dX5_round_39 ?_
        refine Wp.getf (k := 3) (tg := 2) kC5 (by decide) rfl lf_X5_29 dX5_round_40 (sK0 (h := t36) sh36) (sF0_3 (h := t36) sh36) ?_
        refine Wp.ald_n (j := 0) rfl dX5_round_43 ?_
        refine Wp.getf (k := 2) (tg := 2) kC5 (by decide) rfl lf_X5_22 dX5_round_44 (sK0 (h := t36) sh36) (sF0_2 (h := t36) sh36) ?_
        refine Wp.getfN (k := 1) (tg := 0) kC0 (by decide) rfl lf_X5_119 dX5_round_47 (sK2 (h := t36) sh36) n36 ?_
        refine Wp.callV0 (cu36) wc_X5_204 iM_X4_start se_X4_start kC4 (sK13 (h := t36) sh36) dX5_round_50 rfl (Nat.le_of_ble_eq_true rfl) rfl (Nat.le_of_ble_eq_true rfl) ?_
        refine Wp.iconst dX5_round_53 (by decide) ?_
        refine sti_4_2 rfl (dSt_n dX5_round_54) ?_
        exact round_loop 5 h sh bi ck.rx _ x _ (fun t y v wt rd => ⟨⟨_, rfl, Or.inr ⟨by omega, rd⟩⟩, W9.done ck kq wt⟩) _ 0 _ _ (Nat.lt_succ_self _) (by omega) (by omega) w36 wb36 (fun i j a b => absurd b (by omega))
      · refine Wp.ald_n (j := 0) rfl dX5_round_25 ?_
        refine Wp.bipush dX5_round_26 (by decide) ?_
        refine Wp.callV1 (ct_lack 8 h sh 8) wc_X5_88 iM_X5_lack se_X5_lack kC5 (sK0 (h := h) sh) dX5_round_28 rfl (Nat.le_of_ble_eq_true rfl) rfl (Nat.le_of_ble_eq_true rfl) ?_
        refine Wp.iret rfl dX5_round_31 ?_
        exact ⟨⟨_, rfl, Or.inl ⟨by omega, rfl⟩⟩, ck.stat (Fr.f (by decide))⟩
    · refine Wp.ald_n (j := 0) rfl dX5_round_9 ?_
      refine Wp.iconst dX5_round_10 (by decide) ?_
      refine Wp.callV1 (ct_lack 8 h sh 2) wc_X5_88 iM_X5_lack se_X5_lack kC5 (sK0 (h := h) sh) dX5_round_11 rfl (Nat.le_of_ble_eq_true rfl) rfl (Nat.le_of_ble_eq_true rfl) ?_
      refine Wp.iret rfl dX5_round_14 ?_
      exact ⟨⟨_, rfl, Or.inl ⟨by omega, rfl⟩⟩, ck.stat (Fr.f (by decide))⟩

theorem kx_meet (h : mH) (K : Int) (ck : CK h (K + 1)) (x : Int) : Cq m_X5_meet 9 [(2, 0), (0, x)] h (fun r t => (∃ y, r = some (0, y) ∧ ((¬ kand x (kxor (w32 (kshl 1 (hF h 2 1) - 1)) (-1)) = 0 ∧ y = -1) ∨ (kand x (kxor (w32 (kshl 1 (hF h 2 1) - 1)) (-1)) = 0 ∧ MT9 (hF h 2 1) (cI9 (ccf h) (hA h 4)) (fun i => sp9 ((cI9 (ccf h) (hA h 4)) i) (hF h 2 1) x) y))) ∧ CK t K ∧ Kp h t ∧ Cn h t ∧ Kl h t ∧ Kr h t) := by
  refine Cq.of ?_
  show Wp m_X5_meet (9) 0 [(2, 0), (0, x), (9, 0)] [] h _
  have sh := ck.1
  have bi := ck.2.1
  obtain ⟨⟨r0, r1⟩, ⟨n0, n1⟩, ⟨m0, m1⟩, hp, hq⟩ := id bi
  obtain ⟨hd, lk, wd, nh, nl, nw, af, ho, bs, rw, na, nr, ob, n9, mn, nv, w9, kq⟩ := id ck.2.2.2.2.2.2
  have tr := kq.1
  refine Wp.ald_n (j := 0) rfl dX5_meet_0 ?_
  refine Wp.getf (k := 2) (tg := 2) kC5 (by decide) rfl lf_X5_22 dX5_meet_1 (sK0 (h := h) sh) (sF0_2 (h := h) sh) ?_
  refine Wp.ild_n (j := 1) rfl dX5_meet_4 ?_
  refine Wp.callV1 (ct_isSet 7 h sh x) wc_X5_191 iM_X0_isSet se_X0_isSet kC0 (sK2 (h := h) sh) dX5_meet_5 rfl (Nat.le_of_ble_eq_true rfl) rfl (Nat.le_of_ble_eq_true rfl) ?_
  refine Wp.ifne dX5_meet_8 (by decide) (tgt := 17) (fun c8 => ?_) (fun c8 => ?_)
  · refine Wp.ald_n (j := 0) rfl dX5_meet_17 ?_
    refine Wp.getf (k := 2) (tg := 2) kC5 (by decide) rfl lf_X5_22 dX5_meet_18 (sK0 (h := h) sh) (sF0_2 (h := h) sh) ?_
    obtain ⟨t36, u36, ct36, n36, sh36, cu36, w36, wb36, m36⟩ := w9_start 7 sh bi ck.rx tr (by rw [kq.2.1.2.2.2.1.1]; exact kq.dj)
    refine Wp.callV0 (ct36) wc_X5_201 iM_X0_startWalk se_X0_startWalk kC0 (sK2 (h := h) sh) dX5_meet_21 rfl (Nat.le_of_ble_eq_true rfl) rfl (Nat.le_of_ble_eq_true rfl) ?_
    refine Wp.ald_n (j := 0) rfl dX5_meet_24 ?_
    refine Wp.getf (k := 3) (tg := 2) kC5 (by decide) rfl lf_X5_29 dX5_meet_25 (sK0 (h := t36) sh36) (sF0_3 (h := t36) sh36) ?_
    refine Wp.ald_n (j := 0) rfl dX5_meet_28 ?_
    refine Wp.getf (k := 2) (tg := 2) kC5 (by decide) rfl lf_X5_22 dX5_meet_29 (sK0 (h := t36) sh36) (sF0_2 (h := t36) sh36) ?_
    refine Wp.getfN (k := 1) (tg := 0) kC0 (by decide) rfl lf_X5_119 dX5_meet_32 (sK2 (h := t36) sh36) n36 ?_
    refine Wp.callV0 (cu36) wc_X5_204 iM_X4_start se_X4_start kC4 (sK13 (h := t36) sh36) dX5_meet_35 rfl (Nat.le_of_ble_eq_true rfl) rfl (Nat.le_of_ble_eq_true rfl) ?_
    refine Wp.iconst dX5_meet_38 (by decide) ?_
    refine sti_3_2 rfl (dSt_n dX5_meet_39) ?_
    exact meet_loop 5 h sh bi ck.rx _ x _ (fun t y v wt rd => ⟨⟨_, rfl, Or.inr ⟨ite01 c8, rd⟩⟩, W9.done ck kq wt⟩) _ 0 _ (Nat.lt_succ_self _) (by omega) (by omega) w36 wb36 (fun i j a b => absurd b (by omega)) (fun i a => absurd a (by omega))
  · refine Wp.ald_n (j := 0) rfl dX5_meet_11 ?_
    refine Wp.iconst dX5_meet_12 (by decide) ?_
    refine Wp.callV1 (ct_lack 8 h sh 2) wc_X5_88 iM_X5_lack se_X5_lack kC5 (sK0 (h := h) sh) dX5_meet_13 rfl (Nat.le_of_ble_eq_true rfl) rfl (Nat.le_of_ble_eq_true rfl) ?_
    refine Wp.iret rfl dX5_meet_16 ?_
    exact ⟨⟨_, rfl, Or.inl ⟨ite10 c8, rfl⟩⟩, ck.stat (Fr.f (by decide))⟩

theorem kx_follow {h : mH} {K : Int} (ck : CK h K) {af ho bs rw na nr : Int} (en : EN h af ho bs rw na nr) {S : Int} (hn : 0 < hF h 2 1) (hS : S = hF h 2 0 ^ (hF h 2 1).toNat) (S1 : S ≤ 20736) : 0 < S ∧ Cq m_X1_follow 8 [(2, 17), (2, 2), (0, S)] h (fun r t => r = none ∧ ∃ af' ho' bs' na', EN t af' ho' bs' rw na' nr ∧ S ≤ na' ∧ RG S (hA t af') ∧ cR (hA t ho') S.toNat ≤ 15552 ∧ ((cR (hA t ho') S.toNat : Nat) : Int) = FNd h ∧ Fq (fun a => a ∈ [8, 9, 12, 11, af, ho, bs]) [(17, 0), (17, 1), (17, 2)] h t ∧ aC h t (psA na) (psA na') ∧ (∀ x, 0 ≤ x → x < S → hA t af' x = G9 (ccf h) x) ∧ HM9 S (hA t af') (hA t ho') ∧ ∀ x, 0 ≤ x → x < S → hA t bs' x = bz9 (hA t ho') x S.toNat) := by
  have h74 := ck.1.2.2.2.2
  have bi := ck.2.1
  have S0 : 0 < S := by
    rw [hS]
    exact Int.pow_pos (by have := bi.1; omega)
  have hx := en.2.2.2.2.2.1
  refine ⟨S0, ?_⟩
  obtain ⟨_, t, ct, rfl, af', ho', bs', na', en', sn', rg, hf9, cl, fq, ac, hh, hb⟩ := cq_followY 3 h ck.1 af ho bs rw na nr en S S0 S1 (G9 (ccf h)) (fun s h' s0 s1 sh' fq => by
    have hno : ∀ a : Int, a < 18 → a ∉ [8, 9, 12, 11] → ¬ a ∈ [8, 9, 12, 11, af] := fun a a1 a2 z => by
      simp only [List.mem_cons, List.not_mem_nil, or_false] at a2 z
      omega
    have ec := ccf_fq fq h74 (hno 3 (by decide) (by decide)) (hno 6 (by decide) (by decide)) (hno 7 (by decide) (by decide)) (by decide) (by decide) (by decide)
    have e0 : hF h' 2 0 = hF h 2 0 := fq.2.2.2.2.1 2 0 (by omega) (by decide)
    have e1 : hF h' 2 1 = hF h 2 1 := fq.2.2.2.2.1 2 1 (by omega) (by decide)
    obtain ⟨_, u, cu, ⟨y, rfl, ey, y0, y1⟩, fru⟩ := cq_stateAfterX 3 h' sh' (bi.fq fq h74 (hno 4 (by decide) (by decide)) (hno 7 (by decide) (by decide)) (by decide) (by decide) (by decide)) s (by rw [e0, e1, ← hS]; exact S1) s0 (by omega)
    rw [e0, e1, ← hS] at y1
    rw [ec] at ey
    exact ⟨_, u, cu, ⟨y, rfl, y0, y1, ey⟩, fru⟩)
  have hle := home_le (c := ccf h) (S := S) (f := hA t af') (g := hA t ho') hS S1 hn bi.2.1.2 bi.1.1 (fun x x0 x1 => cT9_rg ck.1 bi x0 (by omega)) hf9 rg cl
  have rgG : RG S (G9 (ccf h)) := fun x x0 x1 => by
    rw [← hf9 x x0 x1]
    exact rg x x0 x1
  refine ⟨_, t, ct, rfl, af', ho', bs', na', en', sn', rg, hle, ?_, fq, ac, hf9, (hom9_HM rgG).cg rgG (fun x x0 x1 => (hf9 x x0 x1).symm) (fun x x0 x1 => (hh x x0 x1).symm), fun x x0 x1 => ?_⟩
  · unfold FNd
    rw [← hS, cR_cg S.toNat (fun x x0 x1 => hh x x0 (by omega))]
  · rw [hb x x0 x1]
    exact bz9_cg _ (fun y y0 y1 => (hh y y0 (by omega)).symm)
theorem fq_no {h : mH} {af ho bs rw na nr : Int} (en : EN h af ho bs rw na nr) {a : Int} (a1 : a < 74) (a2 : a ∉ [8, 9, 12, 11, 18, 19, 20]) : ¬ a ∈ [8, 9, 12, 11, af, ho, bs] := fun z => by
  have hx := en.2.2.2.2.2.1
  simp only [List.mem_cons, List.not_mem_nil, or_false] at a2 z
  omega
theorem ob_no {h : mH} {af ho bs rw na nr ob n9 : Int} (en : EN h af ho bs rw na nr) (ob9 : OB h ob n9) : ¬ ob ∈ [8, 9, 12, 11, af, ho, bs] ∧ ob ≠ rw := by
  have k := ob9.2.1
  have oo := ob9.2.2.2.1
  obtain ⟨⟨-, k0, -⟩, ⟨-, k1, -⟩, ⟨-, k2, -⟩, ⟨-, k3, -⟩, -⟩ := en
  refine ⟨fun z => ?_, fun z => ?_⟩
  · simp only [List.mem_cons, List.not_mem_nil, or_false] at z
    rcases z with z | z | z | z | z | z | z
    · omega
    · omega
    · omega
    · omega
    · rw [z, k0] at k; exact absurd k (by decide)
    · rw [z, k1] at k; exact absurd k (by decide)
    · rw [z, k2] at k; exact absurd k (by decide)
  · rw [z, k3] at k
    exact absurd k (by decide)
theorem kx_sure (h : mH) (K : Int) (ck : CK h (K + 1)) (x : Int) : Cq m_X5_sure 9 [(2, 0), (0, x)] h (fun r t => (∃ y, r = some (0, y) ∧ ((¬ (kand x (kxor (w32 (kshl 1 (hF h 2 1) - 1)) (-1)) = 0 ∧ (hF h 2 1 ≠ 0 ∧ hF h 2 0 ^ (hF h 2 1).toNat ≤ 20736)) ∧ y = -1) ∨ ((kand x (kxor (w32 (kshl 1 (hF h 2 1) - 1)) (-1)) = 0 ∧ (hF h 2 1 ≠ 0 ∧ hF h 2 0 ^ (hF h 2 1).toNat ≤ 20736)) ∧ ∃ H p b : Int → Int, HM9 (hF h 2 0 ^ (hF h 2 1).toNat) (G9 (ccf h)) H ∧ PM9 (G9 (ccf h)) H p (hF h 2 0) (hF h 2 1) x (hF h 2 0 ^ (hF h 2 1).toNat) ∧ (∀ l, 0 ≤ l → l < hF h 2 0 ^ (hF h 2 1).toNat → H l = l → b l = bz9 H l (hF h 2 0 ^ (hF h 2 1).toNat).toNat) ∧ y = w32 (sc9 H p b (hF h 2 0 ^ (hF h 2 1).toNat).toNat)))) ∧ CK t K ∧ Kp h t ∧ Cn h t ∧ Kl h t ∧ Kr h t) := by
  refine Cq.of ?_
  show Wp m_X5_sure (9) 0 [(2, 0), (0, x), (9, 0)] [] h _
  have sh := ck.1
  have bi := ck.2.1
  obtain ⟨⟨r0, r1⟩, ⟨n0, n1⟩, ⟨m0, m1⟩, hp, hq⟩ := id bi
  obtain ⟨hd, lk, wd, nh, nl, nw, af, ho, bs, rw, na, nr, ob, n9, mn, nv, w9, kq⟩ := id ck.2.2.2.2.2.2
  have tr := kq.1
  have h74 := sh.2.2.2.2
  refine Wp.ald_n (j := 0) rfl dX5_sure_0 ?_
  refine Wp.getf (k := 2) (tg := 2) kC5 (by decide) rfl lf_X5_22 dX5_sure_1 (sK0 (h := h) sh) (sF0_2 (h := h) sh) ?_
  refine Wp.ild_n (j := 1) rfl dX5_sure_4 ?_
  refine Wp.callV1 (ct_isSet 7 h sh x) wc_X5_191 iM_X0_isSet se_X0_isSet kC0 (sK2 (h := h) sh) dX5_sure_5 rfl (Nat.le_of_ble_eq_true rfl) rfl (Nat.le_of_ble_eq_true rfl) ?_
  refine Wp.ifne dX5_sure_8 (by decide) (tgt := 17) (fun c8 => ?_) (fun c8 => ?_)
  · refine Wp.ald_n (j := 0) rfl dX5_sure_17 ?_
    refine Wp.getf (k := 2) (tg := 2) kC5 (by decide) rfl lf_X5_22 dX5_sure_18 (sK0 (h := h) sh) (sF0_2 (h := h) sh) ?_
    obtain ⟨_, tq, ctq, ⟨yq, rfl, hyq⟩, eq⟩ := cq_smallX 8 h sh bi
    rw [eq] at ctq
    refine Wp.callV1 (ctq) wc_X5_217 iM_X0_smallStates se_X0_smallStates kC0 (sK2 (h := h) sh) dX5_sure_21 rfl (Nat.le_of_ble_eq_true rfl) rfl (Nat.le_of_ble_eq_true rfl) ?_
    refine sti_3_2 rfl (dSt_n dX5_sure_24) ?_
    refine Wp.ild_n (j := 2) rfl dX5_sure_25 ?_
    refine Wp.ifne dX5_sure_26 (by decide) (tgt := 35) (fun c26 => ?_) (fun c26 => ?_)
    · refine Wp.ald_n (j := 0) rfl dX5_sure_35 ?_
      refine Wp.getf (k := 4) (tg := 2) kC5 (by decide) rfl lf_X5_36 dX5_sure_36 (sK0 (h := h) sh) (sF0_4 (h := h) sh) ?_
      refine Wp.ald_n (j := 0) rfl dX5_sure_39 ?_
      refine Wp.getf (k := 2) (tg := 2) kC5 (by decide) rfl lf_X5_22 dX5_sure_40 (sK0 (h := h) sh) (sF0_2 (h := h) sh) ?_
      refine Wp.ild_n (j := 2) rfl dX5_sure_43 ?_
      obtain ⟨hn9, hS9, hS1⟩ : 0 < hF h 2 1 ∧ yq = hF h 2 0 ^ (hF h 2 1).toNat ∧ yq ≤ 20736 := by
        rcases hyq with z | z
        · omega
        · exact z
      obtain ⟨S0, hfol⟩ := kx_follow ck kq.2.1 hn9 hS9 hS1
      obtain ⟨_, t44, ct44, rfl, af', ho', bs', na', en', sn', rg', hle', hfn', fq', ac', hf9', hm9', hbz'⟩ := hfol
      have sht44 : Sh t44 := sh.fq fq' (by decide +kernel) (fq_no kq.2.1 (by decide) (by decide))
      have bit44 : BI t44 := bi.fq fq' h74 (fq_no kq.2.1 (by decide) (by decide)) (fq_no kq.2.1 (by decide) (by decide)) (by decide) (by decide) (by decide)
      refine Wp.callV0 (ct44) wc_X5_220 iM_X1_follow se_X1_follow kC1 (sK17 (h := h) sh) dX5_sure_44 rfl (Nat.le_of_ble_eq_true rfl) rfl (Nat.le_of_ble_eq_true rfl) ?_
      refine Wp.ald_n (j := 0) rfl dX5_sure_47 ?_
      refine Wp.ald_n (j := 0) rfl dX5_sure_48 ?_
      refine Wp.getf (k := 4) (tg := 2) kC5 (by decide) rfl lf_X5_36 dX5_sure_49 (sK0 (h := t44) sht44) (sF0_4 (h := t44) sht44) ?_
      refine Wp.ald_n (j := 0) rfl dX5_sure_52 ?_
      refine Wp.getf (k := 2) (tg := 2) kC5 (by decide) rfl lf_X5_22 dX5_sure_53 (sK0 (h := t44) sht44) (sF0_2 (h := t44) sht44) ?_
      refine Wp.ild_n (j := 2) rfl dX5_sure_56 ?_
      refine Wp.ild_n (j := 1) rfl dX5_sure_57 ?_
      obtain ⟨_, t58, ct58, rfl, f58⟩ := cq_statesInStepX 4 t44 sht44 bit44 af' ho' bs' rw na' nr en' yq S0 hS1 sn' rg' (fun l l0 l1 hl => hm9'.per l0 l1 hl) x
      have sh58 : Sh t58 := sht44.fr f58 (by decide +kernel) (by decide)
      refine Wp.callV1 (ct58) wc_X5_231 iM_X1_statesInStep se_X1_statesInStep kC1 (sK17 (h := t44) sht44) dX5_sure_58 rfl (Nat.le_of_ble_eq_true rfl) rfl (Nat.le_of_ble_eq_true rfl) ?_
      refine Wp.callV1 (ct_answer 8 t58 sh58 _) wc_X5_126 iM_X5_answer se_X5_answer kC5 (sK0 (h := t58) sh58) dX5_sure_61 rfl (Nat.le_of_ble_eq_true rfl) rfl (Nat.le_of_ble_eq_true rfl) ?_
      refine Wp.iret rfl dX5_sure_64 ?_
      have h74t := sht44.2.2.2.2
      have e20 : hF t44 2 0 = hF h 2 0 := fq'.2.2.2.2.1 2 0 (by omega) (by decide)
      have e21 : hF t44 2 1 = hF h 2 1 := fq'.2.2.2.2.1 2 1 (by omega) (by decide)
      have fz : Fr [11] [(0, 0)] t44 (sF t58 0 0 0) := (f58.mono (by simp) (by simp)).tr (Fr.f (by decide))
      have fqz : Fq (fun a => a ∈ [8, 9, 12, 11, af, ho, bs]) [(0, 0), (17, 0), (17, 1), (17, 2)] h (sF t58 0 0 0) := (fq'.mono (fun x _ z => z) (by simp)).tr ((Fq.fr (A := (fun a => a ∈ [8, 9, 12, 11, af, ho, bs])) fz (fun x z => by simp only [List.mem_singleton] at z; rw [z]; simp)).mono (fun x _ z => z) (by simp))
      have a1 := ac'.1
      have a2 := ac'.2
      have hz1 : (hZ (sF t58 0 0 0) : Int) = hZ t44 := by rw [fz.2.1]
      have hn1 : (hN (sF t58 0 0 0) : Int) = hN t44 := by rw [fz.1]
      obtain ⟨-, en0, ob9, hm, -⟩ := id kq
      refine ⟨⟨_, rfl, Or.inr ⟨⟨ite01 c8, by omega, by omega⟩, hA t44 ho', pr9 (hA t44 af') (hF h 2 0) (hF h 2 1) x, hA t44 bs', ?_, ?_, ?_, ?_⟩⟩, ck.fq fqz (by decide +kernel) (fq_no en0 (by decide) (by decide)) (bi.fq fqz h74 (fq_no en0 (by decide) (by decide)) (fq_no en0 (by decide) (by decide)) (by decide) (by decide) (by decide)) (ck.2.2.1.fq fqz h74 (by decide)) (by decide) (by decide) (fun i i0 i1 => by simp; omega) (fun a a0 a1 => fq_no en0 a1 (by simp; omega)) (fun k => by simp) (kq.next (tr.fq fqz h74 (by decide) (by decide) (by decide)) (en'.fq (Fq.fr (A := fun a => a ∈ [11]) fz (fun x z => z)) h74t (by decide) (by decide) (by decide) (by decide)) (ob9.fq fqz h74 (by decide) (ob_no en0 ob9).1) ((fqz.2.2.2.2.1 17 4 (by omega) (by decide)).trans hm) ⟨by omega, by omega⟩ kq.dj) (fun a a0 => fq_no en0 (by omega) (by simp; omega)) (by decide) ?_ (by decide) (by decide)⟩
      · rw [← hS9]
        exact hm9'.cg rg' hf9' (fun _ _ _ => rfl)
      · rw [← hS9]
        exact PM9.cg rg' hf9' pr9_PM
      · rw [← hS9]
        exact fun l l0 l1 _ => hbz' l l0 l1
      · rw [← hS9, e20, e21]
      · rw [en0.2.2.2.1.1]
        have hne := en0.2.2.2.2.1
        have hrg := en0.2.2.2.2.2.1.2.2.2
        simp only [List.mem_cons, List.not_mem_nil, or_false]
        omega
    · refine Wp.ald_n (j := 0) rfl dX5_sure_29 ?_
      refine Wp.iconst dX5_sure_30 (by decide) ?_
      refine Wp.callV1 (ct_lack 8 h sh 5) wc_X5_88 iM_X5_lack se_X5_lack kC5 (sK0 (h := h) sh) dX5_sure_31 rfl (Nat.le_of_ble_eq_true rfl) rfl (Nat.le_of_ble_eq_true rfl) ?_
      refine Wp.iret rfl dX5_sure_34 ?_
      have ns : ¬ (hF h 2 1 ≠ 0 ∧ hF h 2 0 ^ (hF h 2 1).toNat ≤ 20736) := fun z => by
        rcases hyq with y | y
        · have := z.1
          have := z.2
          omega
        · have := y.2.1
          have := pw_pos r0 (hF h 2 1).toNat
          omega
      exact ⟨⟨_, rfl, Or.inl ⟨fun z => ns z.2, rfl⟩⟩, ck.stat (Fr.f (by decide))⟩
  · refine Wp.ald_n (j := 0) rfl dX5_sure_11 ?_
    refine Wp.iconst dX5_sure_12 (by decide) ?_
    refine Wp.callV1 (ct_lack 8 h sh 2) wc_X5_88 iM_X5_lack se_X5_lack kC5 (sK0 (h := h) sh) dX5_sure_13 rfl (Nat.le_of_ble_eq_true rfl) rfl (Nat.le_of_ble_eq_true rfl) ?_
    refine Wp.iret rfl dX5_sure_16 ?_
    exact ⟨⟨_, rfl, Or.inl ⟨fun z => ite10 c8 z.1, rfl⟩⟩, ck.stat (Fr.f (by decide))⟩

