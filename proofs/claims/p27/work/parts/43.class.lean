theorem cq_critical (d : Nat) (h : mH) (sh : Sh h) (spx : SPx h) (ol : 0 ≤ hF h 0 9 ∧ hF h 0 9 ≤ 10) : Cq m_X5_critical (d + 5) [(2, 0)] h (fun r t => (∃ y, r = some (0, y)) ∧ SPx t ∧ (0 ≤ hF t 0 9 ∧ hF t 0 9 ≤ 10) ∧ Fr (32 :: sAr) ((0, 0) :: (0, 9) :: sGf) h t) := by
  refine Cq.of ?_
  show Wp m_X5_critical ((d + 5)) 0 [(2, 0)] [] h _
  refine Wp.ald_n (j := 0) rfl dX5_critical_0 ?_
  refine Wp.getf (k := 5) (tg := 2) kC5 (by decide) rfl lf_X5_43 dX5_critical_1 (sK0 (h := h) sh) (sF0_5 (h := h) sh) ?_
  obtain ⟨_, t4, ct4, ⟨y4, rfl, hy4⟩, spx4, f4⟩ := cq_findPace d h sh spx
  have sh4 := sh.fr f4 (by decide +kernel) (by decide)
  refine Wp.callV1 (ct4) wc_X5_250 iM_X3_findPace se_X3_findPace kC3 (sK22 (h := h) sh) dX5_critical_4 rfl (Nat.le_of_ble_eq_true rfl) rfl (Nat.le_of_ble_eq_true rfl) ?_
  refine Wp.ifne dX5_critical_7 (by decide) (tgt := 17) (fun c7 => ?_) (fun c7 => ?_)
  · refine Wp.ald_n (j := 0) rfl dX5_critical_17 ?_
    refine Wp.ald_n (j := 0) rfl dX5_critical_18 ?_
    refine Wp.getf (k := 5) (tg := 2) kC5 (by decide) rfl lf_X5_43 dX5_critical_19 (sK0 (h := t4) sh4) (sF0_5 (h := t4) sh4) ?_
    refine Wp.ald_n (j := 0) rfl dX5_critical_22 ?_
    refine Wp.getf (k := 8) (tg := 2) kC5 (by decide) rfl lf_X5_54 dX5_critical_23 (sK0 (h := t4) sh4) (sF0_8 (h := t4) sh4) ?_
    obtain ⟨_, t26, ct26, ⟨y26, rfl, hy26⟩, spx26, f26⟩ := cq_traceCritical (d + 1) t4 sh4 spx4 32 10 (sK32 (h := t4) sh4) (sL32 (h := t4) sh4) (by decide) (by decide)
    have sh26 := sh4.fr f26 (by decide +kernel) (by decide)
    refine Wp.callV1 (ct26) wc_X5_260 iM_X3_traceCritical se_X3_traceCritical kC3 (sK22 (h := t4) sh4) dX5_critical_26 rfl (Nat.le_of_ble_eq_true rfl) rfl (Nat.le_of_ble_eq_true rfl) ?_
    refine Wp.putf (k := 9) (tg := 0) kC5 (by decide) rfl rfl lf_X5_57 dX5_critical_29 (sK0 (h := t26) sh26) ?_
    refine Wp.ald_n (j := 0) rfl dX5_critical_32 ?_
    refine Wp.ald_n (j := 0) rfl dX5_critical_33 ?_
    refine Wp.getf (k := 9) (tg := 0) kC5 (by decide) rfl lf_X5_57 dX5_critical_34 (sK0 (h := t26) sh26) rfl ?_
    refine Wp.callV1 (ct_answer (d + 4) _ (sh26.fr (A := []) (G := [(0, 9)]) (Fr.f (by decide)) (by decide +kernel) (by decide)) _) wc_X5_126 iM_X5_answer se_X5_answer kC5 (sK0 (h := t26) sh26) dX5_critical_37 rfl (Nat.le_of_ble_eq_true rfl) rfl (Nat.le_of_ble_eq_true rfl) ?_
    refine Wp.iret rfl dX5_critical_40 ?_
    exact ⟨⟨_, rfl⟩, spx26, ⟨hy26.1, hy26.2⟩, ((f4.mono (fun _ z => by first | exact z | exact List.mem_cons_of_mem _ z) (fun _ z => List.mem_cons_of_mem _ (List.mem_cons_of_mem _ (z)))).tr (f26.mono (fun _ z => by first | exact z | exact List.mem_cons_of_mem _ z) (fun _ z => List.mem_cons_of_mem _ (List.mem_cons_of_mem _ (z))))).tr ((Fr.f (by decide)).tr (Fr.f (by decide)))⟩
  · refine Wp.ald_n (j := 0) rfl dX5_critical_10 ?_
    refine Wp.bipush dX5_critical_11 (by decide) ?_
    refine Wp.callV1 (ct_lack (d + 4) t4 sh4 8) wc_X5_88 iM_X5_lack se_X5_lack kC5 (sK0 (h := t4) sh4) dX5_critical_13 rfl (Nat.le_of_ble_eq_true rfl) rfl (Nat.le_of_ble_eq_true rfl) ?_
    refine Wp.iret rfl dX5_critical_16 ?_
    refine ⟨⟨_, rfl⟩, spx4, ?_, (f4.mono (fun _ z => by first | exact z | exact List.mem_cons_of_mem _ z) (fun _ z => List.mem_cons_of_mem _ (List.mem_cons_of_mem _ (z)))).tr (Fr.f (by decide))⟩
    show 0 ≤ hF t4 0 9 ∧ hF t4 0 9 ≤ 10
    rw [f4.2.2.2.2.1 0 9 (by decide)]
    exact ol

theorem cq_again (d : Nat) (h : mH) (sh : Sh h) (spx : SPx h) (ob n : Int) (obh : OB h ob n) (x : Int) : Cq m_X5_again (d + 5) [(2, 0), (0, x)] h (fun r t => (∃ y, r = some (0, y)) ∧ SPx t ∧ (∃ ob' n', OB t ob' n' ∧ aC h t (psO n) (psO n')) ∧ Fq (fun b => b ∈ sAr ∨ (74 ≤ b ∧ hK h b = 11)) ((0, 0) :: (22, 8) :: sGf) h t) := by
  refine Cq.of ?_
  show Wp m_X5_again ((d + 5)) 0 [(2, 0), (0, x)] [] h _
  have h74 := sh.2.2.2.2
  refine Wp.ild_n (j := 1) rfl dX5_again_0 ?_
  refine Wp.iflt dX5_again_1 (by decide) (tgt := 9) (fun c1 => ?_) (fun c1 => ?_)
  · refine Wp.ald_n (j := 0) rfl dX5_again_9 ?_
    refine Wp.iconst dX5_again_10 (by decide) ?_
    refine Wp.callV1 (ct_lack (d + 4) h sh 2) wc_X5_88 iM_X5_lack se_X5_lack kC5 (sK0 (h := h) sh) dX5_again_11 rfl (Nat.le_of_ble_eq_true rfl) rfl (Nat.le_of_ble_eq_true rfl) ?_
    refine Wp.iret rfl dX5_again_14 ?_
    exact ⟨⟨_, rfl⟩, spx, ⟨ob, n, obh, aC.rf⟩, Fq.f (by decide)⟩
  · refine Wp.ild_n (j := 1) rfl dX5_again_4 ?_
    refine Wp.iconst dX5_again_5 (by decide) ?_
    refine Wp.icle dX5_again_6 (by decide) (tgt := 15) (fun c6 => ?_) (fun c6 => ?_)
    · refine Wp.ald_n (j := 0) rfl dX5_again_15 ?_
      refine Wp.getf (k := 5) (tg := 2) kC5 (by decide) rfl lf_X5_43 dX5_again_16 (sK0 (h := h) sh) (sF0_5 (h := h) sh) ?_
      obtain ⟨_, t19, ct19, ⟨y19, rfl, hy19⟩, spx19, f19⟩ := cq_findPace d h sh spx
      have sh19 := sh.fr f19 (by decide +kernel) (by decide)
      have ob19 : OB t19 ob n := obh.fq (Fq.fr (A := fun b => b ∈ sAr) f19 (fun x z => z)) h74 (by decide) (fun z => by
        have := obh.2.2.2.1
        have hz : ∀ x ∈ sAr, x < 30 := by decide
        have := hz ob z
        omega)
      have fq19 : Fq (fun b => b ∈ sAr ∨ (74 ≤ b ∧ hK h b = 11)) ((0, 0) :: (22, 8) :: sGf) h t19 := (Fq.fr (A := (fun b => b ∈ sAr ∨ (74 ≤ b ∧ hK h b = 11))) f19 (fun x z => Or.inl z)).mono (fun _ _ z => z) (fun x z => List.mem_cons_of_mem _ (List.mem_cons_of_mem _ z))
      refine Wp.callV1 (ct19) wc_X5_250 iM_X3_findPace se_X3_findPace kC3 (sK22 (h := h) sh) dX5_again_19 rfl (Nat.le_of_ble_eq_true rfl) rfl (Nat.le_of_ble_eq_true rfl) ?_
      refine Wp.ifne dX5_again_22 (by decide) (tgt := 32) (fun c22 => ?_) (fun c22 => ?_)
      · refine Wp.ald_n (j := 0) rfl dX5_again_32 ?_
        refine Wp.getf (k := 5) (tg := 2) kC5 (by decide) rfl lf_X5_43 dX5_again_33 (sK0 (h := t19) sh19) (sF0_5 (h := t19) sh19) ?_
        obtain ⟨_, t36, ct36, ⟨y36, rfl, hy36⟩, spx36, ⟨ob36, oh36⟩, g36, ac36⟩ := cq_findAgain (d + 1) t19 sh19 spx19 ob n ob19
        have sh36 := sh19.fq g36 (by decide +kernel) (by rintro (z | z); exact absurd z (by decide); exact absurd z.1 (by decide))
        have fq36 : Fq (fun b => b ∈ sAr ∨ (74 ≤ b ∧ hK h b = 11)) ((0, 0) :: (22, 8) :: sGf) h t36 := fq19.tr (g36.mono (fun x _ z => z.imp id (fun y => ⟨y.1, by rw [← f19.2.2.1]; exact y.2⟩)) (fun x z => List.mem_cons_of_mem _ z))
        refine Wp.callV1 (ct36) wc_X5_279 iM_X3_findAgain se_X3_findAgain kC3 (sK22 (h := t19) sh19) dX5_again_36 rfl (Nat.le_of_ble_eq_true rfl) rfl (Nat.le_of_ble_eq_true rfl) ?_
        refine Wp.ifne dX5_again_39 (by decide) (tgt := 49) (fun c39 => ?_) (fun c39 => ?_)
        · refine Wp.ald_n (j := 0) rfl dX5_again_49 ?_
          refine Wp.ild_n (j := 1) rfl dX5_again_50 ?_
          refine Wp.ifne dX5_again_51 (by decide) (tgt := 64) (fun c51 => ?_) (fun c51 => ?_)
          · refine Wp.ald_n (j := 0) rfl dX5_again_64 ?_
            refine Wp.getf (k := 5) (tg := 2) kC5 (by decide) rfl lf_X5_43 dX5_again_65 (sK0 (h := t36) sh36) (sF0_5 (h := t36) sh36) ?_
            refine Wp.getfN (k := 13) (tg := 0) kC3 (by decide) rfl lf_X5_285 dX5_again_68 (sK22 (h := t36) sh36) (show hF _ 22 13 = hF t36 22 13 from rfl) ?_
            refine Wp.callV1 (ct_answer (d + 4) t36 sh36 _) wc_X5_126 iM_X5_answer se_X5_answer kC5 (sK0 (h := t36) sh36) dX5_again_71 rfl (Nat.le_of_ble_eq_true rfl) rfl (Nat.le_of_ble_eq_true rfl) ?_
            refine Wp.iret rfl dX5_again_74 ?_
            refine ⟨⟨_, rfl⟩, spx36, ⟨ob36, 201, ⟨oh36.1, oh36.2⟩, (aC.same f19.1 f19.2.1).tr ac36⟩, ?_⟩
            exact fq36.tr (Fq.f (by decide))
          · refine Wp.ald_n (j := 0) rfl dX5_again_54 ?_
            refine Wp.getf (k := 5) (tg := 2) kC5 (by decide) rfl lf_X5_43 dX5_again_55 (sK0 (h := t36) sh36) (sF0_5 (h := t36) sh36) ?_
            refine Wp.getfN (k := 12) (tg := 0) kC3 (by decide) rfl lf_X5_282 dX5_again_58 (sK22 (h := t36) sh36) (show hF _ 22 12 = hF t36 22 12 from rfl) ?_
            refine Wp.goto (tgt := 71) dX5_again_61 (by decide) ?_
            refine Wp.callV1 (ct_answer (d + 4) t36 sh36 _) wc_X5_126 iM_X5_answer se_X5_answer kC5 (sK0 (h := t36) sh36) dX5_again_71 rfl (Nat.le_of_ble_eq_true rfl) rfl (Nat.le_of_ble_eq_true rfl) ?_
            refine Wp.iret rfl dX5_again_74 ?_
            refine ⟨⟨_, rfl⟩, spx36, ⟨ob36, 201, ⟨oh36.1, oh36.2⟩, (aC.same f19.1 f19.2.1).tr ac36⟩, ?_⟩
            exact fq36.tr (Fq.f (by decide))
        · refine Wp.ald_n (j := 0) rfl dX5_again_42 ?_
          refine Wp.bipush dX5_again_43 (by decide) ?_
          refine Wp.callV1 (ct_lack (d + 4) t36 sh36 10) wc_X5_88 iM_X5_lack se_X5_lack kC5 (sK0 (h := t36) sh36) dX5_again_45 rfl (Nat.le_of_ble_eq_true rfl) rfl (Nat.le_of_ble_eq_true rfl) ?_
          refine Wp.iret rfl dX5_again_48 ?_
          refine ⟨⟨_, rfl⟩, spx36, ⟨ob36, 201, ⟨oh36.1, oh36.2⟩, (aC.same f19.1 f19.2.1).tr ac36⟩, ?_⟩
          exact fq36.tr (Fq.f (by decide))
      · refine Wp.ald_n (j := 0) rfl dX5_again_25 ?_
        refine Wp.bipush dX5_again_26 (by decide) ?_
        refine Wp.callV1 (ct_lack (d + 4) t19 sh19 8) wc_X5_88 iM_X5_lack se_X5_lack kC5 (sK0 (h := t19) sh19) dX5_again_28 rfl (Nat.le_of_ble_eq_true rfl) rfl (Nat.le_of_ble_eq_true rfl) ?_
        refine Wp.iret rfl dX5_again_31 ?_
        exact ⟨⟨_, rfl⟩, spx19, ⟨ob, n, ob19, aC.same f19.1 f19.2.1⟩, fq19.tr (Fq.f (by decide))⟩
    · refine Wp.ald_n (j := 0) rfl dX5_again_9 ?_
      refine Wp.iconst dX5_again_10 (by decide) ?_
      refine Wp.callV1 (ct_lack (d + 4) h sh 2) wc_X5_88 iM_X5_lack se_X5_lack kC5 (sK0 (h := h) sh) dX5_again_11 rfl (Nat.le_of_ble_eq_true rfl) rfl (Nat.le_of_ble_eq_true rfl) ?_
      refine Wp.iret rfl dX5_again_14 ?_
      exact ⟨⟨_, rfl⟩, spx, ⟨ob, n, obh, aC.rf⟩, Fq.f (by decide)⟩

