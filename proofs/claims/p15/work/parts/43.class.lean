theorem cq_critical (d : Nat) (h : mH) (sh : Sh h) (spx : SPx h) (ol : 0 ≤ hF h 0 9 ∧ hF h 0 9 ≤ 10) : Cq m_X5_critical (d + 5) [(2, 0)] h (fun r t => (∃ y, r = some (0, y)) ∧ SPx t ∧ (0 ≤ hF t 0 9 ∧ hF t 0 9 ≤ 10) ∧ Fr (32 :: sAr) ((0, 0) :: (0, 9) :: sGf) h t) := by
  refine Cq.of ?_
  show Wp m_X5_critical ((d + 5)) 0 [(2, 0)] [] h _
  refine Wp.ald_n (j := 0) rfl dX5_critical_0 ?_
  refine Wp.getf (k := 5) (tg := 2) kC5 (by decide) rfl lf_X5_43 dX5_critical_1 (sK0 (h := h) sh) (sF0_5 (h := h) sh) ?_
  obtain ⟨_, t4, ct4, ⟨y4, rfl, hy4⟩, spx4, f4⟩ := cq_findPace d h sh spx
  have sh4 := sh.fr f4 (by decide +kernel) (by decide)
  refine Wp.callV1 (ct4) wc_X5_250 iM_X3_findPace se_X3_findPace kC3 (sK22 (h := h) sh) dX5_critical_4 rfl (Nat.le_of_ble_eq_true rfl) rfl (Nat.le_of_ble_eq_true rfl) ?_
  refine Wp.ifne dX5_critical_7 (by decide) (tgt := 17) (fun c7 => ?_) (fun c7 => ?_)
  · refine Wp.ald_n (j := 0) rfl dX5_critical_17 ?_
    refine Wp.ald_n (j := 0) rfl dX5_critical_18 ?_
    refine Wp.getf (k := 5) (tg := 2) kC5 (by decide) rfl lf_X5_43 dX5_critical_19 (sK0 (h := t4) sh4) (sF0_5 (h := t4) sh4) ?_
    refine Wp.ald_n (j := 0) rfl dX5_critical_22 ?_
    refine Wp.getf (k := 8) (tg := 2) kC5 (by decide) rfl lf_X5_54 dX5_critical_23 (sK0 (h := t4) sh4) (sF0_8 (h := t4) sh4) ?_
    obtain ⟨_, t26, ct26, ⟨y26, rfl, hy26⟩, spx26, f26⟩ := cq_traceCritical (d + 1) t4 sh4 spx4 32 10 (sK32 (h := t4) sh4) (sL32 (h := t4) sh4) (by decide) (by decide)
    have sh26 := sh4.fr f26 (by decide +kernel) (by decide)
    refine Wp.callV1 (ct26) wc_X5_260 iM_X3_traceCritical se_X3_traceCritical kC3 (sK22 (h := t4) sh4) dX5_critical_26 rfl (Nat.le_of_ble_eq_true rfl) rfl (Nat.le_of_ble_eq_true rfl) ?_
    refine Wp.putf (k := 9) (tg := 0) kC5 (by decide) rfl rfl lf_X5_57 dX5_critical_29 (sK0 (h := t26) sh26) ?_
    refine Wp.ald_n (j := 0) rfl dX5_critical_32 ?_
    refine Wp.ald_n (j := 0) rfl dX5_critical_33 ?_
    refine Wp.getf (k := 9) (tg := 0) kC5 (by decide) rfl lf_X5_57 dX5_critical_34 (sK0 (h := t26) sh26) rfl ?_
    refine Wp.callV1 (ct_answer (d + 4) _ (sh26.fr (A := []) (G := [(0, 9)]) (Fr.f (by decide)) (by decide +kernel) (by decide)) _) wc_X5_126 iM_X5_answer se_X5_answer kC5 (sK0 (h := t26) sh26) dX5_critical_37 rfl (Nat.le_of_ble_eq_true rfl) rfl (Nat.le_of_ble_eq_true rfl) ?_
    refine Wp.iret rfl dX5_critical_40 ?_
    exact ⟨⟨_, rfl⟩, spx26, ⟨hy26.1, hy26.2⟩, ((f4.mono (fun _ z => by first | exact z | exact List.mem_cons_of_mem _ z) (fun _ z => List.mem_cons_of_mem _ (List.mem_cons_of_mem _ (z)))).tr (f26.mono (fun _ z => by first | exact z | exact List.mem_cons_of_mem _ z) (fun _ z => List.mem_cons_of_mem _ (List.mem_cons_of_mem _ (z))))).tr ((Fr.f (by decide)).tr (Fr.f (by decide)))⟩
  · refine Wp.ald_n (j := 0) rfl dX5_critical_10 ?_
    refine Wp.bipush dX5_critical_11 (by decide) ?_
    refine Wp.callV1 (ct_lack (d + 4) t4 sh4 8) wc_X5_88 iM_X5_lack se_X5_lack kC5 (sK0 (h := t4) sh4) dX5_critical_13 rfl (Nat.le_of_ble_eq_true rfl) rfl (Nat.le_of_ble_eq_true rfl) ?_
    refine Wp.iret rfl dX5_critical_16 ?_
    refine ⟨⟨_, rfl⟩, spx4, ?_, (f4.mono (fun _ z => by first | exact z | exact List.mem_cons_of_mem _ z) (fun _ z => List.mem_cons_of_mem _ (List.mem_cons_of_mem _ (z)))).tr (Fr.f (by decide))⟩
    show 0 ≤ hF t4 0 9 ∧ hF t4 0 9 ≤ 10
    rw [f4.2.2.2.2.1 0 9 (by decide)]
    exact ol

theorem cq_lead (d : Nat) (h : mH) (sh : Sh h) (bi : BI h) (ol : 0 ≤ hF h 0 7 ∧ hF h 0 7 ≤ 24) : Cq m_X5_lead (d + 3) [(2, 0)] h (fun r t => (∃ y, r = some (0, y)) ∧ BI t ∧ (0 ≤ hF t 0 7 ∧ hF t 0 7 ≤ 24) ∧ Fr [10, 31] [(0, 0), (0, 7)] h t) := by
  refine Cq.of ?_
  show Wp m_X5_lead ((d + 3)) 0 [(2, 0)] [] h _
  obtain ⟨⟨r0, r1⟩, ⟨n0, n1⟩, ⟨m0, m1⟩, hp, hq⟩ := id bi
  refine Wp.ald_n (j := 0) rfl dX5_lead_0 ?_
  refine Wp.getf (k := 2) (tg := 2) kC5 (by decide) rfl lf_X5_22 dX5_lead_1 (sK0 (h := h) sh) (sF0_2 (h := h) sh) ?_
  refine Wp.getfN (k := 1) (tg := 0) kC0 (by decide) rfl lf_X5_119 dX5_lead_4 (sK2 (h := h) sh) (show hF _ 2 1 = hF h 2 1 from rfl) ?_
  refine Wp.ifne dX5_lead_7 (by decide) (tgt := 17) (fun c7 => ?_) (fun c7 => ?_)
  · refine Wp.ald_n (j := 0) rfl dX5_lead_17 ?_
    refine Wp.ald_n (j := 0) rfl dX5_lead_18 ?_
    refine Wp.getf (k := 2) (tg := 2) kC5 (by decide) rfl lf_X5_22 dX5_lead_19 (sK0 (h := h) sh) (sF0_2 (h := h) sh) ?_
    refine Wp.ald_n (j := 0) rfl dX5_lead_22 ?_
    refine Wp.getf (k := 6) (tg := 2) kC5 (by decide) rfl lf_X5_47 dX5_lead_23 (sK0 (h := h) sh) (sF0_6 (h := h) sh) ?_
    obtain ⟨_, t26, ct26, ⟨y26, rfl, hy26⟩, f26⟩ := cq_findLeaders d h sh n1
    have sh26 := sh.fr f26 (by decide +kernel) (by decide)
    refine Wp.callV1 (ct26) wc_X5_235 iM_X0_findLeaders se_X0_findLeaders kC0 (sK2 (h := h) sh) dX5_lead_26 rfl (Nat.le_of_ble_eq_true rfl) rfl (Nat.le_of_ble_eq_true rfl) ?_
    refine Wp.putf (k := 7) (tg := 0) kC5 (by decide) rfl rfl lf_X5_51 dX5_lead_29 (sK0 (h := t26) sh26) ?_
    refine Wp.ald_n (j := 0) rfl dX5_lead_32 ?_
    refine Wp.ald_n (j := 0) rfl dX5_lead_33 ?_
    refine Wp.getf (k := 7) (tg := 0) kC5 (by decide) rfl lf_X5_51 dX5_lead_34 (sK0 (h := t26) sh26) rfl ?_
    refine Wp.callV1 (ct_answer (d + 2) _ (sh26.fr (A := []) (G := [(0, 7)]) (Fr.f (by decide)) (by decide +kernel) (by decide)) _) wc_X5_126 iM_X5_answer se_X5_answer kC5 (sK0 (h := t26) sh26) dX5_lead_37 rfl (Nat.le_of_ble_eq_true rfl) rfl (Nat.le_of_ble_eq_true rfl) ?_
    refine Wp.iret rfl dX5_lead_40 ?_
    refine ⟨⟨_, rfl⟩, (show BI t26 from bi.fr f26 (by decide) (by decide) (by decide) (by decide) (by decide)), ⟨hy26.1, hy26.2⟩, (f26.mono (by simp) (by simp)).tr ((Fr.f (by decide)).tr (Fr.f (by decide)))⟩
  · refine Wp.ald_n (j := 0) rfl dX5_lead_10 ?_
    refine Wp.bipush dX5_lead_11 (by decide) ?_
    refine Wp.callV1 (ct_lack (d + 2) h sh 8) wc_X5_88 iM_X5_lack se_X5_lack kC5 (sK0 (h := h) sh) dX5_lead_13 rfl (Nat.le_of_ble_eq_true rfl) rfl (Nat.le_of_ble_eq_true rfl) ?_
    refine Wp.iret rfl dX5_lead_16 ?_
    exact ⟨⟨_, rfl⟩, bi, ol, Fr.f (by decide)⟩

theorem cq_leader (d : Nat) (h : mH) (sh : Sh h) (ol : 0 ≤ hF h 0 7 ∧ hF h 0 7 ≤ 24) (k : Int) : Cq m_X5_leader (d + 1) [(2, 0), (0, k)] h (fun r t => (∃ y, r = some (0, y)) ∧ Fr [] [(0, 0)] h t) := by
  refine Cq.of ?_
  show Wp m_X5_leader ((d + 1)) 0 [(2, 0), (0, k)] [] h _
  refine Wp.ild_n (j := 1) rfl dX5_leader_0 ?_
  refine Wp.iflt dX5_leader_1 (by decide) (tgt := 12) (fun c1 => ?_) (fun c1 => ?_)
  · refine Wp.ald_n (j := 0) rfl dX5_leader_12 ?_
    refine Wp.bipush dX5_leader_13 (by decide) ?_
    refine Wp.callV1 (ct_lack d h sh 8) wc_X5_88 iM_X5_lack se_X5_lack kC5 (sK0 (h := h) sh) dX5_leader_15 rfl (Nat.le_of_ble_eq_true rfl) rfl (Nat.le_of_ble_eq_true rfl) ?_
    refine Wp.iret rfl dX5_leader_18 ?_
    exact ⟨⟨_, rfl⟩, Fr.f (by decide)⟩
  · refine Wp.ild_n (j := 1) rfl dX5_leader_4 ?_
    refine Wp.ald_n (j := 0) rfl dX5_leader_5 ?_
    refine Wp.getf (k := 7) (tg := 0) kC5 (by decide) rfl lf_X5_51 dX5_leader_6 (sK0 (h := h) sh) (show hF _ 0 7 = hF h 0 7 from rfl) ?_
    refine Wp.iclt dX5_leader_9 (by decide) (tgt := 19) (fun c9 => ?_) (fun c9 => ?_)
    · refine Wp.ald_n (j := 0) rfl dX5_leader_19 ?_
      refine Wp.ald_n (j := 0) rfl dX5_leader_20 ?_
      refine Wp.getf (k := 6) (tg := 2) kC5 (by decide) rfl lf_X5_47 dX5_leader_21 (sK0 (h := h) sh) (sF0_6 (h := h) sh) ?_
      refine Wp.ild_n (j := 1) rfl dX5_leader_24 ?_
      refine Wp.iaload dX5_leader_25 (sK31 (h := h) sh) (by omega) (ilt (sL31 (h := h) sh) (by omega)) (show hA _ 31 _ = hA h 31 _ from rfl) ?_
      refine Wp.callV1 (ct_answer d h sh _) wc_X5_126 iM_X5_answer se_X5_answer kC5 (sK0 (h := h) sh) dX5_leader_26 rfl (Nat.le_of_ble_eq_true rfl) rfl (Nat.le_of_ble_eq_true rfl) ?_
      refine Wp.iret rfl dX5_leader_29 ?_
      exact ⟨⟨_, rfl⟩, Fr.f (by decide)⟩
    · refine Wp.ald_n (j := 0) rfl dX5_leader_12 ?_
      refine Wp.bipush dX5_leader_13 (by decide) ?_
      refine Wp.callV1 (ct_lack d h sh 8) wc_X5_88 iM_X5_lack se_X5_lack kC5 (sK0 (h := h) sh) dX5_leader_15 rfl (Nat.le_of_ble_eq_true rfl) rfl (Nat.le_of_ble_eq_true rfl) ?_
      refine Wp.iret rfl dX5_leader_18 ?_
      exact ⟨⟨_, rfl⟩, Fr.f (by decide)⟩

