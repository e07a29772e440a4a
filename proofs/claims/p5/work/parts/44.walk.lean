theorem cq_end (d : Nat) (h : mH) (sh : Sh h) (af ho bs rw na nr : Int) (en : EN h af ho bs rw na nr) (mn : Int) (hmn : hF h 17 4 = mn) (m1 : mn ≤ 20736) (k x : Int) : Cq m_X5_end (d + 1) [(2, 0), (0, k), (0, x)] h (fun r t => (∃ y, r = some (0, y)) ∧ Fr [] [(0, 0)] h t) := by
  refine Cq.of ?_
  show Wp m_X5_end ((d + 1)) 0 [(2, 0), (0, k), (0, x)] [] h _
  refine Wp.ild_n (j := 2) rfl dX5_end_0 ?_
  refine Wp.iflt dX5_end_1 (by decide) (tgt := 9) (fun c1 => ?_) (fun c1 => ?_)
  · refine Wp.ald_n (j := 0) rfl dX5_end_9 ?_
    refine Wp.iconst dX5_end_10 (by decide) ?_
    refine Wp.callV1 (ct_lack d h sh 2) wc_X5_88 iM_X5_lack se_X5_lack kC5 (sK0 (h := h) sh) dX5_end_11 rfl (Nat.le_of_ble_eq_true rfl) rfl (Nat.le_of_ble_eq_true rfl) ?_
    refine Wp.iret rfl dX5_end_14 ?_
    exact ⟨⟨_, rfl⟩, Fr.f (by decide)⟩
  · refine Wp.ild_n (j := 2) rfl dX5_end_4 ?_
    refine Wp.iconst dX5_end_5 (by decide) ?_
    refine Wp.icle dX5_end_6 (by decide) (tgt := 15) (fun c6 => ?_) (fun c6 => ?_)
    · refine Wp.ild_n (j := 1) rfl dX5_end_15 ?_
      refine Wp.iflt dX5_end_16 (by decide) (tgt := 30) (fun c16 => ?_) (fun c16 => ?_)
      · refine Wp.ald_n (j := 0) rfl dX5_end_30 ?_
        refine Wp.bipush dX5_end_31 (by decide) ?_
        refine Wp.callV1 (ct_lack d h sh 8) wc_X5_88 iM_X5_lack se_X5_lack kC5 (sK0 (h := h) sh) dX5_end_33 rfl (Nat.le_of_ble_eq_true rfl) rfl (Nat.le_of_ble_eq_true rfl) ?_
        refine Wp.iret rfl dX5_end_36 ?_
        exact ⟨⟨_, rfl⟩, Fr.f (by decide)⟩
      · refine Wp.ild_n (j := 1) rfl dX5_end_19 ?_
        refine Wp.ald_n (j := 0) rfl dX5_end_20 ?_
        refine Wp.getf (k := 4) (tg := 2) kC5 (by decide) rfl lf_X5_36 dX5_end_21 (sK0 (h := h) sh) (sF0_4 (h := h) sh) ?_
        refine Wp.getfN (k := 4) (tg := 0) kC1 (by decide) rfl lf_X5_227 dX5_end_24 (sK17 (h := h) sh) hmn ?_
        refine Wp.iclt dX5_end_27 (by decide) (tgt := 37) (fun c27 => ?_) (fun c27 => ?_)
        · refine Wp.ald_n (j := 0) rfl dX5_end_37 ?_
          refine Wp.ald_n (j := 0) rfl dX5_end_38 ?_
          refine Wp.getf (k := 4) (tg := 2) kC5 (by decide) rfl lf_X5_36 dX5_end_39 (sK0 (h := h) sh) (sF0_4 (h := h) sh) ?_
          refine Wp.ild_n (j := 1) rfl dX5_end_42 ?_
          refine Wp.ild_n (j := 2) rfl dX5_end_43 ?_
          obtain ⟨_, t44, ct44, ⟨y44, rfl⟩, e44⟩ := cq_tell d h sh af ho bs rw na nr en k x (by omega) (by omega) (by omega) (by omega)
          rw [e44] at ct44
          refine Wp.callV1 (ct44) wc_X5_228 iM_X1_tell se_X1_tell kC1 (sK17 (h := h) sh) dX5_end_44 rfl (Nat.le_of_ble_eq_true rfl) rfl (Nat.le_of_ble_eq_true rfl) ?_
          refine Wp.callV1 (ct_answer d h sh _) wc_X5_126 iM_X5_answer se_X5_answer kC5 (sK0 (h := h) sh) dX5_end_47 rfl (Nat.le_of_ble_eq_true rfl) rfl (Nat.le_of_ble_eq_true rfl) ?_
          refine Wp.iret rfl dX5_end_50 ?_
          exact ⟨⟨_, rfl⟩, Fr.f (by decide)⟩
        · refine Wp.ald_n (j := 0) rfl dX5_end_30 ?_
          refine Wp.bipush dX5_end_31 (by decide) ?_
          refine Wp.callV1 (ct_lack d h sh 8) wc_X5_88 iM_X5_lack se_X5_lack kC5 (sK0 (h := h) sh) dX5_end_33 rfl (Nat.le_of_ble_eq_true rfl) rfl (Nat.le_of_ble_eq_true rfl) ?_
          refine Wp.iret rfl dX5_end_36 ?_
          exact ⟨⟨_, rfl⟩, Fr.f (by decide)⟩
    · refine Wp.ald_n (j := 0) rfl dX5_end_9 ?_
      refine Wp.iconst dX5_end_10 (by decide) ?_
      refine Wp.callV1 (ct_lack d h sh 2) wc_X5_88 iM_X5_lack se_X5_lack kC5 (sK0 (h := h) sh) dX5_end_11 rfl (Nat.le_of_ble_eq_true rfl) rfl (Nat.le_of_ble_eq_true rfl) ?_
      refine Wp.iret rfl dX5_end_14 ?_
      exact ⟨⟨_, rfl⟩, Fr.f (by decide)⟩

