theorem ct_startWalk (d : Nat) (h : mH) (sh : Sh h) (h0 : 0 ≤ hF h 2 1) (h1 : hF h 2 1 ≤ 24) : Ct m_X0_startWalk (d + 1) [(2, 2)] h none (sA h 11 (cpF (hA h 4) (hA h 11) 0 0 (hF h 2 1))) := by
  refine Ct.of ?_
  show Wp m_X0_startWalk ((d + 1)) 0 [(2, 2)] [] h _
  refine Wp.ald_n (j := 0) rfl dX0_startWalk_0 ?_
  refine Wp.getf (k := 4) (tg := 2) kC0 (by decide) rfl lf_X0_25 dX0_startWalk_1 (sK2 (h := h) sh) (sF2_4 (h := h) sh) ?_
  refine Wp.iconst dX0_startWalk_4 (by decide) ?_
  refine Wp.ald_n (j := 0) rfl dX0_startWalk_5 ?_
  refine Wp.getf (k := 12) (tg := 2) kC0 (by decide) rfl lf_X0_49 dX0_startWalk_6 (sK2 (h := h) sh) (sF2_12 (h := h) sh) ?_
  refine Wp.iconst dX0_startWalk_9 (by decide) ?_
  refine Wp.ald_n (j := 0) rfl dX0_startWalk_10 ?_
  refine Wp.getf (k := 1) (tg := 0) kC0 (by decide) rfl lf_X0_15 dX0_startWalk_11 (sK2 (h := h) sh) (show hF _ 2 1 = hF h 2 1 from rfl) ?_
  refine Wp.acopy (t := 10) (Or.inl rfl) wa_X0_90 wA2 wA3 wA4 dX0_startWalk_14 (sK4 (h := h) sh) (sK11 (h := h) sh) (by omega) (by omega) (by omega) (ile (sL4 (h := h) sh) (by omega)) (ile (sL11 (h := h) sh) (by omega)) (Nat.le_of_ble_eq_true rfl) ?_
  refine Wp.vret rfl dX0_startWalk_17 ?_
  exact ⟨rfl, rfl⟩

theorem cq_walk (d : Nat) (h : mH) (sh : Sh h) (bi : BI h) (hrow : ∀ k, 0 ≤ k → k < hF h 2 1 → 0 ≤ hA h 11 k ∧ hA h 11 k < hF h 2 0) : Cq m_X0_walk (d + 3) [(2, 2)] h (fun r t => r = none ∧ Fr [8, 9, 12, 11] [] h t ∧ ∀ j, 0 ≤ j → j < hF h 2 1 → 0 ≤ hA t 11 j ∧ hA t 11 j < hF h 2 0) := by
  refine Cq.of ?_
  show Wp m_X0_walk ((d + 3)) 0 [(2, 2)] [] h _
  refine Wp.ald_n (j := 0) rfl dX0_walk_0 ?_
  refine Wp.ald_n (j := 0) rfl dX0_walk_1 ?_
  refine Wp.getf (k := 12) (tg := 2) kC0 (by decide) rfl lf_X0_49 dX0_walk_2 (sK2 (h := h) sh) (sF2_12 (h := h) sh) ?_
  refine Wp.ald_n (j := 0) rfl dX0_walk_5 ?_
  refine Wp.getf (k := 13) (tg := 2) kC0 (by decide) rfl lf_X0_52 dX0_walk_6 (sK2 (h := h) sh) (sF2_13 (h := h) sh) ?_
  obtain ⟨v9, t9, ct9, q9⟩ := cq_tick11 d h sh bi hrow
  obtain ⟨rfl, -⟩ := id q9
  refine Wp.callV0 (ct9) wc_X0_99 iM_X0_tick se_X0_tick kC0 (sK2 (h := h) sh) dX0_walk_9 rfl (Nat.le_of_ble_eq_true rfl) rfl (Nat.le_of_ble_eq_true rfl) ?_
  refine Wp.vret rfl dX0_walk_12 ?_
  exact q9

theorem inStep_loop (d : Nat) (h : mH) (sh : Sh h) (a s : Int) (ka : hK h a = 10) (la : hL h a = 24) (hn : hF h 2 1 ≤ 24) : ∀ (m : Nat) (k p : Int), (hF h 2 1 - k).toNat < m → (0 ≤ k) → Wp m_X0_inStep (d + 1) 5 [(2, 2), (2, a), (0, s), (0, p), (0, k)] [] h (fun r t => (∃ y, r = some (0, y) ∧ (y = 0 ∨ y = 1)) ∧ t = h) := by
  intro m
  induction m with
  | zero => intro k p hm; exact absurd hm (Nat.not_lt_zero _)
  | succ m ih =>
    intro k p hm k0
    refine Wp.ild (j := 4) rfl dX0_inStep_5 ?_
    refine Wp.ald_n (j := 0) rfl dX0_inStep_7 ?_
    refine Wp.getf (k := 1) (tg := 0) kC0 (by decide) rfl lf_X0_15 dX0_inStep_8 (sK2 (h := h) sh) (show hF _ 2 1 = hF h 2 1 from rfl) ?_
    refine Wp.icge dX0_inStep_11 (by decide) (tgt := 49) (fun c11 => ?_) (fun c11 => ?_)
    · refine Wp.iconst dX0_inStep_49 (by decide) ?_
      refine Wp.zret rfl dX0_inStep_50 (by omega) ?_
      exact ⟨⟨_, rfl, by omega⟩, rfl⟩
    · refine Wp.ild_n (j := 2) rfl dX0_inStep_14 ?_
      refine Wp.ild (j := 4) rfl dX0_inStep_15 ?_
      refine Wp.callS1 (ct_holds d _ _ _) wc_X0_75 sM_X0_holds dX0_inStep_17 rfl (Nat.le_of_ble_eq_true rfl) rfl (Nat.le_of_ble_eq_true rfl) ?_
      refine Wp.ifeq dX0_inStep_20 (by decide) (tgt := 43) (fun c20 => ?_) (fun c20 => ?_)
      · refine inc_5_4 rfl dX0_inStep_43 (by first | exact w32_of (by omega) (by omega) | rfl) ?_
        refine Wp.goto (tgt := 5) dX0_inStep_46 (by decide) ?_
        exact ih (k + 1) _ (by omega) (by omega)
      · refine Wp.ild_n (j := 3) rfl dX0_inStep_23 ?_
        refine Wp.iconst dX0_inStep_24 (by decide) ?_
        refine Wp.iceq dX0_inStep_25 (by decide) (tgt := 38) (fun c25 => ?_) (fun c25 => ?_)
        · refine Wp.ald_n (j := 1) rfl dX0_inStep_38 ?_
          refine Wp.ild (j := 4) rfl dX0_inStep_39 ?_
          refine Wp.iaload dX0_inStep_41 ka (by omega) (ilt la (by omega)) (show hA _ a _ = hA h a _ from rfl) ?_
          refine sti_5_3 rfl (dSt_n dX0_inStep_42) ?_
          refine inc_5_4 rfl dX0_inStep_43 (by first | exact w32_of (by omega) (by omega) | rfl) ?_
          refine Wp.goto (tgt := 5) dX0_inStep_46 (by decide) ?_
          exact ih (k + 1) _ (by omega) (by omega)
        · refine Wp.ild_n (j := 3) rfl dX0_inStep_28 ?_
          refine Wp.ald_n (j := 1) rfl dX0_inStep_29 ?_
          refine Wp.ild (j := 4) rfl dX0_inStep_30 ?_
          refine Wp.iaload dX0_inStep_32 ka (by omega) (ilt la (by omega)) (show hA _ a _ = hA h a _ from rfl) ?_
          refine Wp.iceq dX0_inStep_33 (by decide) (tgt := 38) (fun c33 => ?_) (fun c33 => ?_)
          · refine Wp.ald_n (j := 1) rfl dX0_inStep_38 ?_
            refine Wp.ild (j := 4) rfl dX0_inStep_39 ?_
            refine Wp.iaload dX0_inStep_41 ka (by omega) (ilt la (by omega)) (show hA _ a _ = hA h a _ from rfl) ?_
            refine sti_5_3 rfl (dSt_n dX0_inStep_42) ?_
            refine inc_5_4 rfl dX0_inStep_43 (by first | exact w32_of (by omega) (by omega) | rfl) ?_
            refine Wp.goto (tgt := 5) dX0_inStep_46 (by decide) ?_
            exact ih (k + 1) _ (by omega) (by omega)
          · refine Wp.iconst dX0_inStep_36 (by decide) ?_
            refine Wp.zret rfl dX0_inStep_37 (by omega) ?_
            exact ⟨⟨_, rfl, by omega⟩, rfl⟩

theorem cq_inStep (d : Nat) (h : mH) (sh : Sh h) (a s : Int) (ka : hK h a = 10) (la : hL h a = 24) (hn : hF h 2 1 ≤ 24) : Cq m_X0_inStep (d + 1) [(2, 2), (2, a), (0, s)] h (fun r t => (∃ y, r = some (0, y) ∧ (y = 0 ∨ y = 1)) ∧ t = h) := by
  refine Cq.of ?_
  show Wp m_X0_inStep ((d + 1)) 0 [(2, 2), (2, a), (0, s), (9, 0), (9, 0)] [] h _
  refine Wp.iconst dX0_inStep_0 (by decide) ?_
  refine sti_5_3 rfl (dSt_n dX0_inStep_1) ?_
  refine Wp.iconst dX0_inStep_2 (by decide) ?_
  refine sti_5_4 rfl (dSt_w dX0_inStep_3) ?_
  exact inStep_loop d h sh a s ka la hn _ 0 _ (Nat.lt_succ_self _) (Int.le_refl _)

theorem arcFrom_loop (d : Nat) (h : mH) (sh : Sh h) (bi : BI h) (p s : Int) (p0 : 0 ≤ p ∧ p < hF h 2 0) : ∀ (m : Nat) (k f : Int), (hF h 2 1 - k).toNat < m → (0 ≤ k) → Wp m_X0_arcFrom (d + 1) 5 [(2, 2), (0, p), (0, s), (0, f), (0, k)] [] h (fun r t => (∃ y, r = some (0, y)) ∧ t = h) := by
  intro m
  induction m with
  | zero => intro k f hm; exact absurd hm (Nat.not_lt_zero _)
  | succ m ih =>
    intro k f hm k0
    have hp := bi.2.2.2.1
    obtain ⟨⟨r0, r1⟩, ⟨n0, n1⟩, -⟩ := id bi
    refine Wp.ild (j := 4) rfl dX0_arcFrom_5 ?_
    refine Wp.ald_n (j := 0) rfl dX0_arcFrom_7 ?_
    refine Wp.getf (k := 1) (tg := 0) kC0 (by decide) rfl lf_X0_15 dX0_arcFrom_8 (sK2 (h := h) sh) (show hF _ 2 1 = hF h 2 1 from rfl) ?_
    refine Wp.icge dX0_arcFrom_11 (by decide) (tgt := 47) (fun c11 => ?_) (fun c11 => ?_)
    · refine Wp.ild_n (j := 3) rfl dX0_arcFrom_47 ?_
      refine Wp.iret rfl dX0_arcFrom_48 ?_
      exact ⟨⟨_, rfl⟩, rfl⟩
    · refine Wp.ild_n (j := 2) rfl dX0_arcFrom_14 ?_
      refine Wp.ild (j := 4) rfl dX0_arcFrom_15 ?_
      refine Wp.callS1 (ct_holds d _ _ _) wc_X0_75 sM_X0_holds dX0_arcFrom_17 rfl (Nat.le_of_ble_eq_true rfl) rfl (Nat.le_of_ble_eq_true rfl) ?_
      refine Wp.ifeq dX0_arcFrom_20 (by decide) (tgt := 41) (fun c20 => ?_) (fun c20 => ?_)
      · refine inc_5_4 rfl dX0_arcFrom_41 (by first | exact w32_of (by omega) (by omega) | rfl) ?_
        refine Wp.goto (tgt := 5) dX0_arcFrom_44 (by decide) ?_
        exact ih (k + 1) _ (by omega) (by omega)
      · have hk := hp k k0 (by omega)
        refine Wp.ild_n (j := 3) rfl dX0_arcFrom_23 ?_
        refine Wp.ald_n (j := 0) rfl dX0_arcFrom_24 ?_
        refine Wp.ald_n (j := 0) rfl dX0_arcFrom_25 ?_
        refine Wp.getf (k := 4) (tg := 2) kC0 (by decide) rfl lf_X0_25 dX0_arcFrom_26 (sK2 (h := h) sh) (sF2_4 (h := h) sh) ?_
        refine Wp.ild (j := 4) rfl dX0_arcFrom_29 ?_
        refine Wp.iaload dX0_arcFrom_31 (sK4 (h := h) sh) (by omega) (ilt (sL4 (h := h) sh) (by omega)) (show hA _ 4 _ = hA h 4 _ from rfl) ?_
        refine Wp.ild_n (j := 1) rfl dX0_arcFrom_32 ?_
        refine Wp.isubE dX0_arcFrom_33 (by first | exact w32_of (by omega) (by omega) | rfl) ?_
        refine Wp.callV1 (ct_wrap d h sh _ (by omega) (by omega) (by omega) (by omega)) wc_X0_83 iM_X0_wrap se_X0_wrap kC0 (sK2 (h := h) sh) dX0_arcFrom_34 rfl (Nat.le_of_ble_eq_true rfl) rfl (Nat.le_of_ble_eq_true rfl) ?_
        refine Wp.mmax wm_X0_112 dX0_arcFrom_37 (Nat.le_of_ble_eq_true rfl) ?_
        refine sti_5_3 rfl (dSt_n dX0_arcFrom_40) ?_
        refine inc_5_4 rfl dX0_arcFrom_41 (by first | exact w32_of (by omega) (by omega) | rfl) ?_
        refine Wp.goto (tgt := 5) dX0_arcFrom_44 (by decide) ?_
        exact ih (k + 1) _ (by omega) (by omega)

theorem cq_arcFrom (d : Nat) (h : mH) (sh : Sh h) (bi : BI h) (p s : Int) (p0 : 0 ≤ p ∧ p < hF h 2 0) : Cq m_X0_arcFrom (d + 1) [(2, 2), (0, p), (0, s)] h (fun r t => (∃ y, r = some (0, y)) ∧ t = h) := by
  refine Cq.of ?_
  show Wp m_X0_arcFrom ((d + 1)) 0 [(2, 2), (0, p), (0, s), (9, 0), (9, 0)] [] h _
  refine Wp.iconst dX0_arcFrom_0 (by decide) ?_
  refine sti_5_3 rfl (dSt_n dX0_arcFrom_1) ?_
  refine Wp.iconst dX0_arcFrom_2 (by decide) ?_
  refine sti_5_4 rfl (dSt_w dX0_arcFrom_3) ?_
  exact arcFrom_loop d h sh bi p s p0 _ 0 0 (Nat.lt_succ_self _) (Int.le_refl _)

theorem leastArc_loop (d : Nat) (h : mH) (sh : Sh h) (bi : BI h) (s : Int) : ∀ (m : Nat) (k f : Int), (hF h 2 1 - k).toNat < m → (0 ≤ k) → Wp m_X0_leastArc (d + 2) 7 [(2, 2), (0, s), (0, f), (0, k)] [] h (fun r t => (∃ y, r = some (0, y)) ∧ t = h) := by
  intro m
  induction m with
  | zero => intro k f hm; exact absurd hm (Nat.not_lt_zero _)
  | succ m ih =>
    intro k f hm k0
    have hp := bi.2.2.2.1
    obtain ⟨⟨r0, r1⟩, ⟨n0, n1⟩, -⟩ := id bi
    refine Wp.ild_n (j := 3) rfl dX0_leastArc_7 ?_
    refine Wp.ald_n (j := 0) rfl dX0_leastArc_8 ?_
    refine Wp.getf (k := 1) (tg := 0) kC0 (by decide) rfl lf_X0_15 dX0_leastArc_9 (sK2 (h := h) sh) (show hF _ 2 1 = hF h 2 1 from rfl) ?_
    refine Wp.icge dX0_leastArc_12 (by decide) (tgt := 45) (fun c12 => ?_) (fun c12 => ?_)
    · refine Wp.ild_n (j := 2) rfl dX0_leastArc_45 ?_
      refine Wp.iret rfl dX0_leastArc_46 ?_
      exact ⟨⟨_, rfl⟩, rfl⟩
    · refine Wp.ild_n (j := 1) rfl dX0_leastArc_15 ?_
      refine Wp.ild_n (j := 3) rfl dX0_leastArc_16 ?_
      refine Wp.callS1 (ct_holds (d + 1) _ _ _) wc_X0_75 sM_X0_holds dX0_leastArc_17 rfl (Nat.le_of_ble_eq_true rfl) rfl (Nat.le_of_ble_eq_true rfl) ?_
      refine Wp.ifeq dX0_leastArc_20 (by decide) (tgt := 39) (fun c20 => ?_) (fun c20 => ?_)
      · refine inc_4_3 rfl dX0_leastArc_39 (by first | exact w32_of (by omega) (by omega) | rfl) ?_
        refine Wp.goto (tgt := 7) dX0_leastArc_42 (by decide) ?_
        exact ih (k + 1) _ (by omega) (by omega)
      · have hk := hp k k0 (by omega)
        refine Wp.ild_n (j := 2) rfl dX0_leastArc_23 ?_
        refine Wp.ald_n (j := 0) rfl dX0_leastArc_24 ?_
        refine Wp.ald_n (j := 0) rfl dX0_leastArc_25 ?_
        refine Wp.getf (k := 4) (tg := 2) kC0 (by decide) rfl lf_X0_25 dX0_leastArc_26 (sK2 (h := h) sh) (sF2_4 (h := h) sh) ?_
        refine Wp.ild_n (j := 3) rfl dX0_leastArc_29 ?_
        refine Wp.iaload dX0_leastArc_30 (sK4 (h := h) sh) (by omega) (ilt (sL4 (h := h) sh) (by omega)) (show hA _ 4 _ = hA h 4 _ from rfl) ?_
        refine Wp.ild_n (j := 1) rfl dX0_leastArc_31 ?_
        obtain ⟨_, t32, ct32, ⟨y32, rfl⟩, e32⟩ := cq_arcFrom d h sh bi (hA h 4 k) s hk
        rw [e32] at ct32
        refine Wp.callV1 (ct32) wc_X0_103 iM_X0_arcFrom se_X0_arcFrom kC0 (sK2 (h := h) sh) dX0_leastArc_32 rfl (Nat.le_of_ble_eq_true rfl) rfl (Nat.le_of_ble_eq_true rfl) ?_
        refine Wp.mmin wm_X0_107 dX0_leastArc_35 (Nat.le_of_ble_eq_true rfl) ?_
        refine sti_4_2 rfl (dSt_n dX0_leastArc_38) ?_
        refine inc_4_3 rfl dX0_leastArc_39 (by first | exact w32_of (by omega) (by omega) | rfl) ?_
        refine Wp.goto (tgt := 7) dX0_leastArc_42 (by decide) ?_
        exact ih (k + 1) _ (by omega) (by omega)

theorem cq_leastArc (d : Nat) (h : mH) (sh : Sh h) (bi : BI h) (s : Int) : Cq m_X0_leastArc (d + 2) [(2, 2), (0, s)] h (fun r t => (∃ y, r = some (0, y)) ∧ t = h) := by
  refine Cq.of ?_
  show Wp m_X0_leastArc ((d + 2)) 0 [(2, 2), (0, s), (9, 0), (9, 0)] [] h _
  refine Wp.ald_n (j := 0) rfl dX0_leastArc_0 ?_
  refine Wp.getf (k := 0) (tg := 0) kC0 (by decide) rfl lf_X0_9 dX0_leastArc_1 (sK2 (h := h) sh) (show hF _ 2 0 = hF h 2 0 from rfl) ?_
  refine sti_4_2 rfl (dSt_n dX0_leastArc_4) ?_
  refine Wp.iconst dX0_leastArc_5 (by decide) ?_
  refine sti_4_3 rfl (dSt_n dX0_leastArc_6) ?_
  exact leastArc_loop d h sh bi s _ 0 _ (Nat.lt_succ_self _) (Int.le_refl _)

theorem pw_pos {r : Int} (hr : 2 ≤ r) : ∀ n : Nat, 1 ≤ r ^ n
  | 0 => by simp
  | n + 1 => by
    rw [Int.pow_succ]
    have := pw_pos hr n
    have h2 : r ^ n * 1 ≤ r ^ n * r := Int.mul_le_mul_of_nonneg_left (by omega) (by omega)
    omega
theorem pw_mono {r : Int} (hr : 2 ≤ r) {a b : Nat} (h : a ≤ b) : r ^ a ≤ r ^ b := by
  obtain ⟨c, rfl⟩ := Nat.exists_eq_add_of_le h
  rw [Int.pow_add]
  have h1 := pw_pos hr c
  have h0 := pw_pos hr a
  have h2 : r ^ a * 1 ≤ r ^ a * r ^ c := Int.mul_le_mul_of_nonneg_left (by omega) (by omega)
  omega
theorem mul_bd {a b A B : Int} (a0 : 0 ≤ a) (a1 : a ≤ A) (b0 : 0 ≤ b) (b1 : b ≤ B) : 0 ≤ a * b ∧ a * b ≤ A * B := by
  refine ⟨Int.mul_nonneg a0 b0, ?_⟩
  have h1 : a * b ≤ A * b := Int.mul_le_mul_of_nonneg_right a1 b0
  have h2 : A * b ≤ A * B := Int.mul_le_mul_of_nonneg_left b1 (by omega)
  omega
theorem small_loop (d : Nat) (h : mH) (sh : Sh h) (bi : BI h) : ∀ (m : Nat) (k s : Int), (hF h 2 1 - k).toNat < m → (0 ≤ k) → (k ≤ hF h 2 1) → (0 < hF h 2 1) → (s = hF h 2 0 ^ k.toNat) → (s ≤ 20736) → Wp m_X0_smallStates d 15 [(2, 2), (0, s), (0, k)] [] h (fun r t => (∃ y, r = some (0, y) ∧ (y = 0 ∨ (0 < hF h 2 1 ∧ y = hF h 2 0 ^ (hF h 2 1).toNat ∧ y ≤ 20736))) ∧ t = h) := by
  intro m
  induction m with
  | zero => intro k s hm; exact absurd hm (Nat.not_lt_zero _)
  | succ m ih =>
    intro k s hm k0 k1 n0 es s1
    obtain ⟨r0, r1⟩ := bi.1
    obtain ⟨-, n1⟩ := bi.2.1
    have hs := pw_pos r0 k.toNat
    rw [← es] at hs
    have hm := mul_bd (a := s) (b := hF h 2 0) (A := 20736) (B := 4096) (by omega) s1 (by omega) r1
    refine Wp.ild_n (j := 2) rfl dX0_smallStates_15 ?_
    refine Wp.ald_n (j := 0) rfl dX0_smallStates_16 ?_
    refine Wp.getf (k := 1) (tg := 0) kC0 (by decide) rfl lf_X0_15 dX0_smallStates_17 (sK2 (h := h) sh) (show hF _ 2 1 = hF h 2 1 from rfl) ?_
    refine Wp.icge dX0_smallStates_20 (by decide) (tgt := 45) (fun c20 => ?_) (fun c20 => ?_)
    · refine Wp.ild_n (j := 1) rfl dX0_smallStates_45 ?_
      refine Wp.iret rfl dX0_smallStates_46 ?_
      have : k = hF h 2 1 := by omega
      rw [this] at es
      exact ⟨⟨s, rfl, Or.inr ⟨n0, es, s1⟩⟩, rfl⟩
    · refine Wp.ild_n (j := 1) rfl dX0_smallStates_23 ?_
      refine Wp.ald_n (j := 0) rfl dX0_smallStates_24 ?_
      refine Wp.getf (k := 0) (tg := 0) kC0 (by decide) rfl lf_X0_9 dX0_smallStates_25 (sK2 (h := h) sh) (show hF _ 2 0 = hF h 2 0 from rfl) ?_
      refine Wp.imulE dX0_smallStates_28 (w32_of (by omega) (by omega)) ?_
      refine sti_3_1 rfl (dSt_n dX0_smallStates_29) ?_
      refine Wp.ild_n (j := 1) rfl dX0_smallStates_30 ?_
      refine Wp.sipush dX0_smallStates_31 (by decide) ?_
      refine Wp.icle dX0_smallStates_34 (by decide) (tgt := 39) (fun c34 => ?_) (fun c34 => ?_)
      · refine inc_3_2 rfl dX0_smallStates_39 (by first | exact w32_of (by omega) (by omega) | rfl) ?_
        refine Wp.goto (tgt := 15) dX0_smallStates_42 (by decide) ?_
        exact ih (k + 1) _ (by omega) (by omega) (by omega) n0 (by rw [show (k + 1).toNat = k.toNat + 1 by omega, Int.pow_succ, ← es]) (by omega)
      · refine Wp.iconst dX0_smallStates_37 (by decide) ?_
        refine Wp.iret rfl dX0_smallStates_38 ?_
        exact ⟨⟨0, rfl, Or.inl rfl⟩, rfl⟩

theorem cq_small (d : Nat) (h : mH) (sh : Sh h) (bi : BI h) : Cq m_X0_smallStates d [(2, 2)] h (fun r t => (∃ y, r = some (0, y) ∧ (y = 0 ∨ (0 < hF h 2 1 ∧ y = hF h 2 0 ^ (hF h 2 1).toNat ∧ y ≤ 20736))) ∧ t = h) := by
  refine Cq.of ?_
  show Wp m_X0_smallStates (d) 0 [(2, 2), (9, 0), (9, 0)] [] h _
  refine Wp.ald_n (j := 0) rfl dX0_smallStates_0 ?_
  refine Wp.getf (k := 1) (tg := 0) kC0 (by decide) rfl lf_X0_15 dX0_smallStates_1 (sK2 (h := h) sh) (show hF _ 2 1 = hF h 2 1 from rfl) ?_
  refine Wp.ifle dX0_smallStates_4 (by decide) (tgt := 11) (fun c4 => ?_) (fun c4 => ?_)
  · refine Wp.iconst dX0_smallStates_11 (by decide) ?_
    refine sti_3_1 rfl (dSt_n dX0_smallStates_12) ?_
    refine Wp.iconst dX0_smallStates_13 (by decide) ?_
    refine sti_3_2 rfl (dSt_n dX0_smallStates_14) ?_
    first
    | exact small_loop d h sh bi _ 0 1 (Nat.lt_succ_self _) (Int.le_refl _) bi.2.1.1 (by omega) (by simp) (by omega)
    | (refine Wp.ild_n (j := 2) rfl dX0_smallStates_15 ?_
       refine Wp.ald_n (j := 0) rfl dX0_smallStates_16 ?_
       refine Wp.getf (k := 1) (tg := 0) kC0 (by decide) rfl lf_X0_15 dX0_smallStates_17 (sK2 (h := h) sh) (show hF _ 2 1 = hF h 2 1 from rfl) ?_
       refine Wp.icge dX0_smallStates_20 (by decide) (tgt := 45) (fun _ => ?_) (fun c => absurd c (by have := bi.2.1; omega))
       refine Wp.ild_n (j := 1) rfl dX0_smallStates_45 ?_
       exact Wp.iret rfl dX0_smallStates_46 ⟨⟨0, rfl, Or.inl rfl⟩, rfl⟩)
  · refine Wp.iconst dX0_smallStates_7 (by decide) ?_
    refine Wp.goto (tgt := 12) dX0_smallStates_8 (by decide) ?_
    refine sti_3_1 rfl (dSt_n dX0_smallStates_12) ?_
    refine Wp.iconst dX0_smallStates_13 (by decide) ?_
    refine sti_3_2 rfl (dSt_n dX0_smallStates_14) ?_
    first
    | exact small_loop d h sh bi _ 0 1 (Nat.lt_succ_self _) (Int.le_refl _) bi.2.1.1 (by omega) (by simp) (by omega)
    | (refine Wp.ild_n (j := 2) rfl dX0_smallStates_15 ?_
       refine Wp.ald_n (j := 0) rfl dX0_smallStates_16 ?_
       refine Wp.getf (k := 1) (tg := 0) kC0 (by decide) rfl lf_X0_15 dX0_smallStates_17 (sK2 (h := h) sh) (show hF _ 2 1 = hF h 2 1 from rfl) ?_
       refine Wp.icge dX0_smallStates_20 (by decide) (tgt := 45) (fun _ => ?_) (fun c => absurd c (by have := bi.2.1; omega))
       refine Wp.ild_n (j := 1) rfl dX0_smallStates_45 ?_
       exact Wp.iret rfl dX0_smallStates_46 ⟨⟨0, rfl, Or.inl rfl⟩, rfl⟩)

theorem setWalker_loop (d : Nat) (h : mH) (sh : Sh h) (bi : BI h) (s : Int) : ∀ (m : Nat) (k rest : Int) (h' : mH), (hF h 2 1 - k).toNat < m → (0 ≤ k) → (0 ≤ rest) → (rest ≤ 20736) → (Fr [11] [] h h') → (∀ j, 0 ≤ j → j < k → 0 ≤ hA h' 11 j ∧ hA h' 11 j < hF h 2 0) → Wp m_X0_setWalker d 4 [(2, 2), (0, s), (0, rest), (0, k)] [] h' (fun r t => r = none ∧ Fr [11] [] h t ∧ ∀ j, 0 ≤ j → j < hF h 2 1 → 0 ≤ hA t 11 j ∧ hA t 11 j < hF h 2 0) := by
  intro m
  induction m with
  | zero => intro k rest h' hm; exact absurd hm (Nat.not_lt_zero _)
  | succ m ih =>
    intro k rest h' hm k0 r0 r1 fr hj
    have sh' := sh.fr fr (by decide +kernel) (by decide)
    have e0 : hF h' 2 0 = hF h 2 0 := fr.2.2.2.2.1 2 0 (by decide)
    have e1 : hF h' 2 1 = hF h 2 1 := fr.2.2.2.2.1 2 1 (by decide)
    obtain ⟨⟨q0, q1⟩, ⟨n0, n1⟩, -⟩ := id bi
    have htd := tdn (a := rest) (b := hF h 2 0) r0 (by omega)
    refine Wp.ild_n (j := 3) rfl dX0_setWalker_4 ?_
    refine Wp.ald_n (j := 0) rfl dX0_setWalker_5 ?_
    refine Wp.getf (k := 1) (tg := 0) kC0 (by decide) rfl lf_X0_15 dX0_setWalker_6 (sK2 (h := h') sh') e1 ?_
    refine Wp.icge dX0_setWalker_9 (by decide) (tgt := 44) (fun c9 => ?_) (fun c9 => ?_)
    · refine Wp.vret rfl dX0_setWalker_44 ?_
      exact ⟨rfl, fr, fun j j0 j1 => hj j j0 (by omega)⟩
    · refine Wp.ald_n (j := 0) rfl dX0_setWalker_12 ?_
      refine Wp.getf (k := 0) (tg := 0) kC0 (by decide) rfl lf_X0_9 dX0_setWalker_13 (sK2 (h := h') sh') e0 ?_
      refine Wp.ifle dX0_setWalker_16 (by decide) (tgt := 44) (fun c16 => absurd c16 (by omega)) (fun _ => ?_)
      refine Wp.ald_n (j := 0) rfl dX0_setWalker_19 ?_
      refine Wp.getf (k := 12) (tg := 2) kC0 (by decide) rfl lf_X0_49 dX0_setWalker_20 (sK2 (h := h') sh') (sF2_12 (h := h') sh') ?_
      refine Wp.ild_n (j := 3) rfl dX0_setWalker_23 ?_
      refine Wp.ild_n (j := 2) rfl dX0_setWalker_24 ?_
      refine Wp.ald_n (j := 0) rfl dX0_setWalker_25 ?_
      refine Wp.getf (k := 0) (tg := 0) kC0 (by decide) rfl lf_X0_9 dX0_setWalker_26 (sK2 (h := h') sh') e0 ?_
      refine Wp.iremE dX0_setWalker_29 (by omega) rfl ?_
      refine Wp.iastore dX0_setWalker_30 (sK11 (h := h') sh') (by omega) (ilt (sL11 (h := h') sh') (by omega)) ?_
      refine Wp.ild_n (j := 2) rfl dX0_setWalker_31 ?_
      refine Wp.ald_n (j := 0) rfl dX0_setWalker_32 ?_
      refine Wp.getf (k := 0) (tg := 0) kC0 (by decide) rfl lf_X0_9 dX0_setWalker_33 (sK2 (h := h') sh') e0 ?_
      refine Wp.idivE dX0_setWalker_36 (by omega) (w32_of (by omega) (by omega)) ?_
      refine sti_4_2 rfl (dSt_n dX0_setWalker_37) ?_
      refine inc_4_3 rfl dX0_setWalker_38 (by first | exact w32_of (by omega) (by omega) | rfl) ?_
      refine Wp.goto (tgt := 4) dX0_setWalker_41 (by decide) ?_
      have ht := tdn (a := rest) (b := hF h 2 0) r0 (by omega)
      refine ih (k + 1) _ _ (by omega) (by omega) (by omega) (by omega) ?_ (fun j j0 j1 => ?_)
      · exact fr.tr (Fr.e (by decide))
      · by_cases hjk : j = k
        · subst hjk
          rw [show ∀ v, hA (sE h' 11 j v) 11 j = v from fun v => u1_s (hA h' 11) j v]
          omega
        · rw [show ∀ v, hA (sE h' 11 k v) 11 j = hA h' 11 j from fun v => u1_n (hA h' 11) v hjk]
          exact hj j j0 (by omega)

theorem cq_setWalker (d : Nat) (h : mH) (sh : Sh h) (bi : BI h) (s : Int) (s0 : 0 ≤ s) (s1 : s ≤ 20736) : Cq m_X0_setWalker d [(2, 2), (0, s)] h (fun r t => r = none ∧ Fr [11] [] h t ∧ ∀ j, 0 ≤ j → j < hF h 2 1 → 0 ≤ hA t 11 j ∧ hA t 11 j < hF h 2 0) := by
  refine Cq.of ?_
  show Wp m_X0_setWalker (d) 0 [(2, 2), (0, s), (9, 0), (9, 0)] [] h _
  refine Wp.ild_n (j := 1) rfl dX0_setWalker_0 ?_
  refine sti_4_2 rfl (dSt_n dX0_setWalker_1) ?_
  refine Wp.iconst dX0_setWalker_2 (by decide) ?_
  refine sti_4_3 rfl (dSt_n dX0_setWalker_3) ?_
  exact setWalker_loop d h sh bi s _ 0 s h (Nat.lt_succ_self _) (Int.le_refl _) s0 s1 Fr.rf (fun j j0 j1 => by omega)

theorem stateAfter_loop (d : Nat) (h : mH) (sh : Sh h) (bi : BI h) (s : Int) (hp : hF h 2 0 ^ (hF h 2 1).toNat ≤ 20736) (h' : mH) (fr : Fr [8, 9, 12, 11] [] h h') (hw : ∀ j, 0 ≤ j → j < hF h 2 1 → 0 ≤ hA h' 11 j ∧ hA h' 11 j < hF h 2 0) : ∀ (m : Nat) (k num : Int), (k + 1).toNat < m → (-1 ≤ k) → (k < hF h 2 1) → (0 ≤ num) → (num < hF h 2 0 ^ (hF h 2 1 - 1 - k).toNat) → Wp m_X0_stateAfter (d + 4) 18 [(2, 2), (0, s), (0, num), (0, k)] [] h' (fun r t => (∃ y, r = some (0, y) ∧ 0 ≤ y ∧ y < hF h 2 0 ^ (hF h 2 1).toNat) ∧ Fr [8, 9, 12, 11] [] h t) := by
  intro m
  induction m with
  | zero => intro k num hm; exact absurd hm (Nat.not_lt_zero _)
  | succ m ih =>
    intro k num hm k0 k1 u0 u1
    have sh' := sh.fr fr (by decide +kernel) (by decide)
    have e0 : hF h' 2 0 = hF h 2 0 := fr.2.2.2.2.1 2 0 (by decide)
    have e1 : hF h' 2 1 = hF h 2 1 := fr.2.2.2.2.1 2 1 (by decide)
    obtain ⟨⟨q0, q1⟩, ⟨n0, n1⟩, -⟩ := id bi
    have hmo := pw_mono q0 (show (hF h 2 1 - 1 - k).toNat ≤ (hF h 2 1).toNat by omega)
    have hm := mul_bd (a := num) (b := hF h 2 0) (A := 20736) (B := 4096) u0 (by omega) (by omega) q1
    refine Wp.ild_n (j := 3) rfl dX0_stateAfter_18 ?_
    refine Wp.iflt dX0_stateAfter_19 (by decide) (tgt := 42) (fun c19 => ?_) (fun c19 => ?_)
    · refine Wp.ild_n (j := 2) rfl dX0_stateAfter_42 ?_
      refine Wp.iret rfl dX0_stateAfter_43 ?_
      have : k = -1 := by omega
      subst this
      rw [show (hF h 2 1 - 1 - -1).toNat = (hF h 2 1).toNat by omega] at u1
      exact ⟨⟨num, rfl, u0, u1⟩, fr⟩
    · have hk := hw k (by omega) k1
      refine Wp.ild_n (j := 2) rfl dX0_stateAfter_22 ?_
      refine Wp.ald_n (j := 0) rfl dX0_stateAfter_23 ?_
      refine Wp.getf (k := 0) (tg := 0) kC0 (by decide) rfl lf_X0_9 dX0_stateAfter_24 (sK2 (h := h') sh') e0 ?_
      refine Wp.imulE dX0_stateAfter_27 (w32_of (by omega) (by omega)) ?_
      refine Wp.ald_n (j := 0) rfl dX0_stateAfter_28 ?_
      refine Wp.getf (k := 12) (tg := 2) kC0 (by decide) rfl lf_X0_49 dX0_stateAfter_29 (sK2 (h := h') sh') (sF2_12 (h := h') sh') ?_
      refine Wp.ild_n (j := 3) rfl dX0_stateAfter_32 ?_
      refine Wp.iaload dX0_stateAfter_33 (sK11 (h := h') sh') (by omega) (ilt (sL11 (h := h') sh') (by omega)) (show hA _ 11 _ = hA h' 11 _ from rfl) ?_
      refine Wp.iaddE dX0_stateAfter_34 (w32_of (by omega) (by omega)) ?_
      refine sti_4_2 rfl (dSt_n dX0_stateAfter_35) ?_
      refine inc_4_3 rfl dX0_stateAfter_36 (by first | exact w32_of (by omega) (by omega) | rfl) ?_
      refine Wp.goto (tgt := 18) dX0_stateAfter_39 (by decide) ?_
      refine ih (k - 1) _ (by omega) (by omega) (by omega) (by omega) ?_
      rw [show (hF h 2 1 - 1 - (k - 1)).toNat = (hF h 2 1 - 1 - k).toNat + 1 by omega, Int.pow_succ]
      have : (num + 1) * hF h 2 0 ≤ hF h 2 0 ^ (hF h 2 1 - 1 - k).toNat * hF h 2 0 := Int.mul_le_mul_of_nonneg_right (by omega) (by omega)
      rw [Int.add_mul, Int.one_mul] at this
      omega

theorem cq_stateAfter (d : Nat) (h : mH) (sh : Sh h) (bi : BI h) (s : Int) (hp : hF h 2 0 ^ (hF h 2 1).toNat ≤ 20736) (s0 : 0 ≤ s) (s1 : s ≤ 20736) : Cq m_X0_stateAfter (d + 4) [(2, 2), (0, s)] h (fun r t => (∃ y, r = some (0, y) ∧ 0 ≤ y ∧ y < hF h 2 0 ^ (hF h 2 1).toNat) ∧ Fr [8, 9, 12, 11] [] h t) := by
  refine Cq.of ?_
  show Wp m_X0_stateAfter ((d + 4)) 0 [(2, 2), (0, s), (9, 0), (9, 0)] [] h _
  obtain ⟨⟨q0, q1⟩, ⟨n0, n1⟩, -⟩ := id bi
  refine Wp.ald_n (j := 0) rfl dX0_stateAfter_0 ?_
  refine Wp.ild_n (j := 1) rfl dX0_stateAfter_1 ?_
  obtain ⟨_, t2, ct2, rfl, fr2, hr2⟩ := cq_setWalker (d + 3) h sh bi s s0 s1
  have sh2 := sh.fr fr2 (by decide +kernel) (by decide)
  have bi2 := bi.fr fr2 (by decide) (by decide) (by decide) (by decide) (by decide)
  have e0 : hF t2 2 0 = hF h 2 0 := fr2.2.2.2.2.1 2 0 (by decide)
  have e1 : hF t2 2 1 = hF h 2 1 := fr2.2.2.2.2.1 2 1 (by decide)
  refine Wp.callV0 (ct2) wc_X0_115 iM_X0_setWalker se_X0_setWalker kC0 (sK2 (h := h) sh) dX0_stateAfter_2 rfl (Nat.le_of_ble_eq_true rfl) rfl (Nat.le_of_ble_eq_true rfl) ?_
  refine Wp.ald_n (j := 0) rfl dX0_stateAfter_5 ?_
  obtain ⟨_, t6, ct6, rfl, fr6, hr6⟩ := cq_walk d t2 sh2 bi2 (by rw [e0, e1]; exact hr2)
  have sh6 := sh2.fr fr6 (by decide +kernel) (by decide)
  have e61 : hF t6 2 1 = hF h 2 1 := (fr6.2.2.2.2.1 2 1 (by decide)).trans e1
  refine Wp.callV0 (ct6) wc_X0_119 iM_X0_walk se_X0_walk kC0 (sK2 (h := t2) sh2) dX0_stateAfter_6 rfl (Nat.le_of_ble_eq_true rfl) rfl (Nat.le_of_ble_eq_true rfl) ?_
  refine Wp.iconst dX0_stateAfter_9 (by decide) ?_
  refine sti_4_2 rfl (dSt_n dX0_stateAfter_10) ?_
  refine Wp.ald_n (j := 0) rfl dX0_stateAfter_11 ?_
  refine Wp.getf (k := 1) (tg := 0) kC0 (by decide) rfl lf_X0_15 dX0_stateAfter_12 (sK2 (h := t6) sh6) e61 ?_
  refine Wp.iconst dX0_stateAfter_15 (by decide) ?_
  refine Wp.isubE dX0_stateAfter_16 (by first | exact w32_of (by omega) (by omega) | rfl) ?_
  refine sti_4_3 rfl (dSt_n dX0_stateAfter_17) ?_
  refine stateAfter_loop d h sh bi s hp t6 ((fr2.mono (by decide) (by decide)).tr fr6) ?_ _ (hF h 2 1 - 1) 0 (Nat.lt_succ_self _) (by omega) (by omega) (Int.le_refl _) ?_
  · rw [e1, e0] at hr6
    exact hr6
  · rw [show (hF h 2 1 - 1 - (hF h 2 1 - 1)).toNat = 0 by omega, Int.pow_zero]
    decide

theorem cq_stateInStep (d : Nat) (h : mH) (sh : Sh h) (bi : BI h) (s x : Int) (s0 : 0 ≤ s) (s1 : s ≤ 20736) : Cq m_X0_stateInStep (d + 2) [(2, 2), (0, s), (0, x)] h (fun r t => (∃ y, r = some (0, y) ∧ (y = 0 ∨ y = 1)) ∧ Fr [11] [] h t) := by
  refine Cq.of ?_
  show Wp m_X0_stateInStep ((d + 2)) 0 [(2, 2), (0, s), (0, x)] [] h _
  refine Wp.ald_n (j := 0) rfl dX0_stateInStep_0 ?_
  refine Wp.ild_n (j := 1) rfl dX0_stateInStep_1 ?_
  obtain ⟨_, t2, ct2, rfl, fr2, hr2⟩ := cq_setWalker (d + 1) h sh bi s s0 s1
  have sh2 := sh.fr fr2 (by decide +kernel) (by decide)
  have e1 : hF t2 2 1 = hF h 2 1 := fr2.2.2.2.2.1 2 1 (by decide)
  refine Wp.callV0 (ct2) wc_X0_115 iM_X0_setWalker se_X0_setWalker kC0 (sK2 (h := h) sh) dX0_stateInStep_2 rfl (Nat.le_of_ble_eq_true rfl) rfl (Nat.le_of_ble_eq_true rfl) ?_
  refine Wp.ald_n (j := 0) rfl dX0_stateInStep_5 ?_
  refine Wp.ald_n (j := 0) rfl dX0_stateInStep_6 ?_
  refine Wp.getf (k := 12) (tg := 2) kC0 (by decide) rfl lf_X0_49 dX0_stateInStep_7 (sK2 (h := t2) sh2) (sF2_12 (h := t2) sh2) ?_
  refine Wp.ild_n (j := 2) rfl dX0_stateInStep_10 ?_
  obtain ⟨_, t11, ct11, ⟨y11, rfl, h11⟩, e11⟩ := cq_inStep d t2 sh2 11 x (sK11 sh2) (sL11 sh2) (by rw [e1]; exact bi.2.1.2)
  rw [e11] at ct11
  refine Wp.callV1 (ct11) wc_X0_122 iM_X0_inStep se_X0_inStep kC0 (sK2 (h := t2) sh2) dX0_stateInStep_11 rfl (Nat.le_of_ble_eq_true rfl) rfl (Nat.le_of_ble_eq_true rfl) ?_
  refine Wp.zret rfl dX0_stateInStep_14 (by omega) ?_
  exact ⟨⟨y11, rfl, h11⟩, fr2⟩

theorem leaders_loop (d : Nat) (h : mH) (sh : Sh h) (hn : hF h 2 1 ≤ 24) : ∀ (m : Nat) (k f : Int) (h' : mH) (x4 : mV), (hF h 2 1 - k).toNat < m → (0 ≤ k) → (0 ≤ f) → (f ≤ k) → (f ≤ 24) → (Fr [10, 31] [] h h') → Wp m_X0_findLeaders (d + 2) 8 [(2, 2), (2, 31), (0, f), (0, k), x4] [] h' (fun r t => (∃ y, r = some (0, y) ∧ 0 ≤ y ∧ y ≤ 24) ∧ Fr [10, 31] [] h t) := by
  intro m
  induction m with
  | zero => intro k f h' x4 hm; exact absurd hm (Nat.not_lt_zero _)
  | succ m ih =>
    intro k f h' x4 hm k0 f0 f1 f2 fr
    have sh' := sh.fr fr (by decide +kernel) (by decide)
    have e1 : hF h' 2 1 = hF h 2 1 := fr.2.2.2.2.1 2 1 (by decide)
    refine Wp.ild_n (j := 3) rfl dX0_findLeaders_8 ?_
    refine Wp.ald_n (j := 0) rfl dX0_findLeaders_9 ?_
    refine Wp.getf (k := 1) (tg := 0) kC0 (by decide) rfl lf_X0_15 dX0_findLeaders_10 (sK2 (h := h') sh') e1 ?_
    refine Wp.icge dX0_findLeaders_13 (by decide) (tgt := 68) (fun c13 => ?_) (fun c13 => ?_)
    · refine Wp.ild_n (j := 2) rfl dX0_findLeaders_68 ?_
      refine Wp.iret rfl dX0_findLeaders_69 ?_
      exact ⟨⟨f, rfl, f0, by omega⟩, fr⟩
    · refine Wp.ild_n (j := 2) rfl dX0_findLeaders_16 ?_
      refine Wp.ald_n (j := 1) rfl dX0_findLeaders_17 ?_
      refine Wp.alen dX0_findLeaders_18 (by decide) (by decide) (sK31 (h := h') sh') (sL31 (h := h') sh') (by omega) ?_
      refine Wp.icge dX0_findLeaders_19 (by decide) (tgt := 68) (fun c19 => ?_) (fun c19 => ?_)
      · refine Wp.ild_n (j := 2) rfl dX0_findLeaders_68 ?_
        refine Wp.iret rfl dX0_findLeaders_69 ?_
        exact ⟨⟨f, rfl, f0, by omega⟩, fr⟩
      · refine Wp.ald_n (j := 0) rfl dX0_findLeaders_22 ?_
        refine Wp.getf (k := 11) (tg := 2) kC0 (by decide) rfl lf_X0_46 dX0_findLeaders_23 (sK2 (h := h') sh') (sF2_11 (h := h') sh') ?_
        refine Wp.ild_n (j := 3) rfl dX0_findLeaders_26 ?_
        refine Wp.iaload dX0_findLeaders_27 (sK10 (h := h') sh') (by omega) (ilt (sL10 (h := h') sh') (by omega)) (show hA _ 10 _ = hA h' 10 _ from rfl) ?_
        obtain ⟨_, t28, ct28, ⟨y28, rfl⟩, e28⟩ := cq_ntz (d + 1) h' (hA h' 10 k)
        rw [e28] at ct28
        refine Wp.callS1 (ct28) wc_X0_68 sM_J6_numberOfTrailingZeros_0f7a4 dX0_findLeaders_28 rfl (Nat.le_of_ble_eq_true rfl) rfl (Nat.le_of_ble_eq_true rfl) ?_
        refine Wp.ild_n (j := 3) rfl dX0_findLeaders_31 ?_
        refine Wp.icne dX0_findLeaders_32 (by decide) (tgt := 39) (fun c32 => ?_) (fun c32 => ?_)
        · refine Wp.iconst dX0_findLeaders_39 (by decide) ?_
          refine sti_5_4 rfl (dSt_w dX0_findLeaders_40) ?_
          refine Wp.ild (j := 4) rfl dX0_findLeaders_42 ?_
          refine Wp.ifeq dX0_findLeaders_44 (by decide) (tgt := 62) (fun _ => ?_) (fun c => absurd c (by decide))
          refine inc_5_3 rfl dX0_findLeaders_62 (by first | exact w32_of (by omega) (by omega) | rfl) ?_
          refine Wp.goto (tgt := 8) dX0_findLeaders_65 (by decide) ?_
          first
          | exact ih (k + 1) f _ _ (by omega) (by omega) (by omega) (by omega) (by omega) fr
          | (refine ih (k + 1) (f + 1) _ _ (by omega) (by omega) (by omega) (by omega) (by omega) ?_
             exact fr.tr (Fr.e (by decide)))
        · refine Wp.iconst dX0_findLeaders_35 (by decide) ?_
          refine Wp.goto (tgt := 40) dX0_findLeaders_36 (by decide) ?_
          refine sti_5_4 rfl (dSt_w dX0_findLeaders_40) ?_
          refine Wp.ild (j := 4) rfl dX0_findLeaders_42 ?_
          refine Wp.ifeq dX0_findLeaders_44 (by decide) (tgt := 62) (fun c => absurd c (by decide)) (fun _ => ?_)
          refine Wp.ald_n (j := 0) rfl dX0_findLeaders_47 ?_
          refine Wp.ild_n (j := 3) rfl dX0_findLeaders_48 ?_
          obtain ⟨_, t49, ct49, ⟨y49, rfl, h49⟩, e49⟩ := cq_leadBack d h' sh' (by omega) k k0 (by omega)
          rw [e49] at ct49
          refine Wp.callV1 (ct49) wc_X0_71 iM_X0_allLeadBack se_X0_allLeadBack kC0 (sK2 (h := h') sh') dX0_findLeaders_49 rfl (Nat.le_of_ble_eq_true rfl) rfl (Nat.le_of_ble_eq_true rfl) ?_
          refine Wp.ifeq dX0_findLeaders_52 (by decide) (tgt := 62) (fun c52 => ?_) (fun c52 => ?_)
          · refine inc_5_3 rfl dX0_findLeaders_62 (by first | exact w32_of (by omega) (by omega) | rfl) ?_
            refine Wp.goto (tgt := 8) dX0_findLeaders_65 (by decide) ?_
            first
            | exact ih (k + 1) f _ _ (by omega) (by omega) (by omega) (by omega) (by omega) fr
            | (refine ih (k + 1) (f + 1) _ _ (by omega) (by omega) (by omega) (by omega) (by omega) ?_
               exact fr.tr (Fr.e (by decide)))
          · refine Wp.ald_n (j := 1) rfl dX0_findLeaders_55 ?_
            refine Wp.ild_n (j := 2) rfl dX0_findLeaders_56 ?_
            refine Wp.ild_n (j := 3) rfl dX0_findLeaders_57 ?_
            refine Wp.iastore dX0_findLeaders_58 (sK31 (h := h') sh') (by omega) (ilt (sL31 (h := h') sh') (by omega)) ?_
            refine inc_5_2 rfl dX0_findLeaders_59 (by first | exact w32_of (by omega) (by omega) | rfl) ?_
            refine inc_5_3 rfl dX0_findLeaders_62 (by first | exact w32_of (by omega) (by omega) | rfl) ?_
            refine Wp.goto (tgt := 8) dX0_findLeaders_65 (by decide) ?_
            first
            | exact ih (k + 1) f _ _ (by omega) (by omega) (by omega) (by omega) (by omega) fr
            | (refine ih (k + 1) (f + 1) _ _ (by omega) (by omega) (by omega) (by omega) (by omega) ?_
               exact fr.tr (Fr.e (by decide)))

theorem cq_findLeaders (d : Nat) (h : mH) (sh : Sh h) (hn : hF h 2 1 ≤ 24) : Cq m_X0_findLeaders (d + 2) [(2, 2), (2, 31)] h (fun r t => (∃ y, r = some (0, y) ∧ 0 ≤ y ∧ y ≤ 24) ∧ Fr [10, 31] [] h t) := by
  refine Cq.of ?_
  show Wp m_X0_findLeaders ((d + 2)) 0 [(2, 2), (2, 31), (9, 0), (9, 0), (9, 0)] [] h _
  refine Wp.ald_n (j := 0) rfl dX0_findLeaders_0 ?_
  obtain ⟨_, t1, ct1, rfl, fr1⟩ := cq_fillReach d h sh hn
  have sh1 := sh.fr fr1 (by decide +kernel) (by decide)
  refine Wp.callV0 (ct1) wc_X0_65 iM_X0_fillReach se_X0_fillReach kC0 (sK2 (h := h) sh) dX0_findLeaders_1 rfl (Nat.le_of_ble_eq_true rfl) rfl (Nat.le_of_ble_eq_true rfl) ?_
  refine Wp.iconst dX0_findLeaders_4 (by decide) ?_
  refine sti_5_2 rfl (dSt_n dX0_findLeaders_5) ?_
  refine Wp.iconst dX0_findLeaders_6 (by decide) ?_
  refine sti_5_3 rfl (dSt_n dX0_findLeaders_7) ?_
  exact leaders_loop d h sh hn _ 0 0 t1 _ (Nat.lt_succ_self _) (Int.le_refl _) (Int.le_refl _) (Int.le_refl _) (by omega) (fr1.mono (by decide) (by decide))

