theorem ct_startWalk (d : Nat) (h : mH) (sh : Sh h) (h0 : 0 ≤ hF h 2 1) (h1 : hF h 2 1 ≤ 24) : Ct m_X0_startWalk (d + 1) [(2, 2)] h none (sA h 11 (cpF (hA h 4) (hA h 11) 0 0 (hF h 2 1))) := by
  refine Ct.of ?_
  show Wp m_X0_startWalk ((d + 1)) 0 [(2, 2)] [] h _
  refine Wp.ald_n (j := 0) rfl dX0_startWalk_0 ?_
  refine Wp.getf (k := 4) (tg := 2) kC0 (by decide) rfl lf_X0_25 dX0_startWalk_1 (sK2 (h := h) sh) (sF2_4 (h := h) sh) ?_
  refine Wp.iconst dX0_startWalk_4 (by decide) ?_
  refine Wp.ald_n (j := 0) rfl dX0_startWalk_5 ?_
  refine Wp.getf (k := 12) (tg := 2) kC0 (by decide) rfl lf_X0_49 dX0_startWalk_6 (sK2 (h := h) sh) (sF2_12 (h := h) sh) ?_
  refine Wp.iconst dX0_startWalk_9 (by decide) ?_
  refine Wp.ald_n (j := 0) rfl dX0_startWalk_10 ?_
  refine Wp.getf (k := 1) (tg := 0) kC0 (by decide) rfl lf_X0_15 dX0_startWalk_11 (sK2 (h := h) sh) (show hF _ 2 1 = hF h 2 1 from rfl) ?_
  refine Wp.acopy (t := 10) (Or.inl rfl) wa_X0_90 wA2 wA3 wA4 dX0_startWalk_14 (sK4 (h := h) sh) (sK11 (h := h) sh) (by omega) (by omega) (by omega) (ile (sL4 (h := h) sh) (by omega)) (ile (sL11 (h := h) sh) (by omega)) (Nat.le_of_ble_eq_true rfl) ?_
  refine Wp.vret rfl dX0_startWalk_17 ?_
  exact ⟨rfl, rfl⟩

theorem cq_walk (d : Nat) (h : mH) (sh : Sh h) (bi : BI h) (hrow : ∀ k, 0 ≤ k → k < hF h 2 1 → 0 ≤ hA h 11 k ∧ hA h 11 k < hF h 2 0) : Cq m_X0_walk (d + 3) [(2, 2)] h (fun r t => r = none ∧ Fr [8, 9, 12, 11] [] h t ∧ ∀ j, 0 ≤ j → j < hF h 2 1 → 0 ≤ hA t 11 j ∧ hA t 11 j < hF h 2 0) := by
  refine Cq.of ?_
  show Wp m_X0_walk ((d + 3)) 0 [(2, 2)] [] h _
  refine Wp.ald_n (j := 0) rfl dX0_walk_0 ?_
  refine Wp.ald_n (j := 0) rfl dX0_walk_1 ?_
  refine Wp.getf (k := 12) (tg := 2) kC0 (by decide) rfl lf_X0_49 dX0_walk_2 (sK2 (h := h) sh) (sF2_12 (h := h) sh) ?_
  refine Wp.ald_n (j := 0) rfl dX0_walk_5 ?_
  refine Wp.getf (k := 13) (tg := 2) kC0 (by decide) rfl lf_X0_52 dX0_walk_6 (sK2 (h := h) sh) (sF2_13 (h := h) sh) ?_
  obtain ⟨v9, t9, ct9, q9⟩ := cq_tick11 d h sh bi hrow
  obtain ⟨rfl, -⟩ := id q9
  refine Wp.callV0 (ct9) wc_X0_99 iM_X0_tick se_X0_tick kC0 (sK2 (h := h) sh) dX0_walk_9 rfl (Nat.le_of_ble_eq_true rfl) rfl (Nat.le_of_ble_eq_true rfl) ?_
  refine Wp.vret rfl dX0_walk_12 ?_
  exact q9

theorem inStep_loop (d : Nat) (h : mH) (sh : Sh h) (a s : Int) (ka : hK h a = 10) (la : hL h a = 24) (hn : hF h 2 1 ≤ 24) : ∀ (m : Nat) (k p : Int), (hF h 2 1 - k).toNat < m → (0 ≤ k) → Wp m_X0_inStep (d + 1) 5 [(2, 2), (2, a), (0, s), (0, p), (0, k)] [] h (fun r t => (∃ y, r = some (0, y) ∧ (y = 0 ∨ y = 1)) ∧ t = h) := by
  intro m
  induction m with
  | zero => intro k p hm; exact absurd hm (Nat.not_lt_zero _)
  | succ m ih =>
    intro k p hm k0
    refine Wp.ild (j := 4) rfl dX0_inStep_5 ?_
    refine Wp.ald_n (j := 0) rfl dX0_inStep_7 ?_
    refine Wp.getf (k := 1) (tg := 0) kC0 (by decide) rfl lf_X0_15 dX0_inStep_8 (sK2 (h := h) sh) (show hF _ 2 1 = hF h 2 1 from rfl) ?_
    refine Wp.icge dX0_inStep_11 (by decide) (tgt := 49) (fun c11 => ?_) (fun c11 => ?_)
    · refine Wp.iconst dX0_inStep_49 (by decide) ?_
      refine Wp.zret rfl dX0_inStep_50 (by omega) ?_
      exact ⟨⟨_, rfl, by omega⟩, rfl⟩
    · refine Wp.ild_n (j := 2) rfl dX0_inStep_14 ?_
      refine Wp.ild (j := 4) rfl dX0_inStep_15 ?_
      refine Wp.callS1 (ct_holds d _ _ _) wc_X0_75 sM_X0_holds dX0_inStep_17 rfl (Nat.le_of_ble_eq_true rfl) rfl (Nat.le_of_ble_eq_true rfl) ?_
      refine Wp.ifeq dX0_inStep_20 (by decide) (tgt := 43) (fun c20 => ?_) (fun c20 => ?_)
      · refine inc_5_4 rfl dX0_inStep_43 (by first | exact w32_of (by omega) (by omega) | rfl) ?_
        refine Wp.goto (tgt := 5) dX0_inStep_46 (by decide) ?_
        exact ih (k + 1) _ (by omega) (by omega)
      · refine Wp.ild_n (j := 3) rfl dX0_inStep_23 ?_
        refine Wp.iconst dX0_inStep_24 (by decide) ?_
        refine Wp.iceq dX0_inStep_25 (by decide) (tgt := 38) (fun c25 => ?_) (fun c25 => ?_)
        · refine Wp.ald_n (j := 1) rfl dX0_inStep_38 ?_
          refine Wp.ild (j := 4) rfl dX0_inStep_39 ?_
          refine Wp.iaload dX0_inStep_41 ka (by omega) (ilt la (by omega)) (show hA _ a _ = hA h a _ from rfl) ?_
          refine sti_5_3 rfl (dSt_n dX0_inStep_42) ?_
          refine inc_5_4 rfl dX0_inStep_43 (by first | exact w32_of (by omega) (by omega) | rfl) ?_
          refine Wp.goto (tgt := 5) dX0_inStep_46 (by decide) ?_
          exact ih (k + 1) _ (by omega) (by omega)
        · refine Wp.ild_n (j := 3) rfl dX0_inStep_28 ?_
          refine Wp.ald_n (j := 1) rfl dX0_inStep_29 ?_
          refine Wp.ild (j := 4) rfl dX0_inStep_30 ?_
          refine Wp.iaload dX0_inStep_32 ka (by omega) (ilt la (by omega)) (show hA _ a _ = hA h a _ from rfl) ?_
          refine Wp.iceq dX0_inStep_33 (by decide) (tgt := 38) (fun c33 => ?_) (fun c33 => ?_)
          · refine Wp.ald_n (j := 1) rfl dX0_inStep_38 ?_
            refine Wp.ild (j := 4) rfl dX0_inStep_39 ?_
            refine Wp.iaload dX0_inStep_41 ka (by omega) (ilt la (by omega)) (show hA _ a _ = hA h a _ from rfl) ?_
            refine sti_5_3 rfl (dSt_n dX0_inStep_42) ?_
            refine inc_5_4 rfl dX0_inStep_43 (by first | exact w32_of (by omega) (by omega) | rfl) ?_
            refine Wp.goto (tgt := 5) dX0_inStep_46 (by decide) ?_
            exact ih (k + 1) _ (by omega) (by omega)
          · refine Wp.iconst dX0_inStep_36 (by decide) ?_
            refine Wp.zret rfl dX0_inStep_37 (by omega) ?_
            exact ⟨⟨_, rfl, by omega⟩, rfl⟩

theorem cq_inStep (d : Nat) (h : mH) (sh : Sh h) (a s : Int) (ka : hK h a = 10) (la : hL h a = 24) (hn : hF h 2 1 ≤ 24) : Cq m_X0_inStep (d + 1) [(2, 2), (2, a), (0, s)] h (fun r t => (∃ y, r = some (0, y) ∧ (y = 0 ∨ y = 1)) ∧ t = h) := by
  refine Cq.of ?_
  show Wp m_X0_inStep ((d + 1)) 0 [(2, 2), (2, a), (0, s), (9, 0), (9, 0)] [] h _
  refine Wp.iconst dX0_inStep_0 (by decide) ?_
  refine sti_5_3 rfl (dSt_n dX0_inStep_1) ?_
  refine Wp.iconst dX0_inStep_2 (by decide) ?_
  refine sti_5_4 rfl (dSt_w dX0_inStep_3) ?_
  exact inStep_loop d h sh a s ka la hn _ 0 _ (Nat.lt_succ_self _) (Int.le_refl _)

theorem pw_pos {r : Int} (hr : 2 ≤ r) : ∀ n : Nat, 1 ≤ r ^ n
  | 0 => by simp
  | n + 1 => by
    rw [Int.pow_succ]
    have := pw_pos hr n
    have h2 : r ^ n * 1 ≤ r ^ n * r := Int.mul_le_mul_of_nonneg_left (by omega) (by omega)
    omega
theorem pw_mono {r : Int} (hr : 2 ≤ r) {a b : Nat} (h : a ≤ b) : r ^ a ≤ r ^ b := by
  obtain ⟨c, rfl⟩ := Nat.exists_eq_add_of_le h
  rw [Int.pow_add]
  have h1 := pw_pos hr c
  have h0 := pw_pos hr a
  have h2 : r ^ a * 1 ≤ r ^ a * r ^ c := Int.mul_le_mul_of_nonneg_left (by omega) (by omega)
  omega
theorem mul_bd {a b A B : Int} (a0 : 0 ≤ a) (a1 : a ≤ A) (b0 : 0 ≤ b) (b1 : b ≤ B) : 0 ≤ a * b ∧ a * b ≤ A * B := by
  refine ⟨Int.mul_nonneg a0 b0, ?_⟩
  have h1 : a * b ≤ A * b := Int.mul_le_mul_of_nonneg_right a1 b0
  have h2 : A * b ≤ A * B := Int.mul_le_mul_of_nonneg_left b1 (by omega)
  omega
theorem small_loop (d : Nat) (h : mH) (sh : Sh h) (bi : BI h) : ∀ (m : Nat) (k s : Int), (hF h 2 1 - k).toNat < m → (0 ≤ k) → (k ≤ hF h 2 1) → (0 < hF h 2 1) → (s = hF h 2 0 ^ k.toNat) → (s ≤ 20736) → Wp m_X0_smallStates d 15 [(2, 2), (0, s), (0, k)] [] h (fun r t => (∃ y, r = some (0, y) ∧ (y = 0 ∨ (0 < hF h 2 1 ∧ y = hF h 2 0 ^ (hF h 2 1).toNat ∧ y ≤ 20736))) ∧ t = h) := by
  intro m
  induction m with
  | zero => intro k s hm; exact absurd hm (Nat.not_lt_zero _)
  | succ m ih =>
    intro k s hm k0 k1 n0 es s1
    obtain ⟨r0, r1⟩ := bi.1
    obtain ⟨-, n1⟩ := bi.2.1
    have hs := pw_pos r0 k.toNat
    rw [← es] at hs
    have hm := mul_bd (a := s) (b := hF h 2 0) (A := 20736) (B := 4096) (by omega) s1 (by omega) r1
    refine Wp.ild_n (j := 2) rfl dX0_smallStates_15 ?_
    refine Wp.ald_n (j := 0) rfl dX0_smallStates_16 ?_
    refine Wp.getf (k := 1) (tg := 0) kC0 (by decide) rfl lf_X0_15 dX0_smallStates_17 (sK2 (h := h) sh) (show hF _ 2 1 = hF h 2 1 from rfl) ?_
    refine Wp.icge dX0_smallStates_20 (by decide) (tgt := 45) (fun c20 => ?_) (fun c20 => ?_)
    · refine Wp.ild_n (j := 1) rfl dX0_smallStates_45 ?_
      refine Wp.iret rfl dX0_smallStates_46 ?_
      have : k = hF h 2 1 := by omega
      rw [this] at es
      exact ⟨⟨s, rfl, Or.inr ⟨n0, es, s1⟩⟩, rfl⟩
    · refine Wp.ild_n (j := 1) rfl dX0_smallStates_23 ?_
      refine Wp.ald_n (j := 0) rfl dX0_smallStates_24 ?_
      refine Wp.getf (k := 0) (tg := 0) kC0 (by decide) rfl lf_X0_9 dX0_smallStates_25 (sK2 (h := h) sh) (show hF _ 2 0 = hF h 2 0 from rfl) ?_
      refine Wp.imulE dX0_smallStates_28 (w32_of (by omega) (by omega)) ?_
      refine sti_3_1 rfl (dSt_n dX0_smallStates_29) ?_
      refine Wp.ild_n (j := 1) rfl dX0_smallStates_30 ?_
      refine Wp.sipush dX0_smallStates_31 (by decide) ?_
      refine Wp.icle dX0_smallStates_34 (by decide) (tgt := 39) (fun c34 => ?_) (fun c34 => ?_)
      · refine inc_3_2 rfl dX0_smallStates_39 (by first | exact w32_of (by omega) (by omega) | rfl) ?_
        refine Wp.goto (tgt := 15) dX0_smallStates_42 (by decide) ?_
        exact ih (k + 1) _ (by omega) (by omega) (by omega) n0 (by rw [show (k + 1).toNat = k.toNat + 1 by omega, Int.pow_succ, ← es]) (by omega)
      · refine Wp.iconst dX0_smallStates_37 (by decide) ?_
        refine Wp.iret rfl dX0_smallStates_38 ?_
        exact ⟨⟨0, rfl, Or.inl rfl⟩, rfl⟩

theorem cq_small (d : Nat) (h : mH) (sh : Sh h) (bi : BI h) : Cq m_X0_smallStates d [(2, 2)] h (fun r t => (∃ y, r = some (0, y) ∧ (y = 0 ∨ (0 < hF h 2 1 ∧ y = hF h 2 0 ^ (hF h 2 1).toNat ∧ y ≤ 20736))) ∧ t = h) := by
  refine Cq.of ?_
  show Wp m_X0_smallStates (d) 0 [(2, 2), (9, 0), (9, 0)] [] h _
  refine Wp.ald_n (j := 0) rfl dX0_smallStates_0 ?_
  refine Wp.getf (k := 1) (tg := 0) kC0 (by decide) rfl lf_X0_15 dX0_smallStates_1 (sK2 (h := h) sh) (show hF _ 2 1 = hF h 2 1 from rfl) ?_
  refine Wp.ifle dX0_smallStates_4 (by decide) (tgt := 11) (fun c4 => ?_) (fun c4 => ?_)
  · refine Wp.iconst dX0_smallStates_11 (by decide) ?_
    refine sti_3_1 rfl (dSt_n dX0_smallStates_12) ?_
    refine Wp.iconst dX0_smallStates_13 (by decide) ?_
    refine sti_3_2 rfl (dSt_n dX0_smallStates_14) ?_
    first
    | exact small_loop d h sh bi _ 0 1 (Nat.lt_succ_self _) (Int.le_refl _) bi.2.1.1 (by omega) (by simp) (by omega)
    | (refine Wp.ild_n (j := 2) rfl dX0_smallStates_15 ?_
       refine Wp.ald_n (j := 0) rfl dX0_smallStates_16 ?_
       refine Wp.getf (k := 1) (tg := 0) kC0 (by decide) rfl lf_X0_15 dX0_smallStates_17 (sK2 (h := h) sh) (show hF _ 2 1 = hF h 2 1 from rfl) ?_
       refine Wp.icge dX0_smallStates_20 (by decide) (tgt := 45) (fun _ => ?_) (fun c => absurd c (by have := bi.2.1; omega))
       refine Wp.ild_n (j := 1) rfl dX0_smallStates_45 ?_
       exact Wp.iret rfl dX0_smallStates_46 ⟨⟨0, rfl, Or.inl rfl⟩, rfl⟩)
  · refine Wp.iconst dX0_smallStates_7 (by decide) ?_
    refine Wp.goto (tgt := 12) dX0_smallStates_8 (by decide) ?_
    refine sti_3_1 rfl (dSt_n dX0_smallStates_12) ?_
    refine Wp.iconst dX0_smallStates_13 (by decide) ?_
    refine sti_3_2 rfl (dSt_n dX0_smallStates_14) ?_
    first
    | exact small_loop d h sh bi _ 0 1 (Nat.lt_succ_self _) (Int.le_refl _) bi.2.1.1 (by omega) (by simp) (by omega)
    | (refine Wp.ild_n (j := 2) rfl dX0_smallStates_15 ?_
       refine Wp.ald_n (j := 0) rfl dX0_smallStates_16 ?_
       refine Wp.getf (k := 1) (tg := 0) kC0 (by decide) rfl lf_X0_15 dX0_smallStates_17 (sK2 (h := h) sh) (show hF _ 2 1 = hF h 2 1 from rfl) ?_
       refine Wp.icge dX0_smallStates_20 (by decide) (tgt := 45) (fun _ => ?_) (fun c => absurd c (by have := bi.2.1; omega))
       refine Wp.ild_n (j := 1) rfl dX0_smallStates_45 ?_
       exact Wp.iret rfl dX0_smallStates_46 ⟨⟨0, rfl, Or.inl rfl⟩, rfl⟩)

theorem setWalker_loop (d : Nat) (h : mH) (sh : Sh h) (bi : BI h) (s : Int) : ∀ (m : Nat) (k rest : Int) (h' : mH), (hF h 2 1 - k).toNat < m → (0 ≤ k) → (0 ≤ rest) → (rest ≤ 20736) → (Fr [11] [] h h') → (∀ j, 0 ≤ j → j < k → 0 ≤ hA h' 11 j ∧ hA h' 11 j < hF h 2 0) → Wp m_X0_setWalker d 4 [(2, 2), (0, s), (0, rest), (0, k)] [] h' (fun r t => r = none ∧ Fr [11] [] h t ∧ ∀ j, 0 ≤ j → j < hF h 2 1 → 0 ≤ hA t 11 j ∧ hA t 11 j < hF h 2 0) := by
  intro m
  induction m with
  | zero => intro k rest h' hm; exact absurd hm (Nat.not_lt_zero _)
  | succ m ih =>
    intro k rest h' hm k0 r0 r1 fr hj
    have sh' := sh.fr fr (by decide +kernel) (by decide)
    have e0 : hF h' 2 0 = hF h 2 0 := fr.2.2.2.2.1 2 0 (by decide)
    have e1 : hF h' 2 1 = hF h 2 1 := fr.2.2.2.2.1 2 1 (by decide)
    obtain ⟨⟨q0, q1⟩, ⟨n0, n1⟩, -⟩ := id bi
    have htd := tdn (a := rest) (b := hF h 2 0) r0 (by omega)
    refine Wp.ild_n (j := 3) rfl dX0_setWalker_4 ?_
    refine Wp.ald_n (j := 0) rfl dX0_setWalker_5 ?_
    refine Wp.getf (k := 1) (tg := 0) kC0 (by decide) rfl lf_X0_15 dX0_setWalker_6 (sK2 (h := h') sh') e1 ?_
    refine Wp.icge dX0_setWalker_9 (by decide) (tgt := 44) (fun c9 => ?_) (fun c9 => ?_)
    · refine Wp.vret rfl dX0_setWalker_44 ?_
      exact ⟨rfl, fr, fun j j0 j1 => hj j j0 (by omega)⟩
    · refine Wp.ald_n (j := 0) rfl dX0_setWalker_12 ?_
      refine Wp.getf (k := 0) (tg := 0) kC0 (by decide) rfl lf_X0_9 dX0_setWalker_13 (sK2 (h := h') sh') e0 ?_
      refine Wp.ifle dX0_setWalker_16 (by decide) (tgt := 44) (fun c16 => absurd c16 (by omega)) (fun _ => ?_)
      refine Wp.ald_n (j := 0) rfl dX0_setWalker_19 ?_
      refine Wp.getf (k := 12) (tg := 2) kC0 (by decide) rfl lf_X0_49 dX0_setWalker_20 (sK2 (h := h') sh') (sF2_12 (h := h') sh') ?_
      refine Wp.ild_n (j := 3) rfl dX0_setWalker_23 ?_
      refine Wp.ild_n (j := 2) rfl dX0_setWalker_24 ?_
      refine Wp.ald_n (j := 0) rfl dX0_setWalker_25 ?_
      refine Wp.getf (k := 0) (tg := 0) kC0 (by decide) rfl lf_X0_9 dX0_setWalker_26 (sK2 (h := h') sh') e0 ?_
      refine Wp.iremE dX0_setWalker_29 (by omega) rfl ?_
      refine Wp.iastore dX0_setWalker_30 (sK11 (h := h') sh') (by omega) (ilt (sL11 (h := h') sh') (by omega)) ?_
      refine Wp.ild_n (j := 2) rfl dX0_setWalker_31 ?_
      refine Wp.ald_n (j := 0) rfl dX0_setWalker_32 ?_
      refine Wp.getf (k := 0) (tg := 0) kC0 (by decide) rfl lf_X0_9 dX0_setWalker_33 (sK2 (h := h') sh') e0 ?_
      refine Wp.idivE dX0_setWalker_36 (by omega) (w32_of (by omega) (by omega)) ?_
      refine sti_4_2 rfl (dSt_n dX0_setWalker_37) ?_
      refine inc_4_3 rfl dX0_setWalker_38 (by first | exact w32_of (by omega) (by omega) | rfl) ?_
      refine Wp.goto (tgt := 4) dX0_setWalker_41 (by decide) ?_
      have ht := tdn (a := rest) (b := hF h 2 0) r0 (by omega)
      refine ih (k + 1) _ _ (by omega) (by omega) (by omega) (by omega) ?_ (fun j j0 j1 => ?_)
      · exact fr.tr (Fr.e (by decide))
      · by_cases hjk : j = k
        · subst hjk
          rw [show ∀ v, hA (sE h' 11 j v) 11 j = v from fun v => u1_s (hA h' 11) j v]
          omega
        · rw [show ∀ v, hA (sE h' 11 k v) 11 j = hA h' 11 j from fun v => u1_n (hA h' 11) v hjk]
          exact hj j j0 (by omega)

theorem cq_setWalker (d : Nat) (h : mH) (sh : Sh h) (bi : BI h) (s : Int) (s0 : 0 ≤ s) (s1 : s ≤ 20736) : Cq m_X0_setWalker d [(2, 2), (0, s)] h (fun r t => r = none ∧ Fr [11] [] h t ∧ ∀ j, 0 ≤ j → j < hF h 2 1 → 0 ≤ hA t 11 j ∧ hA t 11 j < hF h 2 0) := by
  refine Cq.of ?_
  show Wp m_X0_setWalker (d) 0 [(2, 2), (0, s), (9, 0), (9, 0)] [] h _
  refine Wp.ild_n (j := 1) rfl dX0_setWalker_0 ?_
  refine sti_4_2 rfl (dSt_n dX0_setWalker_1) ?_
  refine Wp.iconst dX0_setWalker_2 (by decide) ?_
  refine sti_4_3 rfl (dSt_n dX0_setWalker_3) ?_
  exact setWalker_loop d h sh bi s _ 0 s h (Nat.lt_succ_self _) (Int.le_refl _) s0 s1 Fr.rf (fun j j0 j1 => by omega)

theorem cq_stateInStep (d : Nat) (h : mH) (sh : Sh h) (bi : BI h) (s x : Int) (s0 : 0 ≤ s) (s1 : s ≤ 20736) : Cq m_X0_stateInStep (d + 2) [(2, 2), (0, s), (0, x)] h (fun r t => (∃ y, r = some (0, y) ∧ (y = 0 ∨ y = 1)) ∧ Fr [11] [] h t) := by
  refine Cq.of ?_
  show Wp m_X0_stateInStep ((d + 2)) 0 [(2, 2), (0, s), (0, x)] [] h _
  refine Wp.ald_n (j := 0) rfl dX0_stateInStep_0 ?_
  refine Wp.ild_n (j := 1) rfl dX0_stateInStep_1 ?_
  obtain ⟨_, t2, ct2, rfl, fr2, hr2⟩ := cq_setWalker (d + 1) h sh bi s s0 s1
  have sh2 := sh.fr fr2 (by decide +kernel) (by decide)
  have e1 : hF t2 2 1 = hF h 2 1 := fr2.2.2.2.2.1 2 1 (by decide)
  refine Wp.callV0 (ct2) wc_X0_115 iM_X0_setWalker se_X0_setWalker kC0 (sK2 (h := h) sh) dX0_stateInStep_2 rfl (Nat.le_of_ble_eq_true rfl) rfl (Nat.le_of_ble_eq_true rfl) ?_
  refine Wp.ald_n (j := 0) rfl dX0_stateInStep_5 ?_
  refine Wp.ald_n (j := 0) rfl dX0_stateInStep_6 ?_
  refine Wp.getf (k := 12) (tg := 2) kC0 (by decide) rfl lf_X0_49 dX0_stateInStep_7 (sK2 (h := t2) sh2) (sF2_12 (h := t2) sh2) ?_
  refine Wp.ild_n (j := 2) rfl dX0_stateInStep_10 ?_
  obtain ⟨_, t11, ct11, ⟨y11, rfl, h11⟩, e11⟩ := cq_inStep d t2 sh2 11 x (sK11 sh2) (sL11 sh2) (by rw [e1]; exact bi.2.1.2)
  rw [e11] at ct11
  refine Wp.callV1 (ct11) wc_X0_122 iM_X0_inStep se_X0_inStep kC0 (sK2 (h := t2) sh2) dX0_stateInStep_11 rfl (Nat.le_of_ble_eq_true rfl) rfl (Nat.le_of_ble_eq_true rfl) ?_
  refine Wp.zret rfl dX0_stateInStep_14 (by omega) ?_
  exact ⟨⟨y11, rfl, h11⟩, fr2⟩

