theorem cT9_eq {c : mCf} {f g : Int → Int} (h : ∀ j, 0 ≤ j → j < c.1.1 → f j = g j) : cT9 c f = cT9 c g := by
  unfold cT9
  rw [cutF_eq h]
/-- the phases of a state, the state of phases -/
def dig9 (r s : Int) : Int → Int := fun j => s / r ^ j.toNat % r
def ec9 (f : Int → Int) (r n : Int) : Nat → Int
  | 0 => 0
  | m + 1 => ec9 f r n m * r + f (n - 1 - m)
def G9 (c : mCf) (s : Int) : Int := ec9 (cT9 c (dig9 c.1.2.1 s)) c.1.2.1 c.1.1 c.1.1.toNat
theorem xsetW_loop (d : Nat) (h : mH) (sh : Sh h) (bi : BI h) (s : Int) : ∀ (m : Nat) (k rest : Int) (h' : mH), (hF h 2 1 - k).toNat < m → (0 ≤ k) → (0 ≤ rest) → (rest ≤ 20736) → (rest = s / hF h 2 0 ^ k.toNat) → (Fr [11] [] h h') → (∀ j, 0 ≤ j → j < k → hA h' 11 j = dig9 (hF h 2 0) s j ∧ 0 ≤ hA h' 11 j ∧ hA h' 11 j < hF h 2 0) → Wp m_X0_setWalker d 4 [(2, 2), (0, s), (0, rest), (0, k)] [] h' (fun r t => r = none ∧ Fr [11] [] h t ∧ ∀ j, 0 ≤ j → j < hF h 2 1 → hA t 11 j = dig9 (hF h 2 0) s j ∧ 0 ≤ hA t 11 j ∧ hA t 11 j < hF h 2 0) := by
  intro m
  induction m with
  | zero => intro k rest h' hm; exact absurd hm (Nat.not_lt_zero _)
  | succ m ih =>
    intro k rest h' hm k0 r0 r1 er fr hj
    have sh' := sh.fr fr (by decide +kernel) (by decide)
    have e0 : hF h' 2 0 = hF h 2 0 := fr.2.2.2.2.1 2 0 (by decide)
    have e1 : hF h' 2 1 = hF h 2 1 := fr.2.2.2.2.1 2 1 (by decide)
    obtain ⟨⟨q0, q1⟩, ⟨n0, n1⟩, -⟩ := id bi
    have htd := tdn (a := rest) (b := hF h 2 0) r0 (by omega)
    refine Wp.ild_n (j := 3) rfl dX0_setWalker_4 ?_
    refine Wp.ald_n (j := 0) rfl dX0_setWalker_5 ?_
    refine Wp.getf (k := 1) (tg := 0) kC0 (by decide) rfl lf_X0_15 dX0_setWalker_6 (sK2 (h := h') sh') e1 ?_
    refine Wp.icge dX0_setWalker_9 (by decide) (tgt := 44) (fun c9 => ?_) (fun c9 => ?_)
    · refine Wp.vret rfl dX0_setWalker_44 ?_
      exact ⟨rfl, fr, fun j j0 j1 => hj j j0 (by omega)⟩
    · refine Wp.ald_n (j := 0) rfl dX0_setWalker_12 ?_
      refine Wp.getf (k := 0) (tg := 0) kC0 (by decide) rfl lf_X0_9 dX0_setWalker_13 (sK2 (h := h') sh') e0 ?_
      refine Wp.ifle dX0_setWalker_16 (by decide) (tgt := 44) (fun c16 => absurd c16 (by omega)) (fun _ => ?_)
      refine Wp.ald_n (j := 0) rfl dX0_setWalker_19 ?_
      refine Wp.getf (k := 12) (tg := 2) kC0 (by decide) rfl lf_X0_49 dX0_setWalker_20 (sK2 (h := h') sh') (sF2_12 (h := h') sh') ?_
      refine Wp.ild_n (j := 3) rfl dX0_setWalker_23 ?_
      refine Wp.ild_n (j := 2) rfl dX0_setWalker_24 ?_
      refine Wp.ald_n (j := 0) rfl dX0_setWalker_25 ?_
      refine Wp.getf (k := 0) (tg := 0) kC0 (by decide) rfl lf_X0_9 dX0_setWalker_26 (sK2 (h := h') sh') e0 ?_
      refine Wp.iremE dX0_setWalker_29 (by omega) rfl ?_
      refine Wp.iastore dX0_setWalker_30 (sK11 (h := h') sh') (by omega) (ilt (sL11 (h := h') sh') (by omega)) ?_
      refine Wp.ild_n (j := 2) rfl dX0_setWalker_31 ?_
      refine Wp.ald_n (j := 0) rfl dX0_setWalker_32 ?_
      refine Wp.getf (k := 0) (tg := 0) kC0 (by decide) rfl lf_X0_9 dX0_setWalker_33 (sK2 (h := h') sh') e0 ?_
      refine Wp.idivE dX0_setWalker_36 (by omega) (w32_of (by omega) (by omega)) ?_
      refine sti_4_2 rfl (dSt_n dX0_setWalker_37) ?_
      refine inc_4_3 rfl dX0_setWalker_38 (by first | exact w32_of (by omega) (by omega) | rfl) ?_
      refine Wp.goto (tgt := 4) dX0_setWalker_41 (by decide) ?_
      have ht := tdn (a := rest) (b := hF h 2 0) r0 (by omega)
      refine ih (k + 1) _ _ (by omega) (by omega) (by omega) (by omega) ?_ ?_ (fun j j0 j1 => ?_)
      · rw [Int.tdiv_eq_ediv_of_nonneg r0, er, Int.ediv_ediv_of_nonneg (Int.le_of_lt (Int.pow_pos (by omega))), ← Int.pow_succ, show (k + 1).toNat = k.toNat + 1 by omega]
      · exact fr.tr (Fr.e (by decide))
      · rw [hA_sEs]
        by_cases hjk : j = k
        · rw [hjk, u1_s]
          refine ⟨?_, by omega, by omega⟩
          rw [Int.tmod_eq_emod_of_nonneg r0, er]
          rfl
        · rw [u1_n _ _ hjk]
          exact hj j j0 (by omega)

theorem cq_setWalkerX (d : Nat) (h : mH) (sh : Sh h) (bi : BI h) (s : Int) (s0 : 0 ≤ s) (s1 : s ≤ 20736) : Cq m_X0_setWalker d [(2, 2), (0, s)] h (fun r t => r = none ∧ Fr [11] [] h t ∧ ∀ j, 0 ≤ j → j < hF h 2 1 → hA t 11 j = dig9 (hF h 2 0) s j ∧ 0 ≤ hA t 11 j ∧ hA t 11 j < hF h 2 0) := by
  refine Cq.of ?_
  show Wp m_X0_setWalker (d) 0 [(2, 2), (0, s), (9, 0), (9, 0)] [] h _
  refine Wp.ild_n (j := 1) rfl dX0_setWalker_0 ?_
  refine sti_4_2 rfl (dSt_n dX0_setWalker_1) ?_
  refine Wp.iconst dX0_setWalker_2 (by decide) ?_
  refine sti_4_3 rfl (dSt_n dX0_setWalker_3) ?_
  exact xsetW_loop d h sh bi s _ 0 s h (Nat.lt_succ_self _) (Int.le_refl _) s0 s1 (by rw [show (0 : Int).toNat = 0 from rfl, Int.pow_zero, Int.ediv_one]) Fr.rf (fun j j0 j1 => by omega)

theorem cq_walkX (d : Nat) (h : mH) (sh : Sh h) (bi : BI h) (hrow : ∀ k, 0 ≤ k → k < hF h 2 1 → 0 ≤ hA h 11 k ∧ hA h 11 k < hF h 2 0) : Cq m_X0_walk (d + 3) [(2, 2)] h (fun r t => r = none ∧ Fr [8, 9, 12, 11] [] h t ∧ ∀ j, 0 ≤ j → j < hF h 2 1 → hA t 11 j = cT9 (ccf h) (hA h 11) j ∧ 0 ≤ hA t 11 j ∧ hA t 11 j < hF h 2 0) := by
  refine Cq.of ?_
  show Wp m_X0_walk ((d + 3)) 0 [(2, 2)] [] h _
  refine Wp.ald_n (j := 0) rfl dX0_walk_0 ?_
  refine Wp.ald_n (j := 0) rfl dX0_walk_1 ?_
  refine Wp.getf (k := 12) (tg := 2) kC0 (by decide) rfl lf_X0_49 dX0_walk_2 (sK2 (h := h) sh) (sF2_12 (h := h) sh) ?_
  refine Wp.ald_n (j := 0) rfl dX0_walk_5 ?_
  refine Wp.getf (k := 13) (tg := 2) kC0 (by decide) rfl lf_X0_52 dX0_walk_6 (sK2 (h := h) sh) (sF2_13 (h := h) sh) ?_
  obtain ⟨v9, t9, ct9, q9⟩ := cq_tickX d h sh bi hrow
  obtain ⟨rfl, -⟩ := id q9
  refine Wp.callV0 (ct9) wc_X0_99 iM_X0_tick se_X0_tick kC0 (sK2 (h := h) sh) dX0_walk_9 rfl (Nat.le_of_ble_eq_true rfl) rfl (Nat.le_of_ble_eq_true rfl) ?_
  refine Wp.vret rfl dX0_walk_12 ?_
  exact q9

theorem xsa_loop (d : Nat) (h : mH) (sh : Sh h) (bi : BI h) (s : Int) (hp : hF h 2 0 ^ (hF h 2 1).toNat ≤ 20736) (f9 : Int → Int) (h' : mH) (fr : Fr [8, 9, 12, 11] [] h h') (hw : ∀ j, 0 ≤ j → j < hF h 2 1 → hA h' 11 j = f9 j ∧ 0 ≤ hA h' 11 j ∧ hA h' 11 j < hF h 2 0) : ∀ (m : Nat) (k num : Int), (k + 1).toNat < m → (-1 ≤ k) → (k < hF h 2 1) → (num = ec9 f9 (hF h 2 0) (hF h 2 1) (hF h 2 1 - 1 - k).toNat) → (0 ≤ num) → (num < hF h 2 0 ^ (hF h 2 1 - 1 - k).toNat) → Wp m_X0_stateAfter (d + 4) 18 [(2, 2), (0, s), (0, num), (0, k)] [] h' (fun r t => (∃ y, r = some (0, y) ∧ y = ec9 f9 (hF h 2 0) (hF h 2 1) (hF h 2 1).toNat ∧ 0 ≤ y ∧ y < hF h 2 0 ^ (hF h 2 1).toNat) ∧ Fr [8, 9, 12, 11] [] h t) := by
  intro m
  induction m with
  | zero => intro k num hm; exact absurd hm (Nat.not_lt_zero _)
  | succ m ih =>
    intro k num hm k0 k1 en u0 u1
    have sh' := sh.fr fr (by decide +kernel) (by decide)
    have e0 : hF h' 2 0 = hF h 2 0 := fr.2.2.2.2.1 2 0 (by decide)
    have e1 : hF h' 2 1 = hF h 2 1 := fr.2.2.2.2.1 2 1 (by decide)
    obtain ⟨⟨q0, q1⟩, ⟨n0, n1⟩, -⟩ := id bi
    have hmo := pw_mono q0 (show (hF h 2 1 - 1 - k).toNat ≤ (hF h 2 1).toNat by omega)
    have hm := mul_bd (a := num) (b := hF h 2 0) (A := 20736) (B := 4096) u0 (by omega) (by omega) q1
    refine Wp.ild_n (j := 3) rfl dX0_stateAfter_18 ?_
    refine Wp.iflt dX0_stateAfter_19 (by decide) (tgt := 42) (fun c19 => ?_) (fun c19 => ?_)
    · refine Wp.ild_n (j := 2) rfl dX0_stateAfter_42 ?_
      refine Wp.iret rfl dX0_stateAfter_43 ?_
      have : k = -1 := by omega
      subst this
      rw [show (hF h 2 1 - 1 - -1).toNat = (hF h 2 1).toNat by omega] at u1 en
      exact ⟨⟨num, rfl, en, u0, u1⟩, fr⟩
    · have hk := hw k (by omega) k1
      refine Wp.ild_n (j := 2) rfl dX0_stateAfter_22 ?_
      refine Wp.ald_n (j := 0) rfl dX0_stateAfter_23 ?_
      refine Wp.getf (k := 0) (tg := 0) kC0 (by decide) rfl lf_X0_9 dX0_stateAfter_24 (sK2 (h := h') sh') e0 ?_
      refine Wp.imulE dX0_stateAfter_27 (w32_of (by omega) (by omega)) ?_
      refine Wp.ald_n (j := 0) rfl dX0_stateAfter_28 ?_
      refine Wp.getf (k := 12) (tg := 2) kC0 (by decide) rfl lf_X0_49 dX0_stateAfter_29 (sK2 (h := h') sh') (sF2_12 (h := h') sh') ?_
      refine Wp.ild_n (j := 3) rfl dX0_stateAfter_32 ?_
      refine Wp.iaload dX0_stateAfter_33 (sK11 (h := h') sh') (by omega) (ilt (sL11 (h := h') sh') (by omega)) (show hA _ 11 _ = hA h' 11 _ from rfl) ?_
      refine Wp.iaddE dX0_stateAfter_34 (w32_of (by omega) (by omega)) ?_
      refine sti_4_2 rfl (dSt_n dX0_stateAfter_35) ?_
      refine inc_4_3 rfl dX0_stateAfter_36 (by first | exact w32_of (by omega) (by omega) | rfl) ?_
      refine Wp.goto (tgt := 18) dX0_stateAfter_39 (by decide) ?_
      refine ih (k - 1) _ (by omega) (by omega) (by omega) ?_ (by omega) ?_
      · rw [show (hF h 2 1 - 1 - (k - 1)).toNat = (hF h 2 1 - 1 - k).toNat + 1 by omega]
        show _ = ec9 f9 (hF h 2 0) (hF h 2 1) (hF h 2 1 - 1 - k).toNat * hF h 2 0 + f9 (hF h 2 1 - 1 - (((hF h 2 1 - 1 - k).toNat : Nat) : Int))
        rw [← en, hk.1, show hF h 2 1 - 1 - (((hF h 2 1 - 1 - k).toNat : Nat) : Int) = k by omega]
      rw [show (hF h 2 1 - 1 - (k - 1)).toNat = (hF h 2 1 - 1 - k).toNat + 1 by omega, Int.pow_succ]
      have : (num + 1) * hF h 2 0 ≤ hF h 2 0 ^ (hF h 2 1 - 1 - k).toNat * hF h 2 0 := Int.mul_le_mul_of_nonneg_right (by omega) (by omega)
      rw [Int.add_mul, Int.one_mul] at this
      omega

theorem cq_stateAfterX (d : Nat) (h : mH) (sh : Sh h) (bi : BI h) (s : Int) (hp : hF h 2 0 ^ (hF h 2 1).toNat ≤ 20736) (s0 : 0 ≤ s) (s1 : s ≤ 20736) : Cq m_X0_stateAfter (d + 4) [(2, 2), (0, s)] h (fun r t => (∃ y, r = some (0, y) ∧ y = G9 (ccf h) s ∧ 0 ≤ y ∧ y < hF h 2 0 ^ (hF h 2 1).toNat) ∧ Fr [8, 9, 12, 11] [] h t) := by
  refine Cq.of ?_
  show Wp m_X0_stateAfter ((d + 4)) 0 [(2, 2), (0, s), (9, 0), (9, 0)] [] h _
  obtain ⟨⟨q0, q1⟩, ⟨n0, n1⟩, -⟩ := id bi
  refine Wp.ald_n (j := 0) rfl dX0_stateAfter_0 ?_
  refine Wp.ild_n (j := 1) rfl dX0_stateAfter_1 ?_
  obtain ⟨_, t2, ct2, rfl, fr2, hr2⟩ := cq_setWalkerX (d + 3) h sh bi s s0 s1
  have sh2 := sh.fr fr2 (by decide +kernel) (by decide)
  have bi2 := bi.fr fr2 (by decide) (by decide) (by decide) (by decide) (by decide)
  have e0 : hF t2 2 0 = hF h 2 0 := fr2.2.2.2.2.1 2 0 (by decide)
  have e1 : hF t2 2 1 = hF h 2 1 := fr2.2.2.2.2.1 2 1 (by decide)
  have ec2 : ccf t2 = ccf h := ccf_fr fr2 (by decide) (by decide) (by decide) (by decide) (by decide) (by decide)
  refine Wp.callV0 (ct2) wc_X0_115 iM_X0_setWalker se_X0_setWalker kC0 (sK2 (h := h) sh) dX0_stateAfter_2 rfl (Nat.le_of_ble_eq_true rfl) rfl (Nat.le_of_ble_eq_true rfl) ?_
  refine Wp.ald_n (j := 0) rfl dX0_stateAfter_5 ?_
  obtain ⟨_, t6, ct6, rfl, fr6, hr6⟩ := cq_walkX d t2 sh2 bi2 (by rw [e0, e1]; exact fun j j0 j1 => (hr2 j j0 j1).2)
  have sh6 := sh2.fr fr6 (by decide +kernel) (by decide)
  have e61 : hF t6 2 1 = hF h 2 1 := (fr6.2.2.2.2.1 2 1 (by decide)).trans e1
  refine Wp.callV0 (ct6) wc_X0_119 iM_X0_walk se_X0_walk kC0 (sK2 (h := t2) sh2) dX0_stateAfter_6 rfl (Nat.le_of_ble_eq_true rfl) rfl (Nat.le_of_ble_eq_true rfl) ?_
  refine Wp.iconst dX0_stateAfter_9 (by decide) ?_
  refine sti_4_2 rfl (dSt_n dX0_stateAfter_10) ?_
  refine Wp.ald_n (j := 0) rfl dX0_stateAfter_11 ?_
  refine Wp.getf (k := 1) (tg := 0) kC0 (by decide) rfl lf_X0_15 dX0_stateAfter_12 (sK2 (h := t6) sh6) e61 ?_
  refine Wp.iconst dX0_stateAfter_15 (by decide) ?_
  refine Wp.isubE dX0_stateAfter_16 (by first | exact w32_of (by omega) (by omega) | rfl) ?_
  refine sti_4_3 rfl (dSt_n dX0_stateAfter_17) ?_
  refine xsa_loop d h sh bi s hp (cT9 (ccf h) (dig9 (hF h 2 0) s)) t6 ((fr2.mono (by decide) (by decide)).tr fr6) ?_ _ (hF h 2 1 - 1) 0 (Nat.lt_succ_self _) (by omega) (by omega) ?_ (Int.le_refl _) ?_
  · rw [e1, e0, ec2, cT9_eq (c := ccf h) (fun j j0 (j1 : j < hF h 2 1) => (hr2 j j0 j1).1)] at hr6
    exact hr6
  · rw [show (hF h 2 1 - 1 - (hF h 2 1 - 1)).toNat = 0 by omega]
    rfl
  · rw [show (hF h 2 1 - 1 - (hF h 2 1 - 1)).toNat = 0 by omega, Int.pow_zero]
    decide

