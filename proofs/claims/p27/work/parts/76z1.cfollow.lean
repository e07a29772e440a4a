theorem smallX_loop (d : Nat) (h : mH) (sh : Sh h) (bi : BI h) : ∀ (m : Nat) (k s : Int), (hF h 2 1 - k).toNat < m → (0 ≤ k) → (k ≤ hF h 2 1) → (0 < hF h 2 1) → (s = hF h 2 0 ^ k.toNat) → (s ≤ 20736) → Wp m_X0_smallStates d 15 [(2, 2), (0, s), (0, k)] [] h (fun r t => (∃ y, r = some (0, y) ∧ ((y = 0 ∧ (hF h 2 1 = 0 ∨ 20736 < hF h 2 0 ^ (hF h 2 1).toNat)) ∨ (0 < hF h 2 1 ∧ y = hF h 2 0 ^ (hF h 2 1).toNat ∧ y ≤ 20736))) ∧ t = h) := by
  intro m
  induction m with
  | zero => intro k s hm; exact absurd hm (Nat.not_lt_zero _)
  | succ m ih =>
    intro k s hm k0 k1 n0 es s1
    obtain ⟨r0, r1⟩ := bi.1
    obtain ⟨-, n1⟩ := bi.2.1
    have hs := pw_pos r0 k.toNat
    rw [← es] at hs
    have hm := mul_bd (a := s) (b := hF h 2 0) (A := 20736) (B := 4096) (by omega) s1 (by omega) r1
    refine Wp.ild_n (j := 2) rfl dX0_smallStates_15 ?_
    refine Wp.ald_n (j := 0) rfl dX0_smallStates_16 ?_
    refine Wp.getf (k := 1) (tg := 0) kC0 (by decide) rfl lf_X0_15 dX0_smallStates_17 (sK2 (h := h) sh) (show hF _ 2 1 = hF h 2 1 from rfl) ?_
    refine Wp.icge dX0_smallStates_20 (by decide) (tgt := 45) (fun c20 => ?_) (fun c20 => ?_)
    · refine Wp.ild_n (j := 1) rfl dX0_smallStates_45 ?_
      refine Wp.iret rfl dX0_smallStates_46 ?_
      have : k = hF h 2 1 := by omega
      rw [this] at es
      exact ⟨⟨s, rfl, Or.inr ⟨n0, es, s1⟩⟩, rfl⟩
    · refine Wp.ild_n (j := 1) rfl dX0_smallStates_23 ?_
      refine Wp.ald_n (j := 0) rfl dX0_smallStates_24 ?_
      refine Wp.getf (k := 0) (tg := 0) kC0 (by decide) rfl lf_X0_9 dX0_smallStates_25 (sK2 (h := h) sh) (show hF _ 2 0 = hF h 2 0 from rfl) ?_
      refine Wp.imulE dX0_smallStates_28 (w32_of (by omega) (by omega)) ?_
      refine sti_3_1 rfl (dSt_n dX0_smallStates_29) ?_
      refine Wp.ild_n (j := 1) rfl dX0_smallStates_30 ?_
      refine Wp.sipush dX0_smallStates_31 (by decide) ?_
      refine Wp.icle dX0_smallStates_34 (by decide) (tgt := 39) (fun c34 => ?_) (fun c34 => ?_)
      · refine inc_3_2 rfl dX0_smallStates_39 (by first | exact w32_of (by omega) (by omega) | rfl) ?_
        refine Wp.goto (tgt := 15) dX0_smallStates_42 (by decide) ?_
        exact ih (k + 1) _ (by omega) (by omega) (by omega) n0 (by rw [show (k + 1).toNat = k.toNat + 1 by omega, Int.pow_succ, ← es]) (by omega)
      · refine Wp.iconst dX0_smallStates_37 (by decide) ?_
        refine Wp.iret rfl dX0_smallStates_38 ?_
        have h9 := pw_mono r0 (show k.toNat + 1 ≤ (hF h 2 1).toNat by omega)
        rw [Int.pow_succ, ← es] at h9
        exact ⟨⟨0, rfl, Or.inl ⟨rfl, Or.inr (by omega)⟩⟩, rfl⟩

theorem cq_smallX (d : Nat) (h : mH) (sh : Sh h) (bi : BI h) : Cq m_X0_smallStates d [(2, 2)] h (fun r t => (∃ y, r = some (0, y) ∧ ((y = 0 ∧ (hF h 2 1 = 0 ∨ 20736 < hF h 2 0 ^ (hF h 2 1).toNat)) ∨ (0 < hF h 2 1 ∧ y = hF h 2 0 ^ (hF h 2 1).toNat ∧ y ≤ 20736))) ∧ t = h) := by
  refine Cq.of ?_
  show Wp m_X0_smallStates (d) 0 [(2, 2), (9, 0), (9, 0)] [] h _
  refine Wp.ald_n (j := 0) rfl dX0_smallStates_0 ?_
  refine Wp.getf (k := 1) (tg := 0) kC0 (by decide) rfl lf_X0_15 dX0_smallStates_1 (sK2 (h := h) sh) (show hF _ 2 1 = hF h 2 1 from rfl) ?_
  refine Wp.ifle dX0_smallStates_4 (by decide) (tgt := 11) (fun c4 => ?_) (fun c4 => ?_)
  · refine Wp.iconst dX0_smallStates_11 (by decide) ?_
    refine sti_3_1 rfl (dSt_n dX0_smallStates_12) ?_
    refine Wp.iconst dX0_smallStates_13 (by decide) ?_
    refine sti_3_2 rfl (dSt_n dX0_smallStates_14) ?_
    first
    | exact smallX_loop d h sh bi _ 0 1 (Nat.lt_succ_self _) (Int.le_refl _) bi.2.1.1 (by omega) (by simp) (by omega)
    | (refine Wp.ild_n (j := 2) rfl dX0_smallStates_15 ?_
       refine Wp.ald_n (j := 0) rfl dX0_smallStates_16 ?_
       refine Wp.getf (k := 1) (tg := 0) kC0 (by decide) rfl lf_X0_15 dX0_smallStates_17 (sK2 (h := h) sh) (show hF _ 2 1 = hF h 2 1 from rfl) ?_
       refine Wp.icge dX0_smallStates_20 (by decide) (tgt := 45) (fun _ => ?_) (fun c => absurd c (by have := bi.2.1; omega))
       refine Wp.ild_n (j := 1) rfl dX0_smallStates_45 ?_
       exact Wp.iret rfl dX0_smallStates_46 ⟨⟨0, rfl, Or.inl ⟨rfl, Or.inl (by have := bi.2.1.1; omega)⟩⟩, rfl⟩)
  · refine Wp.iconst dX0_smallStates_7 (by decide) ?_
    refine Wp.goto (tgt := 12) dX0_smallStates_8 (by decide) ?_
    refine sti_3_1 rfl (dSt_n dX0_smallStates_12) ?_
    refine Wp.iconst dX0_smallStates_13 (by decide) ?_
    refine sti_3_2 rfl (dSt_n dX0_smallStates_14) ?_
    first
    | exact smallX_loop d h sh bi _ 0 1 (Nat.lt_succ_self _) (Int.le_refl _) bi.2.1.1 (by omega) (by simp) (by omega)
    | (refine Wp.ild_n (j := 2) rfl dX0_smallStates_15 ?_
       refine Wp.ald_n (j := 0) rfl dX0_smallStates_16 ?_
       refine Wp.getf (k := 1) (tg := 0) kC0 (by decide) rfl lf_X0_15 dX0_smallStates_17 (sK2 (h := h) sh) (show hF _ 2 1 = hF h 2 1 from rfl) ?_
       refine Wp.icge dX0_smallStates_20 (by decide) (tgt := 45) (fun _ => ?_) (fun c => absurd c (by have := bi.2.1; omega))
       refine Wp.ild_n (j := 1) rfl dX0_smallStates_45 ?_
       exact Wp.iret rfl dX0_smallStates_46 ⟨⟨0, rfl, Or.inl ⟨rfl, Or.inl (by have := bi.2.1.1; omega)⟩⟩, rfl⟩)

theorem cq_stateInStepX (d : Nat) (h : mH) (sh : Sh h) (bi : BI h) (s x : Int) (s0 : 0 ≤ s) (s1 : s ≤ 20736) : Cq m_X0_stateInStep (d + 2) [(2, 2), (0, s), (0, x)] h (fun r t => (∃ y, r = some (0, y) ∧ (y = 0 ∨ y = 1) ∧ (y = 1 ↔ sp9 (dig9 (hF h 2 0) s) (hF h 2 1) x)) ∧ Fr [11] [] h t) := by
  refine Cq.of ?_
  show Wp m_X0_stateInStep ((d + 2)) 0 [(2, 2), (0, s), (0, x)] [] h _
  refine Wp.ald_n (j := 0) rfl dX0_stateInStep_0 ?_
  refine Wp.ild_n (j := 1) rfl dX0_stateInStep_1 ?_
  obtain ⟨_, t2, ct2, rfl, fr2, hr2⟩ := cq_setWalkerX (d + 1) h sh bi s s0 s1
  have sh2 := sh.fr fr2 (by decide +kernel) (by decide)
  have e1 : hF t2 2 1 = hF h 2 1 := fr2.2.2.2.2.1 2 1 (by decide)
  refine Wp.callV0 (ct2) wc_X0_115 iM_X0_setWalker se_X0_setWalker kC0 (sK2 (h := h) sh) dX0_stateInStep_2 rfl (Nat.le_of_ble_eq_true rfl) rfl (Nat.le_of_ble_eq_true rfl) ?_
  refine Wp.ald_n (j := 0) rfl dX0_stateInStep_5 ?_
  refine Wp.ald_n (j := 0) rfl dX0_stateInStep_6 ?_
  refine Wp.getf (k := 12) (tg := 2) kC0 (by decide) rfl lf_X0_49 dX0_stateInStep_7 (sK2 (h := t2) sh2) (sF2_12 (h := t2) sh2) ?_
  refine Wp.ild_n (j := 2) rfl dX0_stateInStep_10 ?_
  obtain ⟨_, t11, ct11, ⟨y11, rfl, h11, hs11⟩, e11⟩ := cq_inStepX d t2 sh2 11 x (sK11 sh2) (sL11 sh2) (by rw [e1]; exact bi.2.1.2) (fun j j0 j1 => (hr2 j j0 (by rw [e1] at j1; exact j1)).2.1)
  rw [e11] at ct11
  rw [e1, sp9_eq (fun j j0 j1 => (hr2 j j0 j1).1)] at hs11
  refine Wp.callV1 (ct11) wc_X0_122 iM_X0_inStep se_X0_inStep kC0 (sK2 (h := t2) sh2) dX0_stateInStep_11 rfl (Nat.le_of_ble_eq_true rfl) rfl (Nat.le_of_ble_eq_true rfl) ?_
  refine Wp.zret rfl dX0_stateInStep_14 (by omega) ?_
  exact ⟨⟨y11, rfl, h11, hs11⟩, fr2⟩

theorem lengthX_loop (d : Nat) (h : mH) (sh : Sh h) (af ho bs rw na nr : Int) (en : EN h af ho bs rw na nr) (S : Int) (S0 : 0 < S) (S1 : S ≤ 20736) (Sn : S ≤ na) (rg : RG S (hA h af)) (u : Int) (u0 : 0 ≤ u) (u1 : u < S) (per : ∃ c : Nat, 1 ≤ c ∧ itn (hA h af) c u = u) : ∀ (m : Nat) (l : Int) (v : Nat), (S - l).toNat < m → (l = (v : Int)) → (1 ≤ v) → (∀ i : Nat, 1 ≤ i → i < v → itn (hA h af) i u ≠ u) → Wp m_X1_lengthOfRound d 10 [(2, 17), (0, u), (0, S), (0, l), (0, (itn (hA h af) v u))] [] h (fun r t => (∃ y, r = some (0, y) ∧ LN9 (hA h af) u y) ∧ t = h) := by
  intro m
  induction m with
  | zero => intro l v hm; exact absurd hm (Nat.not_lt_zero _)
  | succ m ih =>
    intro l v hm el v1 nr9
    obtain ⟨⟨t0, k0, l0⟩, ⟨t1, k1, l1⟩, ⟨t2, k2, l2⟩, ⟨t3, k3, l3⟩, ⟨hn1, hn2, hn3, hn4, hn5, hn6⟩, ⟨y0, y1, y2, y3⟩, ⟨z0, z1, z2, z3⟩, ⟨b0, b1⟩, c0, c1⟩ := id en
    have h74 := sh.2.2.2.2
    have hk := itn_in rg u0 u1 v
    refine Wp.ild (j := 4) rfl dX1_lengthOfRound_10 ?_
    refine Wp.ild_n (j := 1) rfl dX1_lengthOfRound_12 ?_
    refine Wp.iceq dX1_lengthOfRound_13 (by decide) (tgt := 36) (fun c13 => ?_) (fun c13 => ?_)
    · refine Wp.ild_n (j := 3) rfl dX1_lengthOfRound_36 ?_
      refine Wp.iret rfl dX1_lengthOfRound_37 ?_
      exact ⟨⟨_, rfl, v, el, v1, c13, nr9⟩, rfl⟩
    · refine Wp.ild_n (j := 3) rfl dX1_lengthOfRound_16 ?_
      refine Wp.ild_n (j := 2) rfl dX1_lengthOfRound_17 ?_
      refine Wp.icge dX1_lengthOfRound_18 (by decide) (tgt := 36) (fun c18 => ?_) (fun c18 => ?_)
      · refine Wp.ild_n (j := 3) rfl dX1_lengthOfRound_36 ?_
        refine Wp.iret rfl dX1_lengthOfRound_37 ?_
        have nr' : ∀ i : Nat, 1 ≤ i → i ≤ v → itn (hA h af) i u ≠ u := fun i i0 i1 => by
          by_cases z : i < v
          · exact nr9 i i0 z
          · rw [show i = v by omega]
            exact c13
        have hft := itn_fit rg u0 u1 (per_pt per nr')
        omega
      · refine inc_5_3 rfl dX1_lengthOfRound_21 (by first | exact w32_of (by omega) (by omega) | rfl) ?_
        refine Wp.ald_n (j := 0) rfl dX1_lengthOfRound_24 ?_
        refine Wp.getf (k := 0) (tg := 2) kC1 (by decide) rfl lf_X1_9 dX1_lengthOfRound_25 (sK17 (h := h) sh) t0 ?_
        refine Wp.ild (j := 4) rfl dX1_lengthOfRound_28 ?_
        refine Wp.iaload dX1_lengthOfRound_30 k0 (by omega) (ilt l0 (by omega)) (show hA _ af _ = hA h af _ from rfl) ?_
        refine sti_5_4 rfl (dSt_w dX1_lengthOfRound_31) ?_
        refine Wp.goto (tgt := 10) dX1_lengthOfRound_33 (by decide) ?_
        have nr' : ∀ i : Nat, 1 ≤ i → i ≤ v → itn (hA h af) i u ≠ u := fun i i0 i1 => by
          by_cases z : i < v
          · exact nr9 i i0 z
          · rw [show i = v by omega]
            exact c13
        have hft := itn_fit rg u0 u1 (per_pt per nr')
        exact ih (l + 1) (v + 1) (by omega) (by omega) (by omega) (fun i i0 i1 => nr' i i0 (by omega))

theorem cq_lengthX (d : Nat) (h : mH) (sh : Sh h) (af ho bs rw na nr : Int) (en : EN h af ho bs rw na nr) (S : Int) (S0 : 0 < S) (S1 : S ≤ 20736) (Sn : S ≤ na) (rg : RG S (hA h af)) (u : Int) (u0 : 0 ≤ u) (u1 : u < S) (per : ∃ c : Nat, 1 ≤ c ∧ itn (hA h af) c u = u) : Cq m_X1_lengthOfRound d [(2, 17), (0, u), (0, S)] h (fun r t => (∃ y, r = some (0, y) ∧ LN9 (hA h af) u y) ∧ t = h) := by
  refine Cq.of ?_
  show Wp m_X1_lengthOfRound (d) 0 [(2, 17), (0, u), (0, S), (9, 0), (9, 0)] [] h _
  obtain ⟨⟨t0, k0, l0⟩, ⟨t1, k1, l1⟩, ⟨t2, k2, l2⟩, ⟨t3, k3, l3⟩, ⟨hn1, hn2, hn3, hn4, hn5, hn6⟩, ⟨y0, y1, y2, y3⟩, ⟨z0, z1, z2, z3⟩, ⟨b0, b1⟩, c0, c1⟩ := id en
  have h74 := sh.2.2.2.2
  refine Wp.iconst dX1_lengthOfRound_0 (by decide) ?_
  refine sti_5_3 rfl (dSt_n dX1_lengthOfRound_1) ?_
  refine Wp.ald_n (j := 0) rfl dX1_lengthOfRound_2 ?_
  refine Wp.getf (k := 0) (tg := 2) kC1 (by decide) rfl lf_X1_9 dX1_lengthOfRound_3 (sK17 (h := h) sh) t0 ?_
  refine Wp.ild_n (j := 1) rfl dX1_lengthOfRound_6 ?_
  refine Wp.iaload dX1_lengthOfRound_7 k0 (by omega) (ilt l0 (by omega)) (show hA _ af _ = hA h af _ from rfl) ?_
  refine sti_5_4 rfl (dSt_w dX1_lengthOfRound_8) ?_
  exact lengthX_loop d h sh af ho bs rw na nr en S S0 S1 Sn rg u u0 u1 per _ 1 1 (Nat.lt_succ_self _) rfl (Nat.le_refl _) (fun i i0 i1 => absurd i1 (by omega))

theorem cq_tellX (d : Nat) (h : mH) (sh : Sh h) (af ho bs rw na nr : Int) (en : EN h af ho bs rw na nr) (k v : Int) (k0 : 0 ≤ k) (k1 : k ≤ 20736) (v0 : 0 ≤ v) (v1 : v ≤ 10) (kn : 3 * k + v < nr) : Cq m_X1_tell d [(2, 17), (0, k), (0, v)] h (fun r t => (∃ y, r = some (0, y) ∧ y = hA h rw (3 * k + v)) ∧ t = h) := by
  refine Cq.of ?_
  show Wp m_X1_tell (d) 0 [(2, 17), (0, k), (0, v), (9, 0)] [] h _
  obtain ⟨⟨t0, kk0, l0⟩, ⟨t1, kk1, l1⟩, ⟨t2, k2, l2⟩, ⟨t3, k3, l3⟩, ⟨hn1, hn2, hn3, hn4, hn5, hn6⟩, ⟨y0, y1, y2, y3⟩, ⟨z0, z1, z2, z3⟩, ⟨b0, b1⟩, c0, c1⟩ := id en
  have h74 := sh.2.2.2.2
  refine Wp.ild_n (j := 1) rfl dX1_tell_0 ?_
  refine Wp.iconst dX1_tell_1 (by decide) ?_
  refine Wp.imulE dX1_tell_2 (by first | exact w32_of (by omega) (by omega) | rfl) ?_
  refine Wp.ild_n (j := 2) rfl dX1_tell_3 ?_
  refine Wp.iaddE dX1_tell_4 (by first | exact w32_of (by omega) (by omega) | rfl) ?_
  refine sti_4_3 rfl (dSt_n dX1_tell_5) ?_
  refine Wp.ild_n (j := 3) rfl dX1_tell_6 ?_
  refine Wp.iflt dX1_tell_7 (by decide) (tgt := 28) (fun c7 => ?_) (fun c7 => ?_)
  · refine Wp.iconst dX1_tell_28 (by decide) ?_
    refine Wp.iret rfl dX1_tell_29 ?_
    first
    | (exfalso; omega)
    | exact ⟨⟨_, rfl, by rw [Int.mul_comm 3 k]⟩, rfl⟩
  · refine Wp.ild_n (j := 3) rfl dX1_tell_10 ?_
    refine Wp.ald_n (j := 0) rfl dX1_tell_11 ?_
    refine Wp.getf (k := 3) (tg := 2) kC1 (by decide) rfl lf_X1_21 dX1_tell_12 (sK17 (h := h) sh) t3 ?_
    refine Wp.alen dX1_tell_15 (by decide) (by decide) k3 l3 (by omega) ?_
    refine Wp.icge dX1_tell_16 (by decide) (tgt := 28) (fun c16 => ?_) (fun c16 => ?_)
    · refine Wp.iconst dX1_tell_28 (by decide) ?_
      refine Wp.iret rfl dX1_tell_29 ?_
      first
      | (exfalso; omega)
      | exact ⟨⟨_, rfl, by rw [Int.mul_comm 3 k]⟩, rfl⟩
    · refine Wp.ald_n (j := 0) rfl dX1_tell_19 ?_
      refine Wp.getf (k := 3) (tg := 2) kC1 (by decide) rfl lf_X1_21 dX1_tell_20 (sK17 (h := h) sh) t3 ?_
      refine Wp.ild_n (j := 3) rfl dX1_tell_23 ?_
      refine Wp.iaload dX1_tell_24 k3 (by omega) (ilt l3 (by omega)) (show hA _ rw _ = hA h rw _ from rfl) ?_
      refine Wp.goto (tgt := 29) dX1_tell_25 (by decide) ?_
      refine Wp.iret rfl dX1_tell_29 ?_
      first
      | (exfalso; omega)
      | exact ⟨⟨_, rfl, by rw [Int.mul_comm 3 k]⟩, rfl⟩

theorem fol_tailX (d : Nat) (h : mH) (sh : Sh h) (af ho bs rw na nr : Int) (en : EN h af ho bs rw na nr) (S : Int) (S0 : 0 < S) (S1 : S ≤ 20736) (Sn : S ≤ na) (j : Int) (j0 : 0 ≤ j) (j1 : j < S) (u4 : mV) (Q : Option mV → mH → Prop) (kq : ∀ (h2 : mH) (v4 : mV), Fr [bs] [] h h2 → (0 ≤ hA h ho j → hA h ho j < S → hA h2 bs = u1 (hA h bs) (hA h ho j) (w32 (hA h bs (hA h ho j) + 1))) → Wp m_X1_follow (d + 5) 47 [(2, 17), (2, 2), (0, S), (0, j + 1), v4] [] h2 Q) : Wp m_X1_follow (d + 5) 68 [(2, 17), (2, 2), (0, S), (0, j), u4] [] h Q := by
  obtain ⟨⟨t0, k0, l0⟩, ⟨t1, k1, l1⟩, ⟨t2, k2, l2⟩, ⟨t3, k3, l3⟩, ⟨hn1, hn2, hn3, hn4, hn5, hn6⟩, ⟨y0, y1, y2, y3⟩, ⟨z0, z1, z2, z3⟩, ⟨b0, b1⟩, c0, c1⟩ := id en
  have h74 := sh.2.2.2.2
  refine Wp.ald_n (j := 0) rfl dX1_follow_68 ?_
  refine Wp.getf (k := 1) (tg := 2) kC1 (by decide) rfl lf_X1_15 dX1_follow_69 (sK17 (h := h) sh) t1 ?_
  refine Wp.ild_n (j := 3) rfl dX1_follow_72 ?_
  refine Wp.iaload dX1_follow_73 k1 (by omega) (ilt l1 (by omega)) (show hA _ ho _ = hA h ho _ from rfl) ?_
  refine sti_5_4 rfl (dSt_w dX1_follow_74) ?_
  refine Wp.ild (j := 4) rfl dX1_follow_76 ?_
  refine Wp.iflt dX1_follow_78 (by decide) (tgt := 98) (fun c78 => ?_) (fun c78 => ?_)
  · refine inc_5_3 rfl dX1_follow_98 (by first | exact w32_of (by omega) (by omega) | rfl) ?_
    refine Wp.goto (tgt := 47) dX1_follow_101 (by decide) ?_
    first
    | exact kq _ _ Fr.rf (fun z => absurd z (by omega))
    | exact kq _ _ Fr.rf (fun _ z => absurd z (by omega))
    | exact kq _ _ (Fr.e (List.mem_singleton.mpr rfl)) (fun _ _ => hA_sEs)
  · refine Wp.ild (j := 4) rfl dX1_follow_81 ?_
    refine Wp.ild_n (j := 2) rfl dX1_follow_83 ?_
    refine Wp.icge dX1_follow_84 (by decide) (tgt := 98) (fun c84 => ?_) (fun c84 => ?_)
    · refine inc_5_3 rfl dX1_follow_98 (by first | exact w32_of (by omega) (by omega) | rfl) ?_
      refine Wp.goto (tgt := 47) dX1_follow_101 (by decide) ?_
      first
      | exact kq _ _ Fr.rf (fun z => absurd z (by omega))
      | exact kq _ _ Fr.rf (fun _ z => absurd z (by omega))
      | exact kq _ _ (Fr.e (List.mem_singleton.mpr rfl)) (fun _ _ => hA_sEs)
    · refine Wp.ald_n (j := 0) rfl dX1_follow_87 ?_
      refine Wp.getf (k := 2) (tg := 2) kC1 (by decide) rfl lf_X1_18 dX1_follow_88 (sK17 (h := h) sh) t2 ?_
      refine Wp.ild (j := 4) rfl dX1_follow_91 ?_
      refine Wp.dup2 dX1_follow_93 (Or.inl rfl) (Or.inr rfl) ?_
      refine Wp.iaload dX1_follow_94 k2 (by omega) (ilt l2 (by omega)) (show hA _ bs _ = hA h bs _ from rfl) ?_
      refine Wp.iconst dX1_follow_95 (by decide) ?_
      refine Wp.iaddE dX1_follow_96 rfl ?_
      refine Wp.iastore dX1_follow_97 k2 (by omega) (ilt l2 (by omega)) ?_
      refine inc_5_3 rfl dX1_follow_98 (by first | exact w32_of (by omega) (by omega) | rfl) ?_
      refine Wp.goto (tgt := 47) dX1_follow_101 (by decide) ?_
      first
      | exact kq _ _ Fr.rf (fun z => absurd z (by omega))
      | exact kq _ _ Fr.rf (fun _ z => absurd z (by omega))
      | exact kq _ _ (Fr.e (List.mem_singleton.mpr rfl)) (fun _ _ => hA_sEs)

theorem xfol_loop2X (d : Nat) (h : mH) (sh : Sh h) (af ho bs rw na nr : Int) (en : EN h af ho bs rw na nr) (S : Int) (S0 : 0 < S) (S1 : S ≤ 20736) (Sn : S ≤ na) (rg : RG S (hA h af)) (f9 : Int → Int) (hf9 : ∀ x, 0 ≤ x → x < S → hA h af x = f9 x) (F : Int → Int) (hF9 : HM9 S f9 F) : ∀ (m : Nat) (j : Int) (u4 : mV) (g : Int → Int) (h' : mH), (S - j).toNat < m → (0 ≤ j) → (j ≤ S) → (Fr [ho, bs] [] h h') → (CL S (hA h af) (hA h' ho)) → (∀ x, 0 ≤ x → x < S → -1 - j ≤ hA h' ho x) → (∀ x, 0 ≤ x → x < S → hA h' ho x = g x) → (fol9 f9 S m j g = F) → (GI9 f9 S g) → (∀ x, 0 ≤ x → x < S → hA h' bs x = bz9 F x j.toNat) → Wp m_X1_follow (d + 5) 47 [(2, 17), (2, 2), (0, S), (0, j), u4] [] h' (fun r t => r = none ∧ CL S (hA h af) (hA t ho) ∧ Fr [ho, bs] [] h t ∧ (∀ x, 0 ≤ x → x < S → hA t ho x = F x) ∧ ∀ x, 0 ≤ x → x < S → hA t bs x = bz9 F x S.toNat) := by
  intro m
  induction m with
  | zero => intro j u4 g h' hm; exact absurd hm (Nat.not_lt_zero _)
  | succ m ih =>
    intro j u4 g h' hm j0 js fr cl lo hg eF gi bz
    obtain ⟨⟨t0, k0, l0⟩, ⟨t1, k1, l1⟩, ⟨t2, k2, l2⟩, ⟨t3, k3, l3⟩, ⟨hn1, hn2, hn3, hn4, hn5, hn6⟩, ⟨y0, y1, y2, y3⟩, ⟨z0, z1, z2, z3⟩, ⟨b0, b1⟩, c0, c1⟩ := id en
    have h74 := sh.2.2.2.2
    have en' := en.fr fr
    have ea : hA h' af = hA h af := fr.2.2.2.2.2 af (by simp; omega)
    have sh' := sh.fr fr (by decide +kernel) (by simp; omega)
    obtain ⟨⟨t0', k0', l0'⟩, ⟨t1', k1', l1'⟩, ⟨t2', k2', l2'⟩, ⟨t3', k3', l3'⟩, -⟩ := id en'
    have rgf : RG S f9 := fun x x0 x1 => by rw [← hf9 x x0 x1]; exact rg x x0 x1
    refine Wp.ild_n (j := 3) rfl dX1_follow_47 ?_
    refine Wp.ild_n (j := 2) rfl dX1_follow_48 ?_
    refine Wp.icge dX1_follow_49 (by decide) (tgt := 104) (fun c49 => ?_) (fun c49 => ?_)
    · refine Wp.vret rfl dX1_follow_104 ?_
      have hu : fol9 f9 S (m + 1) j g = g := if_neg (by omega)
      rw [hu] at eF
      exact ⟨rfl, cl, fr, fun x x0 x1 => by rw [hg x x0 x1, eF], fun x x0 x1 => by rw [show S = j by omega]; exact bz x x0 x1⟩
    · refine Wp.ald_n (j := 0) rfl dX1_follow_52 ?_
      refine Wp.getf (k := 1) (tg := 2) kC1 (by decide) rfl lf_X1_15 dX1_follow_53 (sK17 (h := h') sh') t1' ?_
      refine Wp.ild_n (j := 3) rfl dX1_follow_56 ?_
      refine Wp.iaload dX1_follow_57 k1' (by omega) (ilt l1' (by omega)) (show hA _ ho _ = hA h' ho _ from rfl) ?_
      refine Wp.iconst dX1_follow_58 (by decide) ?_
      refine Wp.icne dX1_follow_59 (by decide) (tgt := 68) (fun c59 => ?_) (fun c59 => ?_)
      · have hu : fol9 f9 S (m + 1) j g = fol9 f9 S m (j + 1) (if g j = -1 then ffx f9 S j g else g) := if_pos (by omega)
        rw [hu] at eF
        have hgj := hg j j0 (by omega)
        have gz : g j ≠ -1 := fun z => c59 (by rw [hgj]; exact z)
        have gj : (0 ≤ g j ∧ g j < S) ∧ hm9 f9 j (g j) := (gi j j0 (by omega)).elim (fun z => absurd z gz) id
        have hFj : F j = g j := (hF9 j j0 (by omega)).2.uniq gj.2
        rw [if_neg gz] at eF
        refine fol_tailX d h' sh' af ho bs rw na nr en' S S0 S1 Sn j j0 (by omega) _ _ (fun h2 v4 f2 hb2 => ?_)
        have eh : hA h2 ho = hA h' ho := f2.2.2.2.2.2 ho (by simp; omega)
        refine ih (j + 1) v4 g h2 (by omega) (by omega) (by omega) (fr.tr (f2.mono (by simp) (by simp))) (by rw [eh]; exact cl) (fun x x0 x1 => ?_) (by rw [eh]; exact hg) eF gi (fun x x0 x1 => by
          rw [hb2 (by rw [hgj]; exact gj.1.1) (by rw [hgj]; exact gj.1.2), hgj, bz9_s j0, ← hFj]
          have hbd := bz9_bd (H := F) (x := x) j.toNat
          by_cases e : F j = x
          · rw [e, u1_s, if_pos rfl, bz _ x0 x1, w32_of (by omega) (by omega)]
          · rw [u1_n _ _ (fun z => e z.symm), if_neg e, bz _ x0 x1]
            omega)
        rw [eh]
        have := lo x x0 x1
        omega
      · refine Wp.ald_n (j := 0) rfl dX1_follow_62 ?_
        refine Wp.ild_n (j := 3) rfl dX1_follow_63 ?_
        refine Wp.ild_n (j := 2) rfl dX1_follow_64 ?_
        obtain ⟨_, t65, ct65, rfl, q65⟩ := cq_followFromX (d + 2) h' sh' af ho bs rw na nr en' S S0 S1 Sn (by rw [ea]; exact rg) j j0 (by omega) f9 (by rw [ea]; exact hf9) g hg (by rw [ea]; exact cl) lo
        refine Wp.callV0 (ct65) wc_X1_44 iM_X1_followFrom se_X1_followFrom kC1 (sK17 (h := h') sh') dX1_follow_65 rfl (Nat.le_of_ble_eq_true rfl) rfl (Nat.le_of_ble_eq_true rfl) ?_
        have hu : fol9 f9 S (m + 1) j g = fol9 f9 S m (j + 1) (if g j = -1 then ffx f9 S j g else g) := if_pos (by omega)
        rw [hu] at eF
        have hgj := hg j j0 (by omega)
        have gz : g j = -1 := by rw [← hgj]; exact c59
        obtain ⟨gi', -, gu'⟩ := GI9.step rgf j0 (by omega) gi gz
        have gj : (0 ≤ ffx f9 S j g j ∧ ffx f9 S j g j < S) ∧ hm9 f9 j (ffx f9 S j g j) := (gi' j j0 (by omega)).elim (fun z => absurd z gu') id
        have hFj : F j = ffx f9 S j g j := (hF9 j j0 (by omega)).2.uniq gj.2
        rw [if_pos gz] at eF
        have hgj' : hA t65 ho j = ffx f9 S j g j := q65.2.2.2 j j0 (by omega)
        have eb5 : hA t65 bs = hA h' bs := q65.1.2.2.2.2.2 bs (by simp; omega)
        refine fol_tailX d t65 (sh'.fr q65.1 (by decide +kernel) (by simp; omega)) af ho bs rw na nr (en'.fr q65.1) S S0 S1 Sn j j0 (by omega) _ _ (fun h2 v4 f2 hb2 => ?_)
        have eh : hA h2 ho = hA t65 ho := f2.2.2.2.2.2 ho (by simp; omega)
        rw [eb5] at hb2
        refine ih (j + 1) v4 (ffx f9 S j g) h2 (by omega) (by omega) (by omega) (fr.tr ((q65.1.mono (by simp) (by simp)).tr (f2.mono (by simp) (by simp)))) (by rw [eh, ← ea]; exact q65.2.1) (fun x x0 x1 => ?_) (by rw [eh]; exact q65.2.2.2) eF gi' (fun x x0 x1 => by
          rw [hb2 (by rw [hgj']; exact gj.1.1) (by rw [hgj']; exact gj.1.2), hgj', bz9_s j0, ← hFj]
          have hbd := bz9_bd (H := F) (x := x) j.toNat
          by_cases e : F j = x
          · rw [e, u1_s, if_pos rfl, bz _ x0 x1, w32_of (by omega) (by omega)]
          · rw [u1_n _ _ (fun z => e z.symm), if_neg e, bz _ x0 x1]
            omega)
        rw [eh]
        have := q65.2.2.1 x x0 x1
        omega

theorem xfol_restX (d : Nat) (h : mH) (sh : Sh h) (af ho bs rw na nr : Int) (en : EN h af ho bs rw na nr) (S : Int) (S0 : 0 < S) (S1 : S ≤ 20736) (Sn : S ≤ na) (rg : RG S (hA h af)) (f9 : Int → Int) (hf9 : ∀ x, 0 ≤ x → x < S → hA h af x = f9 x) (j : Int) (u4 : mV) : Wp m_X1_follow (d + 5) 29 [(2, 17), (2, 2), (0, S), (0, j), u4] [] h (fun r t => r = none ∧ CL S (hA h af) (hA t ho) ∧ Fr [ho, bs] [] h t ∧ (∀ x, 0 ≤ x → x < S → hA t ho x = hom9 f9 S x) ∧ ∀ x, 0 ≤ x → x < S → hA t bs x = bz9 (hom9 f9 S) x S.toNat) := by
  obtain ⟨⟨t0, k0, l0⟩, ⟨t1, k1, l1⟩, ⟨t2, k2, l2⟩, ⟨t3, k3, l3⟩, ⟨hn1, hn2, hn3, hn4, hn5, hn6⟩, ⟨y0, y1, y2, y3⟩, ⟨z0, z1, z2, z3⟩, ⟨b0, b1⟩, c0, c1⟩ := id en
  have h74 := sh.2.2.2.2
  refine Wp.ald_n (j := 0) rfl dX1_follow_29 ?_
  refine Wp.getf (k := 1) (tg := 2) kC1 (by decide) rfl lf_X1_15 dX1_follow_30 (sK17 (h := h) sh) t1 ?_
  refine Wp.iconst dX1_follow_33 (by decide) ?_
  refine Wp.callS0 (ct_fillI (d + 4) h ho (-1) na k1 l1 (by omega) (by omega)) wc_X1_38 sM_J7_fill_53178 dX1_follow_34 rfl (Nat.le_of_ble_eq_true rfl) rfl (Nat.le_of_ble_eq_true rfl) ?_
  refine Wp.ald_n (j := 0) rfl dX1_follow_37 ?_
  refine Wp.getf (k := 2) (tg := 2) kC1 (by decide) rfl lf_X1_18 dX1_follow_38 (sK17 (h := h) sh) t2 ?_
  refine Wp.iconst dX1_follow_41 (by decide) ?_
  refine Wp.callS0 (ct_fillI (d + 4) _ bs 0 na k2 l2 (by omega) (by omega)) wc_X1_38 sM_J7_fill_53178 dX1_follow_42 rfl (Nat.le_of_ble_eq_true rfl) rfl (Nat.le_of_ble_eq_true rfl) ?_
  refine Wp.iconst dX1_follow_45 (by decide) ?_
  refine sti_5_3 rfl (dSt_n dX1_follow_46) ?_
  have f47 : Fr [ho, bs] [] h (sA (sA h ho (flF (hA h ho) na (-1))) bs (flF (hA (sA h ho (flF (hA h ho) na (-1))) bs) na 0)) := (Fr.a (by simp)).tr (Fr.a (by simp))
  have ea : hA (sA (sA h ho (flF (hA h ho) na (-1))) bs (flF (hA (sA h ho (flF (hA h ho) na (-1))) bs) na 0)) af = hA h af := f47.2.2.2.2.2 af (by simp; omega)
  have eh : ∀ x, 0 ≤ x → x < S → hA (sA (sA h ho (flF (hA h ho) na (-1))) bs (flF (hA (sA h ho (flF (hA h ho) na (-1))) bs) na 0)) ho x = -1 := by
    intro x x0 x1
    rw [show hA (sA (sA h ho (flF (hA h ho) na (-1))) bs (flF (hA (sA h ho (flF (hA h ho) na (-1))) bs) na 0)) ho = hA (sA h ho (flF (hA h ho) na (-1))) ho from u1_n _ _ hn3, show hA (sA h ho (flF (hA h ho) na (-1))) ho = flF (hA h ho) na (-1) from u1_s _ _ _]
    exact if_pos ⟨x0, by omega⟩
  have eb : ∀ x, 0 ≤ x → x < S → hA (sA (sA h ho (flF (hA h ho) na (-1))) bs (flF (hA (sA h ho (flF (hA h ho) na (-1))) bs) na 0)) bs x = 0 := by
    intro x x0 x1
    rw [show hA (sA (sA h ho (flF (hA h ho) na (-1))) bs (flF (hA (sA h ho (flF (hA h ho) na (-1))) bs) na 0)) bs = flF (hA (sA h ho (flF (hA h ho) na (-1))) bs) na 0 from u1_s _ _ _]
    exact if_pos ⟨x0, by omega⟩
  have rgf : RG S f9 := fun x x0 x1 => by rw [← hf9 x x0 x1]; exact rg x x0 x1
  refine (xfol_loop2X d _ (sh.fr f47 (by decide +kernel) (by simp; omega)) af ho bs rw na nr (en.fr f47) S S0 S1 Sn (by rw [ea]; exact rg) f9 (by rw [ea]; exact hf9) (hom9 f9 S) (hom9_HM rgf) (S.toNat + 1) 0 u4 (fun _ => -1) _ (by omega) (Int.le_refl _) (by omega) Fr.rf (fun x x0 x1 hx => absurd hx (by rw [eh x x0 x1]; decide)) (fun x x0 x1 => by rw [eh x x0 x1]; decide) eh rfl (fun x _ _ => Or.inl rfl) eb).mono (fun r t q => ?_)
  obtain ⟨q1, q2, q3, q4, q5⟩ := q
  rw [ea] at q2
  exact ⟨q1, q2, f47.tr q3, q4, q5⟩

theorem xfol_loop1X (d : Nat) (h : mH) (sh : Sh h) (af ho bs rw na nr : Int) (en : EN h af ho bs rw na nr) (S : Int) (S0 : 0 < S) (S1 : S ≤ 20736) (Sn : S ≤ na) (f9 : Int → Int) (hSA : ∀ (s : Int) (h' : mH), 0 ≤ s → s < S → Fr [8, 9, 12, 11, af] [] h h' → Cq m_X0_stateAfter (d + 4) [(2, 2), (0, s)] h' (fun r t => (∃ y, r = some (0, y) ∧ 0 ≤ y ∧ y < S ∧ y = f9 s) ∧ Fr [8, 9, 12, 11] [] h' t)) (u4 : mV) : ∀ (m : Nat) (j : Int) (h' : mH), (S - j).toNat < m → (0 ≤ j) → (Fr [8, 9, 12, 11, af] [] h h') → (∀ x, 0 ≤ x → x < j → (0 ≤ hA h' af x ∧ hA h' af x < S) ∧ hA h' af x = f9 x) → Wp m_X1_follow (d + 5) 7 [(2, 17), (2, 2), (0, S), (0, j), u4] [] h' (fun r t => r = none ∧ EN t af ho bs rw na nr ∧ RG S (hA t af) ∧ (∀ x, 0 ≤ x → x < S → hA t af x = f9 x) ∧ CL S (hA t af) (hA t ho) ∧ Fr [8, 9, 12, 11, af, ho, bs] [] h t ∧ (∀ x, 0 ≤ x → x < S → hA t ho x = hom9 f9 S x) ∧ ∀ x, 0 ≤ x → x < S → hA t bs x = bz9 (hom9 f9 S) x S.toNat) := by
  intro m
  induction m with
  | zero => intro j h' hm; exact absurd hm (Nat.not_lt_zero _)
  | succ m ih =>
    intro j h' hm j0 fr hx
    obtain ⟨⟨t0, k0, l0⟩, ⟨t1, k1, l1⟩, ⟨t2, k2, l2⟩, ⟨t3, k3, l3⟩, ⟨hn1, hn2, hn3, hn4, hn5, hn6⟩, ⟨y0, y1, y2, y3⟩, ⟨z0, z1, z2, z3⟩, ⟨b0, b1⟩, c0, c1⟩ := id en
    have h74 := sh.2.2.2.2
    have en' := en.fr fr
    have sh' := sh.fr fr (by decide +kernel) (by simp; omega)
    obtain ⟨⟨t0', k0', l0'⟩, ⟨t1', k1', l1'⟩, ⟨t2', k2', l2'⟩, ⟨t3', k3', l3'⟩, -⟩ := id en'
    refine Wp.ild_n (j := 3) rfl dX1_follow_7 ?_
    refine Wp.ild_n (j := 2) rfl dX1_follow_8 ?_
    refine Wp.icge dX1_follow_9 (by decide) (tgt := 29) (fun c9 => ?_) (fun c9 => ?_)
    · refine (xfol_restX d h' sh' af ho bs rw na nr en' S S0 S1 Sn (fun x x0 x1 => (hx x x0 (by omega)).1) f9 (fun x x0 x1 => (hx x x0 (by omega)).2) _ u4).mono (fun r t q => ?_)
      obtain ⟨q1, q2, q3, q4, q5⟩ := q
      have ea : hA t af = hA h' af := q3.2.2.2.2.2 af (by simp; omega)
      refine ⟨q1, en'.fr q3, ?_, ?_, ?_, ?_, q4, q5⟩
      · rw [ea]
        exact fun x x0 x1 => (hx x x0 (by omega)).1
      · rw [ea]
        exact fun x x0 x1 => (hx x x0 (by omega)).2
      · rw [ea]
        exact q2
      · exact (fr.mono (by simp) (by simp)).tr (q3.mono (by simp) (by simp))
    · refine Wp.ald_n (j := 0) rfl dX1_follow_12 ?_
      refine Wp.getf (k := 0) (tg := 2) kC1 (by decide) rfl lf_X1_9 dX1_follow_13 (sK17 (h := h') sh') t0' ?_
      refine Wp.ild_n (j := 3) rfl dX1_follow_16 ?_
      refine Wp.ald_n (j := 1) rfl dX1_follow_17 ?_
      refine Wp.ild_n (j := 3) rfl dX1_follow_18 ?_
      obtain ⟨_, t19, ct19, ⟨y19, rfl, y0', y1', y2'⟩, f19⟩ := hSA j h' j0 (by omega) fr
      have en19 := en'.fr f19
      have sh19 := sh'.fr f19 (by decide +kernel) (by simp)
      refine Wp.callV1 (ct19) wc_X1_32 iM_X0_stateAfter se_X0_stateAfter kC0 (sK2 (h := h') sh') dX1_follow_19 rfl (Nat.le_of_ble_eq_true rfl) rfl (Nat.le_of_ble_eq_true rfl) ?_
      refine Wp.iastore dX1_follow_22 en19.1.2.1 (by omega) (ilt en19.1.2.2 (by omega)) ?_
      refine inc_5_3 rfl dX1_follow_23 (by first | exact w32_of (by omega) (by omega) | rfl) ?_
      refine Wp.goto (tgt := 7) dX1_follow_26 (by decide) ?_
      have ea : hA t19 af = hA h' af := f19.2.2.2.2.2 af (by simp; omega)
      refine ih (j + 1) _ (by omega) (by omega) (fr.tr ((f19.mono (by simp) (by simp)).tr (Fr.e (by simp)))) (fun x x0 x1 => ?_)
      rw [hA_sEs]
      by_cases e : x = j
      · subst e
        rw [u1_s]
        exact ⟨⟨y0', y1'⟩, y2'⟩
      · rw [u1_n _ _ e, ea]
        exact hx x x0 (by omega)

theorem cq_followY (d : Nat) (h : mH) (sh : Sh h) (af ho bs rw na nr : Int) (en : EN h af ho bs rw na nr) (S : Int) (S0 : 0 < S) (S1 : S ≤ 20736) (f9 : Int → Int) (hSA : ∀ (s : Int) (h' : mH), 0 ≤ s → s < S → Sh h' → Fq (fun a => a ∈ [8, 9, 12, 11, af]) [(17, 0), (17, 1), (17, 2)] h h' → Cq m_X0_stateAfter (d + 4) [(2, 2), (0, s)] h' (fun r t => (∃ y, r = some (0, y) ∧ 0 ≤ y ∧ y < S ∧ y = f9 s) ∧ Fr [8, 9, 12, 11] [] h' t)) : Cq m_X1_follow (d + 5) [(2, 17), (2, 2), (0, S)] h (fun r t => r = none ∧ ∃ af' ho' bs' na', EN t af' ho' bs' rw na' nr ∧ S ≤ na' ∧ RG S (hA t af') ∧ (∀ x, 0 ≤ x → x < S → hA t af' x = f9 x) ∧ CL S (hA t af') (hA t ho') ∧ Fq (fun a => a ∈ [8, 9, 12, 11, af, ho, bs]) [(17, 0), (17, 1), (17, 2)] h t ∧ aC h t (psA na) (psA na') ∧ (∀ x, 0 ≤ x → x < S → hA t ho' x = hom9 f9 S x) ∧ ∀ x, 0 ≤ x → x < S → hA t bs' x = bz9 (hom9 f9 S) x S.toNat) := by
  refine Cq.of ?_
  show Wp m_X1_follow ((d + 5)) 0 [(2, 17), (2, 2), (0, S), (9, 0), (9, 0)] [] h _
  obtain ⟨⟨t0, k0, l0⟩, ⟨t1, k1, l1⟩, ⟨t2, k2, l2⟩, ⟨t3, k3, l3⟩, ⟨hn1, hn2, hn3, hn4, hn5, hn6⟩, ⟨y0, y1, y2, y3⟩, ⟨z0, z1, z2, z3⟩, ⟨b0, b1⟩, c0, c1⟩ := id en
  have h74 := sh.2.2.2.2
  refine Wp.ald_n (j := 0) rfl dX1_follow_0 ?_
  refine Wp.ild_n (j := 2) rfl dX1_follow_1 ?_
  obtain ⟨_, t2', ct2', rfl, af', ho', bs', na', en2, sn2, fq2, ne2, ac2⟩ := cq_makeRoomE (d + 3) h sh af ho bs rw na nr en S S0 S1
  refine Wp.callV0 (ct2') wc_X1_28 iM_X1_makeRoom se_X1_makeRoom kC1 (sK17 (h := h) sh) dX1_follow_2 rfl (Nat.le_of_ble_eq_true rfl) rfl (Nat.le_of_ble_eq_true rfl) ?_
  have sh2 := sh.fq fq2 (by decide +kernel) (fun z => z)
  refine Wp.iconst dX1_follow_5 (by decide) ?_
  refine sti_5_3 rfl (dSt_n dX1_follow_6) ?_
  have hm : ∀ (L : List Int) (hL : ∀ x ∈ L, (x ∈ [8, 9, 12, 11] ∨ x = af' ∨ x = ho' ∨ x = bs')), ∀ x, x < (hN h : Int) → x ∈ L → x ∈ [8, 9, 12, 11, af, ho, bs] := by
    intro L hL x hx hz
    have := hL x hz
    simp only [List.mem_cons, List.not_mem_nil, or_false] at this ⊢
    omega
  refine (xfol_loop1X d t2' sh2 af' ho' bs' rw na' nr en2 S S0 S1 sn2 f9 (fun s h' s0 s1 fr => ?_) _ _ 0 t2' (Nat.lt_succ_self _) (Int.le_refl _) Fr.rf (fun x x0 x1 => absurd x1 (by omega))).mono (fun r t q => ?_)
  · refine hSA s h' s0 s1 (sh2.fr fr (by decide +kernel) (by have := en2.2.2.2.2.2.1; simp; omega)) ?_
    refine (fq2.mono (A' := fun a => a ∈ [8, 9, 12, 11, af]) (fun x _ z => z.elim) (fun x z => z)).tr2 ((Fq.fr (A := fun a => a ∈ [8, 9, 12, 11, af']) fr (fun x z => z)).mono (fun x _ z => z) (by simp)) (fun x hx hz => ?_)
    simp only [List.mem_cons, List.not_mem_nil, or_false] at hz ⊢
    omega
  · obtain ⟨q1, q2, q3, q4, q5, q6, q7, q8⟩ := q
    refine ⟨q1, af', ho', bs', na', q2, sn2, q3, q4, q5, ?_, ac2.tr (aC.same q6.1 q6.2.1), q7, q8⟩
    refine (fq2.mono (A' := fun a => a ∈ [8, 9, 12, 11, af, ho, bs]) (fun x _ z => z.elim) (fun x z => z)).tr2 ((Fq.fr (A := fun a => a ∈ [8, 9, 12, 11, af', ho', bs']) q6 (fun x z => z)).mono (fun x _ z => z) (by simp)) (fun x hx hz => ?_)
    exact hm _ (by simp) x hx hz

