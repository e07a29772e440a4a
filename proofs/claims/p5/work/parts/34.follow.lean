theorem fol_tail (d : Nat) (h : mH) (sh : Sh h) (af ho bs rw na nr : Int) (en : EN h af ho bs rw na nr) (S : Int) (S0 : 0 < S) (S1 : S ≤ 20736) (Sn : S ≤ na) (j : Int) (j0 : 0 ≤ j) (j1 : j < S) (u4 : mV) (Q : Option mV → mH → Prop) (kq : ∀ (h2 : mH) (v4 : mV), Fr [bs] [] h h2 → Wp m_X1_follow (d + 5) 47 [(2, 17), (2, 2), (0, S), (0, j + 1), v4] [] h2 Q) : Wp m_X1_follow (d + 5) 68 [(2, 17), (2, 2), (0, S), (0, j), u4] [] h Q := by
  obtain ⟨⟨t0, k0, l0⟩, ⟨t1, k1, l1⟩, ⟨t2, k2, l2⟩, ⟨t3, k3, l3⟩, ⟨hn1, hn2, hn3, hn4, hn5, hn6⟩, ⟨y0, y1, y2, y3⟩, ⟨z0, z1, z2, z3⟩, ⟨b0, b1⟩, c0, c1⟩ := id en
  have h74 := sh.2.2.2.2
  refine Wp.ald_n (j := 0) rfl dX1_follow_68 ?_
  refine Wp.getf (k := 1) (tg := 2) kC1 (by decide) rfl lf_X1_15 dX1_follow_69 (sK17 (h := h) sh) t1 ?_
  refine Wp.ild_n (j := 3) rfl dX1_follow_72 ?_
  refine Wp.iaload dX1_follow_73 k1 (by omega) (ilt l1 (by omega)) (show hA _ ho _ = hA h ho _ from rfl) ?_
  refine sti_5_4 rfl (dSt_w dX1_follow_74) ?_
  refine Wp.ild (j := 4) rfl dX1_follow_76 ?_
  refine Wp.iflt dX1_follow_78 (by decide) (tgt := 98) (fun c78 => ?_) (fun c78 => ?_)
  · refine inc_5_3 rfl dX1_follow_98 (by first | exact w32_of (by omega) (by omega) | rfl) ?_
    refine Wp.goto (tgt := 47) dX1_follow_101 (by decide) ?_
    first
    | exact kq _ _ Fr.rf
    | exact kq _ _ (Fr.e (List.mem_singleton.mpr rfl))
  · refine Wp.ild (j := 4) rfl dX1_follow_81 ?_
    refine Wp.ild_n (j := 2) rfl dX1_follow_83 ?_
    refine Wp.icge dX1_follow_84 (by decide) (tgt := 98) (fun c84 => ?_) (fun c84 => ?_)
    · refine inc_5_3 rfl dX1_follow_98 (by first | exact w32_of (by omega) (by omega) | rfl) ?_
      refine Wp.goto (tgt := 47) dX1_follow_101 (by decide) ?_
      first
      | exact kq _ _ Fr.rf
      | exact kq _ _ (Fr.e (List.mem_singleton.mpr rfl))
    · refine Wp.ald_n (j := 0) rfl dX1_follow_87 ?_
      refine Wp.getf (k := 2) (tg := 2) kC1 (by decide) rfl lf_X1_18 dX1_follow_88 (sK17 (h := h) sh) t2 ?_
      refine Wp.ild (j := 4) rfl dX1_follow_91 ?_
      refine Wp.dup2 dX1_follow_93 (Or.inl rfl) (Or.inr rfl) ?_
      refine Wp.iaload dX1_follow_94 k2 (by omega) (ilt l2 (by omega)) (show hA _ bs _ = hA h bs _ from rfl) ?_
      refine Wp.iconst dX1_follow_95 (by decide) ?_
      refine Wp.iaddE dX1_follow_96 rfl ?_
      refine Wp.iastore dX1_follow_97 k2 (by omega) (ilt l2 (by omega)) ?_
      refine inc_5_3 rfl dX1_follow_98 (by first | exact w32_of (by omega) (by omega) | rfl) ?_
      refine Wp.goto (tgt := 47) dX1_follow_101 (by decide) ?_
      first
      | exact kq _ _ Fr.rf
      | exact kq _ _ (Fr.e (List.mem_singleton.mpr rfl))

theorem fol_loop2 (d : Nat) (h : mH) (sh : Sh h) (af ho bs rw na nr : Int) (en : EN h af ho bs rw na nr) (S : Int) (S0 : 0 < S) (S1 : S ≤ 20736) (Sn : S ≤ na) (rg : RG S (hA h af)) : ∀ (m : Nat) (j : Int) (u4 : mV) (h' : mH), (S - j).toNat < m → (0 ≤ j) → (Fr [ho, bs] [] h h') → (CL S (hA h af) (hA h' ho)) → (∀ x, 0 ≤ x → x < S → -1 - j ≤ hA h' ho x) → Wp m_X1_follow (d + 5) 47 [(2, 17), (2, 2), (0, S), (0, j), u4] [] h' (fun r t => r = none ∧ CL S (hA h af) (hA t ho) ∧ Fr [ho, bs] [] h t) := by
  intro m
  induction m with
  | zero => intro j u4 h' hm; exact absurd hm (Nat.not_lt_zero _)
  | succ m ih =>
    intro j u4 h' hm j0 fr cl lo
    obtain ⟨⟨t0, k0, l0⟩, ⟨t1, k1, l1⟩, ⟨t2, k2, l2⟩, ⟨t3, k3, l3⟩, ⟨hn1, hn2, hn3, hn4, hn5, hn6⟩, ⟨y0, y1, y2, y3⟩, ⟨z0, z1, z2, z3⟩, ⟨b0, b1⟩, c0, c1⟩ := id en
    have h74 := sh.2.2.2.2
    have en' := en.fr fr
    have ea : hA h' af = hA h af := fr.2.2.2.2.2 af (by simp; omega)
    have sh' := sh.fr fr (by decide +kernel) (by simp; omega)
    obtain ⟨⟨t0', k0', l0'⟩, ⟨t1', k1', l1'⟩, ⟨t2', k2', l2'⟩, ⟨t3', k3', l3'⟩, -⟩ := id en'
    refine Wp.ild_n (j := 3) rfl dX1_follow_47 ?_
    refine Wp.ild_n (j := 2) rfl dX1_follow_48 ?_
    refine Wp.icge dX1_follow_49 (by decide) (tgt := 104) (fun c49 => ?_) (fun c49 => ?_)
    · refine Wp.vret rfl dX1_follow_104 ?_
      exact ⟨rfl, cl, fr⟩
    · refine Wp.ald_n (j := 0) rfl dX1_follow_52 ?_
      refine Wp.getf (k := 1) (tg := 2) kC1 (by decide) rfl lf_X1_15 dX1_follow_53 (sK17 (h := h') sh') t1' ?_
      refine Wp.ild_n (j := 3) rfl dX1_follow_56 ?_
      refine Wp.iaload dX1_follow_57 k1' (by omega) (ilt l1' (by omega)) (show hA _ ho _ = hA h' ho _ from rfl) ?_
      refine Wp.iconst dX1_follow_58 (by decide) ?_
      refine Wp.icne dX1_follow_59 (by decide) (tgt := 68) (fun c59 => ?_) (fun c59 => ?_)
      · first
        | (refine fol_tail d h' sh' af ho bs rw na nr en' S S0 S1 Sn j j0 (by omega) _ _ (fun h2 v4 f2 => ?_)
           have eh : hA h2 ho = hA h' ho := f2.2.2.2.2.2 ho (by simp; omega)
           refine ih (j + 1) v4 h2 (by omega) (by omega) (fr.tr (f2.mono (by simp) (by simp))) (by rw [eh]; exact cl) (fun x x0 x1 => ?_)
           rw [eh]
           have := lo x x0 x1
           omega)
        | (refine fol_tail d t65 (sh'.fr q65.1 (by decide +kernel) (by simp; omega)) af ho bs rw na nr (en'.fr q65.1) S S0 S1 Sn j j0 (by omega) _ _ (fun h2 v4 f2 => ?_)
           have eh : hA h2 ho = hA t65 ho := f2.2.2.2.2.2 ho (by simp; omega)
           refine ih (j + 1) v4 h2 (by omega) (by omega) (fr.tr ((q65.1.mono (by simp) (by simp)).tr (f2.mono (by simp) (by simp)))) (by rw [eh, ← ea]; exact q65.2.1) (fun x x0 x1 => ?_)
           rw [eh]
           have := q65.2.2 x x0 x1
           omega)
      · refine Wp.ald_n (j := 0) rfl dX1_follow_62 ?_
        refine Wp.ild_n (j := 3) rfl dX1_follow_63 ?_
        refine Wp.ild_n (j := 2) rfl dX1_follow_64 ?_
        obtain ⟨_, t65, ct65, rfl, q65⟩ := cq_followFrom (d + 2) h' sh' af ho bs rw na nr en' S S0 S1 Sn (by rw [ea]; exact rg) j j0 (by omega) (by rw [ea]; exact cl) lo
        refine Wp.callV0 (ct65) wc_X1_44 iM_X1_followFrom se_X1_followFrom kC1 (sK17 (h := h') sh') dX1_follow_65 rfl (Nat.le_of_ble_eq_true rfl) rfl (Nat.le_of_ble_eq_true rfl) ?_
        first
        | (refine fol_tail d h' sh' af ho bs rw na nr en' S S0 S1 Sn j j0 (by omega) _ _ (fun h2 v4 f2 => ?_)
           have eh : hA h2 ho = hA h' ho := f2.2.2.2.2.2 ho (by simp; omega)
           refine ih (j + 1) v4 h2 (by omega) (by omega) (fr.tr (f2.mono (by simp) (by simp))) (by rw [eh]; exact cl) (fun x x0 x1 => ?_)
           rw [eh]
           have := lo x x0 x1
           omega)
        | (refine fol_tail d t65 (sh'.fr q65.1 (by decide +kernel) (by simp; omega)) af ho bs rw na nr (en'.fr q65.1) S S0 S1 Sn j j0 (by omega) _ _ (fun h2 v4 f2 => ?_)
           have eh : hA h2 ho = hA t65 ho := f2.2.2.2.2.2 ho (by simp; omega)
           refine ih (j + 1) v4 h2 (by omega) (by omega) (fr.tr ((q65.1.mono (by simp) (by simp)).tr (f2.mono (by simp) (by simp)))) (by rw [eh, ← ea]; exact q65.2.1) (fun x x0 x1 => ?_)
           rw [eh]
           have := q65.2.2 x x0 x1
           omega)

theorem fol_rest (d : Nat) (h : mH) (sh : Sh h) (af ho bs rw na nr : Int) (en : EN h af ho bs rw na nr) (S : Int) (S0 : 0 < S) (S1 : S ≤ 20736) (Sn : S ≤ na) (rg : RG S (hA h af)) (j : Int) (u4 : mV) : Wp m_X1_follow (d + 5) 29 [(2, 17), (2, 2), (0, S), (0, j), u4] [] h (fun r t => r = none ∧ CL S (hA h af) (hA t ho) ∧ Fr [ho, bs] [] h t) := by
  obtain ⟨⟨t0, k0, l0⟩, ⟨t1, k1, l1⟩, ⟨t2, k2, l2⟩, ⟨t3, k3, l3⟩, ⟨hn1, hn2, hn3, hn4, hn5, hn6⟩, ⟨y0, y1, y2, y3⟩, ⟨z0, z1, z2, z3⟩, ⟨b0, b1⟩, c0, c1⟩ := id en
  have h74 := sh.2.2.2.2
  refine Wp.ald_n (j := 0) rfl dX1_follow_29 ?_
  refine Wp.getf (k := 1) (tg := 2) kC1 (by decide) rfl lf_X1_15 dX1_follow_30 (sK17 (h := h) sh) t1 ?_
  refine Wp.iconst dX1_follow_33 (by decide) ?_
  refine Wp.callS0 (ct_fillI (d + 4) h ho (-1) na k1 l1 (by omega) (by omega)) wc_X1_38 sM_J7_fill_53178 dX1_follow_34 rfl (Nat.le_of_ble_eq_true rfl) rfl (Nat.le_of_ble_eq_true rfl) ?_
  refine Wp.ald_n (j := 0) rfl dX1_follow_37 ?_
  refine Wp.getf (k := 2) (tg := 2) kC1 (by decide) rfl lf_X1_18 dX1_follow_38 (sK17 (h := h) sh) t2 ?_
  refine Wp.iconst dX1_follow_41 (by decide) ?_
  refine Wp.callS0 (ct_fillI (d + 4) _ bs 0 na k2 l2 (by omega) (by omega)) wc_X1_38 sM_J7_fill_53178 dX1_follow_42 rfl (Nat.le_of_ble_eq_true rfl) rfl (Nat.le_of_ble_eq_true rfl) ?_
  refine Wp.iconst dX1_follow_45 (by decide) ?_
  refine sti_5_3 rfl (dSt_n dX1_follow_46) ?_
  have f47 : Fr [ho, bs] [] h (sA (sA h ho (flF (hA h ho) na (-1))) bs (flF (hA (sA h ho (flF (hA h ho) na (-1))) bs) na 0)) := (Fr.a (by simp)).tr (Fr.a (by simp))
  have ea : hA (sA (sA h ho (flF (hA h ho) na (-1))) bs (flF (hA (sA h ho (flF (hA h ho) na (-1))) bs) na 0)) af = hA h af := f47.2.2.2.2.2 af (by simp; omega)
  have eh : ∀ x, 0 ≤ x → x < S → hA (sA (sA h ho (flF (hA h ho) na (-1))) bs (flF (hA (sA h ho (flF (hA h ho) na (-1))) bs) na 0)) ho x = -1 := by
    intro x x0 x1
    rw [show hA (sA (sA h ho (flF (hA h ho) na (-1))) bs (flF (hA (sA h ho (flF (hA h ho) na (-1))) bs) na 0)) ho = hA (sA h ho (flF (hA h ho) na (-1))) ho from u1_n _ _ hn3, show hA (sA h ho (flF (hA h ho) na (-1))) ho = flF (hA h ho) na (-1) from u1_s _ _ _]
    exact if_pos ⟨x0, by omega⟩
  refine (fol_loop2 d _ (sh.fr f47 (by decide +kernel) (by simp; omega)) af ho bs rw na nr (en.fr f47) S S0 S1 Sn (by rw [ea]; exact rg) _ 0 u4 _ (Nat.lt_succ_self _) (Int.le_refl _) Fr.rf (fun x x0 x1 hx => absurd hx (by rw [eh x x0 x1]; decide)) (fun x x0 x1 => by rw [eh x x0 x1]; decide)).mono (fun r t q => ?_)
  obtain ⟨q1, q2, q3⟩ := q
  rw [ea] at q2
  exact ⟨q1, q2, f47.tr q3⟩

theorem fol_loop1 (d : Nat) (h : mH) (sh : Sh h) (af ho bs rw na nr : Int) (en : EN h af ho bs rw na nr) (S : Int) (S0 : 0 < S) (S1 : S ≤ 20736) (Sn : S ≤ na) (X : Int → Prop) (hSA : ∀ (s : Int) (h' : mH), 0 ≤ s → s < S → Fr [8, 9, 12, 11, af] [] h h' → Cq m_X0_stateAfter (d + 4) [(2, 2), (0, s)] h' (fun r t => (∃ y, r = some (0, y) ∧ 0 ≤ y ∧ y < S ∧ (y = s → X s)) ∧ Fr [8, 9, 12, 11] [] h' t)) (u4 : mV) : ∀ (m : Nat) (j : Int) (h' : mH), (S - j).toNat < m → (0 ≤ j) → (Fr [8, 9, 12, 11, af] [] h h') → (∀ x, 0 ≤ x → x < j → (0 ≤ hA h' af x ∧ hA h' af x < S) ∧ (hA h' af x = x → X x)) → Wp m_X1_follow (d + 5) 7 [(2, 17), (2, 2), (0, S), (0, j), u4] [] h' (fun r t => r = none ∧ EN t af ho bs rw na nr ∧ RG S (hA t af) ∧ (∀ x, 0 ≤ x → x < S → hA t af x = x → X x) ∧ CL S (hA t af) (hA t ho) ∧ Fr [8, 9, 12, 11, af, ho, bs] [] h t) := by
  intro m
  induction m with
  | zero => intro j h' hm; exact absurd hm (Nat.not_lt_zero _)
  | succ m ih =>
    intro j h' hm j0 fr hx
    obtain ⟨⟨t0, k0, l0⟩, ⟨t1, k1, l1⟩, ⟨t2, k2, l2⟩, ⟨t3, k3, l3⟩, ⟨hn1, hn2, hn3, hn4, hn5, hn6⟩, ⟨y0, y1, y2, y3⟩, ⟨z0, z1, z2, z3⟩, ⟨b0, b1⟩, c0, c1⟩ := id en
    have h74 := sh.2.2.2.2
    have en' := en.fr fr
    have sh' := sh.fr fr (by decide +kernel) (by simp; omega)
    obtain ⟨⟨t0', k0', l0'⟩, ⟨t1', k1', l1'⟩, ⟨t2', k2', l2'⟩, ⟨t3', k3', l3'⟩, -⟩ := id en'
    refine Wp.ild_n (j := 3) rfl dX1_follow_7 ?_
    refine Wp.ild_n (j := 2) rfl dX1_follow_8 ?_
    refine Wp.icge dX1_follow_9 (by decide) (tgt := 29) (fun c9 => ?_) (fun c9 => ?_)
    · refine (fol_rest d h' sh' af ho bs rw na nr en' S S0 S1 Sn (fun x x0 x1 => (hx x x0 (by omega)).1) _ u4).mono (fun r t q => ?_)
      obtain ⟨q1, q2, q3⟩ := q
      have ea : hA t af = hA h' af := q3.2.2.2.2.2 af (by simp; omega)
      refine ⟨q1, en'.fr q3, ?_, ?_, ?_, ?_⟩
      · rw [ea]
        exact fun x x0 x1 => (hx x x0 (by omega)).1
      · rw [ea]
        exact fun x x0 x1 => (hx x x0 (by omega)).2
      · rw [ea]
        exact q2
      · exact (fr.mono (by simp) (by simp)).tr (q3.mono (by simp) (by simp))
    · refine Wp.ald_n (j := 0) rfl dX1_follow_12 ?_
      refine Wp.getf (k := 0) (tg := 2) kC1 (by decide) rfl lf_X1_9 dX1_follow_13 (sK17 (h := h') sh') t0' ?_
      refine Wp.ild_n (j := 3) rfl dX1_follow_16 ?_
      refine Wp.ald_n (j := 1) rfl dX1_follow_17 ?_
      refine Wp.ild_n (j := 3) rfl dX1_follow_18 ?_
      obtain ⟨_, t19, ct19, ⟨y19, rfl, y0', y1', y2'⟩, f19⟩ := hSA j h' j0 (by omega) fr
      have en19 := en'.fr f19
      have sh19 := sh'.fr f19 (by decide +kernel) (by simp)
      refine Wp.callV1 (ct19) wc_X1_32 iM_X0_stateAfter se_X0_stateAfter kC0 (sK2 (h := h') sh') dX1_follow_19 rfl (Nat.le_of_ble_eq_true rfl) rfl (Nat.le_of_ble_eq_true rfl) ?_
      refine Wp.iastore dX1_follow_22 en19.1.2.1 (by omega) (ilt en19.1.2.2 (by omega)) ?_
      refine inc_5_3 rfl dX1_follow_23 (by first | exact w32_of (by omega) (by omega) | rfl) ?_
      refine Wp.goto (tgt := 7) dX1_follow_26 (by decide) ?_
      have ea : hA t19 af = hA h' af := f19.2.2.2.2.2 af (by simp; omega)
      refine ih (j + 1) _ (by omega) (by omega) (fr.tr ((f19.mono (by simp) (by simp)).tr (Fr.e (by simp)))) (fun x x0 x1 => ?_)
      rw [hA_sEs]
      by_cases e : x = j
      · subst e
        rw [u1_s]
        exact ⟨⟨y0', y1'⟩, y2'⟩
      · rw [u1_n _ _ e, ea]
        exact hx x x0 (by omega)

theorem cq_follow (d : Nat) (h : mH) (sh : Sh h) (af ho bs rw na nr : Int) (en : EN h af ho bs rw na nr) (S : Int) (S0 : 0 < S) (S1 : S ≤ 20736) (X : Int → Prop) (hSA : ∀ (s : Int) (h' : mH), 0 ≤ s → s < S → Sh h' → Fq (fun a => a ∈ [8, 9, 12, 11, af]) [(17, 0), (17, 1), (17, 2)] h h' → Cq m_X0_stateAfter (d + 4) [(2, 2), (0, s)] h' (fun r t => (∃ y, r = some (0, y) ∧ 0 ≤ y ∧ y < S ∧ (y = s → X s)) ∧ Fr [8, 9, 12, 11] [] h' t)) : Cq m_X1_follow (d + 5) [(2, 17), (2, 2), (0, S)] h (fun r t => r = none ∧ ∃ af' ho' bs' na', EN t af' ho' bs' rw na' nr ∧ S ≤ na' ∧ RG S (hA t af') ∧ (∀ x, 0 ≤ x → x < S → hA t af' x = x → X x) ∧ CL S (hA t af') (hA t ho') ∧ Fq (fun a => a ∈ [8, 9, 12, 11, af, ho, bs]) [(17, 0), (17, 1), (17, 2)] h t ∧ aC h t (psA na) (psA na')) := by
  refine Cq.of ?_
  show Wp m_X1_follow ((d + 5)) 0 [(2, 17), (2, 2), (0, S), (9, 0), (9, 0)] [] h _
  obtain ⟨⟨t0, k0, l0⟩, ⟨t1, k1, l1⟩, ⟨t2, k2, l2⟩, ⟨t3, k3, l3⟩, ⟨hn1, hn2, hn3, hn4, hn5, hn6⟩, ⟨y0, y1, y2, y3⟩, ⟨z0, z1, z2, z3⟩, ⟨b0, b1⟩, c0, c1⟩ := id en
  have h74 := sh.2.2.2.2
  refine Wp.ald_n (j := 0) rfl dX1_follow_0 ?_
  refine Wp.ild_n (j := 2) rfl dX1_follow_1 ?_
  obtain ⟨_, t2', ct2', rfl, af', ho', bs', na', en2, sn2, fq2, ne2, ac2⟩ := cq_makeRoomE (d + 3) h sh af ho bs rw na nr en S S0 S1
  refine Wp.callV0 (ct2') wc_X1_28 iM_X1_makeRoom se_X1_makeRoom kC1 (sK17 (h := h) sh) dX1_follow_2 rfl (Nat.le_of_ble_eq_true rfl) rfl (Nat.le_of_ble_eq_true rfl) ?_
  have sh2 := sh.fq fq2 (by decide +kernel) (fun z => z)
  refine Wp.iconst dX1_follow_5 (by decide) ?_
  refine sti_5_3 rfl (dSt_n dX1_follow_6) ?_
  have hm : ∀ (L : List Int) (hL : ∀ x ∈ L, (x ∈ [8, 9, 12, 11] ∨ x = af' ∨ x = ho' ∨ x = bs')), ∀ x, x < (hN h : Int) → x ∈ L → x ∈ [8, 9, 12, 11, af, ho, bs] := by
    intro L hL x hx hz
    have := hL x hz
    simp only [List.mem_cons, List.not_mem_nil, or_false] at this ⊢
    omega
  refine (fol_loop1 d t2' sh2 af' ho' bs' rw na' nr en2 S S0 S1 sn2 X (fun s h' s0 s1 fr => ?_) _ _ 0 t2' (Nat.lt_succ_self _) (Int.le_refl _) Fr.rf (fun x x0 x1 => absurd x1 (by omega))).mono (fun r t q => ?_)
  · refine hSA s h' s0 s1 (sh2.fr fr (by decide +kernel) (by have := en2.2.2.2.2.2.1; simp; omega)) ?_
    refine (fq2.mono (A' := fun a => a ∈ [8, 9, 12, 11, af]) (fun x _ z => z.elim) (fun x z => z)).tr2 ((Fq.fr (A := fun a => a ∈ [8, 9, 12, 11, af']) fr (fun x z => z)).mono (fun x _ z => z) (by simp)) (fun x hx hz => ?_)
    simp only [List.mem_cons, List.not_mem_nil, or_false] at hz ⊢
    omega
  · obtain ⟨q1, q2, q3, q4, q5, q6⟩ := q
    refine ⟨q1, af', ho', bs', na', q2, sn2, q3, q4, q5, ?_, ac2.tr (aC.same q6.1 q6.2.1)⟩
    refine (fq2.mono (A' := fun a => a ∈ [8, 9, 12, 11, af, ho, bs]) (fun x _ z => z.elim) (fun x z => z)).tr2 ((Fq.fr (A := fun a => a ∈ [8, 9, 12, 11, af', ho', bs']) q6 (fun x z => z)).mono (fun x _ z => z) (by simp)) (fun x hx hz => ?_)
    exact hm _ (by simp) x hx hz

