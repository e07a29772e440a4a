theorem areAlike_in (d : Nat) (h : mH) (sh : Sh h) (hz : hF h 22 0 ≤ 10) (a b : Int) (ka : hK h a = 11) (la : hL h a = 100) (kb : hK h b = 11) (lb : hL h b = 100) (i : Int) (i0 : 0 ≤ i) (i1 : i < 10) (kq : ∀ u4 : mV, Wp m_X3_areAlike (d + 1) 2 [(2, 22), (2, a), (2, b), (0, i + 1), u4] [] h (fun r t => (∃ y, r = some (0, y) ∧ (y = 0 ∨ y = 1)) ∧ t = h)) : ∀ (m : Nat) (j : Int), (10 - j).toNat < m → (0 ≤ j) → Wp m_X3_areAlike (d + 1) 13 [(2, 22), (2, a), (2, b), (0, i), (0, j)] [] h (fun r t => (∃ y, r = some (0, y) ∧ (y = 0 ∨ y = 1)) ∧ t = h) := by
  intro m
  induction m with
  | zero => intro j hm; exact absurd hm (Nat.not_lt_zero _)
  | succ m ih =>
    intro j hm j0
    refine Wp.ild (j := 4) rfl dX3_areAlike_13 ?_
    refine Wp.ald_n (j := 0) rfl dX3_areAlike_15 ?_
    refine Wp.getf (k := 0) (tg := 0) kC3 (by decide) rfl lf_X3_9 dX3_areAlike_16 (sK22 (h := h) sh) (show hF _ 22 0 = hF h 22 0 from rfl) ?_
    refine Wp.icge dX3_areAlike_19 (by decide) (tgt := 50) (fun c19 => ?_) (fun c19 => ?_)
    · refine inc_5_3 rfl dX3_areAlike_50 (by first | exact w32_of (by omega) (by omega) | rfl) ?_
      refine Wp.goto (tgt := 2) dX3_areAlike_53 (by decide) ?_
      exact kq _
    · refine Wp.ald_n (j := 1) rfl dX3_areAlike_22 ?_
      refine Wp.ild_n (j := 3) rfl dX3_areAlike_23 ?_
      refine Wp.ild (j := 4) rfl dX3_areAlike_24 ?_
      refine Wp.callS1 (ct_place d _ _ _ (by omega) (by omega) (by omega) (by omega)) wc_X3_66 sM_X3_place dX3_areAlike_26 rfl (Nat.le_of_ble_eq_true rfl) rfl (Nat.le_of_ble_eq_true rfl) ?_
      refine Wp.laload dX3_areAlike_29 ka (by omega) (ilt la (by omega)) (show hA _ a _ = hA h a _ from rfl) ?_
      refine Wp.ald_n (j := 2) rfl dX3_areAlike_30 ?_
      refine Wp.ild_n (j := 3) rfl dX3_areAlike_31 ?_
      refine Wp.ild (j := 4) rfl dX3_areAlike_32 ?_
      refine Wp.callS1 (ct_place d _ _ _ (by omega) (by omega) (by omega) (by omega)) wc_X3_66 sM_X3_place dX3_areAlike_34 rfl (Nat.le_of_ble_eq_true rfl) rfl (Nat.le_of_ble_eq_true rfl) ?_
      refine Wp.laload dX3_areAlike_37 kb (by omega) (ilt lb (by omega)) (show hA _ b _ = hA h b _ from rfl) ?_
      refine Wp.lceq dX3_areAlike_38 dX3_areAlike_39 (by decide) (tgt := 44) (fun c38 => ?_) (fun c38 => ?_)
      · refine inc_5_4 rfl dX3_areAlike_44 (by first | exact w32_of (by omega) (by omega) | rfl) ?_
        refine Wp.goto (tgt := 13) dX3_areAlike_47 (by decide) ?_
        exact ih (j + 1) (by omega) (by omega)
      · refine Wp.iconst dX3_areAlike_42 (by decide) ?_
        refine Wp.zret rfl dX3_areAlike_43 (by omega) ?_
        exact ⟨⟨_, rfl, Or.inl rfl⟩, rfl⟩

theorem areAlike_out (d : Nat) (h : mH) (sh : Sh h) (hz : hF h 22 0 ≤ 10) (a b : Int) (ka : hK h a = 11) (la : hL h a = 100) (kb : hK h b = 11) (lb : hL h b = 100) : ∀ (m : Nat) (i : Int) (u4 : mV), (10 - i).toNat < m → (0 ≤ i) → Wp m_X3_areAlike (d + 1) 2 [(2, 22), (2, a), (2, b), (0, i), u4] [] h (fun r t => (∃ y, r = some (0, y) ∧ (y = 0 ∨ y = 1)) ∧ t = h) := by
  intro m
  induction m with
  | zero => intro i u4 hm; exact absurd hm (Nat.not_lt_zero _)
  | succ m ih =>
    intro i u4 hm i0
    refine Wp.ild_n (j := 3) rfl dX3_areAlike_2 ?_
    refine Wp.ald_n (j := 0) rfl dX3_areAlike_3 ?_
    refine Wp.getf (k := 0) (tg := 0) kC3 (by decide) rfl lf_X3_9 dX3_areAlike_4 (sK22 (h := h) sh) (show hF _ 22 0 = hF h 22 0 from rfl) ?_
    refine Wp.icge dX3_areAlike_7 (by decide) (tgt := 56) (fun c7 => ?_) (fun c7 => ?_)
    · refine Wp.iconst dX3_areAlike_56 (by decide) ?_
      refine Wp.zret rfl dX3_areAlike_57 (by omega) ?_
      exact ⟨⟨_, rfl, Or.inr rfl⟩, rfl⟩
    · refine Wp.iconst dX3_areAlike_10 (by decide) ?_
      refine sti_5_4 rfl (dSt_w dX3_areAlike_11) ?_
      exact areAlike_in d h sh hz a b ka la kb lb i i0 (by omega) (fun u => ih (i + 1) u (by omega) (by omega)) _ 0 (Nat.lt_succ_self _) (Int.le_refl _)

theorem cq_areAlike (d : Nat) (h : mH) (sh : Sh h) (hz : hF h 22 0 ≤ 10) (a b : Int) (ka : hK h a = 11) (la : hL h a = 100) (kb : hK h b = 11) (lb : hL h b = 100) : Cq m_X3_areAlike (d + 1) [(2, 22), (2, a), (2, b)] h (fun r t => (∃ y, r = some (0, y) ∧ (y = 0 ∨ y = 1)) ∧ t = h) := by
  refine Cq.of ?_
  show Wp m_X3_areAlike ((d + 1)) 0 [(2, 22), (2, a), (2, b), (9, 0), (9, 0)] [] h _
  refine Wp.iconst dX3_areAlike_0 (by decide) ?_
  refine sti_5_3 rfl (dSt_n dX3_areAlike_1) ?_
  exact areAlike_out d h sh hz a b ka la kb lb _ 0 _ (Nat.lt_succ_self _) (Int.le_refl _)

theorem leastNext_loop (d : Nat) (h : mH) (sh : Sh h) (hz : hF h 22 0 ≤ 10) (p n : Int) (p0 : 0 ≤ p) (p1 : p < 10) (n0 : 0 ≤ n) (n1 : n < 10) : ∀ (m : Nat) (i : Int) (u4 u5 : mV), (10 - i).toNat < m → (0 ≤ i) → Wp m_X3_leastNext (d + 1) 2 [(2, 22), (0, p), (0, n), (0, i), u4, u5] [] h (fun r t => (∃ y, r = some (0, y) ∧ (y = -1 ∨ (0 ≤ y ∧ y < 10))) ∧ t = h) := by
  intro m
  induction m with
  | zero => intro i u4 u5 hm; exact absurd hm (Nat.not_lt_zero _)
  | succ m ih =>
    intro i u4 u5 hm i0
    refine Wp.ild_n (j := 3) rfl dX3_leastNext_2 ?_
    refine Wp.ald_n (j := 0) rfl dX3_leastNext_3 ?_
    refine Wp.getf (k := 0) (tg := 0) kC3 (by decide) rfl lf_X3_9 dX3_leastNext_4 (sK22 (h := h) sh) (show hF _ 22 0 = hF h 22 0 from rfl) ?_
    refine Wp.icge dX3_leastNext_7 (by decide) (tgt := 70) (fun c7 => ?_) (fun c7 => ?_)
    · refine Wp.iconst dX3_leastNext_70 (by decide) ?_
      refine Wp.iret rfl dX3_leastNext_71 ?_
      exact ⟨⟨_, rfl, Or.inl rfl⟩, rfl⟩
    · refine Wp.ald_n (j := 0) rfl dX3_leastNext_10 ?_
      refine Wp.getf (k := 4) (tg := 2) kC3 (by decide) rfl lf_X3_25 dX3_leastNext_11 (sK22 (h := h) sh) (sF22_4 (h := h) sh) ?_
      refine Wp.ild_n (j := 3) rfl dX3_leastNext_14 ?_
      refine Wp.ild_n (j := 1) rfl dX3_leastNext_15 ?_
      refine Wp.callS1 (ct_place d _ _ _ (by omega) (by omega) (by omega) (by omega)) wc_X3_66 sM_X3_place dX3_leastNext_16 rfl (Nat.le_of_ble_eq_true rfl) rfl (Nat.le_of_ble_eq_true rfl) ?_
      refine Wp.laload dX3_leastNext_19 (sK26 (h := h) sh) (by omega) (ilt (sL26 (h := h) sh) (by omega)) (show hA _ 26 _ = hA h 26 _ from rfl) ?_
      refine Wp.ald_n (j := 0) rfl dX3_leastNext_20 ?_
      refine Wp.getf (k := 7) (tg := 2) kC3 (by decide) rfl lf_X3_34 dX3_leastNext_21 (sK22 (h := h) sh) (sF22_7 (h := h) sh) ?_
      refine Wp.ild_n (j := 2) rfl dX3_leastNext_24 ?_
      refine Wp.ild_n (j := 3) rfl dX3_leastNext_25 ?_
      refine Wp.callS1 (ct_place d _ _ _ (by omega) (by omega) (by omega) (by omega)) wc_X3_66 sM_X3_place dX3_leastNext_26 rfl (Nat.le_of_ble_eq_true rfl) rfl (Nat.le_of_ble_eq_true rfl) ?_
      refine Wp.laload dX3_leastNext_29 (sK29 (h := h) sh) (by omega) (ilt (sL29 (h := h) sh) (by omega)) (show hA _ 29 _ = hA h 29 _ from rfl) ?_
      obtain ⟨_, tj, ctj, ⟨yj, rfl⟩, ej⟩ := cq_join d h (hA h 26 (i * 10 + p)) (hA h 29 (n * 10 + i))
      rw [ej] at ctj
      refine Wp.callS1 (ctj) wc_X3_78 sM_X3_join dX3_leastNext_30 rfl (Nat.le_of_ble_eq_true rfl) rfl (Nat.le_of_ble_eq_true rfl) ?_
      refine stl_6_4 rfl (dSt_w dX3_leastNext_33) ?_
      refine Wp.lld (j := 4) rfl dX3_leastNext_35 ?_
      refine Wp.ldc2 (z := -9223372036854775808) lk_X3_58 (by decide) dX3_leastNext_37 ?_
      refine Wp.lceq dX3_leastNext_40 dX3_leastNext_41 (by decide) (tgt := 64) (fun c40 => ?_) (fun c40 => ?_)
      · refine inc_6_3 rfl dX3_leastNext_64 (by first | exact w32_of (by omega) (by omega) | rfl) ?_
        refine Wp.goto (tgt := 2) dX3_leastNext_67 (by decide) ?_
        exact ih (i + 1) _ _ (by omega) (by omega)
      · refine Wp.lld (j := 4) rfl dX3_leastNext_44 ?_
        refine Wp.ald_n (j := 0) rfl dX3_leastNext_46 ?_
        refine Wp.getf (k := 7) (tg := 2) kC3 (by decide) rfl lf_X3_34 dX3_leastNext_47 (sK22 (h := h) sh) (sF22_7 (h := h) sh) ?_
        refine Wp.ild_n (j := 2) rfl dX3_leastNext_50 ?_
        refine Wp.iconst dX3_leastNext_51 (by decide) ?_
        refine Wp.iaddE dX3_leastNext_52 (by first | exact w32_of (by omega) (by omega) | rfl) ?_
        refine Wp.ild_n (j := 1) rfl dX3_leastNext_53 ?_
        refine Wp.callS1 (ct_place d _ _ _ (by omega) (by omega) (by omega) (by omega)) wc_X3_66 sM_X3_place dX3_leastNext_54 rfl (Nat.le_of_ble_eq_true rfl) rfl (Nat.le_of_ble_eq_true rfl) ?_
        refine Wp.laload dX3_leastNext_57 (sK29 (h := h) sh) (by omega) (ilt (sL29 (h := h) sh) (by omega)) (show hA _ 29 _ = hA h 29 _ from rfl) ?_
        refine Wp.lcne dX3_leastNext_58 dX3_leastNext_59 (by decide) (tgt := 64) (fun c58 => ?_) (fun c58 => ?_)
        · refine inc_6_3 rfl dX3_leastNext_64 (by first | exact w32_of (by omega) (by omega) | rfl) ?_
          refine Wp.goto (tgt := 2) dX3_leastNext_67 (by decide) ?_
          exact ih (i + 1) _ _ (by omega) (by omega)
        · refine Wp.ild_n (j := 3) rfl dX3_leastNext_62 ?_
          refine Wp.iret rfl dX3_leastNext_63 ?_
          exact ⟨⟨_, rfl, Or.inr (by omega)⟩, rfl⟩

theorem cq_leastNext (d : Nat) (h : mH) (sh : Sh h) (hz : hF h 22 0 ≤ 10) (p n : Int) (p0 : 0 ≤ p) (p1 : p < 10) (n0 : 0 ≤ n) (n1 : n < 10) : Cq m_X3_leastNext (d + 1) [(2, 22), (0, p), (0, n)] h (fun r t => (∃ y, r = some (0, y) ∧ (y = -1 ∨ (0 ≤ y ∧ y < 10))) ∧ t = h) := by
  refine Cq.of ?_
  show Wp m_X3_leastNext ((d + 1)) 0 [(2, 22), (0, p), (0, n), (9, 0), (9, 0), (9, 0)] [] h _
  refine Wp.iconst dX3_leastNext_0 (by decide) ?_
  refine sti_6_3 rfl (dSt_n dX3_leastNext_1) ?_
  exact leastNext_loop d h sh hz p n p0 p1 n0 n1 _ 0 _ _ (Nat.lt_succ_self _) (Int.le_refl _)

theorem writeRound_loop (d : Nat) (h : mH) (sh : Sh h) (hz : hF h 22 0 ≤ 10) (hc : hF h 22 11 ≤ 10) (a l : Int) (ka : hK h a = 10) (la : hL h a = l) (l0 : 0 ≤ l) (l1 : l ≤ 1000000) (p : Int) : ∀ (m : Nat) (q n : Int) (u5 : mV) (h' : mH), (n + 1).toNat < m → (-1 ≤ n) → (n < hF h 22 11) → (q = -1 ∨ (0 ≤ q ∧ q < 10)) → (Fr [a] [] h h') → Wp m_X3_writeRound (d + 2) 10 [(2, 22), (0, p), (2, a), (0, q), (0, n), u5] [] h' (fun r t => r = none ∧ Fr [a] [] h t) := by
  intro m
  induction m with
  | zero => intro q n u5 h' hm; exact absurd hm (Nat.not_lt_zero _)
  | succ m ih =>
    intro q n u5 h' hm n0 n1 qq fr
    have ha1 : a ≠ 1 := fun e => by
      rw [e, sK1 sh] at ka
      exact absurd ka (by decide)
    have sh' := sh.fr fr (by decide +kernel) (by simp; omega)
    have ka' : hK h' a = 10 := by rw [fr.2.2.1]; exact ka
    have la' : hL h' a = l := by rw [fr.2.2.2.1]; exact la
    have e0 : hF h' 22 0 = hF h 22 0 := fr.2.2.2.2.1 22 0 (by simp)
    have e11 : hF h' 22 11 = hF h 22 11 := fr.2.2.2.2.1 22 11 (by simp)
    refine Wp.ild (j := 4) rfl dX3_writeRound_10 ?_
    refine Wp.iflt dX3_writeRound_12 (by decide) (tgt := 57) (fun c12 => ?_) (fun c12 => ?_)
    · refine Wp.vret rfl dX3_writeRound_57 ?_
      exact ⟨rfl, fr⟩
    · refine Wp.ild_n (j := 3) rfl dX3_writeRound_15 ?_
      refine Wp.iconst dX3_writeRound_16 (by decide) ?_
      refine Wp.iceq dX3_writeRound_17 (by decide) (tgt := 57) (fun c17 => ?_) (fun c17 => ?_)
      · refine Wp.vret rfl dX3_writeRound_57 ?_
        exact ⟨rfl, fr⟩
      · refine Wp.ald_n (j := 0) rfl dX3_writeRound_20 ?_
        refine Wp.getf (k := 11) (tg := 0) kC3 (by decide) rfl lf_X3_49 dX3_writeRound_21 (sK22 (h := h') sh') e11 ?_
        refine Wp.iconst dX3_writeRound_24 (by decide) ?_
        refine Wp.isubE dX3_writeRound_25 (by first | exact w32_of (by omega) (by omega) | rfl) ?_
        refine Wp.ild (j := 4) rfl dX3_writeRound_26 ?_
        refine Wp.isubE dX3_writeRound_28 (by first | exact w32_of (by omega) (by omega) | rfl) ?_
        refine sti_6_5 rfl (dSt_w dX3_writeRound_29) ?_
        refine Wp.ild (j := 5) rfl dX3_writeRound_31 ?_
        refine Wp.ald_n (j := 2) rfl dX3_writeRound_33 ?_
        refine Wp.alen dX3_writeRound_34 (by decide) (by decide) ka' la' (by omega) ?_
        refine Wp.icge dX3_writeRound_35 (by decide) (tgt := 43) (fun c35 => ?_) (fun c35 => ?_)
        · refine Wp.ald_n (j := 0) rfl dX3_writeRound_43 ?_
          refine Wp.ild_n (j := 3) rfl dX3_writeRound_44 ?_
          refine Wp.ild (j := 4) rfl dX3_writeRound_45 ?_
          obtain ⟨_, t47, ct47, ⟨y47, rfl, hy47⟩, e47⟩ := cq_leastNext d h' sh' (by omega) q n (by omega) (by omega) (by omega) (by omega)
          rw [e47] at ct47
          refine Wp.callV1 (ct47) wc_X3_120 iM_X3_leastNext se_X3_leastNext kC3 (sK22 (h := h') sh') dX3_writeRound_47 rfl (Nat.le_of_ble_eq_true rfl) rfl (Nat.le_of_ble_eq_true rfl) ?_
          refine sti_6_3 rfl (dSt_n dX3_writeRound_50) ?_
          refine inc_6_4 rfl dX3_writeRound_51 (by first | exact w32_of (by omega) (by omega) | rfl) ?_
          refine Wp.goto (tgt := 10) dX3_writeRound_54 (by decide) ?_
          first
          | exact ih _ (n - 1) _ _ (by omega) (by omega) (by omega) hy47 fr
          | exact ih _ (n - 1) _ _ (by omega) (by omega) (by omega) hy47 (fr.tr (Fr.e (List.mem_singleton.mpr rfl)))
        · refine Wp.ald_n (j := 2) rfl dX3_writeRound_38 ?_
          refine Wp.ild (j := 5) rfl dX3_writeRound_39 ?_
          refine Wp.ild_n (j := 3) rfl dX3_writeRound_41 ?_
          refine Wp.iastore dX3_writeRound_42 ka' (by omega) (ilt la' (by omega)) ?_
          refine Wp.ald_n (j := 0) rfl dX3_writeRound_43 ?_
          refine Wp.ild_n (j := 3) rfl dX3_writeRound_44 ?_
          refine Wp.ild (j := 4) rfl dX3_writeRound_45 ?_
          obtain ⟨_, t47, ct47, ⟨y47, rfl, hy47⟩, e47⟩ := cq_leastNext d _ (show Sh (sE h' a (hF h 22 11 - 1 - n) q) from sh'.fr (Fr.e (A := [a]) (G := []) (by simp)) (by decide +kernel) (by simp; omega)) (show hF h' 22 0 ≤ 10 by omega) q n (by omega) (by omega) (by omega) (by omega)
          rw [e47] at ct47
          refine Wp.callV1 (ct47) wc_X3_120 iM_X3_leastNext se_X3_leastNext kC3 (sK22 (h := h') sh') dX3_writeRound_47 rfl (Nat.le_of_ble_eq_true rfl) rfl (Nat.le_of_ble_eq_true rfl) ?_
          refine sti_6_3 rfl (dSt_n dX3_writeRound_50) ?_
          refine inc_6_4 rfl dX3_writeRound_51 (by first | exact w32_of (by omega) (by omega) | rfl) ?_
          refine Wp.goto (tgt := 10) dX3_writeRound_54 (by decide) ?_
          first
          | exact ih _ (n - 1) _ _ (by omega) (by omega) (by omega) hy47 fr
          | exact ih _ (n - 1) _ _ (by omega) (by omega) (by omega) hy47 (fr.tr (Fr.e (List.mem_singleton.mpr rfl)))

theorem cq_writeRound (d : Nat) (h : mH) (sh : Sh h) (hz : hF h 22 0 ≤ 10) (hc0 : 0 ≤ hF h 22 11) (hc : hF h 22 11 ≤ 10) (a l : Int) (ka : hK h a = 10) (la : hL h a = l) (l0 : 0 ≤ l) (l1 : l ≤ 1000000) (p : Int) (p0 : 0 ≤ p) (p1 : p < 10) : Cq m_X3_writeRound (d + 2) [(2, 22), (0, p), (2, a)] h (fun r t => r = none ∧ Fr [a] [] h t) := by
  refine Cq.of ?_
  show Wp m_X3_writeRound ((d + 2)) 0 [(2, 22), (0, p), (2, a), (9, 0), (9, 0), (9, 0)] [] h _
  refine Wp.ild_n (j := 1) rfl dX3_writeRound_0 ?_
  refine sti_6_3 rfl (dSt_n dX3_writeRound_1) ?_
  refine Wp.ald_n (j := 0) rfl dX3_writeRound_2 ?_
  refine Wp.getf (k := 11) (tg := 0) kC3 (by decide) rfl lf_X3_49 dX3_writeRound_3 (sK22 (h := h) sh) (show hF _ 22 11 = hF h 22 11 from rfl) ?_
  refine Wp.iconst dX3_writeRound_6 (by decide) ?_
  refine Wp.isubE dX3_writeRound_7 (by first | exact w32_of (by omega) (by omega) | rfl) ?_
  refine sti_6_4 rfl (dSt_w dX3_writeRound_8) ?_
  exact writeRound_loop d h sh hz hc a l ka la l0 l1 p _ p _ _ h (Nat.lt_succ_self _) (by omega) (by omega) (Or.inr ⟨p0, p1⟩) Fr.rf

theorem fillBack_in (d : Nat) (h : mH) (sh : Sh h) (hz : hF h 22 0 ≤ 10) (p n j : Int) (n0 : 1 ≤ n) (n1 : n ≤ 10) (j0 : 0 ≤ j) (j1 : j < 10) (Q : Option mV → mH → Prop) (kq : ∀ (x : Int) (u6 : mV), Wp m_X3_fillBack (d + 2) 94 [(2, 22), (0, p), (0, n), (0, j), (1, x), (9, 0), u6] [] h Q) : ∀ (m : Nat) (i x : Int), (10 - i).toNat < m → (0 ≤ i) → Wp m_X3_fillBack (d + 2) 45 [(2, 22), (0, p), (0, n), (0, j), (1, x), (9, 0), (0, i)] [] h Q := by
  intro m
  induction m with
  | zero => intro i x hm; exact absurd hm (Nat.not_lt_zero _)
  | succ m ih =>
    intro i x hm i0
    refine Wp.ild (j := 6) rfl dX3_fillBack_45 ?_
    refine Wp.ald_n (j := 0) rfl dX3_fillBack_47 ?_
    refine Wp.getf (k := 0) (tg := 0) kC3 (by decide) rfl lf_X3_9 dX3_fillBack_48 (sK22 (h := h) sh) (show hF _ 22 0 = hF h 22 0 from rfl) ?_
    refine Wp.icge dX3_fillBack_51 (by decide) (tgt := 94) (fun c51 => ?_) (fun c51 => ?_)
    · exact kq _ _
    · refine Wp.lld (j := 4) rfl dX3_fillBack_54 ?_
      refine Wp.ald_n (j := 0) rfl dX3_fillBack_56 ?_
      refine Wp.getf (k := 4) (tg := 2) kC3 (by decide) rfl lf_X3_25 dX3_fillBack_57 (sK22 (h := h) sh) (sF22_4 (h := h) sh) ?_
      refine Wp.ild (j := 6) rfl dX3_fillBack_60 ?_
      refine Wp.ild_n (j := 3) rfl dX3_fillBack_62 ?_
      refine Wp.callS1 (ct_place (d + 1) _ _ _ (by omega) (by omega) (by omega) (by omega)) wc_X3_66 sM_X3_place dX3_fillBack_63 rfl (Nat.le_of_ble_eq_true rfl) rfl (Nat.le_of_ble_eq_true rfl) ?_
      refine Wp.laload dX3_fillBack_66 (sK26 (h := h) sh) (by omega) (ilt (sL26 (h := h) sh) (by omega)) (show hA _ 26 _ = hA h 26 _ from rfl) ?_
      refine Wp.ald_n (j := 0) rfl dX3_fillBack_67 ?_
      refine Wp.getf (k := 7) (tg := 2) kC3 (by decide) rfl lf_X3_34 dX3_fillBack_68 (sK22 (h := h) sh) (sF22_7 (h := h) sh) ?_
      refine Wp.ild_n (j := 2) rfl dX3_fillBack_71 ?_
      refine Wp.iconst dX3_fillBack_72 (by decide) ?_
      refine Wp.isubE dX3_fillBack_73 (by first | exact w32_of (by omega) (by omega) | rfl) ?_
      refine Wp.ild (j := 6) rfl dX3_fillBack_74 ?_
      refine Wp.callS1 (ct_place (d + 1) _ _ _ (by omega) (by omega) (by omega) (by omega)) wc_X3_66 sM_X3_place dX3_fillBack_76 rfl (Nat.le_of_ble_eq_true rfl) rfl (Nat.le_of_ble_eq_true rfl) ?_
      refine Wp.laload dX3_fillBack_79 (sK29 (h := h) sh) (by omega) (ilt (sL29 (h := h) sh) (by omega)) (show hA _ 29 _ = hA h 29 _ from rfl) ?_
      obtain ⟨_, tj, ctj, ⟨yj, rfl⟩, ej⟩ := cq_join (d + 1) h (hA h 26 (i * 10 + j)) (hA h 29 ((n - 1) * 10 + i))
      rw [ej] at ctj
      refine Wp.callS1 (ctj) wc_X3_78 sM_X3_join dX3_fillBack_80 rfl (Nat.le_of_ble_eq_true rfl) rfl (Nat.le_of_ble_eq_true rfl) ?_
      refine Wp.mlmax wm_X3_82 dX3_fillBack_83 (Nat.le_of_ble_eq_true rfl) ?_
      refine stl_7_4 rfl (dSt_w dX3_fillBack_86) ?_
      refine inc_7_6 rfl dX3_fillBack_88 (by first | exact w32_of (by omega) (by omega) | rfl) ?_
      refine Wp.goto (tgt := 45) dX3_fillBack_91 (by decide) ?_
      exact ih (i + 1) _ (by omega) (by omega)

theorem fillBack_tl (d : Nat) (h : mH) (sh : Sh h) (p n j : Int) (n0 : 1 ≤ n) (n1 : n ≤ 10) (j0 : 0 ≤ j) (j1 : j < 10) (x : Int) (u6 : mV) (Q : Option mV → mH → Prop) (kq : Wp m_X3_fillBack (d + 2) 29 [(2, 22), (0, p), (0, n), (0, j + 1), (1, x), (9, 0), u6] [] (sE h 29 (n * 10 + j) x) Q) : Wp m_X3_fillBack (d + 2) 94 [(2, 22), (0, p), (0, n), (0, j), (1, x), (9, 0), u6] [] h Q := by
  refine Wp.ald_n (j := 0) rfl dX3_fillBack_94 ?_
  refine Wp.getf (k := 7) (tg := 2) kC3 (by decide) rfl lf_X3_34 dX3_fillBack_95 (sK22 (h := h) sh) (sF22_7 (h := h) sh) ?_
  refine Wp.ild_n (j := 2) rfl dX3_fillBack_98 ?_
  refine Wp.ild_n (j := 3) rfl dX3_fillBack_99 ?_
  refine Wp.callS1 (ct_place (d + 1) _ _ _ (by omega) (by omega) (by omega) (by omega)) wc_X3_66 sM_X3_place dX3_fillBack_100 rfl (Nat.le_of_ble_eq_true rfl) rfl (Nat.le_of_ble_eq_true rfl) ?_
  refine Wp.lld (j := 4) rfl dX3_fillBack_103 ?_
  refine Wp.lastore dX3_fillBack_105 (sK29 (h := h) sh) (by omega) (ilt (sL29 (h := h) sh) (by omega)) ?_
  refine inc_7_3 rfl dX3_fillBack_106 (by first | exact w32_of (by omega) (by omega) | rfl) ?_
  refine Wp.goto (tgt := 29) dX3_fillBack_109 (by decide) ?_
  exact kq

theorem fillBack_mid (d : Nat) (h : mH) (sh : Sh h) (hz : hF h 22 0 ≤ 10) (p n : Int) (n0 : 1 ≤ n) (n1 : n ≤ 10) (Q : Option mV → mH → Prop) (kq : ∀ (u3 u4 u5 u6 : mV) (t : mH), Fr [29] [] h t → Wp m_X3_fillBack (d + 2) 19 [(2, 22), (0, p), (0, n + 1), u3, u4, u5, u6] [] t Q) : ∀ (m : Nat) (j : Int) (u4 u5 u6 : mV) (h' : mH), (10 - j).toNat < m → (0 ≤ j) → (Fr [29] [] h h') → Wp m_X3_fillBack (d + 2) 29 [(2, 22), (0, p), (0, n), (0, j), u4, u5, u6] [] h' Q := by
  intro m
  induction m with
  | zero => intro j u4 u5 u6 h' hm; exact absurd hm (Nat.not_lt_zero _)
  | succ m ih =>
    intro j u4 u5 u6 h' hm j0 fr
    have sh' := sh.fr fr (by decide +kernel) (by decide)
    have e0 : hF h' 22 0 = hF h 22 0 := fr.2.2.2.2.1 22 0 (by decide)
    have e11 : hF h' 22 11 = hF h 22 11 := fr.2.2.2.2.1 22 11 (by decide)
    refine Wp.ild_n (j := 3) rfl dX3_fillBack_29 ?_
    refine Wp.ald_n (j := 0) rfl dX3_fillBack_30 ?_
    refine Wp.getf (k := 0) (tg := 0) kC3 (by decide) rfl lf_X3_9 dX3_fillBack_31 (sK22 (h := h') sh') e0 ?_
    refine Wp.icge dX3_fillBack_34 (by decide) (tgt := 112) (fun c34 => ?_) (fun c34 => ?_)
    · refine inc_7_2 rfl dX3_fillBack_112 (by first | exact w32_of (by omega) (by omega) | rfl) ?_
      refine Wp.goto (tgt := 19) dX3_fillBack_115 (by decide) ?_
      exact kq _ _ _ _ _ fr
    · refine Wp.ldc2 (z := -9223372036854775808) lk_X3_58 (by decide) dX3_fillBack_37 ?_
      refine stl_7_4 rfl (dSt_w dX3_fillBack_40) ?_
      refine Wp.iconst dX3_fillBack_42 (by decide) ?_
      refine sti_7_6 rfl (dSt_w dX3_fillBack_43) ?_
      exact fillBack_in d h' sh' (by omega) p n j n0 n1 j0 (by omega) _ (fun x v6 => fillBack_tl d h' sh' p n j n0 n1 j0 (by omega) x v6 _ (ih (j + 1) _ _ _ _ (by omega) (by omega) (fr.tr (Fr.e (by decide))))) _ 0 _ (Nat.lt_succ_self _) (Int.le_refl _)

theorem fillBack_out (d : Nat) (h : mH) (sh : Sh h) (hz : hF h 22 0 ≤ 10) (hc : hF h 22 11 ≤ 10) (p : Int) : ∀ (m : Nat) (n : Int) (u3 u4 u5 u6 : mV) (h' : mH), (11 - n).toNat < m → (1 ≤ n) → (Fr [29] [] h h') → Wp m_X3_fillBack (d + 2) 19 [(2, 22), (0, p), (0, n), u3, u4, u5, u6] [] h' (fun r t => r = none ∧ Fr [29] [] h t) := by
  intro m
  induction m with
  | zero => intro n u3 u4 u5 u6 h' hm; exact absurd hm (Nat.not_lt_zero _)
  | succ m ih =>
    intro n u3 u4 u5 u6 h' hm n0 fr
    have sh' := sh.fr fr (by decide +kernel) (by decide)
    have e0 : hF h' 22 0 = hF h 22 0 := fr.2.2.2.2.1 22 0 (by decide)
    have e11 : hF h' 22 11 = hF h 22 11 := fr.2.2.2.2.1 22 11 (by decide)
    refine Wp.ild_n (j := 2) rfl dX3_fillBack_19 ?_
    refine Wp.ald_n (j := 0) rfl dX3_fillBack_20 ?_
    refine Wp.getf (k := 11) (tg := 0) kC3 (by decide) rfl lf_X3_49 dX3_fillBack_21 (sK22 (h := h') sh') e11 ?_
    refine Wp.icgt dX3_fillBack_24 (by decide) (tgt := 118) (fun c24 => ?_) (fun c24 => ?_)
    · refine Wp.vret rfl dX3_fillBack_118 ?_
      exact ⟨rfl, fr⟩
    · refine Wp.iconst dX3_fillBack_27 (by decide) ?_
      refine sti_7_3 rfl (dSt_n dX3_fillBack_28) ?_
      exact fillBack_mid d h' sh' (by omega) p n n0 (by omega) _ (fun v3 v4 v5 v6 t ft => ih (n + 1) _ _ _ _ t (by omega) (by omega) (fr.tr ft)) _ 0 _ _ _ h' (Nat.lt_succ_self _) (Int.le_refl _) Fr.rf

theorem cq_fillBack (d : Nat) (h : mH) (sh : Sh h) (hz : hF h 22 0 ≤ 10) (hc : hF h 22 11 ≤ 10) (p : Int) (p0 : 0 ≤ p) (p1 : p < 10) : Cq m_X3_fillBack (d + 2) [(2, 22), (0, p)] h (fun r t => r = none ∧ Fr [29] [] h t) := by
  refine Cq.of ?_
  show Wp m_X3_fillBack ((d + 2)) 0 [(2, 22), (0, p), (9, 0), (9, 0), (9, 0), (9, 0), (9, 0)] [] h _
  refine Wp.ald_n (j := 0) rfl dX3_fillBack_0 ?_
  refine Wp.getf (k := 7) (tg := 2) kC3 (by decide) rfl lf_X3_34 dX3_fillBack_1 (sK22 (h := h) sh) (sF22_7 (h := h) sh) ?_
  refine Wp.ldc2 (z := -9223372036854775808) lk_X3_58 (by decide) dX3_fillBack_4 ?_
  refine Wp.callS0 (ct_fillJ (d + 1) h 29 _ 110 (sK29 (h := h) sh) (sL29 (h := h) sh) (by decide) (by decide)) wc_X3_60 sM_J7_fill_d0a16 dX3_fillBack_7 rfl (Nat.le_of_ble_eq_true rfl) rfl (Nat.le_of_ble_eq_true rfl) ?_
  refine Wp.ald_n (j := 0) rfl dX3_fillBack_10 ?_
  refine Wp.getf (k := 7) (tg := 2) kC3 (by decide) rfl lf_X3_34 dX3_fillBack_11 (sK22 (h := h) sh) (sF22_7 (h := h) sh) ?_
  refine Wp.ild_n (j := 1) rfl dX3_fillBack_14 ?_
  refine Wp.lconst (z := 0) dX3_fillBack_15 (by decide) ?_
  refine Wp.lastore dX3_fillBack_16 (sK29 (h := h) sh) (by omega) (ilt (sL29 (h := h) sh) (by omega)) ?_
  refine Wp.iconst dX3_fillBack_17 (by decide) ?_
  refine sti_7_2 rfl (dSt_n dX3_fillBack_18) ?_
  have f16 : Fr [29] [] h (sE (sA h 29 (flF (hA h 29) 110 (-9223372036854775808))) 29 p 0) := (Fr.a (by decide)).tr (Fr.e (by decide))
  exact (fillBack_out d _ (sh.fr f16 (by decide +kernel) (by decide)) hz hc p _ 1 _ _ _ _ _ (Nat.lt_succ_self _) (by decide) Fr.rf).mono (fun r t q => ⟨q.1, f16.tr q.2⟩)

