theorem mfe95 (d : Nat) (h : mH) (sh : Sh h) (n s k : Int) (x4 x5 : mV) (n1 : n ≤ 20736) (k0 : 0 ≤ k) (k1 : k < n) (hn : ∀ j, 0 ≤ j → j < n → 0 ≤ hA h 58 j ∧ hA h 58 j < n) (hc : hA h 59 k < 0 → ∃ c : Nat, 1 ≤ c ∧ itn (hA h 58) c k = k) (Q : Option mV → mH → Prop) (kq : ∀ (l : Int) (x5 : mV), (0 ≤ hA h 59 k → l = hA h 59 k) → (hA h 59 k < 0 → ∃ u, l = itn (hA h 58) u k) → Wp m_X6_fillEnds (d + 2) 146 [(2, 41), (0, n), (0, s), (0, k), (0, l), x5] [] h Q) : Wp m_X6_fillEnds (d + 2) 95 [(2, 41), (0, n), (0, s), (0, k), x4, x5] [] h Q := by
  refine Wp.ald_n (j := 0) rfl dX6_fillEnds_95 ?_
  refine Wp.getf (k := 23) (tg := 2) kC6 (by decide) rfl lf_X6_72 dX6_fillEnds_96 (sK41 (h := h) sh) (sF41_23 (h := h) sh) ?_
  refine Wp.ild_n (j := 3) rfl dX6_fillEnds_99 ?_
  refine Wp.iaload dX6_fillEnds_100 (sK59 (h := h) sh) (by omega) (ilt (sL59 (h := h) sh) (by omega)) (show hA _ 59 _ = hA h 59 _ from rfl) ?_
  refine sti_6_4 rfl (dSt_w dX6_fillEnds_101) ?_
  refine Wp.ild (j := 4) rfl dX6_fillEnds_103 ?_
  refine Wp.ifge dX6_fillEnds_105 (by decide) (tgt := 146) (fun c105 => ?_) (fun c105 => ?_)
  · exact kq _ _ (fun _ => rfl) (fun z => absurd z (by omega))
  · refine Wp.ild_n (j := 3) rfl dX6_fillEnds_108 ?_
    refine sti_6_4 rfl (dSt_w dX6_fillEnds_109) ?_
    refine Wp.ald_n (j := 0) rfl dX6_fillEnds_111 ?_
    refine Wp.getf (k := 22) (tg := 2) kC6 (by decide) rfl lf_X6_69 dX6_fillEnds_112 (sK41 (h := h) sh) (sF41_22 (h := h) sh) ?_
    refine Wp.ild_n (j := 3) rfl dX6_fillEnds_115 ?_
    refine Wp.iaload dX6_fillEnds_116 (sK58 (h := h) sh) (by omega) (ilt (sL58 (h := h) sh) (by omega)) (show hA _ 58 _ = hA h 58 _ from rfl) ?_
    refine sti_6_5 rfl (dSt_w dX6_fillEnds_117) ?_
    obtain ⟨c, hc1, hc2⟩ := hc (by omega)
    exact mfe2 d h sh n s k n1 k0 k1 hn c hc2 Q (fun l j hl => kq l _ (fun z => absurd z (by omega)) (fun _ => hl)) _ 1 k (Nat.lt_succ_self _) hc1 ⟨0, rfl⟩

theorem mfe4 (d : Nat) (h : mH) (sh : Sh h) (n : Int) (n1 : n ≤ 20736) : ∀ (m : Nat) (s : Int) (x3 x4 x5 : mV) (h' : mH), (n - s).toNat < m → (0 ≤ s) → (Fr [59, 70] [] h h') → (∀ j, 0 ≤ j → j < n → 0 ≤ hA h' 58 j ∧ hA h' 58 j < n) → (EI n (hA h' 58) (hA h' 70) (hA h' 59)) → (∀ j, 0 ≤ j → j < n → j < s → hA h' 70 j ≠ 0) → Wp m_X6_fillEnds (d + 2) 60 [(2, 41), (0, n), (0, s), x3, x4, x5] [] h' (fun r t => r = none ∧ Fr [59, 70] [] h t ∧ EZ n (hA t 58) (hA t 59)) := by
  intro m
  induction m with
  | zero => intro s x3 x4 x5 h' hm; exact absurd hm (Nat.not_lt_zero _)
  | succ m ih =>
    intro s x3 x4 x5 h' hm s0 fr hn ei hs
    have sh' := sh.fr fr (by decide +kernel) (by decide)
    refine Wp.ild_n (j := 2) rfl dX6_fillEnds_60 ?_
    refine Wp.ild_n (j := 1) rfl dX6_fillEnds_61 ?_
    refine Wp.icge dX6_fillEnds_62 (by decide) (tgt := 186) (fun c62 => ?_) (fun c62 => ?_)
    · refine Wp.vret rfl dX6_fillEnds_186 ?_
      refine ⟨rfl, fr, fun j j0 j1 => ?_⟩
      have hx := ei j j0 j1
      have h1 := hx.1.mp (hs j j0 j1 (by omega))
      exact ⟨h1, hx.2 h1⟩
    · refine Wp.ild_n (j := 2) rfl dX6_fillEnds_65 ?_
      refine sti_6_3 rfl (dSt_n dX6_fillEnds_66) ?_
      refine mfe1 d h' sh' n s n1 s0 (by omega) hn _ _ _ (fun t m9 frt wct hkt => ?_) _ 0 h' (Nat.lt_succ_self _) Fr.rf ⟨fun j j0 j1 => ⟨Or.inl, fun z => z.elim id (fun ⟨i, hi, _⟩ => absurd hi (by omega))⟩, fun i hi => absurd hi (by omega), fun i i' _ hi => absurd hi (by omega)⟩
      have et58 : hA t 58 = hA h' 58 := frt.2.2.2.2.2 58 (by decide)
      have et59 : hA t 59 = hA h' 59 := frt.2.2.2.2.2 59 (by decide)
      have sht : Sh t := sh'.fr frt (by decide +kernel) (by decide)
      have km := itn_in hn s0 (by omega) m9
      have hpath : hA h' 59 (itn (hA h' 58) m9 s) < 0 → ∃ i, i < m9 ∧ itn (hA h' 58) i s = itn (hA h' 58) m9 s := fun z => by
        rcases (wct.1 _ km.1 km.2).mp hkt with y | y
        · have := (ei _ km.1 km.2).1.mp y
          omega
        · exact y
      refine mfe95 d t sht n s (itn (hA h' 58) m9 s) _ _ n1 km.1 km.2 (by rw [et58]; exact hn) (fun z => ?_) _ (fun l x5 l1 l2 => ?_)
      · rw [et59] at z
        obtain ⟨i0, hi0, ei0⟩ := hpath z
        refine ⟨m9 - i0, by omega, ?_⟩
        rw [et58]
        have hh : itn (hA h' 58) (m9 - i0) (itn (hA h' 58) i0 s) = itn (hA h' 58) m9 s := by rw [← itn_add, show m9 - i0 + i0 = m9 by omega]
        rw [ei0] at hh
        exact hh
      rw [et59] at l1 l2
      rw [et58] at l2
      have hl0 : 0 ≤ l := by
        by_cases z : 0 ≤ hA h' 59 (itn (hA h' 58) m9 s)
        · rw [l1 z]
          exact z
        · obtain ⟨u, hu⟩ := l2 (by omega)
          rw [hu]
          exact (itn_in hn km.1 km.2 u).1
      refine Wp.ild_n (j := 2) rfl dX6_fillEnds_146 ?_
      refine sti_6_5 rfl (dSt_w dX6_fillEnds_147) ?_
      refine mfe3 d t sht n s n1 s0 (by omega) (by rw [et58]; exact hn) _ l m9 hl0 (hA h' 70) ?_ (by rw [et58]; exact wct.2.2) ?_ _ (fun v j frv w1 w2 => ?_) _ 0 t (Nat.lt_succ_self _) Fr.rf (by omega) (fun i hi => absurd hi (by omega)) (fun q hq => rfl)
      · intro i hi
        rw [et58, et59]
        have hr := itn_in hn s0 (show s < n by omega) i
        have hz := wct.2.1 i hi
        by_cases z : hA h' 59 (itn (hA h' 58) i s) < 0
        · exact z
        · exact absurd hz ((ei _ hr.1 hr.2).1.mpr (by omega))
      · rw [et58, et59]
        by_cases z : hA h' 59 (itn (hA h' 58) m9 s) < 0
        · exact Or.inl (hpath z)
        · exact Or.inr (by omega)
      rw [et58] at w1 w2
      rw [et59] at w2
      have ev58 : hA v 58 = hA h' 58 := (frv.2.2.2.2.2 58 (by decide)).trans et58
      have ev70 : hA v 70 = hA t 70 := frv.2.2.2.2.2 70 (by decide)
      refine inc_6_2 rfl dX6_fillEnds_180 (w32_of (by omega) (by omega)) ?_
      refine Wp.goto (tgt := 60) dX6_fillEnds_183 (by decide) ?_
      refine ih (s + 1) _ _ _ v (by clear l1 l2 hpath; omega) (by clear l1 l2 hpath; omega) ((fr.tr (frt.mono (by decide) (by simp))).tr (frv.mono (by decide) (by simp))) (by rw [ev58]; exact hn) ?_ (fun j j0 j1 j2 => ?_)
      · rw [ev58, ev70]
        exact ei.step hn s0 (by omega) wct hkt l1 l2 w1 w2
      · rw [ev70]
        by_cases e : j = s
        · subst e
          by_cases z : m9 = 0
          · subst z
            exact hkt
          · exact (wct.1 j j0 j1).mpr (Or.inr ⟨0, by omega, rfl⟩)
        · exact (wct.1 j j0 j1).mpr (Or.inl (hs j j0 j1 (by omega)))

theorem mfe0 (d : Nat) (h : mH) (sh : Sh h) (mb : MB h) (n : Int) (en : n = hF h 41 5 ^ (hF h 41 6).toNat) (n1 : n ≤ 20736) (Q : Option mV → mH → Prop) (kq : ∀ (t : mH) (s : Int), Fr [50, 51, 52, 53, 54, 58, 59, 70] [] h t → (∀ j, 0 ≤ j → j < n → (0 ≤ hA t 58 j ∧ hA t 58 j < n) ∧ hA t 70 j = 0 ∧ hA t 59 j = -1) → Wp m_X6_fillEnds (d + 2) 58 [(2, 41), (0, n), (0, s), (9, 0), (9, 0), (9, 0)] [] t Q) : ∀ (m : Nat) (s : Int) (h' : mH), (n - s).toNat < m → (Fr [50, 51, 52, 53, 54, 58, 59, 70] [] h h') → (0 ≤ s) → (∀ j, 0 ≤ j → j < s → (0 ≤ hA h' 58 j ∧ hA h' 58 j < n) ∧ hA h' 70 j = 0 ∧ hA h' 59 j = -1) → Wp m_X6_fillEnds (d + 2) 2 [(2, 41), (0, n), (0, s), (9, 0), (9, 0), (9, 0)] [] h' Q := by
  intro m
  induction m with
  | zero => intro s h' hm; exact absurd hm (Nat.not_lt_zero _)
  | succ m ih =>
    intro s h' hm fr s0 hj
    have sh' := sh.fr fr (by decide +kernel) (by decide)
    have e5 : hF h' 41 5 = hF h 41 5 := fr.2.2.2.2.1 41 5 (by decide)
    have e6 : hF h' 41 6 = hF h 41 6 := fr.2.2.2.2.1 41 6 (by decide)
    refine Wp.ild_n (j := 2) rfl dX6_fillEnds_2 ?_
    refine Wp.ild_n (j := 1) rfl dX6_fillEnds_3 ?_
    refine Wp.icge dX6_fillEnds_4 (by decide) (tgt := 58) (fun c4 => ?_) (fun c4 => ?_)
    · exact kq _ _ fr (fun j j0 j1 => hj j j0 (by omega))
    · refine Wp.ald_n (j := 0) rfl dX6_fillEnds_7 ?_
      refine Wp.ild_n (j := 2) rfl dX6_fillEnds_8 ?_
      refine Wp.ald_n (j := 0) rfl dX6_fillEnds_9 ?_
      refine Wp.getf (k := 18) (tg := 2) kC6 (by decide) rfl lf_X6_57 dX6_fillEnds_10 (sK41 (h := h') sh') (sF41_18 (h := h') sh') ?_
      have mb' : MB h' := mb.fr fr (by decide) (by decide) (by decide) (by decide) (by decide)
      obtain ⟨_, t13, ct13, rfl, f13, r13⟩ := cq_stateTo (d + 1) h' sh' mb' 54 (sK54 sh') (sL54 sh') (by decide) s s0 (by omega)
      have sh13 : Sh t13 := sh'.fr f13 (by decide +kernel) (by decide)
      have mb13 : MB t13 := mb'.fr f13 (by decide) (by decide) (by decide) (by decide) (by decide)
      have g5 : hF t13 41 5 = hF h' 41 5 := f13.2.2.2.2.1 41 5 (by decide)
      have g6 : hF t13 41 6 = hF h' 41 6 := f13.2.2.2.2.1 41 6 (by decide)
      refine Wp.callV0 (ct13) wc_X6_208 iM_X6_stateTo se_X6_stateTo kC6 (sK41 (h := h') sh') dX6_fillEnds_13 rfl (Nat.le_of_ble_eq_true rfl) rfl (Nat.le_of_ble_eq_true rfl) ?_
      refine Wp.ald_n (j := 0) rfl dX6_fillEnds_16 ?_
      refine Wp.ald_n (j := 0) rfl dX6_fillEnds_17 ?_
      refine Wp.getf (k := 18) (tg := 2) kC6 (by decide) rfl lf_X6_57 dX6_fillEnds_18 (sK41 (h := t13) sh13) (sF41_18 (h := t13) sh13) ?_
      obtain ⟨_, t21, ct21, rfl, f21, r21⟩ := cq_mtick d t13 sh13 mb13 54 (sK54 sh13) (sL54 sh13) (by decide) (by rw [g5, g6]; exact r13)
      have sh21 : Sh t21 := sh13.fr f21 (by decide +kernel) (by decide)
      have mb21 : MB t21 := mb13.fr f21 (by decide) (by decide) (by decide) (by decide) (by decide)
      have q5 : hF t21 41 5 = hF t13 41 5 := f21.2.2.2.2.1 41 5 (by decide)
      have q6 : hF t21 41 6 = hF t13 41 6 := f21.2.2.2.2.1 41 6 (by decide)
      refine Wp.callV0 (ct21) wc_X6_166 iM_X6_tick se_X6_tick kC6 (sK41 (h := t13) sh13) dX6_fillEnds_21 rfl (Nat.le_of_ble_eq_true rfl) rfl (Nat.le_of_ble_eq_true rfl) ?_
      refine Wp.ald_n (j := 0) rfl dX6_fillEnds_24 ?_
      refine Wp.getf (k := 22) (tg := 2) kC6 (by decide) rfl lf_X6_69 dX6_fillEnds_25 (sK41 (h := t21) sh21) (sF41_22 (h := t21) sh21) ?_
      refine Wp.ild_n (j := 2) rfl dX6_fillEnds_28 ?_
      refine Wp.ald_n (j := 0) rfl dX6_fillEnds_29 ?_
      refine Wp.ald_n (j := 0) rfl dX6_fillEnds_30 ?_
      refine Wp.getf (k := 18) (tg := 2) kC6 (by decide) rfl lf_X6_57 dX6_fillEnds_31 (sK41 (h := t21) sh21) (sF41_18 (h := t21) sh21) ?_
      obtain ⟨_, t34, ct34, ⟨y34, rfl, hy34⟩, e34⟩ := cq_numberOf (d + 1) t21 sh21 mb21 54 (sK54 sh21) (sL54 sh21) (by rw [q5, q6]; exact fun j j0 j1 => (r21 j j0 j1).2) (by rw [q5, q6, g5, g6, e5, e6, ← en]; exact n1)
      rw [e34] at ct34
      rw [q5, q6, g5, g6, e5, e6] at hy34
      refine Wp.callV1 (ct34) wc_X6_212 iM_X6_numberOf se_X6_numberOf kC6 (sK41 (h := t21) sh21) dX6_fillEnds_34 rfl (Nat.le_of_ble_eq_true rfl) rfl (Nat.le_of_ble_eq_true rfl) ?_
      refine Wp.iastore dX6_fillEnds_37 (sK58 (h := t21) sh21) (by omega) (ilt (sL58 (h := t21) sh21) (by omega)) ?_
      refine Wp.ald_n (j := 0) rfl dX6_fillEnds_38 ?_
      refine Wp.getf (k := 42) (tg := 2) kC6 (by decide) rfl lf_X6_106 dX6_fillEnds_39 (sK41 (h := t21) sh21) (sF41_42 (h := t21) sh21) ?_
      refine Wp.ild_n (j := 2) rfl dX6_fillEnds_42 ?_
      refine Wp.iconst dX6_fillEnds_43 (by decide) ?_
      refine Wp.iastore dX6_fillEnds_44 (sK70 (h := t21) sh21) (by omega) (ilt (sL70 (h := t21) sh21) (by omega)) ?_
      refine Wp.ald_n (j := 0) rfl dX6_fillEnds_45 ?_
      refine Wp.getf (k := 23) (tg := 2) kC6 (by decide) rfl lf_X6_72 dX6_fillEnds_46 (sK41 (h := t21) sh21) (sF41_23 (h := t21) sh21) ?_
      refine Wp.ild_n (j := 2) rfl dX6_fillEnds_49 ?_
      refine Wp.iconst dX6_fillEnds_50 (by decide) ?_
      refine Wp.iastore dX6_fillEnds_51 (sK59 (h := t21) sh21) (by omega) (ilt (sL59 (h := t21) sh21) (by omega)) ?_
      refine inc_6_2 rfl dX6_fillEnds_52 (by first | exact w32_of (by omega) (by omega) | rfl) ?_
      refine Wp.goto (tgt := 2) dX6_fillEnds_55 (by decide) ?_
      refine ih (s + 1) _ (by omega) ((fr.tr (f13.mono (by decide) (by simp))).tr ((f21.mono (by decide) (by simp)).tr ((Fr.e (by decide)).tr ((Fr.e (by decide)).tr (Fr.e (by decide)))))) (by omega) (fun j j0 j1 => ?_)
      show (0 ≤ u1 (hA t21 58) s y34 j ∧ u1 (hA t21 58) s y34 j < n) ∧ u1 (hA t21 70) s 0 j = 0 ∧ u1 (hA t21 59) s (-1) j = -1
      by_cases e : j = s
      · rw [e, u1_s, u1_s, u1_s]
        exact ⟨⟨hy34.1, by rw [en]; exact hy34.2⟩, rfl, rfl⟩
      · rw [u1_n _ _ e, u1_n _ _ e, u1_n _ _ e, f21.2.2.2.2.2 58 (by decide), f21.2.2.2.2.2 59 (by decide), f21.2.2.2.2.2 70 (by decide), f13.2.2.2.2.2 58 (by decide), f13.2.2.2.2.2 59 (by decide), f13.2.2.2.2.2 70 (by decide)]
        exact hj j j0 (by omega)

theorem cq_fillEnds (d : Nat) (h : mH) (sh : Sh h) (mb : MB h) (n : Int) (en : n = hF h 41 5 ^ (hF h 41 6).toNat) (n1 : n ≤ 20736) : Cq m_X6_fillEnds (d + 2) [(2, 41), (0, n)] h (fun r t => r = none ∧ Fr [50, 51, 52, 53, 54, 58, 59, 70] [] h t ∧ (∀ j, 0 ≤ j → j < n → 0 ≤ hA t 58 j ∧ hA t 58 j < n) ∧ EZ n (hA t 58) (hA t 59)) := by
  refine Cq.of ?_
  show Wp m_X6_fillEnds ((d + 2)) 0 [(2, 41), (0, n), (9, 0), (9, 0), (9, 0), (9, 0)] [] h _
  refine Wp.iconst dX6_fillEnds_0 (by decide) ?_
  refine sti_6_2 rfl (dSt_n dX6_fillEnds_1) ?_
  refine mfe0 d h sh mb n en n1 _ (fun t s frt ht => ?_) _ 0 h (Nat.lt_succ_self _) Fr.rf (by omega) (fun j j0 j1 => absurd j1 (by omega))
  refine Wp.iconst dX6_fillEnds_58 (by decide) ?_
  refine sti_6_2 rfl (dSt_n dX6_fillEnds_59) ?_
  refine (mfe4 d t (sh.fr frt (by decide +kernel) (by decide)) n n1 _ 0 _ _ _ t (Nat.lt_succ_self _) (by omega) Fr.rf (fun j j0 j1 => (ht j j0 j1).1) (fun j j0 j1 => ?_) (fun j j0 j1 j2 => absurd j2 (by omega))).mono (fun r v q => ?_)
  · rw [(ht j j0 j1).2.1, (ht j j0 j1).2.2]
    exact ⟨⟨fun z => absurd rfl z, fun z => absurd z (by decide)⟩, fun z => absurd z (by decide)⟩
  · obtain ⟨hr, frv, ez⟩ := q
    refine ⟨hr, frt.tr (frv.mono (by decide) (by simp)), fun j j0 j1 => ?_, ez⟩
    rw [frv.2.2.2.2.2 58 (by decide)]
    exact (ht j j0 j1).1

