theorem cq_isPace (d : Nat) (h : mH) (sh : Sh h) (v c : Int) (hv : v = gNO ∨ (-1000000000 ≤ v ∧ v ≤ 1000000000)) (hl : 1 ≤ hF h 41 37 ∧ hF h 41 37 ≤ 10) (ht : -10485760 ≤ hF h 41 36 ∧ hF h 41 36 ≤ 10485760) (hc : 0 ≤ c ∧ c ≤ 200) : Cq m_X6_isPace d [(2, 41), (1, v), (0, c)] h (fun r t => (∃ y, r = some (0, y) ∧ ((y = 1 ∧ v ≠ gNO ∧ v * hF h 41 37 = hF h 41 36 * c) ∨ (y = 0 ∧ ¬ (v ≠ gNO ∧ v * hF h 41 37 = hF h 41 36 * c)))) ∧ t = h) := by
  refine Cq.of ?_
  show Wp m_X6_isPace (d) 0 [(2, 41), (1, v), (9, 0), (0, c)] [] h _
  refine Wp.lld_n (j := 1) rfl dX6_isPace_0 ?_
  refine Wp.ldc2 (z := -9223372036854775808) lk_X6_115 (by decide) dX6_isPace_1 ?_
  refine Wp.lceq dX6_isPace_4 dX6_isPace_5 (by decide) (tgt := 29) (fun c4 => ?_) (fun c4 => ?_)
  · refine Wp.iconst dX6_isPace_29 (by decide) ?_
    refine Wp.zret rfl dX6_isPace_30 (by omega) ?_
    exact ⟨⟨_, rfl, Or.inr ⟨rfl, fun z => z.1 c4⟩⟩, rfl⟩
  · have hv := hv.resolve_left c4
    have hm1 := mul_ab (x := v) (y := hF h 41 37) (A := 1000000000) (B := 10) hv.1 hv.2 (by omega) hl.2
    have hm2 := mul_ab (x := hF h 41 36) (y := c) (A := 10485760) (B := 200) ht.1 ht.2 hc.1 hc.2
    refine Wp.lld_n (j := 1) rfl dX6_isPace_8 ?_
    refine Wp.ald_n (j := 0) rfl dX6_isPace_9 ?_
    refine Wp.getf (k := 37) (tg := 1) kC6 (by decide) rfl lf_X6_258 dX6_isPace_10 (sK41 (h := h) sh) (show hF _ 41 37 = hF h 41 37 from rfl) ?_
    refine Wp.lmulE dX6_isPace_13 (by first | exact w64_of (by omega) (by omega) | rfl) ?_
    refine Wp.ald_n (j := 0) rfl dX6_isPace_14 ?_
    refine Wp.getf (k := 36) (tg := 1) kC6 (by decide) rfl lf_X6_262 dX6_isPace_15 (sK41 (h := h) sh) (show hF _ 41 36 = hF h 41 36 from rfl) ?_
    refine Wp.ild_n (j := 3) rfl dX6_isPace_18 ?_
    refine Wp.i2l dX6_isPace_19 ?_
    refine Wp.lmulE dX6_isPace_20 (by first | exact w64_of (by omega) (by omega) | rfl) ?_
    refine Wp.lcne dX6_isPace_21 dX6_isPace_22 (by decide) (tgt := 29) (fun c21 => ?_) (fun c21 => ?_)
    · refine Wp.iconst dX6_isPace_29 (by decide) ?_
      refine Wp.zret rfl dX6_isPace_30 (by omega) ?_
      exact ⟨⟨_, rfl, Or.inr ⟨rfl, fun z => c21 z.2⟩⟩, rfl⟩
    · refine Wp.iconst dX6_isPace_25 (by decide) ?_
      refine Wp.goto (tgt := 30) dX6_isPace_26 (by decide) ?_
      refine Wp.zret rfl dX6_isPace_30 (by omega) ?_
      exact ⟨⟨_, rfl, Or.inl ⟨rfl, c4, by omega⟩⟩, rfl⟩

theorem cq_goes (d : Nat) (h : mH) (sh : Sh h) (a b e m9 l : Int) (ha : 0 ≤ a ∧ a < 10) (hb : 0 ≤ b ∧ b < 10) (he : 0 ≤ e ∧ e < 10) (hm9 : 0 ≤ m9 ∧ m9 < 200) : Cq m_X6_goes d [(2, 41), (0, a), (0, b), (0, e), (0, m9), (1, l)] h (fun r t => (∃ y, r = some (0, y) ∧ ((y = 1 ∧ hA h 64 (10 * b + a) ≠ gNO ∧ hA h 68 (100 * m9 + 10 * e + b) ≠ gNO ∧ w64 (hA h 64 (10 * b + a) + hA h 68 (100 * m9 + 10 * e + b)) = l) ∨ (y = 0 ∧ ¬ (hA h 64 (10 * b + a) ≠ gNO ∧ hA h 68 (100 * m9 + 10 * e + b) ≠ gNO ∧ w64 (hA h 64 (10 * b + a) + hA h 68 (100 * m9 + 10 * e + b)) = l)))) ∧ t = h) := by
  refine Cq.of ?_
  show Wp m_X6_goes (d) 0 [(2, 41), (0, a), (0, b), (0, e), (0, m9), (1, l), (9, 0), (9, 0), (9, 0), (9, 0), (9, 0)] [] h _
  refine Wp.ald_n (j := 0) rfl dX6_goes_0 ?_
  refine Wp.getf (k := 31) (tg := 2) kC6 (by decide) rfl lf_X6_87 dX6_goes_1 (sK41 (h := h) sh) (sF41_31 (h := h) sh) ?_
  refine Wp.bipush dX6_goes_4 (by decide) ?_
  refine Wp.ild_n (j := 2) rfl dX6_goes_6 ?_
  refine Wp.imulE dX6_goes_7 (by first | exact w32_of (by omega) (by omega) | rfl) ?_
  refine Wp.ild_n (j := 1) rfl dX6_goes_8 ?_
  refine Wp.iaddE dX6_goes_9 (by first | exact w32_of (by omega) (by omega) | rfl) ?_
  refine Wp.laload dX6_goes_10 (sK64 (h := h) sh) (by omega) (ilt (sL64 (h := h) sh) (by omega)) (show hA _ 64 _ = hA h 64 _ from rfl) ?_
  refine stl_11_7 rfl (dSt_w dX6_goes_11) ?_
  refine Wp.ald_n (j := 0) rfl dX6_goes_13 ?_
  refine Wp.getf (k := 35) (tg := 2) kC6 (by decide) rfl lf_X6_99 dX6_goes_14 (sK41 (h := h) sh) (sF41_35 (h := h) sh) ?_
  refine Wp.bipush dX6_goes_17 (by decide) ?_
  refine Wp.ild (j := 4) rfl dX6_goes_19 ?_
  refine Wp.imulE dX6_goes_21 (by first | exact w32_of (by omega) (by omega) | rfl) ?_
  refine Wp.bipush dX6_goes_22 (by decide) ?_
  refine Wp.ild_n (j := 3) rfl dX6_goes_24 ?_
  refine Wp.imulE dX6_goes_25 (by first | exact w32_of (by omega) (by omega) | rfl) ?_
  refine Wp.iaddE dX6_goes_26 (by first | exact w32_of (by omega) (by omega) | rfl) ?_
  refine Wp.ild_n (j := 2) rfl dX6_goes_27 ?_
  refine Wp.iaddE dX6_goes_28 (by first | exact w32_of (by omega) (by omega) | rfl) ?_
  refine Wp.laload dX6_goes_29 (sK68 (h := h) sh) (by omega) (ilt (sL68 (h := h) sh) (by omega)) (show hA _ 68 _ = hA h 68 _ from rfl) ?_
  refine stl_11_9 rfl (dSt_w dX6_goes_30) ?_
  refine Wp.lld (j := 7) rfl dX6_goes_32 ?_
  refine Wp.ldc2 (z := -9223372036854775808) lk_X6_115 (by decide) dX6_goes_34 ?_
  refine Wp.lceq dX6_goes_37 dX6_goes_38 (by decide) (tgt := 65) (fun c37 => ?_) (fun c37 => ?_)
  · refine Wp.iconst dX6_goes_65 (by decide) ?_
    refine Wp.zret rfl dX6_goes_66 (by omega) ?_
    exact ⟨⟨_, rfl, Or.inr ⟨rfl, fun z => z.1 c37⟩⟩, rfl⟩
  · refine Wp.lld (j := 9) rfl dX6_goes_41 ?_
    refine Wp.ldc2 (z := -9223372036854775808) lk_X6_115 (by decide) dX6_goes_43 ?_
    refine Wp.lceq dX6_goes_46 dX6_goes_47 (by decide) (tgt := 65) (fun c46 => ?_) (fun c46 => ?_)
    · refine Wp.iconst dX6_goes_65 (by decide) ?_
      refine Wp.zret rfl dX6_goes_66 (by omega) ?_
      exact ⟨⟨_, rfl, Or.inr ⟨rfl, fun z => z.2.1 c46⟩⟩, rfl⟩
    · refine Wp.lld (j := 7) rfl dX6_goes_50 ?_
      refine Wp.lld (j := 9) rfl dX6_goes_52 ?_
      refine Wp.laddE dX6_goes_54 rfl ?_
      refine Wp.lld (j := 5) rfl dX6_goes_55 ?_
      refine Wp.lcne dX6_goes_57 dX6_goes_58 (by decide) (tgt := 65) (fun c57 => ?_) (fun c57 => ?_)
      · refine Wp.iconst dX6_goes_65 (by decide) ?_
        refine Wp.zret rfl dX6_goes_66 (by omega) ?_
        exact ⟨⟨_, rfl, Or.inr ⟨rfl, fun z => c57 z.2.2⟩⟩, rfl⟩
      · refine Wp.iconst dX6_goes_61 (by decide) ?_
        refine Wp.goto (tgt := 66) dX6_goes_62 (by decide) ?_
        refine Wp.zret rfl dX6_goes_66 (by omega) ?_
        exact ⟨⟨_, rfl, Or.inl ⟨rfl, c37, c46, by omega⟩⟩, rfl⟩

def isP (sp : Int → Int) (sz top low n i : Int) : Prop := vP sp sz n i ≠ gNO ∧ vP sp sz n i * low = top * n
theorem mcr1 (d : Nat) (h : mH) (sh : Sh h) (z1 : 0 ≤ hF h 41 30 ∧ hF h 41 30 ≤ 10) (hs : spK (hA h 64)) (pt : PT h h 0 (hF h 41 30)) (pq : PQ9 (hA h 64) (hF h 41 30) (hF h 41 36) (hF h 41 37)) (n : Int) (n0 : 1 ≤ n ∧ n ≤ hF h 41 30) (Q : Option mV → mH → Prop) (kq : ∀ (f i : Int), ((f = 0 ∧ ∀ i', 0 ≤ i' → i' < hF h 41 30 → ¬ isP (hA h 64) (hF h 41 30) (hF h 41 36) (hF h 41 37) n i') ∨ (f = 1 ∧ ∃ i', 0 ≤ i' ∧ i' < hF h 41 30 ∧ isP (hA h 64) (hF h 41 30) (hF h 41 36) (hF h 41 37) n i')) → Wp m_X6_critical (d + 4) 75 [(2, 41), (0, n), (0, f), (0, i), (9, 0), (9, 0), (9, 0), (9, 0), (9, 0)] [] h Q) : ∀ (m : Nat) (i f : Int), (hF h 41 30 - i).toNat < m → (0 ≤ i) → ((f = 0 ∧ ∀ i', 0 ≤ i' → i' < i → ¬ isP (hA h 64) (hF h 41 30) (hF h 41 36) (hF h 41 37) n i') ∨ (f = 1 ∧ ∃ i', 0 ≤ i' ∧ i' < hF h 41 30 ∧ isP (hA h 64) (hF h 41 30) (hF h 41 36) (hF h 41 37) n i')) → Wp m_X6_critical (d + 4) 37 [(2, 41), (0, n), (0, f), (0, i), (9, 0), (9, 0), (9, 0), (9, 0), (9, 0)] [] h Q := by
  intro m
  induction m with
  | zero => intro i f hm; exact absurd hm (Nat.not_lt_zero _)
  | succ m ih =>
    intro i f hm i0 hf
    refine Wp.ild_n (j := 3) rfl dX6_critical_37 ?_
    refine Wp.ald_n (j := 0) rfl dX6_critical_38 ?_
    refine Wp.getf (k := 30) (tg := 0) kC6 (by decide) rfl lf_X6_230 dX6_critical_39 (sK41 (h := h) sh) (show hF _ 41 30 = hF h 41 30 from rfl) ?_
    refine Wp.icge dX6_critical_42 (by decide) (tgt := 75) (fun c42 => ?_) (fun c42 => ?_)
    · refine kq _ _ ?_
      rcases hf with ⟨f1, f2⟩ | z
      · exact Or.inl ⟨f1, fun i' a b => f2 i' a (by omega)⟩
      · exact Or.inr z
    · refine Wp.ild_n (j := 2) rfl dX6_critical_45 ?_
      refine Wp.ifne dX6_critical_46 (by decide) (tgt := 75) (fun c46 => ?_) (fun c46 => ?_)
      · refine kq _ _ ?_
        rcases hf with ⟨f1, f2⟩ | z
        · omega
        · exact Or.inr z
      · have hv := vP_bd (n := n) (i := i) hs z1.2 n0.2 i0 (by omega)
        have hrd : hA h 68 (100 * n + 11 * i) = vP (hA h 64) (hF h 41 30) n i := by
          have := pt n.toNat i i (by omega) i0 (by omega) i0 (by omega)
          rw [show (100 * n + 11 * i) = 100 * ((n.toNat : Nat) : Int) + 10 * i + i by omega]
          exact this
        refine Wp.ald_n (j := 0) rfl dX6_critical_49 ?_
        refine Wp.ald_n (j := 0) rfl dX6_critical_50 ?_
        refine Wp.getf (k := 35) (tg := 2) kC6 (by decide) rfl lf_X6_99 dX6_critical_51 (sK41 (h := h) sh) (sF41_35 (h := h) sh) ?_
        refine Wp.bipush dX6_critical_54 (by decide) ?_
        refine Wp.ild_n (j := 1) rfl dX6_critical_56 ?_
        refine Wp.imulE dX6_critical_57 (by first | exact w32_of (by omega) (by omega) | rfl) ?_
        refine Wp.bipush dX6_critical_58 (by decide) ?_
        refine Wp.ild_n (j := 3) rfl dX6_critical_60 ?_
        refine Wp.imulE dX6_critical_61 (by first | exact w32_of (by omega) (by omega) | rfl) ?_
        refine Wp.iaddE dX6_critical_62 (by first | exact w32_of (by omega) (by omega) | rfl) ?_
        refine Wp.laload dX6_critical_63 (sK68 (h := h) sh) (by omega) (ilt (sL68 (h := h) sh) (by omega)) hrd ?_
        refine Wp.ild_n (j := 1) rfl dX6_critical_64 ?_
        obtain ⟨_, t65, ct65, ⟨y65, rfl, hy65⟩, e65⟩ := cq_isPace (d + 3) h sh (vP (hA h 64) (hF h 41 30) n i) n (by rcases hv with z | z; exact Or.inl z; exact Or.inr (by omega)) pq.1 pq.2.1 (by omega)
        rw [e65] at ct65
        refine Wp.callV1 (ct65) wc_X6_271 iM_X6_isPace se_X6_isPace kC6 (sK41 (h := h) sh) dX6_critical_65 rfl (Nat.le_of_ble_eq_true rfl) rfl (Nat.le_of_ble_eq_true rfl) ?_
        refine sti_9_2 rfl (dSt_n dX6_critical_68) ?_
        refine inc_9_3 rfl dX6_critical_69 (by first | exact w32_of (by omega) (by omega) | rfl) ?_
        refine Wp.goto (tgt := 37) dX6_critical_72 (by decide) ?_
        refine ih (i + 1) _ (by omega) (by omega) ?_
        rcases hy65 with ⟨y1, y2⟩ | ⟨y1, y2⟩
        · exact Or.inr ⟨y1, i, i0, by omega, y2⟩
        · rcases hf with ⟨f1, f2⟩ | ⟨f1, -⟩
          · refine Or.inl ⟨y1, fun i' a b => ?_⟩
            by_cases e : i' = i
            · rw [e]
              exact y2
            · exact f2 i' a (by omega)
          · omega

theorem mcr2 (d : Nat) (h : mH) (sh : Sh h) (z1 : 0 ≤ hF h 41 30 ∧ hF h 41 30 ≤ 10) (hs : spK (hA h 64)) (pt : PT h h 0 (hF h 41 30)) (pq : PQ9 (hA h 64) (hF h 41 30) (hF h 41 36) (hF h 41 37)) (n0 i0 : Int) (h1 : 1 ≤ n0) (h2 : n0 ≤ hF h 41 30) (h3 : 0 ≤ i0) (h4 : i0 < hF h 41 30) (h5 : isP (hA h 64) (hF h 41 30) (hF h 41 36) (hF h 41 37) n0 i0) (Q : Option mV → mH → Prop) (kq : ∀ (c i : Int) (x3 : mV), 1 ≤ c → c ≤ hF h 41 30 → 0 ≤ i → i < hF h 41 30 → isP (hA h 64) (hF h 41 30) (hF h 41 36) (hF h 41 37) c i → Wp m_X6_critical (d + 4) 78 [(2, 41), (0, c), (0, 1), x3, (9, 0), (9, 0), (9, 0), (9, 0), (9, 0)] [] h Q) : ∀ (m : Nat) (n f : Int) (x3 : mV), (n0 + 1 - n - f).toNat < m → (0 ≤ n) → ((f = 0 ∧ n < n0) ∨ (f = 1 ∧ n ≤ n0 ∧ 1 ≤ n ∧ ∃ i', 0 ≤ i' ∧ i' < hF h 41 30 ∧ isP (hA h 64) (hF h 41 30) (hF h 41 36) (hF h 41 37) n i')) → Wp m_X6_critical (d + 4) 28 [(2, 41), (0, n), (0, f), x3, (9, 0), (9, 0), (9, 0), (9, 0), (9, 0)] [] h Q := by
  intro m
  induction m with
  | zero => intro n f x3 hm; exact absurd hm (Nat.not_lt_zero _)
  | succ m ih =>
    intro n f x3 hm a0 hf
    refine Wp.ild_n (j := 2) rfl dX6_critical_28 ?_
    refine Wp.ifne dX6_critical_29 (by decide) (tgt := 78) (fun c29 => ?_) (fun c29 => ?_)
    · rcases hf with z | ⟨z1', z2, z3, i, z4, z5, z6⟩
      · omega
      · rw [z1']
        exact kq n i _ z3 (by omega) z4 z5 z6
    · refine inc_9_1 rfl dX6_critical_32 (by first | exact w32_of (by omega) (by omega) | rfl) ?_
      refine Wp.iconst dX6_critical_35 (by decide) ?_
      refine sti_9_3 rfl (dSt_n dX6_critical_36) ?_
      have f0 : f = 0 ∧ n < n0 := by
        rcases hf with z | z
        · exact z
        · omega
      refine mcr1 d h sh z1 hs pt pq (n + 1) (by omega) Q (fun f2 i hf2 => ?_) _ 0 f (Nat.lt_succ_self _) (by omega) (Or.inl ⟨f0.1, fun i' a b => absurd b (by omega)⟩)
      refine Wp.goto (tgt := 28) dX6_critical_75 (by decide) ?_
      rcases hf2 with ⟨g1, g2⟩ | ⟨g1, g2⟩
      · have hne : n + 1 ≠ n0 := fun e => g2 i0 h3 h4 (by rw [e]; exact h5)
        exact ih (n + 1) f2 _ (by omega) (by omega) (Or.inl ⟨g1, by omega⟩)
      · refine ih (n + 1) f2 _ ?_ (by omega) (Or.inr ⟨g1, by omega, by omega, g2⟩)
        clear g2 hf
        omega

