/-! ===== pace ===== -/
def vP (sp : Int → Int) (sz n i : Int) : Int := mPw sp sz 0 n.toNat i i
theorem vP_bd {sp : Int → Int} {sz n i : Int} (hs : spK sp) (z1 : sz ≤ 10) (n1 : n ≤ sz) (i0 : 0 ≤ i) (i1 : i < sz) : vP sp sz n i = gNO ∨ (-10485760 ≤ vP sp sz n i ∧ vP sp sz n i ≤ 10485760) := by
  have h := mPw_bd hs (Int.le_refl 0) z1 n.toNat i i (by omega) i0 (by omega)
  unfold vP
  rcases h with h | h
  · exact Or.inl h
  · exact Or.inr (by omega)
def sn9 (sz n i n' i' : Int) : Prop := (1 ≤ n' ∧ n' ≤ sz ∧ 0 ≤ i' ∧ i' < sz) ∧ (n' < n ∨ (n' = n ∧ i' < i))
def PI9 (sp : Int → Int) (sz n i top low : Int) : Prop := (low = 0 ∧ ∀ n' i', sn9 sz n i n' i' → vP sp sz n' i' = gNO) ∨ ((1 ≤ low ∧ low ≤ sz) ∧ (∃ i0, 0 ≤ i0 ∧ i0 < sz ∧ vP sp sz low i0 = top ∧ top ≠ gNO) ∧ ∀ n' i', sn9 sz n i n' i' → vP sp sz n' i' = gNO ∨ vP sp sz n' i' * low ≤ top * n')
def PQ9 (sp : Int → Int) (sz top low : Int) : Prop := (1 ≤ low ∧ low ≤ 10) ∧ (-10485760 ≤ top ∧ top ≤ 10485760) ∧ (∃ n0 i0, 1 ≤ n0 ∧ n0 ≤ sz ∧ 0 ≤ i0 ∧ i0 < sz ∧ vP sp sz n0 i0 ≠ gNO ∧ vP sp sz n0 i0 * low = top * n0) ∧ ∀ n' i', 1 ≤ n' → n' ≤ sz → 0 ≤ i' → i' < sz → vP sp sz n' i' = gNO ∨ vP sp sz n' i' * low ≤ top * n'
theorem mul_ab {x y A B : Int} (h1 : -A ≤ x) (h2 : x ≤ A) (h3 : 0 ≤ y) (h4 : y ≤ B) : -(A * B) ≤ x * y ∧ x * y ≤ A * B := by
  have hA : 0 ≤ A := by omega
  have a1 : x * y ≤ A * y := Int.mul_le_mul_of_nonneg_right h2 h3
  have a2 : A * y ≤ A * B := Int.mul_le_mul_of_nonneg_left h4 hA
  have a3 : -A * y ≤ x * y := Int.mul_le_mul_of_nonneg_right h1 h3
  rw [Int.neg_mul] at a3
  omega
theorem PI9.next {sp : Int → Int} {sz n i top low : Int} (h : PI9 sp sz n i top low) (hv : vP sp sz n i = gNO ∨ (0 < low ∧ vP sp sz n i * low ≤ top * n)) : PI9 sp sz n (i + 1) top low := by
  have hs : ∀ n' i', sn9 sz n (i + 1) n' i' → sn9 sz n i n' i' ∨ (n' = n ∧ i' = i) := fun n' i' z => by
    obtain ⟨z1, z2⟩ := z
    by_cases e : n' = n ∧ i' = i
    · exact Or.inr e
    · exact Or.inl ⟨z1, by omega⟩
  rcases h with ⟨h1, h2⟩ | ⟨h1, h2, h3⟩
  · refine Or.inl ⟨h1, fun n' i' z => ?_⟩
    rcases hs n' i' z with y | ⟨e1, e2⟩
    · exact h2 n' i' y
    · rw [e1, e2]
      rcases hv with q | q
      · exact q
      · omega
  · refine Or.inr ⟨h1, h2, fun n' i' z => ?_⟩
    rcases hs n' i' z with y | ⟨e1, e2⟩
    · exact h3 n' i' y
    · rw [e1, e2]
      rcases hv with q | q
      · exact Or.inl q
      · exact Or.inr q.2
theorem PI9.take {sp : Int → Int} {sz n i top low : Int} (h : PI9 sp sz n i top low) (n0 : 1 ≤ n) (n1 : n ≤ sz) (i0 : 0 ≤ i) (i1 : i < sz) (hv : vP sp sz n i ≠ gNO) (hg : low ≤ 0 ∨ top * n < vP sp sz n i * low) : PI9 sp sz n (i + 1) (vP sp sz n i) n := by
  refine Or.inr ⟨⟨n0, n1⟩, ⟨i, i0, i1, rfl, hv⟩, fun n' i' z => ?_⟩
  obtain ⟨z1, z2⟩ := z
  by_cases e : n' = n ∧ i' = i
  · rw [e.1, e.2]
    exact Or.inr (Int.le_refl _)
  · have hz : sn9 sz n i n' i' := ⟨z1, by omega⟩
    rcases h with ⟨h1, h2⟩ | ⟨h1, h2, h3⟩
    · exact Or.inl (h2 n' i' hz)
    · rcases h3 n' i' hz with y | y
      · exact Or.inl y
      · refine Or.inr ?_
        have hg' : top * n < vP sp sz n i * low := by
          rcases hg with q | q
          · omega
          · exact q
        have a1 : vP sp sz n' i' * low * n ≤ top * n' * n := Int.mul_le_mul_of_nonneg_right y (by omega)
        have a2 : top * n * n' ≤ vP sp sz n i * low * n' := Int.mul_le_mul_of_nonneg_right (by omega) (by omega)
        have a3 : vP sp sz n' i' * n * low ≤ vP sp sz n i * n' * low := by
          rw [Int.mul_right_comm _ n low, Int.mul_right_comm _ n' low]
          rw [Int.mul_right_comm top n' n] at a1
          omega
        exact Int.le_of_mul_le_mul_right a3 (by omega)
theorem PI9.row {sp : Int → Int} {sz n top low : Int} {i : Int} (h : PI9 sp sz n i top low) (hi : sz ≤ i) : PI9 sp sz (n + 1) 0 top low := by
  have hs : ∀ n' i', sn9 sz (n + 1) 0 n' i' → sn9 sz n i n' i' := fun n' i' z => by
    obtain ⟨⟨a, b, c, d⟩, z2⟩ := z
    exact ⟨⟨a, b, c, d⟩, by omega⟩
  rcases h with ⟨h1, h2⟩ | ⟨h1, h2, h3⟩
  · exact Or.inl ⟨h1, fun n' i' z => h2 n' i' (hs n' i' z)⟩
  · exact Or.inr ⟨h1, h2, fun n' i' z => h3 n' i' (hs n' i' z)⟩
theorem PI9.done {sp : Int → Int} {sz n top low g : Int} (h : PI9 sp sz n 0 top low) (hs : spK sp) (z1 : sz ≤ 10) (hn : sz < n) (hl : low ≠ 0) (g0 : 1 ≤ g) (g1 : g ∣ top) (g2 : g ∣ low) : PQ9 sp sz (top.tdiv g) (low.tdiv g) := by
  rcases h with ⟨h1, -⟩ | ⟨h1, ⟨i0, i0a, i0b, ev, ht⟩, h3⟩
  · exact absurd h1 hl
  · have e1 : g * top.tdiv g = top := Int.mul_tdiv_cancel' g1
    have e2 : g * low.tdiv g = low := Int.mul_tdiv_cancel' g2
    have hb := (vP_bd (n := low) (i := i0) hs z1 h1.2 i0a i0b).resolve_left (by rw [ev]; exact ht)
    rw [ev] at hb
    have hla := tdn (a := low) (b := g) (by omega) (by omega)
    have hta := tdn_abs (a := top) (b := g) (M := 10485760) g0 hb.1 hb.2
    have hl1 : 1 ≤ low.tdiv g := by
      by_cases z : low.tdiv g = 0
      · rw [z, Int.mul_zero] at e2
        omega
      · omega
    refine ⟨⟨hl1, by omega⟩, hta, ⟨low, i0, h1.1, h1.2, i0a, i0b, by rw [ev]; exact ht, ?_⟩, fun n' i' a b c d => ?_⟩
    · rw [ev]
      have e3 : top * low.tdiv g = g * top.tdiv g * low.tdiv g := by rw [e1]
      have e4 : top.tdiv g * low = top.tdiv g * (g * low.tdiv g) := by rw [e2]
      rw [e3, e4, Int.mul_left_comm, Int.mul_assoc]
    · rcases h3 n' i' ⟨⟨a, b, c, d⟩, by omega⟩ with y | y
      · exact Or.inl y
      · refine Or.inr ?_
        have y2 : vP sp sz n' i' * (g * low.tdiv g) ≤ g * top.tdiv g * n' := by
          rw [e1, e2]
          exact y
        rw [Int.mul_left_comm, Int.mul_assoc] at y2
        exact Int.le_of_mul_le_mul_left y2 (by omega)
theorem mpa1 (d : Nat) (h : mH) (sh : Sh h) (z1 : hF h 41 30 ≤ 10) (hs : spK (hA h 64)) (pt : PT h h 0 (hF h 41 30)) (n : Int) (n0 : 1 ≤ n ∧ n ≤ hF h 41 30) (Q : Option mV → mH → Prop) (kq : ∀ (t : mH) (i top low : Int) (x3 x4 : mV), Fr [] [(41, 36), (41, 37)] h t → hF t 41 36 = top → hF t 41 37 = low → PI9 (hA h 64) (hF h 41 30) (n + 1) 0 top low → Wp m_X6_paces (d + 3) 103 [(2, 41), (0, n), (0, i), x3, x4] [] t Q) : ∀ (m : Nat) (i top low : Int) (x3 x4 : mV) (h' : mH), (hF h 41 30 - i).toNat < m → (0 ≤ i) → (Fr [] [(41, 36), (41, 37)] h h') → (hF h' 41 36 = top) → (hF h' 41 37 = low) → (PI9 (hA h 64) (hF h 41 30) n i top low) → Wp m_X6_paces (d + 3) 26 [(2, 41), (0, n), (0, i), x3, x4] [] h' Q := by
  intro m
  induction m with
  | zero => intro i top low x3 x4 h' hm; exact absurd hm (Nat.not_lt_zero _)
  | succ m ih =>
    intro i top low x3 x4 h' hm i0 fr et el pi
    have sh' := sh.fr fr (by decide +kernel) (by decide)
    have e30 : hF h' 41 30 = hF h 41 30 := fr.2.2.2.2.1 41 30 (by decide)
    have e68 : hA h' 68 = hA h 68 := fr.2.2.2.2.2 68 (by decide)
    have hlow : 0 ≤ low ∧ low ≤ 10 := by
      rcases pi with ⟨q, -⟩ | ⟨q, -⟩ <;> omega
    have htop : 1 ≤ low → -10485760 ≤ top ∧ top ≤ 10485760 := fun z => by
      rcases pi with ⟨q, -⟩ | ⟨q, ⟨i9, a, b, c, e⟩, -⟩
      · omega
      · rw [← c]
        exact (vP_bd hs z1 q.2 a b).resolve_left (by rw [c]; exact e)
    refine Wp.ild_n (j := 2) rfl dX6_paces_26 ?_
    refine Wp.ald_n (j := 0) rfl dX6_paces_27 ?_
    refine Wp.getf (k := 30) (tg := 0) kC6 (by decide) rfl lf_X6_230 dX6_paces_28 (sK41 (h := h') sh') e30 ?_
    refine Wp.icge dX6_paces_31 (by decide) (tgt := 103) (fun c31 => ?_) (fun c31 => ?_)
    · exact kq h' i top low _ _ fr et el (pi.row (by omega))
    · have hv := vP_bd (n := n) (i := i) hs z1 n0.2 i0 (by omega)
      have hrd : hA h' 68 (100 * n + 11 * i) = vP (hA h 64) (hF h 41 30) n i := by
        have := pt n.toNat i i (by omega) i0 (by omega) i0 (by omega)
        rw [e68, show (100 * n + 11 * i) = 100 * ((n.toNat : Nat) : Int) + 10 * i + i by omega]
        exact this
      refine Wp.ald_n (j := 0) rfl dX6_paces_34 ?_
      refine Wp.getf (k := 35) (tg := 2) kC6 (by decide) rfl lf_X6_99 dX6_paces_35 (sK41 (h := h') sh') (sF41_35 (h := h') sh') ?_
      refine Wp.bipush dX6_paces_38 (by decide) ?_
      refine Wp.ild_n (j := 1) rfl dX6_paces_40 ?_
      refine Wp.imulE dX6_paces_41 (by first | exact w32_of (by omega) (by omega) | rfl) ?_
      refine Wp.bipush dX6_paces_42 (by decide) ?_
      refine Wp.ild_n (j := 2) rfl dX6_paces_44 ?_
      refine Wp.imulE dX6_paces_45 (by first | exact w32_of (by omega) (by omega) | rfl) ?_
      refine Wp.iaddE dX6_paces_46 (by first | exact w32_of (by omega) (by omega) | rfl) ?_
      refine Wp.laload dX6_paces_47 (sK68 (h := h') sh') (by omega) (ilt (sL68 (h := h') sh') (by omega)) hrd ?_
      refine stl_5_3 rfl (dSt_n dX6_paces_48) ?_
      refine Wp.lld_n (j := 3) rfl dX6_paces_49 ?_
      refine Wp.ldc2 (z := -9223372036854775808) lk_X6_115 (by decide) dX6_paces_50 ?_
      refine Wp.lceq dX6_paces_53 dX6_paces_54 (by decide) (tgt := 97) (fun c53 => ?_) (fun c53 => ?_)
      · refine inc_5_2 rfl dX6_paces_97 (by first | exact w32_of (by omega) (by omega) | rfl) ?_
        refine Wp.goto (tgt := 26) dX6_paces_100 (by decide) ?_
        exact ih (i + 1) top low _ _ h' (by omega) (by omega) fr et el (pi.next (Or.inl c53))
      · refine Wp.ald_n (j := 0) rfl dX6_paces_57 ?_
        refine Wp.getf (k := 37) (tg := 1) kC6 (by decide) rfl lf_X6_258 dX6_paces_58 (sK41 (h := h') sh') el ?_
        refine Wp.lconst (z := 0) dX6_paces_61 (by decide) ?_
        refine Wp.lcle dX6_paces_62 dX6_paces_63 (by decide) (tgt := 86) (fun c62 => ?_) (fun c62 => ?_)
        · refine Wp.ald_n (j := 0) rfl dX6_paces_86 ?_
          refine Wp.lld_n (j := 3) rfl dX6_paces_87 ?_
          refine Wp.putf (k := 36) (tg := 1) kC6 (by decide) rfl rfl lf_X6_262 dX6_paces_88 (sK41 (h := h') sh') ?_
          refine Wp.ald_n (j := 0) rfl dX6_paces_91 ?_
          refine Wp.ild_n (j := 1) rfl dX6_paces_92 ?_
          refine Wp.i2l dX6_paces_93 ?_
          refine Wp.putf (k := 37) (tg := 1) kC6 (by decide) rfl rfl lf_X6_258 dX6_paces_94 (sK41 (h := h') sh') ?_
          refine inc_5_2 rfl dX6_paces_97 (by first | exact w32_of (by omega) (by omega) | rfl) ?_
          refine Wp.goto (tgt := 26) dX6_paces_100 (by decide) ?_
          exact ih (i + 1) _ n _ _ _ (by omega) (by omega) (fr.tr ((Fr.f (by decide)).tr (Fr.f (by decide)))) rfl rfl (pi.take n0.1 n0.2 i0 (by omega) c53 (by omega))
        · have hv := hv.resolve_left c53
          have htop := htop (by omega)
          have hm1 := mul_ab (x := vP (hA h 64) (hF h 41 30) n i) (y := low) (A := 10485760) (B := 10) hv.1 hv.2 hlow.1 hlow.2
          have hm2 := mul_ab (x := top) (y := n) (A := 10485760) (B := 10) htop.1 htop.2 (by omega) (by omega)
          refine Wp.lld_n (j := 3) rfl dX6_paces_66 ?_
          refine Wp.ald_n (j := 0) rfl dX6_paces_67 ?_
          refine Wp.getf (k := 37) (tg := 1) kC6 (by decide) rfl lf_X6_258 dX6_paces_68 (sK41 (h := h') sh') el ?_
          refine Wp.lmulE dX6_paces_71 (by first | exact w64_of (by omega) (by omega) | rfl) ?_
          refine Wp.ald_n (j := 0) rfl dX6_paces_72 ?_
          refine Wp.getf (k := 36) (tg := 1) kC6 (by decide) rfl lf_X6_262 dX6_paces_73 (sK41 (h := h') sh') et ?_
          refine Wp.ild_n (j := 1) rfl dX6_paces_76 ?_
          refine Wp.i2l dX6_paces_77 ?_
          refine Wp.lmulE dX6_paces_78 (by first | exact w64_of (by omega) (by omega) | rfl) ?_
          refine Wp.lcgt dX6_paces_79 dX6_paces_80 (by decide) (tgt := 86) (fun c79 => ?_) (fun c79 => ?_)
          · refine Wp.ald_n (j := 0) rfl dX6_paces_86 ?_
            refine Wp.lld_n (j := 3) rfl dX6_paces_87 ?_
            refine Wp.putf (k := 36) (tg := 1) kC6 (by decide) rfl rfl lf_X6_262 dX6_paces_88 (sK41 (h := h') sh') ?_
            refine Wp.ald_n (j := 0) rfl dX6_paces_91 ?_
            refine Wp.ild_n (j := 1) rfl dX6_paces_92 ?_
            refine Wp.i2l dX6_paces_93 ?_
            refine Wp.putf (k := 37) (tg := 1) kC6 (by decide) rfl rfl lf_X6_258 dX6_paces_94 (sK41 (h := h') sh') ?_
            refine inc_5_2 rfl dX6_paces_97 (by first | exact w32_of (by omega) (by omega) | rfl) ?_
            refine Wp.goto (tgt := 26) dX6_paces_100 (by decide) ?_
            exact ih (i + 1) _ n _ _ _ (by omega) (by omega) (fr.tr ((Fr.f (by decide)).tr (Fr.f (by decide)))) rfl rfl (pi.take n0.1 n0.2 i0 (by omega) c53 (by omega))
          · refine Wp.goto (tgt := 97) dX6_paces_83 (by decide) ?_
            refine inc_5_2 rfl dX6_paces_97 (by first | exact w32_of (by omega) (by omega) | rfl) ?_
            refine Wp.goto (tgt := 26) dX6_paces_100 (by decide) ?_
            exact ih (i + 1) top low _ _ h' (by omega) (by omega) fr et el (pi.next (Or.inr ⟨by omega, by omega⟩))

theorem mpa2 (d : Nat) (h : mH) (sh : Sh h) (z1 : hF h 41 30 ≤ 10) (hs : spK (hA h 64)) (pt : PT h h 0 (hF h 41 30)) (Q : Option mV → mH → Prop) (kq : ∀ (t : mH) (n top low : Int) (x2 x3 x4 : mV), Fr [] [(41, 36), (41, 37)] h t → hF t 41 36 = top → hF t 41 37 = low → hF h 41 30 < n → PI9 (hA h 64) (hF h 41 30) n 0 top low → Wp m_X6_paces (d + 3) 109 [(2, 41), (0, n), x2, x3, x4] [] t Q) : ∀ (m : Nat) (n top low : Int) (x2 x3 x4 : mV) (h' : mH), (hF h 41 30 + 1 - n).toNat < m → (1 ≤ n) → (Fr [] [(41, 36), (41, 37)] h h') → (hF h' 41 36 = top) → (hF h' 41 37 = low) → (PI9 (hA h 64) (hF h 41 30) n 0 top low) → Wp m_X6_paces (d + 3) 16 [(2, 41), (0, n), x2, x3, x4] [] h' Q := by
  intro m
  induction m with
  | zero => intro n top low x2 x3 x4 h' hm; exact absurd hm (Nat.not_lt_zero _)
  | succ m ih =>
    intro n top low x2 x3 x4 h' hm n0 fr et el pi
    have sh' := sh.fr fr (by decide +kernel) (by decide)
    have e30 : hF h' 41 30 = hF h 41 30 := fr.2.2.2.2.1 41 30 (by decide)
    refine Wp.ild_n (j := 1) rfl dX6_paces_16 ?_
    refine Wp.ald_n (j := 0) rfl dX6_paces_17 ?_
    refine Wp.getf (k := 30) (tg := 0) kC6 (by decide) rfl lf_X6_230 dX6_paces_18 (sK41 (h := h') sh') e30 ?_
    refine Wp.icgt dX6_paces_21 (by decide) (tgt := 109) (fun c21 => ?_) (fun c21 => ?_)
    · exact kq h' n top low _ _ _ fr et el (by omega) pi
    · refine Wp.iconst dX6_paces_24 (by decide) ?_
      refine sti_5_2 rfl (dSt_n dX6_paces_25) ?_
      refine mpa1 d h sh z1 hs pt n ⟨n0, by omega⟩ Q (fun t i top2 low2 y3 y4 frt ett elt pit => ?_) _ 0 top low _ _ h' (Nat.lt_succ_self _) (by omega) fr et el pi
      refine inc_5_1 rfl dX6_paces_103 (w32_of (by omega) (by omega)) ?_
      refine Wp.goto (tgt := 16) dX6_paces_106 (by decide) ?_
      exact ih (n + 1) top2 low2 _ _ _ t (by omega) (by omega) frt ett elt pit

theorem mpa3 (d : Nat) (h : mH) (sh : Sh h) (z1 : hF h 41 30 ≤ 10) (hs : spK (hA h 64)) (pt : PT h h 0 (hF h 41 30)) (h' : mH) (n top low : Int) (x2 x3 x4 : mV) (fr : Fr [] [(41, 36), (41, 37)] h h') (et : hF h' 41 36 = top) (el : hF h' 41 37 = low) (hn : hF h 41 30 < n) (pi : PI9 (hA h 64) (hF h 41 30) n 0 top low) : Wp m_X6_paces (d + 3) 109 [(2, 41), (0, n), x2, x3, x4] [] h' (fun r t => (∃ y, r = some (0, y) ∧ (y = 0 ∨ (y = 1 ∧ PQ9 (hA h 64) (hF h 41 30) (hF t 41 36) (hF t 41 37)))) ∧ Fr [] [(41, 36), (41, 37)] h t) := by
  have sh' := sh.fr fr (by decide +kernel) (by decide)
  have e30 : hF h' 41 30 = hF h 41 30 := fr.2.2.2.2.1 41 30 (by decide)
  have hlow : 0 ≤ low ∧ low ≤ 10 := by
    rcases pi with ⟨q, -⟩ | ⟨q, -⟩ <;> omega
  have htop : 1 ≤ low → -10485760 ≤ top ∧ top ≤ 10485760 := fun z => by
    rcases pi with ⟨q, -⟩ | ⟨q, ⟨i9, a, b, c, e⟩, -⟩
    · omega
    · rw [← c]
      exact (vP_bd hs z1 q.2 a b).resolve_left (by rw [c]; exact e)
  refine Wp.ald_n (j := 0) rfl dX6_paces_109 ?_
  refine Wp.getf (k := 37) (tg := 1) kC6 (by decide) rfl lf_X6_258 dX6_paces_110 (sK41 (h := h') sh') el ?_
  refine Wp.lconst (z := 0) dX6_paces_113 (by decide) ?_
  refine Wp.lcne dX6_paces_114 dX6_paces_115 (by decide) (tgt := 120) (fun c114 => ?_) (fun c114 => ?_)
  · refine Wp.ald_n (j := 0) rfl dX6_paces_120 ?_
    refine Wp.getf (k := 36) (tg := 1) kC6 (by decide) rfl lf_X6_262 dX6_paces_121 (sK41 (h := h') sh') et ?_
    refine Wp.ald_n (j := 0) rfl dX6_paces_124 ?_
    refine Wp.getf (k := 37) (tg := 1) kC6 (by decide) rfl lf_X6_258 dX6_paces_125 (sK41 (h := h') sh') el ?_
    have htop := htop (by omega)
    obtain ⟨_, t128, ct128, ⟨y128, rfl, hy128⟩, e128⟩ := cq_common (d + 1) h' top low (by omega) (by omega)
    rw [e128] at ct128
    refine Wp.callS1 (ct128) wc_X6_265 sM_X6_common dX6_paces_128 rfl (Nat.le_of_ble_eq_true rfl) rfl (Nat.le_of_ble_eq_true rfl) ?_
    refine stl_5_1 rfl (dSt_n dX6_paces_131) ?_
    have hta := tdn_abs (a := top) (b := y128) (M := 10485760) hy128.1 htop.1 htop.2
    have hla := tdn_abs (a := low) (b := y128) (M := 10) hy128.1 (by omega) (by omega)
    refine Wp.ald_n (j := 0) rfl dX6_paces_132 ?_
    refine Wp.dup dX6_paces_133 (Or.inr rfl) ?_
    refine Wp.getf (k := 36) (tg := 1) kC6 (by decide) rfl lf_X6_262 dX6_paces_134 (sK41 (h := h') sh') et ?_
    refine Wp.lld_n (j := 1) rfl dX6_paces_137 ?_
    refine Wp.ldivE dX6_paces_138 (by omega) (w64_of (by omega) (by omega)) ?_
    refine Wp.putf (k := 36) (tg := 1) kC6 (by decide) rfl rfl lf_X6_262 dX6_paces_139 (sK41 (h := h') sh') ?_
    refine Wp.ald_n (j := 0) rfl dX6_paces_142 ?_
    refine Wp.dup dX6_paces_143 (Or.inr rfl) ?_
    refine Wp.getf (k := 37) (tg := 1) kC6 (by decide) rfl lf_X6_258 dX6_paces_144 (sK41 (h := h') sh') (show hF _ 41 37 = low from el) ?_
    refine Wp.lld_n (j := 1) rfl dX6_paces_147 ?_
    refine Wp.ldivE dX6_paces_148 (by omega) (w64_of (by omega) (by omega)) ?_
    refine Wp.putf (k := 37) (tg := 1) kC6 (by decide) rfl rfl lf_X6_258 dX6_paces_149 (sK41 (h := h') sh') ?_
    refine Wp.iconst dX6_paces_152 (by decide) ?_
    refine Wp.zret rfl dX6_paces_153 (by omega) ?_
    exact ⟨⟨_, rfl, Or.inr ⟨rfl, pi.done hs z1 hn c114 hy128.1 hy128.2.1 hy128.2.2⟩⟩, fr.tr ((Fr.f (by decide)).tr (Fr.f (by decide)))⟩
  · refine Wp.iconst dX6_paces_118 (by decide) ?_
    refine Wp.zret rfl dX6_paces_119 (by omega) ?_
    exact ⟨⟨_, rfl, Or.inl rfl⟩, fr⟩

theorem cq_paces (d : Nat) (h : mH) (sh : Sh h) (mt : MT h) : Cq m_X6_paces (d + 3) [(2, 41)] h (fun r t => (∃ y, r = some (0, y) ∧ (y = 0 ∨ (y = 1 ∧ PQ9 (hA h 64) (hF h 41 30) (hF t 41 36) (hF t 41 37)))) ∧ Fr [67, 68] [(41, 36), (41, 37)] h t ∧ PT h t 0 (hF h 41 30)) := by
  refine Cq.of ?_
  show Wp m_X6_paces ((d + 3)) 0 [(2, 41), (9, 0), (9, 0), (9, 0), (9, 0)] [] h _
  refine Wp.ald_n (j := 0) rfl dX6_paces_0 ?_
  refine Wp.ald_n (j := 0) rfl dX6_paces_1 ?_
  refine Wp.getf (k := 30) (tg := 0) kC6 (by decide) rfl lf_X6_230 dX6_paces_2 (sK41 (h := h) sh) (show hF _ 41 30 = hF h 41 30 from rfl) ?_
  refine Wp.iconst dX6_paces_5 (by decide) ?_
  obtain ⟨_, t6, ct6, rfl, f6, p6⟩ := cq_fillPowers d h sh mt.1.2 (hF h 41 30) 0 (by have := mt.1; omega) (by omega)
  have sh6 : Sh t6 := sh.fr f6 (by decide +kernel) (by decide)
  refine Wp.callV0 (ct6) wc_X6_254 iM_X6_fillPowers se_X6_fillPowers kC6 (sK41 (h := h) sh) dX6_paces_6 rfl (Nat.le_of_ble_eq_true rfl) rfl (Nat.le_of_ble_eq_true rfl) ?_
  refine Wp.ald_n (j := 0) rfl dX6_paces_9 ?_
  refine Wp.lconst (z := 0) dX6_paces_10 (by decide) ?_
  refine Wp.putf (k := 37) (tg := 1) kC6 (by decide) rfl rfl lf_X6_258 dX6_paces_11 (sK41 (h := t6) sh6) ?_
  refine Wp.iconst dX6_paces_14 (by decide) ?_
  refine sti_5_1 rfl (dSt_n dX6_paces_15) ?_
  have g30 : hF (sF t6 41 37 0) 41 30 = hF h 41 30 := f6.2.2.2.2.1 41 30 (by decide)
  have g64 : hA (sF t6 41 37 0) 64 = hA h 64 := f6.2.2.2.2.2 64 (by decide)
  have ptz : PT (sF t6 41 37 0) (sF t6 41 37 0) 0 (hF (sF t6 41 37 0) 41 30) := by
    unfold PT
    rw [g30, g64]
    exact p6
  have shz : Sh (sF t6 41 37 0) := sh6.m (Fr.f (by decide))
  refine mpa2 d (sF t6 41 37 0) shz (by rw [g30]; exact mt.1.2) (by rw [g64]; exact mt.2) ptz _ (fun t n top low x2 x3 x4 frt ett elt hn pi => ?_) _ 1 _ 0 _ _ _ _ (Nat.lt_succ_self _) (by omega) Fr.rf rfl rfl (Or.inl ⟨rfl, fun n' i' z => by obtain ⟨q1, q2⟩ := z; omega⟩)
  refine (mpa3 d (sF t6 41 37 0) shz (by rw [g30]; exact mt.1.2) (by rw [g64]; exact mt.2) ptz t n top low _ _ _ frt ett elt hn pi).mono (fun r u q => ?_)
  obtain ⟨hr, fru⟩ := q
  rw [g30, g64] at hr
  refine ⟨hr, ((f6.mono (by simp) (by simp)).tr (Fr.f (by decide))).tr (fru.mono (by simp) (by simp)), ?_⟩
  have g68 : hA u 68 = hA t6 68 := fru.2.2.2.2.2 68 (by simp)
  unfold PT
  rw [g68]
  exact p6

