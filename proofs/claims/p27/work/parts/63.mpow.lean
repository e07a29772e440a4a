theorem mun1 (d : Nat) (h : mH) (sh : Sh h) (ac pc lc : Int) (kc : hK h ac = 11) (jc : hL h ac = lc) (qc : 0 ≤ pc ∧ pc + 100 ≤ lc ∧ lc ≤ 30000) (nc1 : ac ≠ 1) (i : Int) (i0 : 0 ≤ i ∧ i < 10) (Q : Option mV → mH → Prop) (kq : ∀ (t : mH) (j : Int), Fr [ac] [] h t → (∀ i9 j9 : Int, 0 ≤ i9 → i9 < 10 → 0 ≤ j9 → j9 < 10 → (i9 < (i + 1) ∨ (i9 = (i + 1) ∧ j9 < 0)) → hA t ac (pc + 10 * i9 + j9) = if i9 = j9 then 0 else gNO) → Wp m_X6_unit d 48 [(2, 41), (2, ac), (0, pc), (0, i), (0, j)] [] t Q) : ∀ (m : Nat) (j : Int) (h' : mH), (10 - j).toNat < m → (0 ≤ j) → (Fr [ac] [] h h') → ((∀ i9 j9 : Int, 0 ≤ i9 → i9 < 10 → 0 ≤ j9 → j9 < 10 → (i9 < i ∨ (i9 = i ∧ j9 < j)) → hA h' ac (pc + 10 * i9 + j9) = if i9 = j9 then 0 else gNO)) → Wp m_X6_unit d 11 [(2, 41), (2, ac), (0, pc), (0, i), (0, j)] [] h' Q := by
  intro m
  induction m with
  | zero => intro j h' hm; exact absurd hm (Nat.not_lt_zero _)
  | succ m ih =>
    intro j h' hm j0 fr hd
    have sh' := sh.fr fr (by decide +kernel) (by simp; omega)
    have kc' : hK h' ac = 11 := by rw [fr.2.2.1]; exact kc
    have jc' : hL h' ac = lc := by rw [fr.2.2.2.1]; exact jc
    refine Wp.ild (j := 4) rfl dX6_unit_11 ?_
    refine Wp.bipush dX6_unit_13 (by decide) ?_
    refine Wp.icge dX6_unit_15 (by decide) (tgt := 48) (fun c15 => ?_) (fun c15 => ?_)
    · exact kq h' j fr (fun i9 j9 a0 a1 b0 b1 hz => hd i9 j9 a0 a1 b0 b1 (by omega))
    · refine Wp.ald_n (j := 1) rfl dX6_unit_18 ?_
      refine Wp.ild_n (j := 2) rfl dX6_unit_19 ?_
      refine Wp.bipush dX6_unit_20 (by decide) ?_
      refine Wp.ild_n (j := 3) rfl dX6_unit_22 ?_
      refine Wp.imulE dX6_unit_23 (by first | exact w32_of (by omega) (by omega) | rfl) ?_
      refine Wp.iaddE dX6_unit_24 (by first | exact w32_of (by omega) (by omega) | rfl) ?_
      refine Wp.ild (j := 4) rfl dX6_unit_25 ?_
      refine Wp.iaddE dX6_unit_27 (by first | exact w32_of (by omega) (by omega) | rfl) ?_
      refine Wp.ild_n (j := 3) rfl dX6_unit_28 ?_
      refine Wp.ild (j := 4) rfl dX6_unit_29 ?_
      refine Wp.icne dX6_unit_31 (by decide) (tgt := 38) (fun c31 => ?_) (fun c31 => ?_)
      · refine Wp.ldc2 (z := -9223372036854775808) lk_X6_115 (by decide) dX6_unit_38 ?_
        refine Wp.lastore dX6_unit_41 kc' (by omega) (ilt jc' (by omega)) ?_
        refine inc_5_4 rfl dX6_unit_42 (by first | exact w32_of (by omega) (by omega) | rfl) ?_
        refine Wp.goto (tgt := 11) dX6_unit_45 (by decide) ?_
        refine ih (j + 1) _ (by omega) (by omega) (fr.tr (Fr.e (by simp))) (fun i9 j9 a0 a1 b0 b1 hz => ?_)
        rw [hA_sEs]
        by_cases e : pc + 10 * i9 + j9 = pc + 10 * i + j
        · have e1 : i9 = i := by omega
          have e2 : j9 = j := by omega
          rw [e1, e2, u1_s, if_neg c31]
        · rw [u1_n _ _ e]
          exact hd i9 j9 a0 a1 b0 b1 (by omega)
      · refine Wp.lconst (z := 0) dX6_unit_34 (by decide) ?_
        refine Wp.goto (tgt := 41) dX6_unit_35 (by decide) ?_
        refine Wp.lastore dX6_unit_41 kc' (by omega) (ilt jc' (by omega)) ?_
        refine inc_5_4 rfl dX6_unit_42 (by first | exact w32_of (by omega) (by omega) | rfl) ?_
        refine Wp.goto (tgt := 11) dX6_unit_45 (by decide) ?_
        refine ih (j + 1) _ (by omega) (by omega) (fr.tr (Fr.e (by simp))) (fun i9 j9 a0 a1 b0 b1 hz => ?_)
        rw [hA_sEs]
        by_cases e : pc + 10 * i9 + j9 = pc + 10 * i + j
        · have e1 : i9 = i := by omega
          have e2 : j9 = j := by omega
          rw [e1, e2, u1_s, if_pos c31]
        · rw [u1_n _ _ e]
          exact hd i9 j9 a0 a1 b0 b1 (by omega)

theorem mun2 (d : Nat) (h : mH) (sh : Sh h) (ac pc lc : Int) (kc : hK h ac = 11) (jc : hL h ac = lc) (qc : 0 ≤ pc ∧ pc + 100 ≤ lc ∧ lc ≤ 30000) (nc1 : ac ≠ 1) : ∀ (m : Nat) (i : Int) (x4 : mV) (h' : mH), (10 - i).toNat < m → (0 ≤ i) → (Fr [ac] [] h h') → ((∀ i9 j9 : Int, 0 ≤ i9 → i9 < 10 → 0 ≤ j9 → j9 < 10 → (i9 < i ∨ (i9 = i ∧ j9 < 0)) → hA h' ac (pc + 10 * i9 + j9) = if i9 = j9 then 0 else gNO)) → Wp m_X6_unit d 2 [(2, 41), (2, ac), (0, pc), (0, i), x4] [] h' (fun r t => r = none ∧ Fr [ac] [] h t ∧ ∀ i9 j9 : Int, 0 ≤ i9 → i9 < 10 → 0 ≤ j9 → j9 < 10 → hA t ac (pc + 10 * i9 + j9) = if i9 = j9 then 0 else gNO) := by
  intro m
  induction m with
  | zero => intro i x4 h' hm; exact absurd hm (Nat.not_lt_zero _)
  | succ m ih =>
    intro i x4 h' hm i0 fr hd
    have sh' := sh.fr fr (by decide +kernel) (by simp; omega)
    have kc' : hK h' ac = 11 := by rw [fr.2.2.1]; exact kc
    have jc' : hL h' ac = lc := by rw [fr.2.2.2.1]; exact jc
    refine Wp.ild_n (j := 3) rfl dX6_unit_2 ?_
    refine Wp.bipush dX6_unit_3 (by decide) ?_
    refine Wp.icge dX6_unit_5 (by decide) (tgt := 54) (fun c5 => ?_) (fun c5 => ?_)
    · refine Wp.vret rfl dX6_unit_54 ?_
      exact ⟨rfl, fr, fun i9 j9 a0 a1 b0 b1 => hd i9 j9 a0 a1 b0 b1 (by omega)⟩
    · refine Wp.iconst dX6_unit_8 (by decide) ?_
      refine sti_5_4 rfl (dSt_w dX6_unit_9) ?_
      refine mun1 d h sh ac pc lc kc jc qc nc1 i ⟨i0, by omega⟩ _ (fun t j frt hdt => ?_) _ 0 h' (Nat.lt_succ_self _) (by omega) fr hd
      refine inc_5_3 rfl dX6_unit_48 (w32_of (by omega) (by omega)) ?_
      refine Wp.goto (tgt := 2) dX6_unit_51 (by decide) ?_
      exact ih (i + 1) _ t (by omega) (by omega) frt hdt

theorem cq_munit (d : Nat) (h : mH) (sh : Sh h) (ac pc lc : Int) (kc : hK h ac = 11) (jc : hL h ac = lc) (qc : 0 ≤ pc ∧ pc + 100 ≤ lc ∧ lc ≤ 30000) (nc1 : ac ≠ 1) : Cq m_X6_unit d [(2, 41), (2, ac), (0, pc)] h (fun r t => r = none ∧ Fr [ac] [] h t ∧ ∀ i9 j9 : Int, 0 ≤ i9 → i9 < 10 → 0 ≤ j9 → j9 < 10 → hA t ac (pc + 10 * i9 + j9) = if i9 = j9 then 0 else gNO) := by
  refine Cq.of ?_
  show Wp m_X6_unit (d) 0 [(2, 41), (2, ac), (0, pc), (9, 0), (9, 0)] [] h _
  refine Wp.iconst dX6_unit_0 (by decide) ?_
  refine sti_5_3 rfl (dSt_n dX6_unit_1) ?_
  exact mun2 d h sh ac pc lc kc jc qc nc1 _ 0 _ h (Nat.lt_succ_self _) (by omega) Fr.rf (fun i9 j9 a0 a1 b0 b1 hz => absurd hz (by omega))

/-- the table of powers: as told, up to many roads, over places from lo on -/
def PT (h t : mH) (lo many : Int) : Prop := ∀ (n : Nat) (i j : Int), (n : Int) ≤ many → lo ≤ i → i < hF h 41 30 → lo ≤ j → j < hF h 41 30 → hA t 68 (100 * n + 10 * i + j) = mPw (hA h 64) (hF h 41 30) lo n i j
theorem mfp1 (d : Nat) (h : mH) (sh : Sh h) (z1 : hF h 41 30 ≤ 10) (mn lo : Int) (m1 : mn ≤ 200) (l0 : 0 ≤ lo) : ∀ (m : Nat) (n : Int) (h' : mH), (mn + 1 - n).toNat < m → (1 ≤ n) → (Fr [67, 68] [] h h') → (PT h h' lo (n - 1)) → Wp m_X6_fillPowers (d + 2) 11 [(2, 41), (0, mn), (0, lo), (0, n)] [] h' (fun r t => r = none ∧ Fr [67, 68] [] h t ∧ PT h t lo mn) := by
  intro m
  induction m with
  | zero => intro n h' hm; exact absurd hm (Nat.not_lt_zero _)
  | succ m ih =>
    intro n h' hm n0 fr pt
    have sh' := sh.fr fr (by decide +kernel) (by decide)
    have e30 : hF h' 41 30 = hF h 41 30 := fr.2.2.2.2.1 41 30 (by decide)
    have e64 : hA h' 64 = hA h 64 := fr.2.2.2.2.2 64 (by decide)
    refine Wp.ild_n (j := 3) rfl dX6_fillPowers_11 ?_
    refine Wp.ild_n (j := 1) rfl dX6_fillPowers_12 ?_
    refine Wp.icgt dX6_fillPowers_13 (by decide) (tgt := 50) (fun c13 => ?_) (fun c13 => ?_)
    · refine Wp.vret rfl dX6_fillPowers_50 ?_
      refine ⟨rfl, fr, fun n9 i j hn => pt n9 i j (by omega)⟩
    · refine Wp.ald_n (j := 0) rfl dX6_fillPowers_16 ?_
      refine Wp.ald_n (j := 0) rfl dX6_fillPowers_17 ?_
      refine Wp.getf (k := 35) (tg := 2) kC6 (by decide) rfl lf_X6_99 dX6_fillPowers_18 (sK41 (h := h') sh') (sF41_35 (h := h') sh') ?_
      refine Wp.bipush dX6_fillPowers_21 (by decide) ?_
      refine Wp.ild_n (j := 3) rfl dX6_fillPowers_23 ?_
      refine Wp.iconst dX6_fillPowers_24 (by decide) ?_
      refine Wp.isubE dX6_fillPowers_25 (by first | exact w32_of (by omega) (by omega) | rfl) ?_
      refine Wp.imulE dX6_fillPowers_26 (by first | exact w32_of (by omega) (by omega) | rfl) ?_
      refine Wp.ald_n (j := 0) rfl dX6_fillPowers_27 ?_
      refine Wp.getf (k := 31) (tg := 2) kC6 (by decide) rfl lf_X6_87 dX6_fillPowers_28 (sK41 (h := h') sh') (sF41_31 (h := h') sh') ?_
      refine Wp.iconst dX6_fillPowers_31 (by decide) ?_
      refine Wp.ald_n (j := 0) rfl dX6_fillPowers_32 ?_
      refine Wp.getf (k := 35) (tg := 2) kC6 (by decide) rfl lf_X6_99 dX6_fillPowers_33 (sK41 (h := h') sh') (sF41_35 (h := h') sh') ?_
      refine Wp.bipush dX6_fillPowers_36 (by decide) ?_
      refine Wp.ild_n (j := 3) rfl dX6_fillPowers_38 ?_
      refine Wp.imulE dX6_fillPowers_39 (by first | exact w32_of (by omega) (by omega) | rfl) ?_
      refine Wp.ild_n (j := 2) rfl dX6_fillPowers_40 ?_
      obtain ⟨_, t41, ct41, rfl, f41, r41, o41⟩ := cq_mmul d h' sh' 68 (100 * (n - 1)) 20100 64 0 100 68 (100 * n) 20100 lo (sK68 sh') (sK64 sh') (sK68 sh') (sL68 sh') (sL64 sh') (sL68 sh') (by omega) (by omega) (by omega) (by decide) (by decide) (by decide) (by decide) l0 (by rw [e30]; exact z1)
      have sh41 : Sh t41 := sh'.fr f41 (by decide +kernel) (by decide)
      rw [e30] at r41
      refine Wp.callV0 (ct41) wc_X6_246 iM_X6_multiply se_X6_multiply kC6 (sK41 (h := h') sh') dX6_fillPowers_41 rfl (Nat.le_of_ble_eq_true rfl) rfl (Nat.le_of_ble_eq_true rfl) ?_
      refine inc_4_3 rfl dX6_fillPowers_44 (by first | exact w32_of (by omega) (by omega) | rfl) ?_
      refine Wp.goto (tgt := 11) dX6_fillPowers_47 (by decide) ?_
      refine ih (n + 1) t41 (by omega) (by omega) (fr.tr (f41.mono (by simp) (by simp))) (fun n9 i j hn i0 i1 j0 j1 => ?_)
      by_cases e : (n9 : Int) = n
      · have h1 := r41 i j i0 (by omega) j0 (by omega)
        rw [← e] at h1
        rw [h1]
        obtain ⟨q, rfl⟩ : ∃ q, n9 = q + 1 := ⟨n9 - 1, by omega⟩
        show _ = mxL _ lo _
        refine mxL_cg _ (fun k k0 k1 => ?_)
        have h2 := pt q i k (by omega) i0 i1 k0 (by omega)
        rw [show 100 * (((q + 1 : Nat) : Int) - 1) + 10 * i + k = 100 * (q : Int) + 10 * i + k by omega, h2, e64, show (0 : Int) + 10 * k + j = 10 * k + j by omega]
      · rw [o41 _ (Or.inl (by omega))]
        exact pt n9 i j (by omega) i0 i1 j0 j1

theorem cq_fillPowers (d : Nat) (h : mH) (sh : Sh h) (z1 : hF h 41 30 ≤ 10) (mn lo : Int) (m1 : mn ≤ 200) (l0 : 0 ≤ lo) : Cq m_X6_fillPowers (d + 2) [(2, 41), (0, mn), (0, lo)] h (fun r t => r = none ∧ Fr [67, 68] [] h t ∧ PT h t lo mn) := by
  refine Cq.of ?_
  show Wp m_X6_fillPowers ((d + 2)) 0 [(2, 41), (0, mn), (0, lo), (9, 0)] [] h _
  refine Wp.ald_n (j := 0) rfl dX6_fillPowers_0 ?_
  refine Wp.ald_n (j := 0) rfl dX6_fillPowers_1 ?_
  refine Wp.getf (k := 35) (tg := 2) kC6 (by decide) rfl lf_X6_99 dX6_fillPowers_2 (sK41 (h := h) sh) (sF41_35 (h := h) sh) ?_
  refine Wp.iconst dX6_fillPowers_5 (by decide) ?_
  obtain ⟨_, t6, ct6, rfl, f6, r6⟩ := cq_munit (d + 1) h sh 68 0 20100 (sK68 sh) (sL68 sh) (by omega) (by decide)
  have sh6 : Sh t6 := sh.fr f6 (by decide +kernel) (by decide)
  refine Wp.callV0 (ct6) wc_X6_242 iM_X6_unit se_X6_unit kC6 (sK41 (h := h) sh) dX6_fillPowers_6 rfl (Nat.le_of_ble_eq_true rfl) rfl (Nat.le_of_ble_eq_true rfl) ?_
  refine Wp.iconst dX6_fillPowers_9 (by decide) ?_
  refine sti_4_3 rfl (dSt_n dX6_fillPowers_10) ?_
  have e30 : hF t6 41 30 = hF h 41 30 := f6.2.2.2.2.1 41 30 (by decide)
  have e64 : hA t6 64 = hA h 64 := f6.2.2.2.2.2 64 (by decide)
  refine (mfp1 d t6 sh6 (by rw [e30]; exact z1) mn lo m1 l0 _ 1 t6 (Nat.lt_succ_self _) (by omega) Fr.rf (fun n9 i j hn i0 i1 j0 j1 => ?_)).mono (fun r t q => ?_)
  · obtain rfl : n9 = 0 := by omega
    rw [e30] at i1 j1
    have := r6 i j (by omega) (by omega) (by omega) (by omega)
    rw [show (100 * ((0 : Nat) : Int) + 10 * i + j) = 0 + 10 * i + j by omega, this]
    rfl
  · obtain ⟨hr, fr, pt⟩ := q
    refine ⟨hr, (f6.mono (by simp) (by simp)).tr fr, ?_⟩
    unfold PT at pt ⊢
    rw [e30, e64] at pt
    exact pt

theorem tmod_dvd {g p q : Int} (h1 : g ∣ q) (h2 : g ∣ p.tmod q) : g ∣ p := by
  have h3 : p = q * p.tdiv q + p.tmod q := (Int.mul_tdiv_add_tmod p q).symm
  rw [h3]
  exact Int.dvd_add (Int.dvd_trans h1 (Int.dvd_mul_right _ _)) h2
theorem mcm1 (d : Nat) (h : mH) (a b : Int) : ∀ (m : Nat) (q p : Int) (x8 x9 : mV), q.toNat < m → (0 ≤ p) → (0 ≤ q) → (1 ≤ p ∨ 1 ≤ q) → (∀ g, g ∣ p → g ∣ q → g ∣ a ∧ g ∣ b) → Wp m_X6_common (d + 1) 12 [(1, a), (9, 0), (1, b), (9, 0), (1, p), (9, 0), (1, q), (9, 0), x8, x9] [] h (fun r t => (∃ y, r = some (1, y) ∧ 1 ≤ y ∧ y ∣ a ∧ y ∣ b) ∧ t = h) := by
  intro m
  induction m with
  | zero => intro q p x8 x9 hm; exact absurd hm (Nat.not_lt_zero _)
  | succ m ih =>
    intro q p x8 x9 hm p0 q0 pq hg
    refine Wp.lld (j := 6) rfl dX6_common_12 ?_
    refine Wp.lconst (z := 0) dX6_common_14 (by decide) ?_
    refine Wp.lceq dX6_common_15 dX6_common_16 (by decide) (tgt := 37) (fun c15 => ?_) (fun c15 => ?_)
    · refine Wp.lld (j := 4) rfl dX6_common_37 ?_
      refine Wp.lret rfl dX6_common_39 ?_
      have q00 : q = 0 := by omega
      refine ⟨⟨_, rfl, by omega, hg p (Int.dvd_refl _) (by rw [q00]; exact Int.dvd_zero _)⟩, rfl⟩
    · refine Wp.lld (j := 4) rfl dX6_common_19 ?_
      refine Wp.lld (j := 6) rfl dX6_common_21 ?_
      refine Wp.lremE dX6_common_23 (by omega) rfl ?_
      refine stl_10_8 rfl (dSt_w dX6_common_24) ?_
      refine Wp.lld (j := 6) rfl dX6_common_26 ?_
      refine stl_10_4 rfl (dSt_w dX6_common_28) ?_
      refine Wp.lld (j := 8) rfl dX6_common_30 ?_
      refine stl_10_6 rfl (dSt_w dX6_common_32) ?_
      refine Wp.goto (tgt := 12) dX6_common_34 (by decide) ?_
      have ht := tdn (a := p) (b := q) p0 (by omega)
      exact ih _ q _ _ (by omega) q0 ht.2.2.1 (Or.inl (by omega)) (fun g g1 g2 => hg g (tmod_dvd g1 g2) g1)

theorem cq_common (d : Nat) (h : mH) (a b : Int) (a0 : -1000000000000 ≤ a ∧ a ≤ 1000000000000) (b0 : 1 ≤ b ∧ b ≤ 1000000000000) : Cq m_X6_common (d + 1) [(1, a), (1, b)] h (fun r t => (∃ y, r = some (1, y) ∧ 1 ≤ y ∧ y ∣ a ∧ y ∣ b) ∧ t = h) := by
  refine Cq.of ?_
  show Wp m_X6_common ((d + 1)) 0 [(1, a), (9, 0), (1, b), (9, 0), (9, 0), (9, 0), (9, 0), (9, 0), (9, 0), (9, 0)] [] h _
  refine Wp.lld_n (j := 0) rfl dX6_common_0 ?_
  refine Wp.mlabs wm_X6_250 dX6_common_1 (Nat.le_of_ble_eq_true rfl) ?_
  refine stl_10_4 rfl (dSt_w dX6_common_4) ?_
  refine Wp.lld_n (j := 2) rfl dX6_common_6 ?_
  refine Wp.mlabs wm_X6_250 dX6_common_7 (Nat.le_of_ble_eq_true rfl) ?_
  refine stl_10_6 rfl (dSt_w dX6_common_10) ?_
  have ha : (0 : Int) ≤ (if 0 < a then a else w64 (-a)) ∧ ∀ g, g ∣ (if 0 < a then a else w64 (-a)) → g ∣ a := by
    by_cases z : 0 < a
    · rw [if_pos z]
      exact ⟨by omega, fun g hg => hg⟩
    · rw [if_neg z, w64_of (by omega) (by omega)]
      exact ⟨by omega, fun g hg => Int.dvd_neg.mp hg⟩
  have hb : (if 0 < b then b else w64 (-b)) = b := if_pos (by omega)
  rw [hb]
  exact mcm1 d h a b _ b _ _ _ (Nat.lt_succ_self _) ha.1 (by omega) (Or.inr (by omega)) (fun g g1 g2 => ⟨ha.2 g g1, g2⟩)

