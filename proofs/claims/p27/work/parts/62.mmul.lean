theorem mxL_s (g : Int → Int) (lo : Int) (m : Nat) : mxL g lo (m + 1) = max (mxL g lo m) (g (lo + m)) := rfl
theorem mmu1 (d : Nat) (h : mH) (sh : Sh h) (aa pa la ab pb lb ac pc lc lo : Int) (ka : hK h aa = 11) (kb : hK h ab = 11) (kc : hK h ac = 11) (ja : hL h aa = la) (jb : hL h ab = lb) (jc : hL h ac = lc) (qa : 0 ≤ pa ∧ pa + 100 ≤ la ∧ la ≤ 30000) (qb : 0 ≤ pb ∧ pb + 100 ≤ lb ∧ lb ≤ 30000) (qc : 0 ≤ pc ∧ pc + 100 ≤ lc ∧ lc ≤ 30000) (na : aa ≠ 67) (nb : ab ≠ 67) (nc : ac ≠ 67) (nc1 : ac ≠ 1) (l0 : 0 ≤ lo) (z1 : hF h 41 30 ≤ 10) (i j : Int) (i0 : lo ≤ i ∧ i < hF h 41 30) (j0 : lo ≤ j ∧ j < hF h 41 30) (h' : mH) (fr : Fr [67] [] h h') (Q : Option mV → mH → Prop) (kq : ∀ k : Int, Wp m_X6_multiply (d + 1) 122 [(2, 41), (2, aa), (0, pa), (2, ab), (0, pb), (2, ac), (0, pc), (0, lo), (0, i), (0, j), (1, (mxL (fun k => jnL (hA h aa (pa + 10 * i + k)) (hA h ab (pb + 10 * k + j))) lo (hF h 41 30 - lo).toNat)), (9, 0), (0, k)] [] h' Q) : ∀ (m : Nat) (k b : Int), (hF h 41 30 - k).toNat < m → (lo ≤ k) → (k ≤ hF h 41 30) → (b = mxL (fun k => jnL (hA h aa (pa + 10 * i + k)) (hA h ab (pb + 10 * k + j))) lo (k - lo).toNat) → Wp m_X6_multiply (d + 1) 35 [(2, 41), (2, aa), (0, pa), (2, ab), (0, pb), (2, ac), (0, pc), (0, lo), (0, i), (0, j), (1, b), (9, 0), (0, k)] [] h' Q := by
  intro m
  induction m with
  | zero => intro k b hm; exact absurd hm (Nat.not_lt_zero _)
  | succ m ih =>
    intro k b hm k0 k1 eb
    have sh' := sh.fr fr (by decide +kernel) (by decide)
    have ka' : hK h' aa = 11 := by rw [fr.2.2.1]; exact ka
    have kb' : hK h' ab = 11 := by rw [fr.2.2.1]; exact kb
    have kc' : hK h' ac = 11 := by rw [fr.2.2.1]; exact kc
    have ja' : hL h' aa = la := by rw [fr.2.2.2.1]; exact ja
    have jb' : hL h' ab = lb := by rw [fr.2.2.2.1]; exact jb
    have jc' : hL h' ac = lc := by rw [fr.2.2.2.1]; exact jc
    have e30 : hF h' 41 30 = hF h 41 30 := fr.2.2.2.2.1 41 30 (by simp)
    have eaa : hA h' aa = hA h aa := fr.2.2.2.2.2 aa (by simp; omega)
    have eab : hA h' ab = hA h ab := fr.2.2.2.2.2 ab (by simp; omega)
    refine Wp.ild (j := 12) rfl dX6_multiply_35 ?_
    refine Wp.ald_n (j := 0) rfl dX6_multiply_37 ?_
    refine Wp.getf (k := 30) (tg := 0) kC6 (by decide) rfl lf_X6_230 dX6_multiply_38 (sK41 (h := h') sh') e30 ?_
    refine Wp.icge dX6_multiply_41 (by decide) (tgt := 122) (fun c41 => ?_) (fun c41 => ?_)
    · have ek : k = hF h 41 30 := by omega
      rw [eb, ek]
      exact kq _
    · refine Wp.ald_n (j := 1) rfl dX6_multiply_44 ?_
      refine Wp.ild_n (j := 2) rfl dX6_multiply_45 ?_
      refine Wp.bipush dX6_multiply_46 (by decide) ?_
      refine Wp.ild (j := 8) rfl dX6_multiply_48 ?_
      refine Wp.imulE dX6_multiply_50 (by first | exact w32_of (by omega) (by omega) | rfl) ?_
      refine Wp.iaddE dX6_multiply_51 (by first | exact w32_of (by omega) (by omega) | rfl) ?_
      refine Wp.ild (j := 12) rfl dX6_multiply_52 ?_
      refine Wp.iaddE dX6_multiply_54 (by first | exact w32_of (by omega) (by omega) | rfl) ?_
      refine Wp.laload dX6_multiply_55 ka' (by omega) (ilt ja' (by omega)) (show hA _ aa _ = hA h aa _ from congrFun eaa _) ?_
      refine Wp.ldc2 (z := -9223372036854775808) lk_X6_115 (by decide) dX6_multiply_56 ?_
      refine Wp.lceq dX6_multiply_59 dX6_multiply_60 (by decide) (tgt := 116) (fun c59 => ?_) (fun c59 => ?_)
      · refine inc_13_12 rfl dX6_multiply_116 (by first | exact w32_of (by omega) (by omega) | rfl) ?_
        refine Wp.goto (tgt := 35) dX6_multiply_119 (by decide) ?_
        have hu : mxL (fun k => jnL (hA h aa (pa + 10 * i + k)) (hA h ab (pb + 10 * k + j))) lo (k + 1 - lo).toNat = max (mxL (fun k => jnL (hA h aa (pa + 10 * i + k)) (hA h ab (pb + 10 * k + j))) lo (k - lo).toNat) (jnL (hA h aa (pa + 10 * i + k)) (hA h ab (pb + 10 * k + j))) := by
          rw [show (k + 1 - lo).toNat = (k - lo).toNat + 1 by omega]
          rw [mxL_s, show lo + (((k - lo).toNat : Nat) : Int) = k by omega]
        have hge := mxL_ge (fun k => jnL (hA h aa (pa + 10 * i + k)) (hA h ab (pb + 10 * k + j))) lo (k - lo).toNat
        have hj : jnL (hA h aa (pa + 10 * i + k)) (hA h ab (pb + 10 * k + j)) = gNO := if_pos (Or.inl c59)
        rw [hj, Int.max_eq_left hge] at hu
        exact ih (k + 1) _ (by omega) (by omega) (by omega) (by rw [hu]; exact eb)
      · refine Wp.ald_n (j := 3) rfl dX6_multiply_63 ?_
        refine Wp.ild (j := 4) rfl dX6_multiply_64 ?_
        refine Wp.bipush dX6_multiply_66 (by decide) ?_
        refine Wp.ild (j := 12) rfl dX6_multiply_68 ?_
        refine Wp.imulE dX6_multiply_70 (by first | exact w32_of (by omega) (by omega) | rfl) ?_
        refine Wp.iaddE dX6_multiply_71 (by first | exact w32_of (by omega) (by omega) | rfl) ?_
        refine Wp.ild (j := 9) rfl dX6_multiply_72 ?_
        refine Wp.iaddE dX6_multiply_74 (by first | exact w32_of (by omega) (by omega) | rfl) ?_
        refine Wp.laload dX6_multiply_75 kb' (by omega) (ilt jb' (by omega)) (show hA _ ab _ = hA h ab _ from congrFun eab _) ?_
        refine Wp.ldc2 (z := -9223372036854775808) lk_X6_115 (by decide) dX6_multiply_76 ?_
        refine Wp.lceq dX6_multiply_79 dX6_multiply_80 (by decide) (tgt := 116) (fun c79 => ?_) (fun c79 => ?_)
        · refine inc_13_12 rfl dX6_multiply_116 (by first | exact w32_of (by omega) (by omega) | rfl) ?_
          refine Wp.goto (tgt := 35) dX6_multiply_119 (by decide) ?_
          have hu : mxL (fun k => jnL (hA h aa (pa + 10 * i + k)) (hA h ab (pb + 10 * k + j))) lo (k + 1 - lo).toNat = max (mxL (fun k => jnL (hA h aa (pa + 10 * i + k)) (hA h ab (pb + 10 * k + j))) lo (k - lo).toNat) (jnL (hA h aa (pa + 10 * i + k)) (hA h ab (pb + 10 * k + j))) := by
            rw [show (k + 1 - lo).toNat = (k - lo).toNat + 1 by omega]
            rw [mxL_s, show lo + (((k - lo).toNat : Nat) : Int) = k by omega]
          have hge := mxL_ge (fun k => jnL (hA h aa (pa + 10 * i + k)) (hA h ab (pb + 10 * k + j))) lo (k - lo).toNat
          have hj : jnL (hA h aa (pa + 10 * i + k)) (hA h ab (pb + 10 * k + j)) = gNO := if_pos (Or.inr c79)
          rw [hj, Int.max_eq_left hge] at hu
          exact ih (k + 1) _ (by omega) (by omega) (by omega) (by rw [hu]; exact eb)
        · refine Wp.lld (j := 10) rfl dX6_multiply_83 ?_
          refine Wp.ald_n (j := 1) rfl dX6_multiply_85 ?_
          refine Wp.ild_n (j := 2) rfl dX6_multiply_86 ?_
          refine Wp.bipush dX6_multiply_87 (by decide) ?_
          refine Wp.ild (j := 8) rfl dX6_multiply_89 ?_
          refine Wp.imulE dX6_multiply_91 (by first | exact w32_of (by omega) (by omega) | rfl) ?_
          refine Wp.iaddE dX6_multiply_92 (by first | exact w32_of (by omega) (by omega) | rfl) ?_
          refine Wp.ild (j := 12) rfl dX6_multiply_93 ?_
          refine Wp.iaddE dX6_multiply_95 (by first | exact w32_of (by omega) (by omega) | rfl) ?_
          refine Wp.laload dX6_multiply_96 ka' (by omega) (ilt ja' (by omega)) (show hA _ aa _ = hA h aa _ from congrFun eaa _) ?_
          refine Wp.ald_n (j := 3) rfl dX6_multiply_97 ?_
          refine Wp.ild (j := 4) rfl dX6_multiply_98 ?_
          refine Wp.bipush dX6_multiply_100 (by decide) ?_
          refine Wp.ild (j := 12) rfl dX6_multiply_102 ?_
          refine Wp.imulE dX6_multiply_104 (by first | exact w32_of (by omega) (by omega) | rfl) ?_
          refine Wp.iaddE dX6_multiply_105 (by first | exact w32_of (by omega) (by omega) | rfl) ?_
          refine Wp.ild (j := 9) rfl dX6_multiply_106 ?_
          refine Wp.iaddE dX6_multiply_108 (by first | exact w32_of (by omega) (by omega) | rfl) ?_
          refine Wp.laload dX6_multiply_109 kb' (by omega) (ilt jb' (by omega)) (show hA _ ab _ = hA h ab _ from congrFun eab _) ?_
          refine Wp.laddE dX6_multiply_110 rfl ?_
          refine Wp.mlmax wm_X6_239 dX6_multiply_111 (Nat.le_of_ble_eq_true rfl) ?_
          refine stl_13_10 rfl (dSt_w dX6_multiply_114) ?_
          refine inc_13_12 rfl dX6_multiply_116 (by first | exact w32_of (by omega) (by omega) | rfl) ?_
          refine Wp.goto (tgt := 35) dX6_multiply_119 (by decide) ?_
          have hu : mxL (fun k => jnL (hA h aa (pa + 10 * i + k)) (hA h ab (pb + 10 * k + j))) lo (k + 1 - lo).toNat = max (mxL (fun k => jnL (hA h aa (pa + 10 * i + k)) (hA h ab (pb + 10 * k + j))) lo (k - lo).toNat) (jnL (hA h aa (pa + 10 * i + k)) (hA h ab (pb + 10 * k + j))) := by
            rw [show (k + 1 - lo).toNat = (k - lo).toNat + 1 by omega]
            rw [mxL_s, show lo + (((k - lo).toNat : Nat) : Int) = k by omega]
          have hge := mxL_ge (fun k => jnL (hA h aa (pa + 10 * i + k)) (hA h ab (pb + 10 * k + j))) lo (k - lo).toNat
          have hj : jnL (hA h aa (pa + 10 * i + k)) (hA h ab (pb + 10 * k + j)) = w64 (hA h aa (pa + 10 * i + k) + hA h ab (pb + 10 * k + j)) := if_neg (fun z => z.elim c59 c79)
          rw [hj] at hu
          exact ih (k + 1) _ (by omega) (by omega) (by omega) (by rw [hu, eb])

theorem mmu2 (d : Nat) (h : mH) (sh : Sh h) (aa pa la ab pb lb ac pc lc lo : Int) (ka : hK h aa = 11) (kb : hK h ab = 11) (kc : hK h ac = 11) (ja : hL h aa = la) (jb : hL h ab = lb) (jc : hL h ac = lc) (qa : 0 ≤ pa ∧ pa + 100 ≤ la ∧ la ≤ 30000) (qb : 0 ≤ pb ∧ pb + 100 ≤ lb ∧ lb ≤ 30000) (qc : 0 ≤ pc ∧ pc + 100 ≤ lc ∧ lc ≤ 30000) (na : aa ≠ 67) (nb : ab ≠ 67) (nc : ac ≠ 67) (nc1 : ac ≠ 1) (l0 : 0 ≤ lo) (z1 : hF h 41 30 ≤ 10) (i : Int) (i0 : lo ≤ i ∧ i < hF h 41 30) (Q : Option mV → mH → Prop) (kq : ∀ (t : mH) (j : Int) (x10 x12 : mV), Fr [67] [] h t → (∀ i9 j9 : Int, lo ≤ i9 → i9 < hF h 41 30 → lo ≤ j9 → j9 < hF h 41 30 → (i9 < (i + 1) ∨ (i9 = (i + 1) ∧ j9 < lo)) → hA t 67 (10 * i9 + j9) = (mxL (fun k => jnL (hA h aa (pa + 10 * i9 + k)) (hA h ab (pb + 10 * k + j9))) lo (hF h 41 30 - lo).toNat)) → Wp m_X6_multiply (d + 1) 143 [(2, 41), (2, aa), (0, pa), (2, ab), (0, pb), (2, ac), (0, pc), (0, lo), (0, i), (0, j), x10, (9, 0), x12] [] t Q) : ∀ (m : Nat) (j : Int) (x10 x12 : mV) (h' : mH), (hF h 41 30 - j).toNat < m → (lo ≤ j) → (Fr [67] [] h h') → ((∀ i9 j9 : Int, lo ≤ i9 → i9 < hF h 41 30 → lo ≤ j9 → j9 < hF h 41 30 → (i9 < i ∨ (i9 = i ∧ j9 < j)) → hA h' 67 (10 * i9 + j9) = (mxL (fun k => jnL (hA h aa (pa + 10 * i9 + k)) (hA h ab (pb + 10 * k + j9))) lo (hF h 41 30 - lo).toNat))) → Wp m_X6_multiply (d + 1) 17 [(2, 41), (2, aa), (0, pa), (2, ab), (0, pb), (2, ac), (0, pc), (0, lo), (0, i), (0, j), x10, (9, 0), x12] [] h' Q := by
  intro m
  induction m with
  | zero => intro j x10 x12 h' hm; exact absurd hm (Nat.not_lt_zero _)
  | succ m ih =>
    intro j x10 x12 h' hm j0 fr hd
    have sh' := sh.fr fr (by decide +kernel) (by decide)
    have ka' : hK h' aa = 11 := by rw [fr.2.2.1]; exact ka
    have kb' : hK h' ab = 11 := by rw [fr.2.2.1]; exact kb
    have kc' : hK h' ac = 11 := by rw [fr.2.2.1]; exact kc
    have ja' : hL h' aa = la := by rw [fr.2.2.2.1]; exact ja
    have jb' : hL h' ab = lb := by rw [fr.2.2.2.1]; exact jb
    have jc' : hL h' ac = lc := by rw [fr.2.2.2.1]; exact jc
    have e30 : hF h' 41 30 = hF h 41 30 := fr.2.2.2.2.1 41 30 (by simp)
    have eaa : hA h' aa = hA h aa := fr.2.2.2.2.2 aa (by simp; omega)
    have eab : hA h' ab = hA h ab := fr.2.2.2.2.2 ab (by simp; omega)
    refine Wp.ild (j := 9) rfl dX6_multiply_17 ?_
    refine Wp.ald_n (j := 0) rfl dX6_multiply_19 ?_
    refine Wp.getf (k := 30) (tg := 0) kC6 (by decide) rfl lf_X6_230 dX6_multiply_20 (sK41 (h := h') sh') e30 ?_
    refine Wp.icge dX6_multiply_23 (by decide) (tgt := 143) (fun c23 => ?_) (fun c23 => ?_)
    · exact kq h' j _ _ fr (fun i9 j9 a0 a1 b0 b1 hz => hd i9 j9 a0 a1 b0 b1 (by omega))
    · refine Wp.ldc2 (z := -9223372036854775808) lk_X6_115 (by decide) dX6_multiply_26 ?_
      refine stl_13_10 rfl (dSt_w dX6_multiply_29) ?_
      refine Wp.ild (j := 7) rfl dX6_multiply_31 ?_
      refine sti_13_12 rfl (dSt_w dX6_multiply_33) ?_
      refine mmu1 d h sh aa pa la ab pb lb ac pc lc lo ka kb kc ja jb jc qa qb qc na nb nc nc1 l0 z1 i j i0 ⟨j0, by omega⟩ h' fr Q (fun k => ?_) _ lo gNO (Nat.lt_succ_self _) (Int.le_refl _) (by omega) (by rw [Int.sub_self]; rfl)
      refine Wp.ald_n (j := 0) rfl dX6_multiply_122 ?_
      refine Wp.getf (k := 34) (tg := 2) kC6 (by decide) rfl lf_X6_96 dX6_multiply_123 (sK41 sh') (sF41_34 sh') ?_
      refine Wp.bipush dX6_multiply_126 (by decide) ?_
      refine Wp.ild (j := 8) rfl dX6_multiply_128 ?_
      refine Wp.imulE dX6_multiply_130 (w32_of (by omega) (by omega)) ?_
      refine Wp.ild (j := 9) rfl dX6_multiply_131 ?_
      refine Wp.iaddE dX6_multiply_133 (w32_of (by omega) (by omega)) ?_
      refine Wp.lld (j := 10) rfl dX6_multiply_134 ?_
      refine Wp.lastore dX6_multiply_136 (sK67 sh') (by omega) (ilt (sL67 sh') (by omega)) ?_
      refine inc_13_9 rfl dX6_multiply_137 (w32_of (by omega) (by omega)) ?_
      refine Wp.goto (tgt := 17) dX6_multiply_140 (by decide) ?_
      refine ih (j + 1) _ _ _ (by omega) (by omega) (fr.tr (Fr.e (by decide))) (fun i9 j9 a0 a1 b0 b1 hz => ?_)
      rw [hA_sEs]
      by_cases e : 10 * i9 + j9 = 10 * i + j
      · have e1 : i9 = i := by omega
        have e2 : j9 = j := by omega
        rw [e1, e2, u1_s]
      · rw [u1_n _ _ e]
        exact hd i9 j9 a0 a1 b0 b1 (by omega)

theorem mmu3 (d : Nat) (h : mH) (sh : Sh h) (aa pa la ab pb lb ac pc lc lo : Int) (ka : hK h aa = 11) (kb : hK h ab = 11) (kc : hK h ac = 11) (ja : hL h aa = la) (jb : hL h ab = lb) (jc : hL h ac = lc) (qa : 0 ≤ pa ∧ pa + 100 ≤ la ∧ la ≤ 30000) (qb : 0 ≤ pb ∧ pb + 100 ≤ lb ∧ lb ≤ 30000) (qc : 0 ≤ pc ∧ pc + 100 ≤ lc ∧ lc ≤ 30000) (na : aa ≠ 67) (nb : ab ≠ 67) (nc : ac ≠ 67) (nc1 : ac ≠ 1) (l0 : 0 ≤ lo) (z1 : hF h 41 30 ≤ 10) (Q : Option mV → mH → Prop) (kq : ∀ (t : mH) (i : Int) (x9 x10 x12 : mV), Fr [67] [] h t → (∀ i9 j9 : Int, lo ≤ i9 → i9 < hF h 41 30 → lo ≤ j9 → j9 < hF h 41 30 → hA t 67 (10 * i9 + j9) = (mxL (fun k => jnL (hA h aa (pa + 10 * i9 + k)) (hA h ab (pb + 10 * k + j9))) lo (hF h 41 30 - lo).toNat)) → Wp m_X6_multiply (d + 1) 149 [(2, 41), (2, aa), (0, pa), (2, ab), (0, pb), (2, ac), (0, pc), (0, lo), (0, i), x9, x10, (9, 0), x12] [] t Q) : ∀ (m : Nat) (i : Int) (x9 x10 x12 : mV) (h' : mH), (hF h 41 30 - i).toNat < m → (lo ≤ i) → (Fr [67] [] h h') → ((∀ i9 j9 : Int, lo ≤ i9 → i9 < hF h 41 30 → lo ≤ j9 → j9 < hF h 41 30 → (i9 < i ∨ (i9 = i ∧ j9 < lo)) → hA h' 67 (10 * i9 + j9) = (mxL (fun k => jnL (hA h aa (pa + 10 * i9 + k)) (hA h ab (pb + 10 * k + j9))) lo (hF h 41 30 - lo).toNat))) → Wp m_X6_multiply (d + 1) 4 [(2, 41), (2, aa), (0, pa), (2, ab), (0, pb), (2, ac), (0, pc), (0, lo), (0, i), x9, x10, (9, 0), x12] [] h' Q := by
  intro m
  induction m with
  | zero => intro i x9 x10 x12 h' hm; exact absurd hm (Nat.not_lt_zero _)
  | succ m ih =>
    intro i x9 x10 x12 h' hm i0 fr hd
    have sh' := sh.fr fr (by decide +kernel) (by decide)
    have ka' : hK h' aa = 11 := by rw [fr.2.2.1]; exact ka
    have kb' : hK h' ab = 11 := by rw [fr.2.2.1]; exact kb
    have kc' : hK h' ac = 11 := by rw [fr.2.2.1]; exact kc
    have ja' : hL h' aa = la := by rw [fr.2.2.2.1]; exact ja
    have jb' : hL h' ab = lb := by rw [fr.2.2.2.1]; exact jb
    have jc' : hL h' ac = lc := by rw [fr.2.2.2.1]; exact jc
    have e30 : hF h' 41 30 = hF h 41 30 := fr.2.2.2.2.1 41 30 (by simp)
    have eaa : hA h' aa = hA h aa := fr.2.2.2.2.2 aa (by simp; omega)
    have eab : hA h' ab = hA h ab := fr.2.2.2.2.2 ab (by simp; omega)
    refine Wp.ild (j := 8) rfl dX6_multiply_4 ?_
    refine Wp.ald_n (j := 0) rfl dX6_multiply_6 ?_
    refine Wp.getf (k := 30) (tg := 0) kC6 (by decide) rfl lf_X6_230 dX6_multiply_7 (sK41 (h := h') sh') e30 ?_
    refine Wp.icge dX6_multiply_10 (by decide) (tgt := 149) (fun c10 => ?_) (fun c10 => ?_)
    · exact kq h' i _ _ _ fr (fun i9 j9 a0 a1 b0 b1 => hd i9 j9 a0 a1 b0 b1 (by omega))
    · refine Wp.ild (j := 7) rfl dX6_multiply_13 ?_
      refine sti_13_9 rfl (dSt_w dX6_multiply_15) ?_
      refine mmu2 d h sh aa pa la ab pb lb ac pc lc lo ka kb kc ja jb jc qa qb qc na nb nc nc1 l0 z1 i ⟨i0, by omega⟩ Q (fun t j y10 y12 frt hdt => ?_) _ lo _ _ h' (Nat.lt_succ_self _) (Int.le_refl _) fr hd
      refine inc_13_8 rfl dX6_multiply_143 (w32_of (by omega) (by omega)) ?_
      refine Wp.goto (tgt := 4) dX6_multiply_146 (by decide) ?_
      exact ih (i + 1) _ _ _ t (by omega) (by omega) frt hdt

theorem mmu4 (d : Nat) (h : mH) (sh : Sh h) (aa pa la ab pb lb ac pc lc lo : Int) (ka : hK h aa = 11) (kb : hK h ab = 11) (kc : hK h ac = 11) (ja : hL h aa = la) (jb : hL h ab = lb) (jc : hL h ac = lc) (qa : 0 ≤ pa ∧ pa + 100 ≤ la ∧ la ≤ 30000) (qb : 0 ≤ pb ∧ pb + 100 ≤ lb ∧ lb ≤ 30000) (qc : 0 ≤ pc ∧ pc + 100 ≤ lc ∧ lc ≤ 30000) (na : aa ≠ 67) (nb : ab ≠ 67) (nc : ac ≠ 67) (nc1 : ac ≠ 1) (l0 : 0 ≤ lo) (z1 : hF h 41 30 ≤ 10) (i : Int) (i0 : lo ≤ i ∧ i < hF h 41 30) (x10 x12 : mV) (Q : Option mV → mH → Prop) (kq : ∀ (t : mH) (j : Int), Fr [ac] [] h t → (∀ i9 j9 : Int, lo ≤ i9 → i9 < hF h 41 30 → lo ≤ j9 → j9 < hF h 41 30 → (i9 < (i + 1) ∨ (i9 = (i + 1) ∧ j9 < lo)) → hA t ac (pc + 10 * i9 + j9) = hA h 67 (10 * i9 + j9)) → (∀ p, (p < pc ∨ pc + 100 ≤ p) → hA t ac p = hA h ac p) → Wp m_X6_multiply (d + 1) 208 [(2, 41), (2, aa), (0, pa), (2, ab), (0, pb), (2, ac), (0, pc), (0, lo), (0, i), (0, j), x10, (9, 0), x12] [] t Q) : ∀ (m : Nat) (j : Int) (h' : mH), (hF h 41 30 - j).toNat < m → (lo ≤ j) → (Fr [ac] [] h h') → ((∀ i9 j9 : Int, lo ≤ i9 → i9 < hF h 41 30 → lo ≤ j9 → j9 < hF h 41 30 → (i9 < i ∨ (i9 = i ∧ j9 < j)) → hA h' ac (pc + 10 * i9 + j9) = hA h 67 (10 * i9 + j9))) → ((∀ p, (p < pc ∨ pc + 100 ≤ p) → hA h' ac p = hA h ac p)) → Wp m_X6_multiply (d + 1) 166 [(2, 41), (2, aa), (0, pa), (2, ab), (0, pb), (2, ac), (0, pc), (0, lo), (0, i), (0, j), x10, (9, 0), x12] [] h' Q := by
  intro m
  induction m with
  | zero => intro j h' hm; exact absurd hm (Nat.not_lt_zero _)
  | succ m ih =>
    intro j h' hm j0 fr hd ho
    have sh' := sh.fr fr (by decide +kernel) (by simp; omega)
    have ka' : hK h' aa = 11 := by rw [fr.2.2.1]; exact ka
    have kb' : hK h' ab = 11 := by rw [fr.2.2.1]; exact kb
    have kc' : hK h' ac = 11 := by rw [fr.2.2.1]; exact kc
    have ja' : hL h' aa = la := by rw [fr.2.2.2.1]; exact ja
    have jb' : hL h' ab = lb := by rw [fr.2.2.2.1]; exact jb
    have jc' : hL h' ac = lc := by rw [fr.2.2.2.1]; exact jc
    have e30 : hF h' 41 30 = hF h 41 30 := fr.2.2.2.2.1 41 30 (by simp)
    have e67 : hA h' 67 = hA h 67 := fr.2.2.2.2.2 67 (by simp; omega)
    refine Wp.ild (j := 9) rfl dX6_multiply_166 ?_
    refine Wp.ald_n (j := 0) rfl dX6_multiply_168 ?_
    refine Wp.getf (k := 30) (tg := 0) kC6 (by decide) rfl lf_X6_230 dX6_multiply_169 (sK41 (h := h') sh') e30 ?_
    refine Wp.icge dX6_multiply_172 (by decide) (tgt := 208) (fun c172 => ?_) (fun c172 => ?_)
    · exact kq h' j fr (fun i9 j9 a0 a1 b0 b1 hz => hd i9 j9 a0 a1 b0 b1 (by omega)) ho
    · refine Wp.ald (j := 5) rfl dX6_multiply_175 ?_
      refine Wp.ild (j := 6) rfl dX6_multiply_177 ?_
      refine Wp.bipush dX6_multiply_179 (by decide) ?_
      refine Wp.ild (j := 8) rfl dX6_multiply_181 ?_
      refine Wp.imulE dX6_multiply_183 (by first | exact w32_of (by omega) (by omega) | rfl) ?_
      refine Wp.iaddE dX6_multiply_184 (by first | exact w32_of (by omega) (by omega) | rfl) ?_
      refine Wp.ild (j := 9) rfl dX6_multiply_185 ?_
      refine Wp.iaddE dX6_multiply_187 (by first | exact w32_of (by omega) (by omega) | rfl) ?_
      refine Wp.ald_n (j := 0) rfl dX6_multiply_188 ?_
      refine Wp.getf (k := 34) (tg := 2) kC6 (by decide) rfl lf_X6_96 dX6_multiply_189 (sK41 (h := h') sh') (sF41_34 (h := h') sh') ?_
      refine Wp.bipush dX6_multiply_192 (by decide) ?_
      refine Wp.ild (j := 8) rfl dX6_multiply_194 ?_
      refine Wp.imulE dX6_multiply_196 (by first | exact w32_of (by omega) (by omega) | rfl) ?_
      refine Wp.ild (j := 9) rfl dX6_multiply_197 ?_
      refine Wp.iaddE dX6_multiply_199 (by first | exact w32_of (by omega) (by omega) | rfl) ?_
      refine Wp.laload dX6_multiply_200 (sK67 (h := h') sh') (by omega) (ilt (sL67 (h := h') sh') (by omega)) (show hA _ 67 _ = hA h 67 _ from congrFun e67 _) ?_
      refine Wp.lastore dX6_multiply_201 kc' (by omega) (ilt jc' (by omega)) ?_
      refine inc_13_9 rfl dX6_multiply_202 (by first | exact w32_of (by omega) (by omega) | rfl) ?_
      refine Wp.goto (tgt := 166) dX6_multiply_205 (by decide) ?_
      refine ih (j + 1) _ (by omega) (by omega) (fr.tr (Fr.e (by simp))) (fun i9 j9 a0 a1 b0 b1 hz => ?_) (fun p hp => ?_)
      · rw [hA_sEs]
        by_cases e : pc + 10 * i9 + j9 = pc + 10 * i + j
        · have e1 : i9 = i := by omega
          have e2 : j9 = j := by omega
          rw [e1, e2, u1_s]
        · rw [u1_n _ _ e]
          exact hd i9 j9 a0 a1 b0 b1 (by omega)
      · rw [hA_sEs, u1_n _ _ (by omega)]
        exact ho p hp

theorem mmu5 (d : Nat) (h : mH) (sh : Sh h) (aa pa la ab pb lb ac pc lc lo : Int) (ka : hK h aa = 11) (kb : hK h ab = 11) (kc : hK h ac = 11) (ja : hL h aa = la) (jb : hL h ab = lb) (jc : hL h ac = lc) (qa : 0 ≤ pa ∧ pa + 100 ≤ la ∧ la ≤ 30000) (qb : 0 ≤ pb ∧ pb + 100 ≤ lb ∧ lb ≤ 30000) (qc : 0 ≤ pc ∧ pc + 100 ≤ lc ∧ lc ≤ 30000) (na : aa ≠ 67) (nb : ab ≠ 67) (nc : ac ≠ 67) (nc1 : ac ≠ 1) (l0 : 0 ≤ lo) (z1 : hF h 41 30 ≤ 10) (x10 x12 : mV) : ∀ (m : Nat) (i : Int) (x9 : mV) (h' : mH), (hF h 41 30 - i).toNat < m → (lo ≤ i) → (Fr [ac] [] h h') → ((∀ i9 j9 : Int, lo ≤ i9 → i9 < hF h 41 30 → lo ≤ j9 → j9 < hF h 41 30 → (i9 < i ∨ (i9 = i ∧ j9 < lo)) → hA h' ac (pc + 10 * i9 + j9) = hA h 67 (10 * i9 + j9))) → ((∀ p, (p < pc ∨ pc + 100 ≤ p) → hA h' ac p = hA h ac p)) → Wp m_X6_multiply (d + 1) 153 [(2, 41), (2, aa), (0, pa), (2, ab), (0, pb), (2, ac), (0, pc), (0, lo), (0, i), x9, x10, (9, 0), x12] [] h' (fun r t => r = none ∧ Fr [ac] [] h t ∧ (∀ i9 j9 : Int, lo ≤ i9 → i9 < hF h 41 30 → lo ≤ j9 → j9 < hF h 41 30 → hA t ac (pc + 10 * i9 + j9) = hA h 67 (10 * i9 + j9)) ∧ (∀ p, (p < pc ∨ pc + 100 ≤ p) → hA t ac p = hA h ac p)) := by
  intro m
  induction m with
  | zero => intro i x9 h' hm; exact absurd hm (Nat.not_lt_zero _)
  | succ m ih =>
    intro i x9 h' hm i0 fr hd ho
    have sh' := sh.fr fr (by decide +kernel) (by simp; omega)
    have ka' : hK h' aa = 11 := by rw [fr.2.2.1]; exact ka
    have kb' : hK h' ab = 11 := by rw [fr.2.2.1]; exact kb
    have kc' : hK h' ac = 11 := by rw [fr.2.2.1]; exact kc
    have ja' : hL h' aa = la := by rw [fr.2.2.2.1]; exact ja
    have jb' : hL h' ab = lb := by rw [fr.2.2.2.1]; exact jb
    have jc' : hL h' ac = lc := by rw [fr.2.2.2.1]; exact jc
    have e30 : hF h' 41 30 = hF h 41 30 := fr.2.2.2.2.1 41 30 (by simp)
    have e67 : hA h' 67 = hA h 67 := fr.2.2.2.2.2 67 (by simp; omega)
    refine Wp.ild (j := 8) rfl dX6_multiply_153 ?_
    refine Wp.ald_n (j := 0) rfl dX6_multiply_155 ?_
    refine Wp.getf (k := 30) (tg := 0) kC6 (by decide) rfl lf_X6_230 dX6_multiply_156 (sK41 (h := h') sh') e30 ?_
    refine Wp.icge dX6_multiply_159 (by decide) (tgt := 214) (fun c159 => ?_) (fun c159 => ?_)
    · refine Wp.vret rfl dX6_multiply_214 ?_
      exact ⟨rfl, fr, fun i9 j9 a0 a1 b0 b1 => hd i9 j9 a0 a1 b0 b1 (by omega), ho⟩
    · refine Wp.ild (j := 7) rfl dX6_multiply_162 ?_
      refine sti_13_9 rfl (dSt_w dX6_multiply_164) ?_
      refine mmu4 d h sh aa pa la ab pb lb ac pc lc lo ka kb kc ja jb jc qa qb qc na nb nc nc1 l0 z1 i ⟨i0, by omega⟩ _ _ _ (fun t j frt hdt hot => ?_) _ lo h' (Nat.lt_succ_self _) (Int.le_refl _) fr hd ho
      refine inc_13_8 rfl dX6_multiply_208 (w32_of (by omega) (by omega)) ?_
      refine Wp.goto (tgt := 153) dX6_multiply_211 (by decide) ?_
      exact ih (i + 1) _ t (by omega) (by omega) frt hdt hot

theorem cq_mmul (d : Nat) (h : mH) (sh : Sh h) (aa pa la ab pb lb ac pc lc lo : Int) (ka : hK h aa = 11) (kb : hK h ab = 11) (kc : hK h ac = 11) (ja : hL h aa = la) (jb : hL h ab = lb) (jc : hL h ac = lc) (qa : 0 ≤ pa ∧ pa + 100 ≤ la ∧ la ≤ 30000) (qb : 0 ≤ pb ∧ pb + 100 ≤ lb ∧ lb ≤ 30000) (qc : 0 ≤ pc ∧ pc + 100 ≤ lc ∧ lc ≤ 30000) (na : aa ≠ 67) (nb : ab ≠ 67) (nc : ac ≠ 67) (nc1 : ac ≠ 1) (l0 : 0 ≤ lo) (z1 : hF h 41 30 ≤ 10) : Cq m_X6_multiply (d + 1) [(2, 41), (2, aa), (0, pa), (2, ab), (0, pb), (2, ac), (0, pc), (0, lo)] h (fun r t => r = none ∧ Fr [67, ac] [] h t ∧ (∀ i9 j9 : Int, lo ≤ i9 → i9 < hF h 41 30 → lo ≤ j9 → j9 < hF h 41 30 → hA t ac (pc + 10 * i9 + j9) = (mxL (fun k => jnL (hA h aa (pa + 10 * i9 + k)) (hA h ab (pb + 10 * k + j9))) lo (hF h 41 30 - lo).toNat)) ∧ (∀ p, (p < pc ∨ pc + 100 ≤ p) → hA t ac p = hA h ac p)) := by
  refine Cq.of ?_
  show Wp m_X6_multiply ((d + 1)) 0 [(2, 41), (2, aa), (0, pa), (2, ab), (0, pb), (2, ac), (0, pc), (0, lo), (9, 0), (9, 0), (9, 0), (9, 0), (9, 0)] [] h _
  refine Wp.ild (j := 7) rfl dX6_multiply_0 ?_
  refine sti_13_8 rfl (dSt_w dX6_multiply_2) ?_
  refine mmu3 d h sh aa pa la ab pb lb ac pc lc lo ka kb kc ja jb jc qa qb qc na nb nc nc1 l0 z1 _ (fun t i x9 x10 x12 frt hdt => ?_) _ lo _ _ _ h (Nat.lt_succ_self _) (Int.le_refl _) Fr.rf (fun i9 j9 a0 a1 b0 b1 hz => absurd hz (by omega))
  have e30 : hF t 41 30 = hF h 41 30 := frt.2.2.2.2.1 41 30 (by simp)
  have eac : hA t ac = hA h ac := frt.2.2.2.2.2 ac (by simp; omega)
  refine Wp.ild (j := 7) rfl dX6_multiply_149 ?_
  refine sti_13_8 rfl (dSt_w dX6_multiply_151) ?_
  refine (mmu5 d t (sh.fr frt (by decide +kernel) (by decide)) aa pa la ab pb lb ac pc lc lo (by rw [frt.2.2.1]; exact ka) (by rw [frt.2.2.1]; exact kb) (by rw [frt.2.2.1]; exact kc) (by rw [frt.2.2.2.1]; exact ja) (by rw [frt.2.2.2.1]; exact jb) (by rw [frt.2.2.2.1]; exact jc) qa qb qc na nb nc nc1 l0 (by rw [e30]; exact z1) _ _ _ lo _ t (Nat.lt_succ_self _) (Int.le_refl _) Fr.rf (fun i9 j9 a0 a1 b0 b1 hz => absurd hz (by omega)) (fun _ _ => rfl)).mono (fun r u q => ?_)
  obtain ⟨hr, fru, hcp, hou⟩ := q
  rw [e30] at hcp
  refine ⟨hr, (frt.mono (by simp) (by simp)).tr (fru.mono (by simp) (by simp)), fun i9 j9 a0 a1 b0 b1 => ?_, fun p hp => ?_⟩
  · rw [hcp i9 j9 a0 a1 b0 b1]
    exact hdt i9 j9 a0 a1 b0 b1
  · rw [hou p hp, eac]

