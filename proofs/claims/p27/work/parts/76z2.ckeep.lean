theorem keepX_loop2 (d : Nat) (h : mH) (sh : Sh h) (af ho bs rw na nr : Int) (en : EN h af ho bs rw na nr) (S : Int) (S0 : 0 < S) (S1 : S ≤ 20736) (Sn : S ≤ na) (rg : RG S (hA h af)) (hper : ∀ x, 0 ≤ x → x < S → hA h ho x = x → ∃ c : Nat, 1 ≤ c ∧ itn (hA h af) c x = x) (n : Int) (n0 : 0 ≤ n) (n1 : n ≤ S) (n3 : 3 * n ≤ nr) (nc : n = ((cR (hA h ho) (S).toNat : Nat) : Int)) : ∀ (m : Nat) (i j : Int) (h' : mH), (S - j).toNat < m → (0 ≤ i) → (0 ≤ j) → (j ≤ S) → (i = ((cR (hA h ho) (j).toNat : Nat) : Int)) → (Fr [rw] [] h h') → (∀ x, 0 ≤ x → x < j → hA h ho x = x → hA h' rw (3 * ((cR (hA h ho) (x).toNat : Nat) : Int)) = x ∧ LN9 (hA h af) x (hA h' rw (3 * ((cR (hA h ho) (x).toNat : Nat) : Int) + 1)) ∧ hA h' rw (3 * ((cR (hA h ho) (x).toNat : Nat) : Int) + 2) = hA h bs x) → Wp m_X1_keep (d + 1) 78 [(2, 17), (0, S), (0, n), (0, i), (0, j)] [] h' (fun r t => r = none ∧ Fr [rw] [] h t ∧ ∀ x, 0 ≤ x → x < S → hA h ho x = x → hA t rw (3 * ((cR (hA h ho) (x).toNat : Nat) : Int)) = x ∧ LN9 (hA h af) x (hA t rw (3 * ((cR (hA h ho) (x).toNat : Nat) : Int) + 1)) ∧ hA t rw (3 * ((cR (hA h ho) (x).toNat : Nat) : Int) + 2) = hA h bs x) := by
  intro m
  induction m with
  | zero => intro i j h' hm; exact absurd hm (Nat.not_lt_zero _)
  | succ m ih =>
    intro i j h' hm i0 j0 js ic fr hr
    obtain ⟨⟨t0, k0, l0⟩, ⟨t1, k1, l1⟩, ⟨t2, k2, l2⟩, ⟨t3, k3, l3⟩, ⟨hn1, hn2, hn3, hn4, hn5, hn6⟩, ⟨y0, y1, y2, y3⟩, ⟨z0, z1, z2, z3⟩, ⟨b0, b1⟩, c0, c1⟩ := id en
    have h74 := sh.2.2.2.2
    have en' := en.fr fr
    have ea : hA h' af = hA h af := fr.2.2.2.2.2 af (by simp; omega)
    have eh : hA h' ho = hA h ho := fr.2.2.2.2.2 ho (by simp; omega)
    have eb : hA h' bs = hA h bs := fr.2.2.2.2.2 bs (by simp; omega)
    have sh' := sh.fr fr (by decide +kernel) (by simp; omega)
    obtain ⟨⟨t0', k0', l0'⟩, ⟨t1', k1', l1'⟩, ⟨t2', k2', l2'⟩, ⟨t3', k3', l3'⟩, -⟩ := id en'
    refine Wp.ild (j := 4) rfl dX1_keep_78 ?_
    refine Wp.ild_n (j := 1) rfl dX1_keep_80 ?_
    refine Wp.icge dX1_keep_81 (by decide) (tgt := 154) (fun c81 => ?_) (fun c81 => ?_)
    · refine Wp.vret rfl dX1_keep_154 ?_
      refine ⟨rfl, fr, fun x x0 x1 hx => hr x x0 ?_ hx⟩
      by_cases z : x < j
      · exact z
      · have hlt := cR_lt x0 hx x1
        have hmo := cR_mono (g := hA h ho) (a := j.toNat) x.toNat (by omega)
        omega
    · refine Wp.ild_n (j := 3) rfl dX1_keep_84 ?_
      refine Wp.ild_n (j := 2) rfl dX1_keep_85 ?_
      refine Wp.icge dX1_keep_86 (by decide) (tgt := 154) (fun c86 => ?_) (fun c86 => ?_)
      · refine Wp.vret rfl dX1_keep_154 ?_
        refine ⟨rfl, fr, fun x x0 x1 hx => hr x x0 ?_ hx⟩
        by_cases z : x < j
        · exact z
        · have hlt := cR_lt x0 hx x1
          have hmo := cR_mono (g := hA h ho) (a := j.toNat) x.toNat (by omega)
          omega
      · refine Wp.ald_n (j := 0) rfl dX1_keep_89 ?_
        refine Wp.getf (k := 1) (tg := 2) kC1 (by decide) rfl lf_X1_15 dX1_keep_90 (sK17 (h := h') sh') t1' ?_
        refine Wp.ild (j := 4) rfl dX1_keep_93 ?_
        refine Wp.iaload dX1_keep_95 k1' (by omega) (ilt l1' (by omega)) (show hA _ ho _ = hA h' ho _ from rfl) ?_
        refine Wp.ild (j := 4) rfl dX1_keep_96 ?_
        refine Wp.icne dX1_keep_98 (by decide) (tgt := 148) (fun c98 => ?_) (fun c98 => ?_)
        · refine inc_5_4 rfl dX1_keep_148 (by first | exact w32_of (by omega) (by omega) | rfl) ?_
          refine Wp.goto (tgt := 78) dX1_keep_151 (by decide) ?_
          have hcs := cR_st (hA h ho) j0
          rw [eh] at c98
          rw [if_neg c98] at hcs
          refine ih i (j + 1) _ (by omega) i0 (by omega) (by omega) (by omega) fr (fun x x0 x1 hx => hr x x0 ?_ hx)
          by_cases e : x = j
          · rw [e] at hx
            exact absurd hx c98
          · omega
        · refine Wp.ald_n (j := 0) rfl dX1_keep_101 ?_
          refine Wp.getf (k := 3) (tg := 2) kC1 (by decide) rfl lf_X1_21 dX1_keep_102 (sK17 (h := h') sh') t3' ?_
          refine Wp.ild_n (j := 3) rfl dX1_keep_105 ?_
          refine Wp.iconst dX1_keep_106 (by decide) ?_
          refine Wp.imulE dX1_keep_107 (by first | exact w32_of (by omega) (by omega) | rfl) ?_
          refine Wp.ild (j := 4) rfl dX1_keep_108 ?_
          refine Wp.iastore dX1_keep_110 k3' (by omega) (ilt l3' (by omega)) ?_
          refine Wp.ald_n (j := 0) rfl dX1_keep_111 ?_
          refine Wp.getf (k := 3) (tg := 2) kC1 (by decide) rfl lf_X1_21 dX1_keep_112 (sK17 (h := h') sh') t3' ?_
          refine Wp.ild_n (j := 3) rfl dX1_keep_115 ?_
          refine Wp.iconst dX1_keep_116 (by decide) ?_
          refine Wp.imulE dX1_keep_117 (by first | exact w32_of (by omega) (by omega) | rfl) ?_
          refine Wp.iconst dX1_keep_118 (by decide) ?_
          refine Wp.iaddE dX1_keep_119 (by first | exact w32_of (by omega) (by omega) | rfl) ?_
          refine Wp.ald_n (j := 0) rfl dX1_keep_120 ?_
          refine Wp.ild (j := 4) rfl dX1_keep_121 ?_
          refine Wp.ild_n (j := 1) rfl dX1_keep_123 ?_
          have f1 : Fr [rw] [] h (sE h' rw (i * 3) j) := fr.tr (Fr.e (by simp))
          have ea1 : hA (sE h' rw (i * 3) j) af = hA h af := f1.2.2.2.2.2 af (by simp; omega)
          obtain ⟨_, t124, ct124, ⟨y124, rfl, hln⟩, e124⟩ := cq_lengthX d _ (sh.fr f1 (by decide +kernel) (by simp; omega)) af ho bs rw na nr (en.fr f1) S S0 S1 Sn (by rw [ea1]; exact rg) j j0 (by omega) (by rw [ea1]; exact hper j j0 (by omega) (by rw [← eh]; exact c98))
          rw [e124] at ct124
          rw [ea1] at hln
          refine Wp.callV1 (ct124) wc_X1_60 iM_X1_lengthOfRound se_X1_lengthOfRound kC1 (sK17 (h := h') sh') dX1_keep_124 rfl (Nat.le_of_ble_eq_true rfl) rfl (Nat.le_of_ble_eq_true rfl) ?_
          refine Wp.iastore dX1_keep_127 k3' (by omega) (ilt l3' (by omega)) ?_
          refine Wp.ald_n (j := 0) rfl dX1_keep_128 ?_
          refine Wp.getf (k := 3) (tg := 2) kC1 (by decide) rfl lf_X1_21 dX1_keep_129 (sK17 (h := h') sh') t3' ?_
          refine Wp.ild_n (j := 3) rfl dX1_keep_132 ?_
          refine Wp.iconst dX1_keep_133 (by decide) ?_
          refine Wp.imulE dX1_keep_134 (by first | exact w32_of (by omega) (by omega) | rfl) ?_
          refine Wp.iconst dX1_keep_135 (by decide) ?_
          refine Wp.iaddE dX1_keep_136 (by first | exact w32_of (by omega) (by omega) | rfl) ?_
          refine Wp.ald_n (j := 0) rfl dX1_keep_137 ?_
          refine Wp.getf (k := 2) (tg := 2) kC1 (by decide) rfl lf_X1_18 dX1_keep_138 (sK17 (h := h') sh') t2' ?_
          refine Wp.ild (j := 4) rfl dX1_keep_141 ?_
          refine Wp.iaload dX1_keep_143 k2' (by omega) (ilt l2' (by omega)) rfl ?_
          refine Wp.iastore dX1_keep_144 k3' (by omega) (ilt l3' (by omega)) ?_
          refine inc_5_3 rfl dX1_keep_145 (by first | exact w32_of (by omega) (by omega) | rfl) ?_
          refine inc_5_4 rfl dX1_keep_148 (by first | exact w32_of (by omega) (by omega) | rfl) ?_
          refine Wp.goto (tgt := 78) dX1_keep_151 (by decide) ?_
          have hcs := cR_st (hA h ho) j0
          rw [eh] at c98
          rw [if_pos c98] at hcs
          refine ih (i + 1) (j + 1) _ (by omega) (by omega) (by omega) (by omega) (by omega) (fr.tr ((Fr.e (by simp)).tr ((Fr.e (by simp)).tr (Fr.e (by simp))))) (fun x x0 x1 hx => ?_)
          rw [hA_sEs, hA_sEs, hA_sEs]
          by_cases e : x = j
          · rw [e, ← ic, show 3 * i + 1 = i * 3 + 1 by omega, show 3 * i + 2 = i * 3 + 2 by omega, show 3 * i = i * 3 by omega, u1_s, u1_n _ _ (show i * 3 + 1 ≠ i * 3 + 2 by omega), u1_s, u1_n _ _ (show i * 3 ≠ i * 3 + 2 by omega), u1_n _ _ (show i * 3 ≠ i * 3 + 1 by omega), u1_s]
            refine ⟨rfl, hln, ?_⟩
            first
            | (rw [hA_sEn (by omega), hA_sEn (by omega), eb])
            | (rw [eb])
          · have hlt := cR_lt x0 hx (show x < j by omega)
            rw [u1_n _ _ (show 3 * ((cR (hA h ho) (x).toNat : Nat) : Int) ≠ i * 3 + 2 by omega), u1_n _ _ (show 3 * ((cR (hA h ho) (x).toNat : Nat) : Int) ≠ i * 3 + 1 by omega), u1_n _ _ (show 3 * ((cR (hA h ho) (x).toNat : Nat) : Int) ≠ i * 3 by omega), u1_n _ _ (show 3 * ((cR (hA h ho) (x).toNat : Nat) : Int) + 1 ≠ i * 3 + 2 by omega), u1_n _ _ (show 3 * ((cR (hA h ho) (x).toNat : Nat) : Int) + 1 ≠ i * 3 + 1 by omega), u1_n _ _ (show 3 * ((cR (hA h ho) (x).toNat : Nat) : Int) + 1 ≠ i * 3 by omega), u1_n _ _ (show 3 * ((cR (hA h ho) (x).toNat : Nat) : Int) + 2 ≠ i * 3 + 2 by omega), u1_n _ _ (show 3 * ((cR (hA h ho) (x).toNat : Nat) : Int) + 2 ≠ i * 3 + 1 by omega), u1_n _ _ (show 3 * ((cR (hA h ho) (x).toNat : Nat) : Int) + 2 ≠ i * 3 by omega)]
            exact hr x x0 (by omega) hx

theorem keepX_rest (d : Nat) (h : mH) (sh : Sh h) (af ho bs rw na nr : Int) (en : EN h af ho bs rw na nr) (S : Int) (S0 : 0 < S) (S1 : S ≤ 20736) (Sn : S ≤ na) (rg : RG S (hA h af)) (hper : ∀ x, 0 ≤ x → x < S → hA h ho x = x → ∃ c : Nat, 1 ≤ c ∧ itn (hA h af) c x = x) (mn : Int) (hmn : hF h 17 4 = mn) (m0 : 0 ≤ mn) (m1 : mn ≤ 20736) (n j : Int) (n0 : 0 ≤ n) (n1 : n ≤ S) (nc : n = ((cR (hA h ho) (S).toNat : Nat) : Int)) (u4 : mV) : Wp m_X1_keep (d + 1) 33 [(2, 17), (0, S), (0, n), (0, j), u4] [] h (fun r t => r = none ∧ ∃ rw' nr', EN t af ho bs rw' na nr' ∧ hF t 17 4 = n ∧ Fq (fun a => a = rw) [(17, 3), (17, 4)] h t ∧ ((rw' = rw ∧ nr' = nr ∧ hN t = hN h ∧ hZ t = hZ h ∧ 3 * n ≤ nr) ∨ (nr < 3 * n ∧ nr' = max n (min 20736 (2 * mn)) * 3 ∧ hN t = hN h + 1 ∧ (hZ t : Int) = hZ h + nr' ∧ rw' = (hN h : Int))) ∧ ∀ x, 0 ≤ x → x < S → hA h ho x = x → hA t rw' (3 * ((cR (hA h ho) (x).toNat : Nat) : Int)) = x ∧ LN9 (hA h af) x (hA t rw' (3 * ((cR (hA h ho) (x).toNat : Nat) : Int) + 1)) ∧ hA t rw' (3 * ((cR (hA h ho) (x).toNat : Nat) : Int) + 2) = hA h bs x) := by
  obtain ⟨⟨t0, k0, l0⟩, ⟨t1, k1, l1⟩, ⟨t2, k2, l2⟩, ⟨t3, k3, l3⟩, ⟨hn1, hn2, hn3, hn4, hn5, hn6⟩, ⟨y0, y1, y2, y3⟩, ⟨z0, z1, z2, z3⟩, ⟨b0, b1⟩, c0, c1⟩ := id en
  have h74 := sh.2.2.2.2
  refine Wp.ald_n (j := 0) rfl dX1_keep_33 ?_
  refine Wp.getf (k := 3) (tg := 2) kC1 (by decide) rfl lf_X1_21 dX1_keep_34 (sK17 (h := h) sh) t3 ?_
  refine Wp.alen dX1_keep_37 (by decide) (by decide) k3 l3 (by omega) ?_
  refine Wp.ild_n (j := 2) rfl dX1_keep_38 ?_
  refine Wp.iconst dX1_keep_39 (by decide) ?_
  refine Wp.imulE dX1_keep_40 (by first | exact w32_of (by omega) (by omega) | rfl) ?_
  refine Wp.icge dX1_keep_41 (by decide) (tgt := 68) (fun c41 => ?_) (fun c41 => ?_)
  · refine Wp.ald_n (j := 0) rfl dX1_keep_68 ?_
    refine Wp.ild_n (j := 2) rfl dX1_keep_69 ?_
    refine Wp.putf (k := 4) (tg := 0) kC1 (by decide) rfl rfl lf_X1_24 dX1_keep_70 (sK17 (h := h) sh) ?_
    refine Wp.iconst dX1_keep_73 (by decide) ?_
    refine sti_5_3 rfl (dSt_n dX1_keep_74) ?_
    refine Wp.iconst dX1_keep_75 (by decide) ?_
    refine sti_5_4 rfl (dSt_w dX1_keep_76) ?_
    first
    | (have f78 : Fr [rw] [(17, 4)] h (sF h 17 4 n) := Fr.f (by decide)
       have en78 : EN (sF h 17 4 n) af ho bs rw na nr := en
       refine (keepX_loop2 d _ (sh.fr f78 (by decide +kernel) (by simp; omega)) af ho bs rw na nr en78 S S0 S1 Sn rg hper n n0 n1 (by omega) nc _ 0 0 _ (Nat.lt_succ_self _) (Int.le_refl _) (Int.le_refl _) (by omega) rfl Fr.rf (fun x x0 x1 => absurd x1 (by omega))).mono (fun r t q => ?_)
       obtain ⟨q1, q2, q3⟩ := q
       refine ⟨q1, rw, nr, en78.fr q2, (q2.2.2.2.2.1 17 4 (by simp)).trans rfl, ?_, Or.inl ⟨rfl, rfl, q2.1, q2.2.1, by omega⟩, q3⟩
       exact (Fq.f (by decide)).tr ((Fq.fr (A := fun a => a = rw) q2 (by simp)).mono (fun x _ z => z) (by simp)))
    | (have f78 : Fq (fun _ => False) [(17, 3), (17, 4)] h (sF (sF (nA h 10 (max n (min 20736 (2 * mn)) * 3)) 17 3 (hN h : Int)) 17 4 n) := (Fq.n (t := 10) (n := (max n (min 20736 (2 * mn)) * 3))).tr ((Fq.f (by decide)).tr (Fq.f (by decide)))
       have en78 := en.rw' (n := n) (N := (max n (min 20736 (2 * mn)) * 3)) h74 (by omega) (by omega)
       have ea : hA (sF (sF (nA h 10 (max n (min 20736 (2 * mn)) * 3)) 17 3 (hN h : Int)) 17 4 n) af = hA h af := f78.2.2.2.2.2 af z0 (fun z => z)
       have eh : hA (sF (sF (nA h 10 (max n (min 20736 (2 * mn)) * 3)) 17 3 (hN h : Int)) 17 4 n) ho = hA h ho := f78.2.2.2.2.2 ho z1 (fun z => z)
       have eb : hA (sF (sF (nA h 10 (max n (min 20736 (2 * mn)) * 3)) 17 3 (hN h : Int)) 17 4 n) bs = hA h bs := f78.2.2.2.2.2 bs z2 (fun z => z)
       refine (keepX_loop2 d _ (sh.fq f78 (by decide +kernel) (fun z => z)) af ho bs _ na (max n (min 20736 (2 * mn)) * 3) en78 S S0 S1 Sn (by rw [ea]; exact rg) (by rw [ea, eh]; exact hper) n n0 n1 (by omega) (by rw [eh]; exact nc) _ 0 0 _ (Nat.lt_succ_self _) (Int.le_refl _) (Int.le_refl _) (by omega) rfl Fr.rf (fun x x0 x1 => absurd x1 (by omega))).mono (fun r t q => ?_)
       obtain ⟨q1, q2, q3⟩ := q
       rw [ea, eh, eb] at q3
       refine ⟨q1, _, (max n (min 20736 (2 * mn)) * 3), en78.fr q2, (q2.2.2.2.2.1 17 4 (by simp)).trans rfl, ?_, Or.inr ⟨by omega, rfl, q2.1, ?_, rfl⟩, q3⟩
       · refine (f78.mono (A' := fun a => a = rw) (fun x _ z => z.elim) (fun x z => z)).tr2 ((Fq.fr (A := fun a => a = (hN h : Int)) q2 (by simp)).mono (fun x _ z => z) (by simp)) (fun x hx hz => ?_)
         exact absurd hz (by omega)
       · rw [q2.2.1]
         show ((hZ h + ((max n (min 20736 (2 * mn)) * 3)).toNat : Nat) : Int) = _
         omega)
  · refine Wp.ald_n (j := 0) rfl dX1_keep_44 ?_
    refine Wp.ild_n (j := 2) rfl dX1_keep_45 ?_
    refine Wp.sipush dX1_keep_46 (by decide) ?_
    refine Wp.iconst dX1_keep_49 (by decide) ?_
    refine Wp.ald_n (j := 0) rfl dX1_keep_50 ?_
    refine Wp.getf (k := 4) (tg := 0) kC1 (by decide) rfl lf_X1_24 dX1_keep_51 (sK17 (h := h) sh) hmn ?_
    refine Wp.imulE dX1_keep_54 (by first | exact w32_of (by omega) (by omega) | rfl) ?_
    refine Wp.mmin wm_X1_48 dX1_keep_55 (Nat.le_of_ble_eq_true rfl) ?_
    refine Wp.mmax wm_X1_54 dX1_keep_58 (Nat.le_of_ble_eq_true rfl) ?_
    refine Wp.iconst dX1_keep_61 (by decide) ?_
    refine Wp.imulE dX1_keep_62 (by first | exact w32_of (by omega) (by omega) | rfl) ?_
    refine Wp.newI wT_int dX1_keep_63 (by omega) (by omega) ?_
    refine Wp.putf (k := 3) (tg := 2) kC1 (by decide) rfl rfl lf_X1_21 dX1_keep_65 ((nA_K (h := h) (t := 10) (n := (max n (min 20736 (2 * mn)) * 3)) (show (17 : Int) < ((hN h + 0 : Nat) : Int) by omega)).trans (sK17 (h := h) sh)) ?_
    refine Wp.ald_n (j := 0) rfl dX1_keep_68 ?_
    refine Wp.ild_n (j := 2) rfl dX1_keep_69 ?_
    refine Wp.putf (k := 4) (tg := 0) kC1 (by decide) rfl rfl lf_X1_24 dX1_keep_70 ((nA_K (h := h) (t := 10) (n := (max n (min 20736 (2 * mn)) * 3)) (show (17 : Int) < ((hN h + 0 : Nat) : Int) by omega)).trans (sK17 (h := h) sh)) ?_
    refine Wp.iconst dX1_keep_73 (by decide) ?_
    refine sti_5_3 rfl (dSt_n dX1_keep_74) ?_
    refine Wp.iconst dX1_keep_75 (by decide) ?_
    refine sti_5_4 rfl (dSt_w dX1_keep_76) ?_
    first
    | (have f78 : Fr [rw] [(17, 4)] h (sF h 17 4 n) := Fr.f (by decide)
       have en78 : EN (sF h 17 4 n) af ho bs rw na nr := en
       refine (keepX_loop2 d _ (sh.fr f78 (by decide +kernel) (by simp; omega)) af ho bs rw na nr en78 S S0 S1 Sn rg hper n n0 n1 (by omega) nc _ 0 0 _ (Nat.lt_succ_self _) (Int.le_refl _) (Int.le_refl _) (by omega) rfl Fr.rf (fun x x0 x1 => absurd x1 (by omega))).mono (fun r t q => ?_)
       obtain ⟨q1, q2, q3⟩ := q
       refine ⟨q1, rw, nr, en78.fr q2, (q2.2.2.2.2.1 17 4 (by simp)).trans rfl, ?_, Or.inl ⟨rfl, rfl, q2.1, q2.2.1, by omega⟩, q3⟩
       exact (Fq.f (by decide)).tr ((Fq.fr (A := fun a => a = rw) q2 (by simp)).mono (fun x _ z => z) (by simp)))
    | (have f78 : Fq (fun _ => False) [(17, 3), (17, 4)] h (sF (sF (nA h 10 (max n (min 20736 (2 * mn)) * 3)) 17 3 (hN h : Int)) 17 4 n) := (Fq.n (t := 10) (n := (max n (min 20736 (2 * mn)) * 3))).tr ((Fq.f (by decide)).tr (Fq.f (by decide)))
       have en78 := en.rw' (n := n) (N := (max n (min 20736 (2 * mn)) * 3)) h74 (by omega) (by omega)
       have ea : hA (sF (sF (nA h 10 (max n (min 20736 (2 * mn)) * 3)) 17 3 (hN h : Int)) 17 4 n) af = hA h af := f78.2.2.2.2.2 af z0 (fun z => z)
       have eh : hA (sF (sF (nA h 10 (max n (min 20736 (2 * mn)) * 3)) 17 3 (hN h : Int)) 17 4 n) ho = hA h ho := f78.2.2.2.2.2 ho z1 (fun z => z)
       have eb : hA (sF (sF (nA h 10 (max n (min 20736 (2 * mn)) * 3)) 17 3 (hN h : Int)) 17 4 n) bs = hA h bs := f78.2.2.2.2.2 bs z2 (fun z => z)
       refine (keepX_loop2 d _ (sh.fq f78 (by decide +kernel) (fun z => z)) af ho bs _ na (max n (min 20736 (2 * mn)) * 3) en78 S S0 S1 Sn (by rw [ea]; exact rg) (by rw [ea, eh]; exact hper) n n0 n1 (by omega) (by rw [eh]; exact nc) _ 0 0 _ (Nat.lt_succ_self _) (Int.le_refl _) (Int.le_refl _) (by omega) rfl Fr.rf (fun x x0 x1 => absurd x1 (by omega))).mono (fun r t q => ?_)
       obtain ⟨q1, q2, q3⟩ := q
       rw [ea, eh, eb] at q3
       refine ⟨q1, _, (max n (min 20736 (2 * mn)) * 3), en78.fr q2, (q2.2.2.2.2.1 17 4 (by simp)).trans rfl, ?_, Or.inr ⟨by omega, rfl, q2.1, ?_, rfl⟩, q3⟩
       · refine (f78.mono (A' := fun a => a = rw) (fun x _ z => z.elim) (fun x z => z)).tr2 ((Fq.fr (A := fun a => a = (hN h : Int)) q2 (by simp)).mono (fun x _ z => z) (by simp)) (fun x hx hz => ?_)
         exact absurd hz (by omega)
       · rw [q2.2.1]
         show ((hZ h + ((max n (min 20736 (2 * mn)) * 3)).toNat : Nat) : Int) = _
         omega)

theorem keepX_loop1 (d : Nat) (h : mH) (sh : Sh h) (af ho bs rw na nr : Int) (en : EN h af ho bs rw na nr) (S : Int) (S0 : 0 < S) (S1 : S ≤ 20736) (Sn : S ≤ na) (rg : RG S (hA h af)) (hper : ∀ x, 0 ≤ x → x < S → hA h ho x = x → ∃ c : Nat, 1 ≤ c ∧ itn (hA h af) c x = x) (mn : Int) (hmn : hF h 17 4 = mn) (m0 : 0 ≤ mn) (m1 : mn ≤ 20736) (u4 : mV) : ∀ (m : Nat) (n j : Int), (S - j).toNat < m → (0 ≤ j) → (j ≤ S) → ((cR (hA h ho) j.toNat : Int) = n) → Wp m_X1_keep (d + 1) 4 [(2, 17), (0, S), (0, n), (0, j), u4] [] h (fun r t => r = none ∧ ∃ rw' nr', EN t af ho bs rw' na nr' ∧ hF t 17 4 = cR (hA h ho) S.toNat ∧ Fq (fun a => a = rw) [(17, 3), (17, 4)] h t ∧ ((rw' = rw ∧ nr' = nr ∧ hN t = hN h ∧ hZ t = hZ h ∧ 3 * (cR (hA h ho) S.toNat : Int) ≤ nr) ∨ (nr < 3 * (cR (hA h ho) S.toNat : Int) ∧ nr' = max (cR (hA h ho) S.toNat : Int) (min 20736 (2 * mn)) * 3 ∧ hN t = hN h + 1 ∧ (hZ t : Int) = hZ h + nr' ∧ rw' = (hN h : Int))) ∧ ∀ x, 0 ≤ x → x < S → hA h ho x = x → hA t rw' (3 * ((cR (hA h ho) (x).toNat : Nat) : Int)) = x ∧ LN9 (hA h af) x (hA t rw' (3 * ((cR (hA h ho) (x).toNat : Nat) : Int) + 1)) ∧ hA t rw' (3 * ((cR (hA h ho) (x).toNat : Nat) : Int) + 2) = hA h bs x) := by
  intro m
  induction m with
  | zero => intro n j hm; exact absurd hm (Nat.not_lt_zero _)
  | succ m ih =>
    intro n j hm j0 j1 en0
    obtain ⟨⟨t0, k0, l0⟩, ⟨t1, k1, l1⟩, ⟨t2, k2, l2⟩, ⟨t3, k3, l3⟩, ⟨hn1, hn2, hn3, hn4, hn5, hn6⟩, ⟨y0, y1, y2, y3⟩, ⟨z0, z1, z2, z3⟩, ⟨b0, b1⟩, c0, c1⟩ := id en
    have h74 := sh.2.2.2.2
    have hle0 := cR_le (hA h ho) j.toNat
    refine Wp.ild_n (j := 3) rfl dX1_keep_4 ?_
    refine Wp.ild_n (j := 1) rfl dX1_keep_5 ?_
    refine Wp.icge dX1_keep_6 (by decide) (tgt := 33) (fun c6 => ?_) (fun c6 => ?_)
    · have ej : j = S := by omega
      subst ej
      have hle := cR_le (hA h ho) j.toNat
      rw [← en0]
      exact keepX_rest d h sh af ho bs rw na nr en j S0 S1 Sn rg hper mn hmn m0 m1 _ j (by omega) (by omega) rfl u4
    · refine Wp.ild_n (j := 2) rfl dX1_keep_9 ?_
      refine Wp.ald_n (j := 0) rfl dX1_keep_10 ?_
      refine Wp.getf (k := 1) (tg := 2) kC1 (by decide) rfl lf_X1_15 dX1_keep_11 (sK17 (h := h) sh) t1 ?_
      refine Wp.ild_n (j := 3) rfl dX1_keep_14 ?_
      refine Wp.iaload dX1_keep_15 k1 (by omega) (ilt l1 (by omega)) (show hA _ ho _ = hA h ho _ from rfl) ?_
      refine Wp.ild_n (j := 3) rfl dX1_keep_16 ?_
      refine Wp.icne dX1_keep_17 (by decide) (tgt := 24) (fun c17 => ?_) (fun c17 => ?_)
      · refine Wp.iconst dX1_keep_24 (by decide) ?_
        refine Wp.iaddE dX1_keep_25 (by first | exact w32_of (by omega) (by omega) | rfl) ?_
        refine sti_5_2 rfl (dSt_n dX1_keep_26) ?_
        refine inc_5_3 rfl dX1_keep_27 (by first | exact w32_of (by omega) (by omega) | rfl) ?_
        refine Wp.goto (tgt := 4) dX1_keep_30 (by decide) ?_
        have hc := cR_st (hA h ho) j0
        first
        | (rw [if_pos (by omega)] at hc
           exact ih _ (j + 1) (by omega) (by omega) (by omega) (by omega))
        | (rw [if_neg (by omega)] at hc
           exact ih _ (j + 1) (by omega) (by omega) (by omega) (by omega))
      · refine Wp.iconst dX1_keep_20 (by decide) ?_
        refine Wp.goto (tgt := 25) dX1_keep_21 (by decide) ?_
        refine Wp.iaddE dX1_keep_25 (by first | exact w32_of (by omega) (by omega) | rfl) ?_
        refine sti_5_2 rfl (dSt_n dX1_keep_26) ?_
        refine inc_5_3 rfl dX1_keep_27 (by first | exact w32_of (by omega) (by omega) | rfl) ?_
        refine Wp.goto (tgt := 4) dX1_keep_30 (by decide) ?_
        have hc := cR_st (hA h ho) j0
        first
        | (rw [if_pos (by omega)] at hc
           exact ih _ (j + 1) (by omega) (by omega) (by omega) (by omega))
        | (rw [if_neg (by omega)] at hc
           exact ih _ (j + 1) (by omega) (by omega) (by omega) (by omega))

theorem cq_keepX (d : Nat) (h : mH) (sh : Sh h) (af ho bs rw na nr : Int) (en : EN h af ho bs rw na nr) (S : Int) (S0 : 0 < S) (S1 : S ≤ 20736) (Sn : S ≤ na) (rg : RG S (hA h af)) (hper : ∀ x, 0 ≤ x → x < S → hA h ho x = x → ∃ c : Nat, 1 ≤ c ∧ itn (hA h af) c x = x) (mn : Int) (hmn : hF h 17 4 = mn) (m0 : 0 ≤ mn) (m1 : mn ≤ 20736) : Cq m_X1_keep (d + 1) [(2, 17), (0, S)] h (fun r t => r = none ∧ ∃ rw' nr', EN t af ho bs rw' na nr' ∧ hF t 17 4 = cR (hA h ho) S.toNat ∧ Fq (fun a => a = rw) [(17, 3), (17, 4)] h t ∧ ((rw' = rw ∧ nr' = nr ∧ hN t = hN h ∧ hZ t = hZ h ∧ 3 * (cR (hA h ho) S.toNat : Int) ≤ nr) ∨ (nr < 3 * (cR (hA h ho) S.toNat : Int) ∧ nr' = max (cR (hA h ho) S.toNat : Int) (min 20736 (2 * mn)) * 3 ∧ hN t = hN h + 1 ∧ (hZ t : Int) = hZ h + nr' ∧ rw' = (hN h : Int))) ∧ ∀ x, 0 ≤ x → x < S → hA h ho x = x → hA t rw' (3 * ((cR (hA h ho) (x).toNat : Nat) : Int)) = x ∧ LN9 (hA h af) x (hA t rw' (3 * ((cR (hA h ho) (x).toNat : Nat) : Int) + 1)) ∧ hA t rw' (3 * ((cR (hA h ho) (x).toNat : Nat) : Int) + 2) = hA h bs x) := by
  refine Cq.of ?_
  show Wp m_X1_keep ((d + 1)) 0 [(2, 17), (0, S), (9, 0), (9, 0), (9, 0)] [] h _
  obtain ⟨⟨t0, k0, l0⟩, ⟨t1, k1, l1⟩, ⟨t2, k2, l2⟩, ⟨t3, k3, l3⟩, ⟨hn1, hn2, hn3, hn4, hn5, hn6⟩, ⟨y0, y1, y2, y3⟩, ⟨z0, z1, z2, z3⟩, ⟨b0, b1⟩, c0, c1⟩ := id en
  have h74 := sh.2.2.2.2
  refine Wp.iconst dX1_keep_0 (by decide) ?_
  refine sti_5_2 rfl (dSt_n dX1_keep_1) ?_
  refine Wp.iconst dX1_keep_2 (by decide) ?_
  refine sti_5_3 rfl (dSt_n dX1_keep_3) ?_
  exact keepX_loop1 d h sh af ho bs rw na nr en S S0 S1 Sn rg hper mn hmn m0 m1 _ _ 0 0 (Nat.lt_succ_self _) (Int.le_refl _) (by omega) rfl

noncomputable def pr9 (f : Int → Int) (r n x l : Int) : Int := @ite Int (∀ i : Nat, sp9 (dig9 r (itn f i l)) n x) (Classical.propDecidable _) 1 0
theorem pr9_1 {f : Int → Int} {r n x l : Int} : pr9 f r n x l = 1 ↔ ∀ i : Nat, sp9 (dig9 r (itn f i l)) n x := by
  unfold pr9
  by_cases z : ∀ i : Nat, sp9 (dig9 r (itn f i l)) n x
  · rw [if_pos z]
    exact ⟨fun _ => z, fun _ => rfl⟩
  · rw [if_neg z]
    exact ⟨fun y => absurd y (by decide), fun y => absurd y z⟩
theorem pr9_PM {f H : Int → Int} {r n x S : Int} : PM9 f H (pr9 f r n x) r n x S := fun l _ _ _ => ⟨by
  unfold pr9
  by_cases z : ∀ i : Nat, sp9 (dig9 r (itn f i l)) n x
  · exact Or.inr (if_pos z)
  · exact Or.inl (if_neg z), pr9_1⟩
theorem roundInStepX_loop (d : Nat) (h : mH) (sh : Sh h) (bi : BI h) (af ho bs rw na nr : Int) (en : EN h af ho bs rw na nr) (S : Int) (S0 : 0 < S) (S1 : S ≤ 20736) (Sn : S ≤ na) (rg : RG S (hA h af)) (u x : Int) (v0 : 0 ≤ u) (v1 : u < S) (per : ∃ c : Nat, 1 ≤ c ∧ itn (hA h af) c u = u) : ∀ (m : Nat) (v : Nat) (n : Int) (h' : mH), (S - n).toNat < m → (n = (v : Int)) → (∀ i : Nat, i < v → sp9 (dig9 (hF h 2 0) (itn (hA h af) i u)) (hF h 2 1) x) → (∀ i : Nat, 1 ≤ i → i ≤ v → itn (hA h af) i u ≠ u) → (Fr [11] [] h h') → Wp m_X1_roundInStep (d + 3) 6 [(2, 17), (2, 2), (0, u), (0, S), (0, x), (0, (itn (hA h af) v u)), (0, n)] [] h' (fun r t => (∃ y, r = some (0, y) ∧ (y = 0 ∨ y = 1) ∧ (y = 1 ↔ ∀ i : Nat, sp9 (dig9 (hF h 2 0) (itn (hA h af) i u)) (hF h 2 1) x)) ∧ Fr [11] [] h t) := by
  intro m
  induction m with
  | zero => intro v n h' hm; exact absurd hm (Nat.not_lt_zero _)
  | succ m ih =>
    intro v n h' hm nv iv nr9 fr
    obtain ⟨⟨t0, k0, l0⟩, ⟨t1, k1, l1⟩, ⟨t2, k2, l2⟩, ⟨t3, k3, l3⟩, ⟨hn1, hn2, hn3, hn4, hn5, hn6⟩, ⟨y0, y1, y2, y3⟩, ⟨z0, z1, z2, z3⟩, ⟨b0, b1⟩, c0, c1⟩ := id en
    have h74 := sh.2.2.2.2
    have en' := en.fr fr
    have ea : hA h' af = hA h af := fr.2.2.2.2.2 af (by simp; omega)
    have eh : hA h' ho = hA h ho := fr.2.2.2.2.2 ho (by simp; omega)
    have eb : hA h' bs = hA h bs := fr.2.2.2.2.2 bs (by simp; omega)
    have sh' := sh.fr fr (by decide +kernel) (by decide)
    obtain ⟨⟨t0', k0', l0'⟩, ⟨t1', k1', l1'⟩, ⟨t2', k2', l2'⟩, ⟨t3', k3', l3'⟩, -⟩ := id en'
    have bi' := bi.fr fr (by decide) (by decide) (by decide) (by decide) (by decide)
    have e0 : hF h' 2 0 = hF h 2 0 := fr.2.2.2.2.1 2 0 (by decide)
    have e1 : hF h' 2 1 = hF h 2 1 := fr.2.2.2.2.1 2 1 (by decide)
    have hk := itn_in rg v0 v1 v
    refine Wp.ild (j := 6) rfl dX1_roundInStep_6 ?_
    refine Wp.ild_n (j := 3) rfl dX1_roundInStep_8 ?_
    refine Wp.icge dX1_roundInStep_9 (by decide) (tgt := 48) (fun c9 => ?_) (fun c9 => ?_)
    · refine Wp.iconst dX1_roundInStep_48 (by decide) ?_
      refine Wp.zret rfl dX1_roundInStep_49 (by omega) ?_
      have hft := itn_fit rg v0 v1 (per_pt per nr9)
      omega
    · refine Wp.ald_n (j := 1) rfl dX1_roundInStep_12 ?_
      refine Wp.ild (j := 5) rfl dX1_roundInStep_13 ?_
      refine Wp.ild (j := 4) rfl dX1_roundInStep_15 ?_
      obtain ⟨_, t17, ct17, ⟨y17, rfl, hy17, hs17⟩, f17⟩ := cq_stateInStepX d h' sh' bi' (itn (hA h af) v u) x hk.1 (by omega)
      rw [e0, e1] at hs17
      have ea17 : hA t17 af = hA h af := (f17.2.2.2.2.2 af (by simp; omega)).trans ea
      have en17 := en'.fr f17
      have sh17 := sh'.fr f17 (by decide +kernel) (by decide)
      obtain ⟨⟨t0'', k0'', l0''⟩, -⟩ := id en17
      refine Wp.callV1 (ct17) wc_X1_67 iM_X0_stateInStep se_X0_stateInStep kC0 (sK2 (h := h') sh') dX1_roundInStep_17 rfl (Nat.le_of_ble_eq_true rfl) rfl (Nat.le_of_ble_eq_true rfl) ?_
      refine Wp.ifne dX1_roundInStep_20 (by decide) (tgt := 25) (fun c20 => ?_) (fun c20 => ?_)
      · refine Wp.ald_n (j := 0) rfl dX1_roundInStep_25 ?_
        refine Wp.getf (k := 0) (tg := 2) kC1 (by decide) rfl lf_X1_9 dX1_roundInStep_26 (sK17 (h := t17) sh17) t0'' ?_
        refine Wp.ild (j := 5) rfl dX1_roundInStep_29 ?_
        refine Wp.iaload dX1_roundInStep_31 k0'' (by omega) (ilt l0'' (by omega)) (show hA _ af _ = hA h af _ by rw [ea17]) ?_
        refine sti_7_5 rfl (dSt_w dX1_roundInStep_32) ?_
        refine Wp.ild (j := 5) rfl dX1_roundInStep_34 ?_
        refine Wp.ild_n (j := 2) rfl dX1_roundInStep_36 ?_
        refine Wp.icne dX1_roundInStep_37 (by decide) (tgt := 42) (fun c37 => ?_) (fun c37 => ?_)
        · refine inc_7_6 rfl dX1_roundInStep_42 (by first | exact w32_of (by omega) (by omega) | rfl) ?_
          refine Wp.goto (tgt := 6) dX1_roundInStep_45 (by decide) ?_
          have hrt : itn (hA h af) (v + 1) u ≠ u := c37
          refine ih (v + 1) (n + 1) _ (by omega) (by omega) (fun i hi => ?_) (fun i i0 i1 => ?_) (fr.tr f17)
          · by_cases z : i < v
            · exact iv i z
            · rw [show i = v by omega]
              exact hs17.mp (by omega)
          · by_cases z : i ≤ v
            · exact nr9 i i0 z
            · rw [show i = v + 1 by omega]
              exact hrt
        · refine Wp.iconst dX1_roundInStep_40 (by decide) ?_
          refine Wp.zret rfl dX1_roundInStep_41 (by omega) ?_
          have hrt : itn (hA h af) (v + 1) u = u := c37
          refine ⟨⟨_, rfl, Or.inr rfl, fun _ => (itn_all (nx := hA h af) (s := u) (m := v + 1) (by omega) hrt (fun l => sp9 (dig9 (hF h 2 0) l) (hF h 2 1) x)).mp (fun i hi => ?_), fun _ => rfl⟩, fr.tr f17⟩
          by_cases z : i < v
          · exact iv i z
          · rw [show i = v by omega]
            exact hs17.mp (by omega)
      · refine Wp.iconst dX1_roundInStep_23 (by decide) ?_
        refine Wp.zret rfl dX1_roundInStep_24 (by omega) ?_
        exact ⟨⟨_, rfl, Or.inl rfl, fun z => absurd z (by decide), fun z => by have := hs17.mpr (z v); omega⟩, fr.tr f17⟩

theorem cq_roundInStepX (d : Nat) (h : mH) (sh : Sh h) (bi : BI h) (af ho bs rw na nr : Int) (en : EN h af ho bs rw na nr) (S : Int) (S0 : 0 < S) (S1 : S ≤ 20736) (Sn : S ≤ na) (rg : RG S (hA h af)) (u x : Int) (v0 : 0 ≤ u) (v1 : u < S) (per : ∃ c : Nat, 1 ≤ c ∧ itn (hA h af) c u = u) : Cq m_X1_roundInStep (d + 3) [(2, 17), (2, 2), (0, u), (0, S), (0, x)] h (fun r t => (∃ y, r = some (0, y) ∧ (y = 0 ∨ y = 1) ∧ (y = 1 ↔ ∀ i : Nat, sp9 (dig9 (hF h 2 0) (itn (hA h af) i u)) (hF h 2 1) x)) ∧ Fr [11] [] h t) := by
  refine Cq.of ?_
  show Wp m_X1_roundInStep ((d + 3)) 0 [(2, 17), (2, 2), (0, u), (0, S), (0, x), (9, 0), (9, 0)] [] h _
  obtain ⟨⟨t0, k0, l0⟩, ⟨t1, k1, l1⟩, ⟨t2, k2, l2⟩, ⟨t3, k3, l3⟩, ⟨hn1, hn2, hn3, hn4, hn5, hn6⟩, ⟨y0, y1, y2, y3⟩, ⟨z0, z1, z2, z3⟩, ⟨b0, b1⟩, c0, c1⟩ := id en
  have h74 := sh.2.2.2.2
  refine Wp.ild_n (j := 2) rfl dX1_roundInStep_0 ?_
  refine sti_7_5 rfl (dSt_w dX1_roundInStep_1) ?_
  refine Wp.iconst dX1_roundInStep_3 (by decide) ?_
  refine sti_7_6 rfl (dSt_w dX1_roundInStep_4) ?_
  exact roundInStepX_loop d h sh bi af ho bs rw na nr en S S0 S1 Sn rg u x v0 v1 per _ 0 0 h (Nat.lt_succ_self _) rfl (fun i hi => absurd hi (by omega)) (fun i i0 i1 => absurd i1 (by omega)) Fr.rf

theorem statesInStepX_loop (d : Nat) (h : mH) (sh : Sh h) (bi : BI h) (af ho bs rw na nr : Int) (en : EN h af ho bs rw na nr) (S : Int) (S0 : 0 < S) (S1 : S ≤ 20736) (Sn : S ≤ na) (rg : RG S (hA h af)) (hper : ∀ x, 0 ≤ x → x < S → hA h ho x = x → ∃ c : Nat, 1 ≤ c ∧ itn (hA h af) c x = x) (x : Int) : ∀ (m : Nat) (z j : Int) (h' : mH), (S - j).toNat < m → (0 ≤ j) → (j ≤ S) → (z = w32 (sc9 (hA h ho) (pr9 (hA h af) (hF h 2 0) (hF h 2 1) x) (hA h bs) (j).toNat)) → (Fr [11] [] h h') → Wp m_X1_statesInStep (d + 4) 6 [(2, 17), (2, 2), (0, S), (0, x), (0, z), (0, j)] [] h' (fun r t => r = some (0, w32 (sc9 (hA h ho) (pr9 (hA h af) (hF h 2 0) (hF h 2 1) x) (hA h bs) (S).toNat)) ∧ Fr [11] [] h t) := by
  intro m
  induction m with
  | zero => intro z j h' hm; exact absurd hm (Nat.not_lt_zero _)
  | succ m ih =>
    intro z j h' hm j0 js ez fr
    obtain ⟨⟨t0, k0, l0⟩, ⟨t1, k1, l1⟩, ⟨t2, k2, l2⟩, ⟨t3, k3, l3⟩, ⟨hn1, hn2, hn3, hn4, hn5, hn6⟩, ⟨y0, y1, y2, y3⟩, ⟨z0, z1, z2, z3⟩, ⟨b0, b1⟩, c0, c1⟩ := id en
    have h74 := sh.2.2.2.2
    have en' := en.fr fr
    have ea : hA h' af = hA h af := fr.2.2.2.2.2 af (by simp; omega)
    have eh : hA h' ho = hA h ho := fr.2.2.2.2.2 ho (by simp; omega)
    have eb : hA h' bs = hA h bs := fr.2.2.2.2.2 bs (by simp; omega)
    have sh' := sh.fr fr (by decide +kernel) (by decide)
    obtain ⟨⟨t0', k0', l0'⟩, ⟨t1', k1', l1'⟩, ⟨t2', k2', l2'⟩, ⟨t3', k3', l3'⟩, -⟩ := id en'
    have bi' := bi.fr fr (by decide) (by decide) (by decide) (by decide) (by decide)
    have e0 : hF h' 2 0 = hF h 2 0 := fr.2.2.2.2.1 2 0 (by decide)
    have e1 : hF h' 2 1 = hF h 2 1 := fr.2.2.2.2.1 2 1 (by decide)
    refine Wp.ild (j := 5) rfl dX1_statesInStep_6 ?_
    refine Wp.ild_n (j := 2) rfl dX1_statesInStep_8 ?_
    refine Wp.icge dX1_statesInStep_9 (by decide) (tgt := 54) (fun c9 => ?_) (fun c9 => ?_)
    · refine Wp.ild (j := 4) rfl dX1_statesInStep_54 ?_
      refine Wp.iret rfl dX1_statesInStep_56 ?_
      exact ⟨by rw [ez, show j = S by omega], fr⟩
    · refine Wp.ald_n (j := 0) rfl dX1_statesInStep_12 ?_
      refine Wp.getf (k := 1) (tg := 2) kC1 (by decide) rfl lf_X1_15 dX1_statesInStep_13 (sK17 (h := h') sh') t1' ?_
      refine Wp.ild (j := 5) rfl dX1_statesInStep_16 ?_
      refine Wp.iaload dX1_statesInStep_18 k1' (by omega) (ilt l1' (by omega)) (show hA _ ho _ = hA h' ho _ from rfl) ?_
      refine Wp.ild (j := 5) rfl dX1_statesInStep_19 ?_
      refine Wp.icne dX1_statesInStep_21 (by decide) (tgt := 48) (fun c21 => ?_) (fun c21 => ?_)
      · refine inc_6_5 rfl dX1_statesInStep_48 (by first | exact w32_of (by omega) (by omega) | rfl) ?_
        refine Wp.goto (tgt := 6) dX1_statesInStep_51 (by decide) ?_
        refine ih _ (j + 1) _ (by omega) (by omega) (by omega) ?_ fr
        rw [eh] at c21
        rw [sc9_s j0, if_neg (fun y => c21 y.1), Int.add_zero]
        exact ez
      · refine Wp.ald_n (j := 0) rfl dX1_statesInStep_24 ?_
        refine Wp.ald_n (j := 1) rfl dX1_statesInStep_25 ?_
        refine Wp.ild (j := 5) rfl dX1_statesInStep_26 ?_
        refine Wp.ild_n (j := 2) rfl dX1_statesInStep_28 ?_
        refine Wp.ild_n (j := 3) rfl dX1_statesInStep_29 ?_
        obtain ⟨_, t30, ct30, ⟨y30, rfl, hy30, hs30⟩, f30⟩ := cq_roundInStepX d h' sh' bi' af ho bs rw na nr en' S S0 S1 Sn (by rw [ea]; exact rg) j x j0 (by omega) (by rw [ea]; exact hper j j0 (by omega) (by rw [← eh]; exact c21))
        rw [ea, e0, e1] at hs30
        have eb30 : hA t30 bs = hA h bs := (f30.2.2.2.2.2 bs (by simp; omega)).trans eb
        have en30 := en'.fr f30
        have sh30 := sh'.fr f30 (by decide +kernel) (by decide)
        obtain ⟨-, -, ⟨t2'', k2'', l2''⟩, -⟩ := id en30
        refine Wp.callV1 (ct30) wc_X1_63 iM_X1_roundInStep se_X1_roundInStep kC1 (sK17 (h := h') sh') dX1_statesInStep_30 rfl (Nat.le_of_ble_eq_true rfl) rfl (Nat.le_of_ble_eq_true rfl) ?_
        refine Wp.ifeq dX1_statesInStep_33 (by decide) (tgt := 48) (fun c33 => ?_) (fun c33 => ?_)
        · refine inc_6_5 rfl dX1_statesInStep_48 (by first | exact w32_of (by omega) (by omega) | rfl) ?_
          refine Wp.goto (tgt := 6) dX1_statesInStep_51 (by decide) ?_
          refine ih _ (j + 1) _ (by omega) (by omega) (by omega) ?_ (fr.tr f30)
          have hp0 : ¬ pr9 (hA h af) (hF h 2 0) (hF h 2 1) x j = 1 := fun y => by
            have := hs30.mpr (pr9_1.mp y)
            omega
          rw [sc9_s j0, if_neg (fun y => hp0 y.2), Int.add_zero]
          exact ez
        · refine Wp.ild (j := 4) rfl dX1_statesInStep_36 ?_
          refine Wp.ald_n (j := 0) rfl dX1_statesInStep_38 ?_
          refine Wp.getf (k := 2) (tg := 2) kC1 (by decide) rfl lf_X1_18 dX1_statesInStep_39 (sK17 (h := t30) sh30) t2'' ?_
          refine Wp.ild (j := 5) rfl dX1_statesInStep_42 ?_
          refine Wp.iaload dX1_statesInStep_44 k2'' (by omega) (ilt l2'' (by omega)) (show hA _ bs _ = hA t30 bs _ from rfl) ?_
          refine Wp.iaddE dX1_statesInStep_45 rfl ?_
          refine sti_6_4 rfl (dSt_w dX1_statesInStep_46) ?_
          refine inc_6_5 rfl dX1_statesInStep_48 (by first | exact w32_of (by omega) (by omega) | rfl) ?_
          refine Wp.goto (tgt := 6) dX1_statesInStep_51 (by decide) ?_
          refine ih _ (j + 1) _ (by omega) (by omega) (by omega) ?_ (fr.tr f30)
          have hp1 : pr9 (hA h af) (hF h 2 0) (hF h 2 1) x j = 1 := pr9_1.mpr (hs30.mp (by omega))
          rw [eh] at c21
          rw [sc9_s j0, if_pos ⟨c21, hp1⟩, ez, w32_addl, eb30]

theorem cq_statesInStepX (d : Nat) (h : mH) (sh : Sh h) (bi : BI h) (af ho bs rw na nr : Int) (en : EN h af ho bs rw na nr) (S : Int) (S0 : 0 < S) (S1 : S ≤ 20736) (Sn : S ≤ na) (rg : RG S (hA h af)) (hper : ∀ x, 0 ≤ x → x < S → hA h ho x = x → ∃ c : Nat, 1 ≤ c ∧ itn (hA h af) c x = x) (x : Int) : Cq m_X1_statesInStep (d + 4) [(2, 17), (2, 2), (0, S), (0, x)] h (fun r t => r = some (0, w32 (sc9 (hA h ho) (pr9 (hA h af) (hF h 2 0) (hF h 2 1) x) (hA h bs) (S).toNat)) ∧ Fr [11] [] h t) := by
  refine Cq.of ?_
  show Wp m_X1_statesInStep ((d + 4)) 0 [(2, 17), (2, 2), (0, S), (0, x), (9, 0), (9, 0)] [] h _
  obtain ⟨⟨t0, k0, l0⟩, ⟨t1, k1, l1⟩, ⟨t2, k2, l2⟩, ⟨t3, k3, l3⟩, ⟨hn1, hn2, hn3, hn4, hn5, hn6⟩, ⟨y0, y1, y2, y3⟩, ⟨z0, z1, z2, z3⟩, ⟨b0, b1⟩, c0, c1⟩ := id en
  have h74 := sh.2.2.2.2
  refine Wp.iconst dX1_statesInStep_0 (by decide) ?_
  refine sti_6_4 rfl (dSt_w dX1_statesInStep_1) ?_
  refine Wp.iconst dX1_statesInStep_3 (by decide) ?_
  refine sti_6_5 rfl (dSt_w dX1_statesInStep_4) ?_
  exact statesInStepX_loop d h sh bi af ho bs rw na nr en S S0 S1 Sn rg hper x _ 0 0 h (Nat.lt_succ_self _) (Int.le_refl _) (by omega) rfl Fr.rf

theorem cq_endX (d : Nat) (h : mH) (sh : Sh h) (af ho bs rw na nr : Int) (en : EN h af ho bs rw na nr) (mn : Int) (hmn : hF h 17 4 = mn) (m1 : mn ≤ 20736) (m3 : 3 * mn ≤ nr) (k x : Int) : Cq m_X5_end (d + 1) [(2, 0), (0, k), (0, x)] h (fun r t => (∃ y, r = some (0, y) ∧ ((¬ ((0 ≤ x ∧ x ≤ 2) ∧ (0 ≤ k ∧ k < mn)) ∧ y = -1) ∨ (((0 ≤ x ∧ x ≤ 2) ∧ (0 ≤ k ∧ k < mn)) ∧ y = hA h rw (3 * k + x)))) ∧ Fr [] [(0, 0)] h t) := by
  refine Cq.of ?_
  show Wp m_X5_end ((d + 1)) 0 [(2, 0), (0, k), (0, x)] [] h _
  refine Wp.ild_n (j := 2) rfl dX5_end_0 ?_
  refine Wp.iflt dX5_end_1 (by decide) (tgt := 9) (fun c1 => ?_) (fun c1 => ?_)
  · refine Wp.ald_n (j := 0) rfl dX5_end_9 ?_
    refine Wp.iconst dX5_end_10 (by decide) ?_
    refine Wp.callV1 (ct_lack d h sh 2) wc_X5_88 iM_X5_lack se_X5_lack kC5 (sK0 (h := h) sh) dX5_end_11 rfl (Nat.le_of_ble_eq_true rfl) rfl (Nat.le_of_ble_eq_true rfl) ?_
    refine Wp.iret rfl dX5_end_14 ?_
    first
    | exact ⟨⟨_, rfl, Or.inl ⟨by omega, rfl⟩⟩, Fr.f (by decide)⟩
    | exact ⟨⟨_, rfl, Or.inr ⟨by omega, hy44⟩⟩, Fr.f (by decide)⟩
  · refine Wp.ild_n (j := 2) rfl dX5_end_4 ?_
    refine Wp.iconst dX5_end_5 (by decide) ?_
    refine Wp.icle dX5_end_6 (by decide) (tgt := 15) (fun c6 => ?_) (fun c6 => ?_)
    · refine Wp.ild_n (j := 1) rfl dX5_end_15 ?_
      refine Wp.iflt dX5_end_16 (by decide) (tgt := 30) (fun c16 => ?_) (fun c16 => ?_)
      · refine Wp.ald_n (j := 0) rfl dX5_end_30 ?_
        refine Wp.bipush dX5_end_31 (by decide) ?_
        refine Wp.callV1 (ct_lack d h sh 8) wc_X5_88 iM_X5_lack se_X5_lack kC5 (sK0 (h := h) sh) dX5_end_33 rfl (Nat.le_of_ble_eq_true rfl) rfl (Nat.le_of_ble_eq_true rfl) ?_
        refine Wp.iret rfl dX5_end_36 ?_
        first
        | exact ⟨⟨_, rfl, Or.inl ⟨by omega, rfl⟩⟩, Fr.f (by decide)⟩
        | exact ⟨⟨_, rfl, Or.inr ⟨by omega, hy44⟩⟩, Fr.f (by decide)⟩
      · refine Wp.ild_n (j := 1) rfl dX5_end_19 ?_
        refine Wp.ald_n (j := 0) rfl dX5_end_20 ?_
        refine Wp.getf (k := 4) (tg := 2) kC5 (by decide) rfl lf_X5_36 dX5_end_21 (sK0 (h := h) sh) (sF0_4 (h := h) sh) ?_
        refine Wp.getfN (k := 4) (tg := 0) kC1 (by decide) rfl lf_X5_227 dX5_end_24 (sK17 (h := h) sh) hmn ?_
        refine Wp.iclt dX5_end_27 (by decide) (tgt := 37) (fun c27 => ?_) (fun c27 => ?_)
        · refine Wp.ald_n (j := 0) rfl dX5_end_37 ?_
          refine Wp.ald_n (j := 0) rfl dX5_end_38 ?_
          refine Wp.getf (k := 4) (tg := 2) kC5 (by decide) rfl lf_X5_36 dX5_end_39 (sK0 (h := h) sh) (sF0_4 (h := h) sh) ?_
          refine Wp.ild_n (j := 1) rfl dX5_end_42 ?_
          refine Wp.ild_n (j := 2) rfl dX5_end_43 ?_
          obtain ⟨_, t44, ct44, ⟨y44, rfl, hy44⟩, e44⟩ := cq_tellX d h sh af ho bs rw na nr en k x (by omega) (by omega) (by omega) (by omega) (by omega)
          rw [e44] at ct44
          refine Wp.callV1 (ct44) wc_X5_228 iM_X1_tell se_X1_tell kC1 (sK17 (h := h) sh) dX5_end_44 rfl (Nat.le_of_ble_eq_true rfl) rfl (Nat.le_of_ble_eq_true rfl) ?_
          refine Wp.callV1 (ct_answer d h sh _) wc_X5_126 iM_X5_answer se_X5_answer kC5 (sK0 (h := h) sh) dX5_end_47 rfl (Nat.le_of_ble_eq_true rfl) rfl (Nat.le_of_ble_eq_true rfl) ?_
          refine Wp.iret rfl dX5_end_50 ?_
          first
          | exact ⟨⟨_, rfl, Or.inl ⟨by omega, rfl⟩⟩, Fr.f (by decide)⟩
          | exact ⟨⟨_, rfl, Or.inr ⟨by omega, hy44⟩⟩, Fr.f (by decide)⟩
        · refine Wp.ald_n (j := 0) rfl dX5_end_30 ?_
          refine Wp.bipush dX5_end_31 (by decide) ?_
          refine Wp.callV1 (ct_lack d h sh 8) wc_X5_88 iM_X5_lack se_X5_lack kC5 (sK0 (h := h) sh) dX5_end_33 rfl (Nat.le_of_ble_eq_true rfl) rfl (Nat.le_of_ble_eq_true rfl) ?_
          refine Wp.iret rfl dX5_end_36 ?_
          first
          | exact ⟨⟨_, rfl, Or.inl ⟨by omega, rfl⟩⟩, Fr.f (by decide)⟩
          | exact ⟨⟨_, rfl, Or.inr ⟨by omega, hy44⟩⟩, Fr.f (by decide)⟩
    · refine Wp.ald_n (j := 0) rfl dX5_end_9 ?_
      refine Wp.iconst dX5_end_10 (by decide) ?_
      refine Wp.callV1 (ct_lack d h sh 2) wc_X5_88 iM_X5_lack se_X5_lack kC5 (sK0 (h := h) sh) dX5_end_11 rfl (Nat.le_of_ble_eq_true rfl) rfl (Nat.le_of_ble_eq_true rfl) ?_
      refine Wp.iret rfl dX5_end_14 ?_
      first
      | exact ⟨⟨_, rfl, Or.inl ⟨by omega, rfl⟩⟩, Fr.f (by decide)⟩
      | exact ⟨⟨_, rfl, Or.inr ⟨by omega, hy44⟩⟩, Fr.f (by decide)⟩

