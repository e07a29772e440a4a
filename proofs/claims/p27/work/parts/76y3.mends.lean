theorem mee2X (d : Nat) (h : mH) (sh : Sh h) (n : Int) (n1 : n ≤ 20736) (hn : ∀ j, 0 ≤ j → j < n → 0 ≤ hA h 58 j ∧ hA h 58 j < n) (ez : EZ n (hA h 58) (hA h 59)) (s em : Int) (s0 : 0 ≤ s) (s1 : s < n) (em0 : 0 ≤ em ∧ em < 20736) (ee : hF h 41 27 = em) (c : Nat) (hc1 : 1 ≤ c) (hc : itn (hA h 58) c s = s) (Q : Option mV → mH → Prop) (kq : ∀ (t : mH) (j : Int), Fr [61] [] h t → LN9 (hA h 58) s (hA t 61 em) → (∀ q, q ≠ em → hA t 61 q = hA h 61 q) → Wp m_X6_ends (d + 3) 140 [(2, 41), (0, n), (0, s), (0, j)] [] t Q) : ∀ (m : Nat) (u : Nat) (h' : mH), c - u < m → (Fr [61] [] h h') → (u ≤ c) → (1 ≤ u) → (hA h' 61 em = u) → (∀ q, q ≠ em → hA h' 61 q = hA h 61 q) → (∀ i : Nat, 1 ≤ i → i < u → itn (hA h 58) i s ≠ s) → Wp m_X6_ends (d + 3) 112 [(2, 41), (0, n), (0, s), (0, (itn (hA h 58) u s))] [] h' Q := by
  intro m
  induction m with
  | zero => intro u h' hm; exact absurd hm (Nat.not_lt_zero _)
  | succ m ih =>
    intro u h' hm fr u1 u0 sz ot nr
    have sh' := sh.fr fr (by decide +kernel) (by decide)
    have e58 : hA h' 58 = hA h 58 := fr.2.2.2.2.2 58 (by decide)
    have hk := itn_in hn s0 s1 u
    have e27 : hF h' 41 27 = em := (fr.2.2.2.2.1 41 27 (by decide)).trans ee
    refine Wp.ild_n (j := 3) rfl dX6_ends_112 ?_
    refine Wp.ild_n (j := 2) rfl dX6_ends_113 ?_
    refine Wp.iceq dX6_ends_114 (by decide) (tgt := 140) (fun c114 => ?_) (fun c114 => ?_)
    · exact kq _ _ fr ⟨u, sz, u0, c114, nr⟩ ot
    · refine Wp.ald_n (j := 0) rfl dX6_ends_117 ?_
      refine Wp.getf (k := 25) (tg := 2) kC6 (by decide) rfl lf_X6_78 dX6_ends_118 (sK41 (h := h') sh') (sF41_25 (h := h') sh') ?_
      refine Wp.ald_n (j := 0) rfl dX6_ends_121 ?_
      refine Wp.getf (k := 27) (tg := 0) kC6 (by decide) rfl lf_X6_224 dX6_ends_122 (sK41 (h := h') sh') e27 ?_
      refine Wp.dup2 dX6_ends_125 (Or.inl rfl) (Or.inr rfl) ?_
      refine Wp.iaload dX6_ends_126 (sK61 (h := h') sh') (by omega) (ilt (sL61 (h := h') sh') (by omega)) (show hA _ 61 _ = hA h' 61 _ from rfl) ?_
      refine Wp.iconst dX6_ends_127 (by decide) ?_
      refine Wp.iaddE dX6_ends_128 rfl ?_
      refine Wp.iastore dX6_ends_129 (sK61 (h := h') sh') (by omega) (ilt (sL61 (h := h') sh') (by omega)) ?_
      refine Wp.ald_n (j := 0) rfl dX6_ends_130 ?_
      refine Wp.getf (k := 22) (tg := 2) kC6 (by decide) rfl lf_X6_69 dX6_ends_131 (sK41 (h := h') sh') (sF41_22 (h := h') sh') ?_
      refine Wp.ild_n (j := 3) rfl dX6_ends_134 ?_
      refine Wp.iaload dX6_ends_135 (sK58 (h := h') sh') (by omega) (ilt (sL58 (h := h') sh') (by omega)) (show hA _ 58 _ = hA h 58 _ from congrFun e58 _) ?_
      refine sti_4_3 rfl (dSt_n dX6_ends_136) ?_
      refine Wp.goto (tgt := 112) dX6_ends_137 (by decide) ?_
      have hne : u ≠ c := fun e => c114 (by rw [e]; exact hc)
      have nr' : ∀ i : Nat, 1 ≤ i → i ≤ u → itn (hA h 58) i s ≠ s := fun i i0 i1 => by
        by_cases z : i < u
        · exact nr i i0 z
        · rw [show i = u by omega]
          exact c114
      have hft := itn_fit hn s0 s1 (per_pt ⟨c, hc1, hc⟩ nr')
      refine ih (u + 1) _ (by omega) (fr.tr (Fr.e (by decide))) (by omega) (by omega) ?_ (fun q hq => ?_) (fun i i0 i1 => nr' i i0 (by omega))
      · rw [hA_sEs, u1_s, sz, w32_of (by omega) (by omega)]
        omega
      · rw [hA_sEs, u1_n _ _ hq]
        exact ot q hq

theorem mee140X (d : Nat) (h : mH) (sh : Sh h) (n s em : Int) (j : Int) (em0 : 0 ≤ em ∧ em < 20736) (s1 : s < 20736) (s0 : 0 ≤ s) (ee : hF h 41 27 = em) (Q : Option mV → mH → Prop) (kq : Wp m_X6_ends (d + 3) 57 [(2, 41), (0, n), (0, s + 1), (0, j)] [] (sF (sE h 62 em 0) 41 27 (em + 1)) Q) : Wp m_X6_ends (d + 3) 140 [(2, 41), (0, n), (0, s), (0, j)] [] h Q := by
  refine Wp.ald_n (j := 0) rfl dX6_ends_140 ?_
  refine Wp.getf (k := 26) (tg := 2) kC6 (by decide) rfl lf_X6_81 dX6_ends_141 (sK41 (h := h) sh) (sF41_26 (h := h) sh) ?_
  refine Wp.ald_n (j := 0) rfl dX6_ends_144 ?_
  refine Wp.getf (k := 27) (tg := 0) kC6 (by decide) rfl lf_X6_224 dX6_ends_145 (sK41 (h := h) sh) ee ?_
  refine Wp.iconst dX6_ends_148 (by decide) ?_
  refine Wp.iastore dX6_ends_149 (sK62 (h := h) sh) (by omega) (ilt (sL62 (h := h) sh) (by omega)) ?_
  refine Wp.ald_n (j := 0) rfl dX6_ends_150 ?_
  refine Wp.dup dX6_ends_151 (Or.inr rfl) ?_
  refine Wp.getf (k := 27) (tg := 0) kC6 (by decide) rfl lf_X6_224 dX6_ends_152 (sK41 (h := h) sh) (show hF _ 41 27 = em from ee) ?_
  refine Wp.iconst dX6_ends_155 (by decide) ?_
  refine Wp.iaddE dX6_ends_156 (by first | exact w32_of (by omega) (by omega) | rfl) ?_
  refine Wp.putf (k := 27) (tg := 0) kC6 (by decide) rfl rfl lf_X6_224 dX6_ends_157 (sK41 (h := h) sh) ?_
  refine inc_4_2 rfl dX6_ends_160 (by first | exact w32_of (by omega) (by omega) | rfl) ?_
  refine Wp.goto (tgt := 57) dX6_ends_163 (by decide) ?_
  exact kq

theorem mee3X (d : Nat) (h : mH) (sh : Sh h) (n : Int) (n1 : n ≤ 20736) (hn : ∀ j, 0 ≤ j → j < n → 0 ≤ hA h 58 j ∧ hA h 58 j < n) (ez : EZ n (hA h 58) (hA h 59)) (Q : Option mV → mH → Prop) (kq : ∀ (t : mH) (em s : Int) (x3 : mV), Fr [60, 61, 62, 71] [(41, 27)] h t → 0 ≤ em → em ≤ 20736 → hF t 41 27 = em → em = ((cR (hA h 59) (n).toNat : Nat) : Int) → (∀ j, 0 ≤ j → j < n → hA h 59 j = j → hA t 71 j = ((cR (hA h 59) (j).toNat : Nat) : Int)) → (∀ x, 0 ≤ x → x < n → hA h 59 x = x → hA t 60 ((cR (hA h 59) (x).toNat : Nat) : Int) = x ∧ LN9 (hA h 58) x (hA t 61 ((cR (hA h 59) (x).toNat : Nat) : Int)) ∧ hA t 62 ((cR (hA h 59) (x).toNat : Nat) : Int) = 0) → Wp m_X6_ends (d + 3) 166 [(2, 41), (0, n), (0, s), x3] [] t Q) : ∀ (m : Nat) (s em : Int) (x3 : mV) (h' : mH), (n - s).toNat < m → (0 ≤ s) → (s ≤ n) → (0 ≤ em ∧ em ≤ s) → (em = ((cR (hA h 59) (s).toNat : Nat) : Int)) → (hF h' 41 27 = em) → (Fr [60, 61, 62, 71] [(41, 27)] h h') → (∀ j, 0 ≤ j → j < s → hA h 59 j = j → hA h' 71 j = ((cR (hA h 59) (j).toNat : Nat) : Int)) → (∀ x, 0 ≤ x → x < s → hA h 59 x = x → hA h' 60 ((cR (hA h 59) (x).toNat : Nat) : Int) = x ∧ LN9 (hA h 58) x (hA h' 61 ((cR (hA h 59) (x).toNat : Nat) : Int)) ∧ hA h' 62 ((cR (hA h 59) (x).toNat : Nat) : Int) = 0) → Wp m_X6_ends (d + 3) 57 [(2, 41), (0, n), (0, s), x3] [] h' Q := by
  intro m
  induction m with
  | zero => intro s em x3 h' hm; exact absurd hm (Nat.not_lt_zero _)
  | succ m ih =>
    intro s em x3 h' hm s0 sn em0 ec ee fr hf hr
    have sh' := sh.fr fr (by decide +kernel) (by decide)
    have e58 : hA h' 58 = hA h 58 := fr.2.2.2.2.2 58 (by decide)
    have e59 : hA h' 59 = hA h 59 := fr.2.2.2.2.2 59 (by decide)
    refine Wp.ild_n (j := 2) rfl dX6_ends_57 ?_
    refine Wp.ild_n (j := 1) rfl dX6_ends_58 ?_
    refine Wp.icge dX6_ends_59 (by decide) (tgt := 166) (fun c59 => ?_) (fun c59 => ?_)
    · have es : s = n := by omega
      rw [es] at ec hf hr
      exact kq h' em s _ fr em0.1 (by omega) ee ec hf hr
    · refine Wp.ald_n (j := 0) rfl dX6_ends_62 ?_
      refine Wp.getf (k := 23) (tg := 2) kC6 (by decide) rfl lf_X6_72 dX6_ends_63 (sK41 (h := h') sh') (sF41_23 (h := h') sh') ?_
      refine Wp.ild_n (j := 2) rfl dX6_ends_66 ?_
      refine Wp.iaload dX6_ends_67 (sK59 (h := h') sh') (by omega) (ilt (sL59 (h := h') sh') (by omega)) (show hA _ 59 _ = hA h 59 _ from congrFun e59 _) ?_
      refine Wp.ild_n (j := 2) rfl dX6_ends_68 ?_
      refine Wp.iceq dX6_ends_69 (by decide) (tgt := 75) (fun c69 => ?_) (fun c69 => ?_)
      · refine Wp.ald_n (j := 0) rfl dX6_ends_75 ?_
        refine Wp.getf (k := 43) (tg := 2) kC6 (by decide) rfl lf_X6_109 dX6_ends_76 (sK41 (h := h') sh') (sF41_43 (h := h') sh') ?_
        refine Wp.ild_n (j := 2) rfl dX6_ends_79 ?_
        refine Wp.ald_n (j := 0) rfl dX6_ends_80 ?_
        refine Wp.getf (k := 27) (tg := 0) kC6 (by decide) rfl lf_X6_224 dX6_ends_81 (sK41 (h := h') sh') ee ?_
        refine Wp.iastore dX6_ends_84 (sK71 (h := h') sh') (by omega) (ilt (sL71 (h := h') sh') (by omega)) ?_
        refine Wp.ald_n (j := 0) rfl dX6_ends_85 ?_
        refine Wp.getf (k := 24) (tg := 2) kC6 (by decide) rfl lf_X6_75 dX6_ends_86 (sK41 (h := h') sh') (sF41_24 (h := h') sh') ?_
        refine Wp.ald_n (j := 0) rfl dX6_ends_89 ?_
        refine Wp.getf (k := 27) (tg := 0) kC6 (by decide) rfl lf_X6_224 dX6_ends_90 (sK41 (h := h') sh') ee ?_
        refine Wp.ild_n (j := 2) rfl dX6_ends_93 ?_
        refine Wp.iastore dX6_ends_94 (sK60 (h := h') sh') (by omega) (ilt (sL60 (h := h') sh') (by omega)) ?_
        refine Wp.ald_n (j := 0) rfl dX6_ends_95 ?_
        refine Wp.getf (k := 25) (tg := 2) kC6 (by decide) rfl lf_X6_78 dX6_ends_96 (sK41 (h := h') sh') (sF41_25 (h := h') sh') ?_
        refine Wp.ald_n (j := 0) rfl dX6_ends_99 ?_
        refine Wp.getf (k := 27) (tg := 0) kC6 (by decide) rfl lf_X6_224 dX6_ends_100 (sK41 (h := h') sh') ee ?_
        refine Wp.iconst dX6_ends_103 (by decide) ?_
        refine Wp.iastore dX6_ends_104 (sK61 (h := h') sh') (by omega) (ilt (sL61 (h := h') sh') (by omega)) ?_
        refine Wp.ald_n (j := 0) rfl dX6_ends_105 ?_
        refine Wp.getf (k := 22) (tg := 2) kC6 (by decide) rfl lf_X6_69 dX6_ends_106 (sK41 (h := h') sh') (sF41_22 (h := h') sh') ?_
        refine Wp.ild_n (j := 2) rfl dX6_ends_109 ?_
        refine Wp.iaload dX6_ends_110 (sK58 (h := h') sh') (by omega) (ilt (sL58 (h := h') sh') (by omega)) (show hA _ 58 _ = hA h 58 _ from congrFun e58 _) ?_
        refine sti_4_3 rfl (dSt_n dX6_ends_111) ?_
        have hz := ez s s0 (by omega)
        rw [c69] at hz
        obtain ⟨c, hc1, hc2⟩ := hz.2.2.2
        have hcs := cR_st (hA h 59) s0
        rw [if_pos c69] at hcs
        have fr3 : Fr [60, 61, 62, 71] [(41, 27)] h (sE (sE (sE h' 71 s em) 60 em s) 61 em 1) := fr.tr ((Fr.e (by decide)).tr ((Fr.e (by decide)).tr (Fr.e (by decide))))
        have g58 : hA (sE (sE (sE h' 71 s em) 60 em s) 61 em 1) 58 = hA h 58 := fr3.2.2.2.2.2 58 (by decide)
        have g59 : hA (sE (sE (sE h' 71 s em) 60 em s) 61 em 1) 59 = hA h 59 := fr3.2.2.2.2.2 59 (by decide)
        have k9 := mee2X d (sE (sE (sE h' 71 s em) 60 em s) 61 em 1) (sh.fr fr3 (by decide +kernel) (by decide)) n n1 (by rw [g58]; exact hn) (by rw [g58, g59]; exact ez) s em s0 (by omega) (by omega) ee c hc1 (by rw [g58]; exact hc2) Q (fun t j frt hln hot => mee140X d t ((sh.fr fr3 (by decide +kernel) (by decide)).fr frt (by decide +kernel) (by decide)) n s em j (by omega) (by omega) s0 ((frt.2.2.2.2.1 41 27 (by decide)).trans ee) Q ?_) _ 1 _ (Nat.lt_succ_self _) Fr.rf hc1 (Nat.le_refl _) (by rw [hA_sEs, u1_s]; rfl) (fun q hq => rfl) (fun i i0 i1 => absurd i1 (by omega))
        · rw [g58] at k9
          exact k9
        have f71 : hA t 71 = u1 (hA h' 71) s em := frt.2.2.2.2.2 71 (by decide)
        have f60 : hA t 60 = u1 (hA h' 60) em s := frt.2.2.2.2.2 60 (by decide)
        have f62 : hA t 62 = hA h' 62 := frt.2.2.2.2.2 62 (by decide)
        have hot' : ∀ q, q ≠ em → hA t 61 q = hA h' 61 q := fun q hq => by
          have z := hot q hq
          rw [show hA (sE (sE (sE h' 71 s em) 60 em s) 61 em 1) 61 = u1 (hA h' 61) em 1 from hA_sEs, u1_n _ _ hq] at z
          exact z
        rw [g58] at hln
        refine ih (s + 1) (em + 1) _ _ (by omega) (by omega) (by omega) (by omega) (by omega) rfl (((fr3.tr (frt.mono (by decide) (by simp))).tr (Fr.e (by decide))).tr (Fr.f (by decide))) (fun j j0 j1 j2 => ?_) (fun x x0 x1 hx => ?_)
        · show hA t 71 j = _
          rw [f71]
          by_cases e : j = s
          · rw [e, u1_s]
            exact ec
          · rw [u1_n _ _ e]
            exact hf j j0 (by omega) j2
        · show hA t 60 ((cR (hA h 59) (x).toNat : Nat) : Int) = x ∧ LN9 (hA h 58) x (hA t 61 ((cR (hA h 59) (x).toNat : Nat) : Int)) ∧ u1 (hA t 62) em 0 ((cR (hA h 59) (x).toNat : Nat) : Int) = 0
          by_cases e : x = s
          · rw [e, ← ec, f60, u1_s, u1_s]
            exact ⟨rfl, hln, rfl⟩
          · have hlt := cR_lt x0 hx (show x < s by omega)
            have hne : ((cR (hA h 59) (x).toNat : Nat) : Int) ≠ em := by omega
            rw [f60, f62, u1_n _ _ hne, u1_n _ _ hne, hot' _ hne]
            exact hr x x0 (by omega) hx
      · refine Wp.goto (tgt := 160) dX6_ends_72 (by decide) ?_
        refine inc_4_2 rfl dX6_ends_160 (by first | exact w32_of (by omega) (by omega) | rfl) ?_
        refine Wp.goto (tgt := 57) dX6_ends_163 (by decide) ?_
        have hcs := cR_st (hA h 59) s0
        rw [if_neg c69] at hcs
        refine ih (s + 1) em _ h' (by omega) (by omega) (by omega) (by omega) (by omega) ee fr (fun j j0 j1 j2 => hf j j0 ?_ j2) (fun j j0 j1 j2 => hr j j0 ?_ j2)
        · by_cases e : j = s
          · rw [e] at j2
            exact absurd j2 c69
          · omega
        · by_cases e : j = s
          · rw [e] at j2
            exact absurd j2 c69
          · omega

theorem mee4X (d : Nat) (h : mH) (sh : Sh h) (n : Int) (n1 : n ≤ 20736) (hn : ∀ j, 0 ≤ j → j < n → 0 ≤ hA h 58 j ∧ hA h 58 j < n) (ez : EZ n (hA h 58) (hA h 59)) (em : Int) (em1 : em ≤ 20736) (ec : em = ((cR (hA h 59) (n).toNat : Nat) : Int)) (hf : ∀ j, 0 ≤ j → j < n → hA h 59 j = j → hA h 71 j = ((cR (hA h 59) (j).toNat : Nat) : Int)) (Q : Option mV → mH → Prop) (kq : ∀ (t : mH) (s : Int) (x3 : mV), Fr [62] [] h t → (∀ x, 0 ≤ x → x < n → hA h 59 x = x → hA t 62 ((cR (hA h 59) (x).toNat : Nat) : Int) = bz9 (hA h 59) x n.toNat) → Wp m_X6_ends (d + 3) 199 [(2, 41), (0, n), (0, s), x3] [] t Q) : ∀ (m : Nat) (s : Int) (x3 : mV) (h' : mH), (n - s).toNat < m → (Fr [62] [] h h') → (0 ≤ s) → (s ≤ n) → (∀ x, 0 ≤ x → x < n → hA h 59 x = x → hA h' 62 ((cR (hA h 59) (x).toNat : Nat) : Int) = bz9 (hA h 59) x s.toNat) → Wp m_X6_ends (d + 3) 168 [(2, 41), (0, n), (0, s), x3] [] h' Q := by
  intro m
  induction m with
  | zero => intro s x3 h' hm; exact absurd hm (Nat.not_lt_zero _)
  | succ m ih =>
    intro s x3 h' hm fr s0 sn bz
    have sh' := sh.fr fr (by decide +kernel) (by decide)
    have e59 : hA h' 59 = hA h 59 := fr.2.2.2.2.2 59 (by decide)
    have e71 : hA h' 71 = hA h 71 := fr.2.2.2.2.2 71 (by decide)
    refine Wp.ild_n (j := 2) rfl dX6_ends_168 ?_
    refine Wp.ild_n (j := 1) rfl dX6_ends_169 ?_
    refine Wp.icge dX6_ends_170 (by decide) (tgt := 199) (fun c170 => ?_) (fun c170 => ?_)
    · exact kq _ _ _ fr (fun x x0 x1 hx => by rw [show n.toNat = s.toNat by omega]; exact bz x x0 x1 hx)
    · have hz := ez s s0 (by omega)
      have hy : 0 ≤ hA h 71 (hA h 59 s) ∧ hA h 71 (hA h 59 s) < em := by
        rw [hf _ hz.1 hz.2.1 hz.2.2.1, ec]
        have := cR_lt (g := hA h 59) hz.1 hz.2.2.1 hz.2.1
        omega
      refine Wp.ald_n (j := 0) rfl dX6_ends_173 ?_
      refine Wp.getf (k := 26) (tg := 2) kC6 (by decide) rfl lf_X6_81 dX6_ends_174 (sK41 (h := h') sh') (sF41_26 (h := h') sh') ?_
      refine Wp.ald_n (j := 0) rfl dX6_ends_177 ?_
      refine Wp.getf (k := 43) (tg := 2) kC6 (by decide) rfl lf_X6_109 dX6_ends_178 (sK41 (h := h') sh') (sF41_43 (h := h') sh') ?_
      refine Wp.ald_n (j := 0) rfl dX6_ends_181 ?_
      refine Wp.getf (k := 23) (tg := 2) kC6 (by decide) rfl lf_X6_72 dX6_ends_182 (sK41 (h := h') sh') (sF41_23 (h := h') sh') ?_
      refine Wp.ild_n (j := 2) rfl dX6_ends_185 ?_
      refine Wp.iaload dX6_ends_186 (sK59 (h := h') sh') (by omega) (ilt (sL59 (h := h') sh') (by omega)) (show hA _ 59 _ = hA h 59 _ from congrFun e59 _) ?_
      refine Wp.iaload dX6_ends_187 (sK71 (h := h') sh') (by omega) (ilt (sL71 (h := h') sh') (by omega)) (show hA _ 71 _ = hA h 71 _ from congrFun e71 _) ?_
      refine Wp.dup2 dX6_ends_188 (Or.inl rfl) (Or.inr rfl) ?_
      refine Wp.iaload dX6_ends_189 (sK62 (h := h') sh') (by omega) (ilt (sL62 (h := h') sh') (by omega)) (show hA _ 62 _ = hA h' 62 _ from rfl) ?_
      refine Wp.iconst dX6_ends_190 (by decide) ?_
      refine Wp.iaddE dX6_ends_191 rfl ?_
      refine Wp.iastore dX6_ends_192 (sK62 (h := h') sh') (by omega) (ilt (sL62 (h := h') sh') (by omega)) ?_
      refine inc_4_2 rfl dX6_ends_193 (by first | exact w32_of (by omega) (by omega) | rfl) ?_
      refine Wp.goto (tgt := 168) dX6_ends_196 (by decide) ?_
      refine ih (s + 1) _ _ (by omega) (fr.tr (Fr.e (by decide))) (by omega) (by omega) (fun x x0 x1 hx => ?_)
      rw [hA_sEs, bz9_s s0]
      have hb := bz9_bd (H := hA h 59) (x := x) s.toNat
      by_cases e : hA h 59 s = x
      · rw [if_pos e, e, hf x x0 x1 hx, u1_s, bz x x0 x1 hx, w32_of (by omega) (by omega)]
      · have hne : ((cR (hA h 59) (x).toNat : Nat) : Int) ≠ hA h 71 (hA h 59 s) := fun z => by
          rw [hf _ hz.1 hz.2.1 hz.2.2.1] at z
          exact e (cR_inj x0 hz.1 hx hz.2.2.1 z).symm
        rw [if_neg e, u1_n _ _ hne, bz x x0 x1 hx]
        omega

theorem cq_mendsX (d : Nat) (h : mH) (sh : Sh h) (mi : MI h) : Cq m_X6_ends (d + 3) [(2, 41)] h (fun r t => (∃ y, r = some (0, y) ∧ ((¬ (hF h 41 6 ≠ 0 ∧ hF h 41 5 ^ (hF h 41 6).toNat ≤ 20736) ∧ y = -1 ∧ Fr [] [(41, 0), (41, 1)] h t) ∨ ((hF h 41 6 ≠ 0 ∧ hF h 41 5 ^ (hF h 41 6).toNat ≤ 20736) ∧ ∃ H : Int → Int, HM9 (hF h 41 5 ^ (hF h 41 6).toNat) (mG9 (mcf h)) H ∧ y = ((cR H (hF h 41 5 ^ (hF h 41 6).toNat).toNat : Nat) : Int) ∧ hF t 41 27 = y ∧ RW9 (mG9 (mcf h)) H (hA t 60) (hA t 61) (hA t 62) (hF h 41 5 ^ (hF h 41 6).toNat) (hF h 41 5 ^ (hF h 41 6).toNat)))) ∧ MI t ∧ Fr mAe mGe h t) := by
  refine Cq.of ?_
  show Wp m_X6_ends ((d + 3)) 0 [(2, 41), (9, 0), (9, 0), (9, 0)] [] h _
  obtain ⟨⟨⟨r0, r1⟩, ⟨n0, n1⟩, ⟨m0, m1⟩, hp, hq⟩, hms, ⟨⟨z0, z1⟩, hsp⟩, hme⟩ := id mi
  refine Wp.ald_n (j := 0) rfl dX6_ends_0 ?_
  refine Wp.iconst dX6_ends_1 (by decide) ?_
  refine Wp.putf (k := 1) (tg := 0) kC6 (by decide) rfl rfl lf_X6_117 dX6_ends_2 (sK41 (h := h) sh) ?_
  refine Wp.ald_n (j := 0) rfl dX6_ends_5 ?_
  refine Wp.iconst dX6_ends_6 (by decide) ?_
  refine Wp.putf (k := 0) (tg := 0) kC6 (by decide) rfl rfl lf_X6_120 dX6_ends_7 (sK41 (h := h) sh) ?_
  refine Wp.ald_n (j := 0) rfl dX6_ends_10 ?_
  obtain ⟨_, tq2, ctq2, ⟨yq2, rfl, hyq2⟩, eq2⟩ := cq_mstatesX (d + 2) (sF (sF h 41 1 0) 41 0 0) sh.m0 mi.1
  rw [eq2] at ctq2
  have hyq2 : (yq2 = -1 ∧ (hF h 41 6 = 0 ∨ 20736 < hF h 41 5 ^ (hF h 41 6).toNat)) ∨ (yq2 = hF h 41 5 ^ (hF h 41 6).toNat ∧ 1 ≤ yq2 ∧ yq2 ≤ 20736 ∧ hF h 41 6 ≠ 0) := hyq2
  refine Wp.callV1 (ctq2) wc_X6_216 iM_X6_states se_X6_states kC6 (sK41 (h := h) sh) dX6_ends_11 rfl (Nat.le_of_ble_eq_true rfl) rfl (Nat.le_of_ble_eq_true rfl) ?_
  refine sti_4_1 rfl (dSt_n dX6_ends_14) ?_
  refine Wp.ild_n (j := 1) rfl dX6_ends_15 ?_
  refine Wp.ifge dX6_ends_16 (by decide) (tgt := 25) (fun c16 => ?_) (fun c16 => ?_)
  · refine Wp.ald_n (j := 0) rfl dX6_ends_25 ?_
    refine Wp.ild_n (j := 1) rfl dX6_ends_26 ?_
    obtain ⟨hy1, hy2, hy3, hy4⟩ : yq2 = hF h 41 5 ^ (hF h 41 6).toNat ∧ 1 ≤ yq2 ∧ yq2 ≤ 20736 ∧ hF h 41 6 ≠ 0 := by
      rcases hyq2 with z | z
      · omega
      · exact z
    obtain ⟨_, t27, ct27, rfl, ft27, hnt27, hgt27, hmt27⟩ := cq_fillEndsX d (sF (sF h 41 1 0) 41 0 0) sh.m0 mi.1 yq2 hy1 hy3
    have ezt27 := hmt27.ez
    have hgt27 : ∀ j, 0 ≤ j → j < yq2 → hA t27 58 j = mG9 (mcf h) j := hgt27
    have sht27 : Sh t27 := sh.m0.fr ft27 (by decide +kernel) (by decide)
    have mit27 : MI t27 := MI.fr (h := (sF (sF h 41 1 0) 41 0 0)) mi (ft27.mono (by decide) (by simp))
    have frt27 : Fr mAe mGe h t27 := ((Fr.f (by decide)).tr (Fr.f (by decide))).tr (ft27.mono (by decide) (by simp))
    refine Wp.callV0 (ct27) wc_X6_220 iM_X6_fillEnds se_X6_fillEnds kC6 (sK41 (h := h) sh) dX6_ends_27 rfl (Nat.le_of_ble_eq_true rfl) rfl (Nat.le_of_ble_eq_true rfl) ?_
    refine Wp.ald_n (j := 0) rfl dX6_ends_30 ?_
    refine Wp.iconst dX6_ends_31 (by decide) ?_
    refine Wp.putf (k := 27) (tg := 0) kC6 (by decide) rfl rfl lf_X6_224 dX6_ends_32 (sK41 (h := t27) sht27) ?_
    refine Wp.iconst dX6_ends_35 (by decide) ?_
    refine sti_4_2 rfl (dSt_n dX6_ends_36) ?_
    have g0 : Fr [] [(41, 27)] t27 (sF t27 41 27 0) := Fr.f (by decide)
    refine mee1 d (sF t27 41 27 0) (sht27.m (Fr.f (by decide))) yq2 hy3 _ (fun t s frt => ?_) _ 0 _ (Nat.lt_succ_self _) Fr.rf (by omega)
    have sh1 : Sh t := (sht27.m (h' := sF t27 41 27 0) (Fr.f (by decide))).fr frt (by decide +kernel) (by decide)
    have e58 : hA t 58 = hA t27 58 := frt.2.2.2.2.2 58 (by decide)
    have e59 : hA t 59 = hA t27 59 := frt.2.2.2.2.2 59 (by decide)
    refine Wp.iconst dX6_ends_55 (by decide) ?_
    refine sti_4_2 rfl (dSt_n dX6_ends_56) ?_
    refine mee3X d t sh1 yq2 hy3 (by rw [e58]; exact hnt27) (by rw [e58, e59]; exact ezt27) _ (fun u em s2 x3 fru em0 em1 eem ec hf hr => ?_) _ 0 0 _ t (Nat.lt_succ_self _) (by omega) (by omega) (by omega) rfl (frt.2.2.2.2.1 41 27 (by decide)) Fr.rf (fun j j0 j1 => absurd j1 (by omega)) (fun j j0 j1 => absurd j1 (by omega))
    have shu : Sh u := sh1.fr fru (by decide +kernel) (by decide)
    have u58 : hA u 58 = hA t27 58 := (fru.2.2.2.2.2 58 (by decide)).trans e58
    have u59 : hA u 59 = hA t27 59 := (fru.2.2.2.2.2 59 (by decide)).trans e59
    rw [e59] at ec hf hr
    rw [e58] at hr
    refine Wp.iconst dX6_ends_166 (by decide) ?_
    refine sti_4_2 rfl (dSt_n dX6_ends_167) ?_
    refine mee4X d u shu yq2 hy3 (by rw [u58]; exact hnt27) (by rw [u58, u59]; exact ezt27) em em1 (by rw [u59]; exact ec) (by rw [u59]; exact hf) _ (fun v s3 y3 frv hbz => ?_) _ 0 _ u (Nat.lt_succ_self _) Fr.rf (by omega) (by omega) (by rw [u59]; exact fun x x0 x1 hx => (hr x x0 x1 hx).2.2)
    rw [u59] at hbz
    have shv : Sh v := shu.fr frv (by decide +kernel) (by decide)
    have ev : hF v 41 27 = em := (frv.2.2.2.2.1 41 27 (by decide)).trans eem
    have ev60 : hA v 60 = hA u 60 := frv.2.2.2.2.2 60 (by decide)
    have ev61 : hA v 61 = hA u 61 := frv.2.2.2.2.2 61 (by decide)
    refine Wp.ald_n (j := 0) rfl dX6_ends_199 ?_
    refine Wp.getf (k := 27) (tg := 0) kC6 (by decide) rfl lf_X6_224 dX6_ends_200 (sK41 shv) ev ?_
    refine Wp.iret rfl dX6_ends_203 ?_
    have frz : Fr [60, 61, 62, 71] [(41, 27)] t27 v := (((g0.mono (by decide) (by decide)).tr (frt.mono (by decide) (by decide))).tr fru).tr (frv.mono (by decide) (by decide))
    have hrw : RW9 (hA t27 58) (hA t27 59) (hA v 60) (hA v 61) (hA v 62) yq2 yq2 := fun x x0 x1 hx => by
      have z := hr x x0 x1 hx
      rw [ev60, ev61]
      exact ⟨z.1, z.2.1, hbz x x0 x1 hx⟩
    refine ⟨⟨_, rfl, Or.inr ⟨⟨hy4, by omega⟩, hA t27 59, ?_, ?_, ev, ?_⟩⟩, ⟨mit27.1.fr frz (by decide) (by decide) (by decide) (by decide) (by decide), mit27.2.1.fr frz (by decide), mit27.2.2.1.fr frz (by decide) (by decide), by rw [ev]; exact ⟨em0, em1⟩, ?_, ?_⟩, frt27.tr (frz.mono (by decide) (by decide))⟩
    · rw [← hy1]
      exact HM9.cg hnt27 hgt27 (fun _ _ _ => rfl) hmt27
    · rw [← hy1]
      exact ec
    · rw [← hy1]
      exact RW9.cg hnt27 hgt27 (Int.le_refl _) hrw
    · rw [frz.2.2.2.2.1 41 28 (by decide)]
      exact mit27.2.2.2.2.1
    · rw [frz.2.2.2.2.1 41 39 (by decide)]
      exact mit27.2.2.2.2.2
  · refine Wp.ald_n (j := 0) rfl dX6_ends_19 ?_
    refine Wp.iconst dX6_ends_20 (by decide) ?_
    refine Wp.callV1 (ct_mrefuse (d + 2) (sF (sF h 41 1 0) 41 0 0) (sK41 (h := h) sh) 5) wc_X6_151 iM_X6_refuse se_X6_refuse kC6 (sK41 (h := h) sh) dX6_ends_21 rfl (Nat.le_of_ble_eq_true rfl) rfl (Nat.le_of_ble_eq_true rfl) ?_
    refine Wp.iret rfl dX6_ends_24 ?_
    have ns : ¬ (hF h 41 6 ≠ 0 ∧ hF h 41 5 ^ (hF h 41 6).toNat ≤ 20736) := fun z => by
      rcases hyq2 with y | y
      · have := z.1
        have := z.2
        omega
      · omega
    exact ⟨⟨_, rfl, Or.inl ⟨ns, rfl, ((Fr.f (by decide)).tr ((Fr.f (by decide)).tr (Fr.f (by decide))))⟩⟩, mi, ((Fr.f (by decide)).tr ((Fr.f (by decide)).tr (Fr.f (by decide))))⟩

theorem cq_mendX (d : Nat) (h : mH) (sh : Sh h) (mi : MI h) (k x : Int) : Cq m_X6_end (d + 1) [(2, 41), (0, k), (0, x)] h (fun r t => (∃ y, r = some (0, y) ∧ ((¬ ((0 ≤ x ∧ x ≤ 2) ∧ (0 ≤ k ∧ k < hF h 41 27)) ∧ y = -1) ∨ (((0 ≤ x ∧ x ≤ 2) ∧ (0 ≤ k ∧ k < hF h 41 27)) ∧ y = if x = 0 then hA h 60 k else if x = 1 then hA h 61 k else hA h 62 k))) ∧ MI t ∧ Fr mAq mGq h t) := by
  refine Cq.of ?_
  show Wp m_X6_end ((d + 1)) 0 [(2, 41), (0, k), (0, x)] [] h _
  obtain ⟨⟨⟨r0, r1⟩, ⟨n0, n1⟩, ⟨m0, m1⟩, hp, hq⟩, hms, ⟨⟨z0, z1⟩, hsp⟩, hme⟩ := id mi
  have hm2 := hme.1
  refine Wp.ald_n (j := 0) rfl dX6_end_0 ?_
  refine Wp.iconst dX6_end_1 (by decide) ?_
  refine Wp.putf (k := 1) (tg := 0) kC6 (by decide) rfl rfl lf_X6_117 dX6_end_2 (sK41 (h := h) sh) ?_
  refine Wp.ald_n (j := 0) rfl dX6_end_5 ?_
  refine Wp.iconst dX6_end_6 (by decide) ?_
  refine Wp.putf (k := 0) (tg := 0) kC6 (by decide) rfl rfl lf_X6_120 dX6_end_7 (sK41 (h := h) sh) ?_
  refine Wp.ild_n (j := 2) rfl dX6_end_10 ?_
  refine Wp.iflt dX6_end_11 (by decide) (tgt := 19) (fun c11 => ?_) (fun c11 => ?_)
  · refine Wp.ald_n (j := 0) rfl dX6_end_19 ?_
    refine Wp.iconst dX6_end_20 (by decide) ?_
    refine Wp.callV1 (ct_mrefuse d (sF (sF h 41 1 0) 41 0 0) (sK41 (h := h) sh) 2) wc_X6_151 iM_X6_refuse se_X6_refuse kC6 (sK41 (h := h) sh) dX6_end_21 rfl (Nat.le_of_ble_eq_true rfl) rfl (Nat.le_of_ble_eq_true rfl) ?_
    refine Wp.iret rfl dX6_end_24 ?_
    exact ⟨⟨_, rfl, Or.inl ⟨by omega, rfl⟩⟩, mi, ((Fr.f (by decide)).tr ((Fr.f (by decide)).tr (Fr.f (by decide))))⟩
  · refine Wp.ild_n (j := 2) rfl dX6_end_14 ?_
    refine Wp.iconst dX6_end_15 (by decide) ?_
    refine Wp.icle dX6_end_16 (by decide) (tgt := 25) (fun c16 => ?_) (fun c16 => ?_)
    · refine Wp.ild_n (j := 1) rfl dX6_end_25 ?_
      refine Wp.iflt dX6_end_26 (by decide) (tgt := 37) (fun c26 => ?_) (fun c26 => ?_)
      · refine Wp.ald_n (j := 0) rfl dX6_end_37 ?_
        refine Wp.bipush dX6_end_38 (by decide) ?_
        refine Wp.callV1 (ct_mrefuse d (sF (sF h 41 1 0) 41 0 0) (sK41 (h := h) sh) 8) wc_X6_151 iM_X6_refuse se_X6_refuse kC6 (sK41 (h := h) sh) dX6_end_40 rfl (Nat.le_of_ble_eq_true rfl) rfl (Nat.le_of_ble_eq_true rfl) ?_
        refine Wp.iret rfl dX6_end_43 ?_
        exact ⟨⟨_, rfl, Or.inl ⟨by omega, rfl⟩⟩, mi, ((Fr.f (by decide)).tr ((Fr.f (by decide)).tr (Fr.f (by decide))))⟩
      · refine Wp.ild_n (j := 1) rfl dX6_end_29 ?_
        refine Wp.ald_n (j := 0) rfl dX6_end_30 ?_
        refine Wp.getf (k := 27) (tg := 0) kC6 (by decide) rfl lf_X6_224 dX6_end_31 (sK41 (h := h) sh) (show hF _ 41 27 = hF h 41 27 from rfl) ?_
        refine Wp.iclt dX6_end_34 (by decide) (tgt := 44) (fun c34 => ?_) (fun c34 => ?_)
        · refine Wp.ild_n (j := 2) rfl dX6_end_44 ?_
          refine Wp.ifne dX6_end_45 (by decide) (tgt := 57) (fun c45 => ?_) (fun c45 => ?_)
          · refine Wp.ild_n (j := 2) rfl dX6_end_57 ?_
            refine Wp.iconst dX6_end_58 (by decide) ?_
            refine Wp.icne dX6_end_59 (by decide) (tgt := 71) (fun c59 => ?_) (fun c59 => ?_)
            · refine Wp.ald_n (j := 0) rfl dX6_end_71 ?_
              refine Wp.getf (k := 26) (tg := 2) kC6 (by decide) rfl lf_X6_81 dX6_end_72 (sK41 (h := h) sh) (sF41_26 (h := h) sh) ?_
              refine Wp.ild_n (j := 1) rfl dX6_end_75 ?_
              refine Wp.iaload dX6_end_76 (sK62 (h := h) sh) (by omega) (ilt (sL62 (h := h) sh) (by omega)) (show hA _ 62 _ = hA h 62 _ from rfl) ?_
              refine Wp.iret rfl dX6_end_77 ?_
              first
              | exact ⟨⟨_, rfl, Or.inr ⟨by omega, (if_pos c45).symm⟩⟩, mi, ((Fr.f (by decide)).tr (Fr.f (by decide)))⟩
              | exact ⟨⟨_, rfl, Or.inr ⟨by omega, ((if_neg c45).trans (if_pos c59)).symm⟩⟩, mi, ((Fr.f (by decide)).tr (Fr.f (by decide)))⟩
              | exact ⟨⟨_, rfl, Or.inr ⟨by omega, ((if_neg c45).trans (if_neg c59)).symm⟩⟩, mi, ((Fr.f (by decide)).tr (Fr.f (by decide)))⟩
            · refine Wp.ald_n (j := 0) rfl dX6_end_62 ?_
              refine Wp.getf (k := 25) (tg := 2) kC6 (by decide) rfl lf_X6_78 dX6_end_63 (sK41 (h := h) sh) (sF41_25 (h := h) sh) ?_
              refine Wp.ild_n (j := 1) rfl dX6_end_66 ?_
              refine Wp.iaload dX6_end_67 (sK61 (h := h) sh) (by omega) (ilt (sL61 (h := h) sh) (by omega)) (show hA _ 61 _ = hA h 61 _ from rfl) ?_
              refine Wp.goto (tgt := 77) dX6_end_68 (by decide) ?_
              refine Wp.iret rfl dX6_end_77 ?_
              first
              | exact ⟨⟨_, rfl, Or.inr ⟨by omega, (if_pos c45).symm⟩⟩, mi, ((Fr.f (by decide)).tr (Fr.f (by decide)))⟩
              | exact ⟨⟨_, rfl, Or.inr ⟨by omega, ((if_neg c45).trans (if_pos c59)).symm⟩⟩, mi, ((Fr.f (by decide)).tr (Fr.f (by decide)))⟩
              | exact ⟨⟨_, rfl, Or.inr ⟨by omega, ((if_neg c45).trans (if_neg c59)).symm⟩⟩, mi, ((Fr.f (by decide)).tr (Fr.f (by decide)))⟩
          · refine Wp.ald_n (j := 0) rfl dX6_end_48 ?_
            refine Wp.getf (k := 24) (tg := 2) kC6 (by decide) rfl lf_X6_75 dX6_end_49 (sK41 (h := h) sh) (sF41_24 (h := h) sh) ?_
            refine Wp.ild_n (j := 1) rfl dX6_end_52 ?_
            refine Wp.iaload dX6_end_53 (sK60 (h := h) sh) (by omega) (ilt (sL60 (h := h) sh) (by omega)) (show hA _ 60 _ = hA h 60 _ from rfl) ?_
            refine Wp.goto (tgt := 77) dX6_end_54 (by decide) ?_
            refine Wp.iret rfl dX6_end_77 ?_
            first
            | exact ⟨⟨_, rfl, Or.inr ⟨by omega, (if_pos c45).symm⟩⟩, mi, ((Fr.f (by decide)).tr (Fr.f (by decide)))⟩
            | exact ⟨⟨_, rfl, Or.inr ⟨by omega, ((if_neg c45).trans (if_pos c59)).symm⟩⟩, mi, ((Fr.f (by decide)).tr (Fr.f (by decide)))⟩
            | exact ⟨⟨_, rfl, Or.inr ⟨by omega, ((if_neg c45).trans (if_neg c59)).symm⟩⟩, mi, ((Fr.f (by decide)).tr (Fr.f (by decide)))⟩
        · refine Wp.ald_n (j := 0) rfl dX6_end_37 ?_
          refine Wp.bipush dX6_end_38 (by decide) ?_
          refine Wp.callV1 (ct_mrefuse d (sF (sF h 41 1 0) 41 0 0) (sK41 (h := h) sh) 8) wc_X6_151 iM_X6_refuse se_X6_refuse kC6 (sK41 (h := h) sh) dX6_end_40 rfl (Nat.le_of_ble_eq_true rfl) rfl (Nat.le_of_ble_eq_true rfl) ?_
          refine Wp.iret rfl dX6_end_43 ?_
          exact ⟨⟨_, rfl, Or.inl ⟨by omega, rfl⟩⟩, mi, ((Fr.f (by decide)).tr ((Fr.f (by decide)).tr (Fr.f (by decide))))⟩
    · refine Wp.ald_n (j := 0) rfl dX6_end_19 ?_
      refine Wp.iconst dX6_end_20 (by decide) ?_
      refine Wp.callV1 (ct_mrefuse d (sF (sF h 41 1 0) 41 0 0) (sK41 (h := h) sh) 2) wc_X6_151 iM_X6_refuse se_X6_refuse kC6 (sK41 (h := h) sh) dX6_end_21 rfl (Nat.le_of_ble_eq_true rfl) rfl (Nat.le_of_ble_eq_true rfl) ?_
      refine Wp.iret rfl dX6_end_24 ?_
      exact ⟨⟨_, rfl, Or.inl ⟨by omega, rfl⟩⟩, mi, ((Fr.f (by decide)).tr ((Fr.f (by decide)).tr (Fr.f (by decide))))⟩

