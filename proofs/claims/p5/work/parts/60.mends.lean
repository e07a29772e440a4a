theorem mee1 (d : Nat) (h : mH) (sh : Sh h) (n : Int) (n1 : n ≤ 20736) (Q : Option mV → mH → Prop) (kq : ∀ (t : mH) (s : Int), Fr [71] [] h t → Wp m_X6_ends (d + 3) 55 [(2, 41), (0, n), (0, s), (9, 0)] [] t Q) : ∀ (m : Nat) (s : Int) (h' : mH), (n - s).toNat < m → (Fr [71] [] h h') → (0 ≤ s) → Wp m_X6_ends (d + 3) 37 [(2, 41), (0, n), (0, s), (9, 0)] [] h' Q := by
  intro m
  induction m with
  | zero => intro s h' hm; exact absurd hm (Nat.not_lt_zero _)
  | succ m ih =>
    intro s h' hm fr s0
    have sh' := sh.fr fr (by decide +kernel) (by decide)
    refine Wp.ild_n (j := 2) rfl dX6_ends_37 ?_
    refine Wp.ild_n (j := 1) rfl dX6_ends_38 ?_
    refine Wp.icge dX6_ends_39 (by decide) (tgt := 55) (fun c39 => ?_) (fun c39 => ?_)
    · exact kq _ _ fr
    · refine Wp.ald_n (j := 0) rfl dX6_ends_42 ?_
      refine Wp.getf (k := 43) (tg := 2) kC6 (by decide) rfl lf_X6_109 dX6_ends_43 (sK41 (h := h') sh') (sF41_43 (h := h') sh') ?_
      refine Wp.ild_n (j := 2) rfl dX6_ends_46 ?_
      refine Wp.iconst dX6_ends_47 (by decide) ?_
      refine Wp.iastore dX6_ends_48 (sK71 (h := h') sh') (by omega) (ilt (sL71 (h := h') sh') (by omega)) ?_
      refine inc_4_2 rfl dX6_ends_49 (by first | exact w32_of (by omega) (by omega) | rfl) ?_
      refine Wp.goto (tgt := 37) dX6_ends_52 (by decide) ?_
      exact ih (s + 1) _ (by omega) (fr.tr (Fr.e (by decide))) (by omega)

theorem mee2 (d : Nat) (h : mH) (sh : Sh h) (n : Int) (n1 : n ≤ 20736) (hn : ∀ j, 0 ≤ j → j < n → 0 ≤ hA h 58 j ∧ hA h 58 j < n) (ez : EZ n (hA h 58) (hA h 59)) (s em : Int) (s0 : 0 ≤ s) (s1 : s < n) (em0 : 0 ≤ em ∧ em < 20736) (ee : hF h 41 27 = em) (c : Nat) (hc : itn (hA h 58) c s = s) (Q : Option mV → mH → Prop) (kq : ∀ (t : mH) (j : Int), Fr [61] [] h t → Wp m_X6_ends (d + 3) 140 [(2, 41), (0, n), (0, s), (0, j)] [] t Q) : ∀ (m : Nat) (u : Nat) (h' : mH), c - u < m → (Fr [61] [] h h') → (u ≤ c) → Wp m_X6_ends (d + 3) 112 [(2, 41), (0, n), (0, s), (0, (itn (hA h 58) u s))] [] h' Q := by
  intro m
  induction m with
  | zero => intro u h' hm; exact absurd hm (Nat.not_lt_zero _)
  | succ m ih =>
    intro u h' hm fr u1
    have sh' := sh.fr fr (by decide +kernel) (by decide)
    have e58 : hA h' 58 = hA h 58 := fr.2.2.2.2.2 58 (by decide)
    have hk := itn_in hn s0 s1 u
    have e27 : hF h' 41 27 = em := (fr.2.2.2.2.1 41 27 (by decide)).trans ee
    refine Wp.ild_n (j := 3) rfl dX6_ends_112 ?_
    refine Wp.ild_n (j := 2) rfl dX6_ends_113 ?_
    refine Wp.iceq dX6_ends_114 (by decide) (tgt := 140) (fun c114 => ?_) (fun c114 => ?_)
    · exact kq _ _ fr
    · refine Wp.ald_n (j := 0) rfl dX6_ends_117 ?_
      refine Wp.getf (k := 25) (tg := 2) kC6 (by decide) rfl lf_X6_78 dX6_ends_118 (sK41 (h := h') sh') (sF41_25 (h := h') sh') ?_
      refine Wp.ald_n (j := 0) rfl dX6_ends_121 ?_
      refine Wp.getf (k := 27) (tg := 0) kC6 (by decide) rfl lf_X6_224 dX6_ends_122 (sK41 (h := h') sh') e27 ?_
      refine Wp.dup2 dX6_ends_125 (Or.inl rfl) (Or.inr rfl) ?_
      refine Wp.iaload dX6_ends_126 (sK61 (h := h') sh') (by omega) (ilt (sL61 (h := h') sh') (by omega)) (show hA _ 61 _ = hA h' 61 _ from rfl) ?_
      refine Wp.iconst dX6_ends_127 (by decide) ?_
      refine Wp.iaddE dX6_ends_128 rfl ?_
      refine Wp.iastore dX6_ends_129 (sK61 (h := h') sh') (by omega) (ilt (sL61 (h := h') sh') (by omega)) ?_
      refine Wp.ald_n (j := 0) rfl dX6_ends_130 ?_
      refine Wp.getf (k := 22) (tg := 2) kC6 (by decide) rfl lf_X6_69 dX6_ends_131 (sK41 (h := h') sh') (sF41_22 (h := h') sh') ?_
      refine Wp.ild_n (j := 3) rfl dX6_ends_134 ?_
      refine Wp.iaload dX6_ends_135 (sK58 (h := h') sh') (by omega) (ilt (sL58 (h := h') sh') (by omega)) (show hA _ 58 _ = hA h 58 _ from congrFun e58 _) ?_
      refine sti_4_3 rfl (dSt_n dX6_ends_136) ?_
      refine Wp.goto (tgt := 112) dX6_ends_137 (by decide) ?_
      have hne : u ≠ c := fun e => c114 (by rw [e]; exact hc)
      exact ih (u + 1) _ (by omega) (fr.tr (Fr.e (by decide))) (by omega)

theorem mee140 (d : Nat) (h : mH) (sh : Sh h) (n s em : Int) (j : Int) (em0 : 0 ≤ em ∧ em < 20736) (s1 : s < 20736) (s0 : 0 ≤ s) (ee : hF h 41 27 = em) (Q : Option mV → mH → Prop) (kq : ∀ v : Int, Wp m_X6_ends (d + 3) 57 [(2, 41), (0, n), (0, s + 1), (0, j)] [] (sF (sE h 62 em v) 41 27 (em + 1)) Q) : Wp m_X6_ends (d + 3) 140 [(2, 41), (0, n), (0, s), (0, j)] [] h Q := by
  refine Wp.ald_n (j := 0) rfl dX6_ends_140 ?_
  refine Wp.getf (k := 26) (tg := 2) kC6 (by decide) rfl lf_X6_81 dX6_ends_141 (sK41 (h := h) sh) (sF41_26 (h := h) sh) ?_
  refine Wp.ald_n (j := 0) rfl dX6_ends_144 ?_
  refine Wp.getf (k := 27) (tg := 0) kC6 (by decide) rfl lf_X6_224 dX6_ends_145 (sK41 (h := h) sh) ee ?_
  refine Wp.iconst dX6_ends_148 (by decide) ?_
  refine Wp.iastore dX6_ends_149 (sK62 (h := h) sh) (by omega) (ilt (sL62 (h := h) sh) (by omega)) ?_
  refine Wp.ald_n (j := 0) rfl dX6_ends_150 ?_
  refine Wp.dup dX6_ends_151 (Or.inr rfl) ?_
  refine Wp.getf (k := 27) (tg := 0) kC6 (by decide) rfl lf_X6_224 dX6_ends_152 (sK41 (h := h) sh) (show hF _ 41 27 = em from ee) ?_
  refine Wp.iconst dX6_ends_155 (by decide) ?_
  refine Wp.iaddE dX6_ends_156 (by first | exact w32_of (by omega) (by omega) | rfl) ?_
  refine Wp.putf (k := 27) (tg := 0) kC6 (by decide) rfl rfl lf_X6_224 dX6_ends_157 (sK41 (h := h) sh) ?_
  refine inc_4_2 rfl dX6_ends_160 (by first | exact w32_of (by omega) (by omega) | rfl) ?_
  refine Wp.goto (tgt := 57) dX6_ends_163 (by decide) ?_
  exact kq _

theorem mee3 (d : Nat) (h : mH) (sh : Sh h) (n : Int) (n1 : n ≤ 20736) (hn : ∀ j, 0 ≤ j → j < n → 0 ≤ hA h 58 j ∧ hA h 58 j < n) (ez : EZ n (hA h 58) (hA h 59)) (Q : Option mV → mH → Prop) (kq : ∀ (t : mH) (em s : Int) (x3 : mV), Fr [60, 61, 62, 71] [(41, 27)] h t → 0 ≤ em → em ≤ 20736 → hF t 41 27 = em → (∀ j, 0 ≤ j → j < n → hA h 59 j = j → 0 ≤ hA t 71 j ∧ hA t 71 j < em) → Wp m_X6_ends (d + 3) 166 [(2, 41), (0, n), (0, s), x3] [] t Q) : ∀ (m : Nat) (s em : Int) (x3 : mV) (h' : mH), (n - s).toNat < m → (0 ≤ s) → (s ≤ n) → (0 ≤ em ∧ em ≤ s) → (hF h' 41 27 = em) → (Fr [60, 61, 62, 71] [(41, 27)] h h') → (∀ j, 0 ≤ j → j < s → hA h 59 j = j → 0 ≤ hA h' 71 j ∧ hA h' 71 j < em) → Wp m_X6_ends (d + 3) 57 [(2, 41), (0, n), (0, s), x3] [] h' Q := by
  intro m
  induction m with
  | zero => intro s em x3 h' hm; exact absurd hm (Nat.not_lt_zero _)
  | succ m ih =>
    intro s em x3 h' hm s0 sn em0 ee fr hf
    have sh' := sh.fr fr (by decide +kernel) (by decide)
    have e58 : hA h' 58 = hA h 58 := fr.2.2.2.2.2 58 (by decide)
    have e59 : hA h' 59 = hA h 59 := fr.2.2.2.2.2 59 (by decide)
    refine Wp.ild_n (j := 2) rfl dX6_ends_57 ?_
    refine Wp.ild_n (j := 1) rfl dX6_ends_58 ?_
    refine Wp.icge dX6_ends_59 (by decide) (tgt := 166) (fun c59 => ?_) (fun c59 => ?_)
    · exact kq h' em s _ fr em0.1 (by omega) ee (fun j j0 j1 j2 => hf j j0 (by omega) j2)
    · refine Wp.ald_n (j := 0) rfl dX6_ends_62 ?_
      refine Wp.getf (k := 23) (tg := 2) kC6 (by decide) rfl lf_X6_72 dX6_ends_63 (sK41 (h := h') sh') (sF41_23 (h := h') sh') ?_
      refine Wp.ild_n (j := 2) rfl dX6_ends_66 ?_
      refine Wp.iaload dX6_ends_67 (sK59 (h := h') sh') (by omega) (ilt (sL59 (h := h') sh') (by omega)) (show hA _ 59 _ = hA h 59 _ from congrFun e59 _) ?_
      refine Wp.ild_n (j := 2) rfl dX6_ends_68 ?_
      refine Wp.iceq dX6_ends_69 (by decide) (tgt := 75) (fun c69 => ?_) (fun c69 => ?_)
      · refine Wp.ald_n (j := 0) rfl dX6_ends_75 ?_
        refine Wp.getf (k := 43) (tg := 2) kC6 (by decide) rfl lf_X6_109 dX6_ends_76 (sK41 (h := h') sh') (sF41_43 (h := h') sh') ?_
        refine Wp.ild_n (j := 2) rfl dX6_ends_79 ?_
        refine Wp.ald_n (j := 0) rfl dX6_ends_80 ?_
        refine Wp.getf (k := 27) (tg := 0) kC6 (by decide) rfl lf_X6_224 dX6_ends_81 (sK41 (h := h') sh') ee ?_
        refine Wp.iastore dX6_ends_84 (sK71 (h := h') sh') (by omega) (ilt (sL71 (h := h') sh') (by omega)) ?_
        refine Wp.ald_n (j := 0) rfl dX6_ends_85 ?_
        refine Wp.getf (k := 24) (tg := 2) kC6 (by decide) rfl lf_X6_75 dX6_ends_86 (sK41 (h := h') sh') (sF41_24 (h := h') sh') ?_
        refine Wp.ald_n (j := 0) rfl dX6_ends_89 ?_
        refine Wp.getf (k := 27) (tg := 0) kC6 (by decide) rfl lf_X6_224 dX6_ends_90 (sK41 (h := h') sh') ee ?_
        refine Wp.ild_n (j := 2) rfl dX6_ends_93 ?_
        refine Wp.iastore dX6_ends_94 (sK60 (h := h') sh') (by omega) (ilt (sL60 (h := h') sh') (by omega)) ?_
        refine Wp.ald_n (j := 0) rfl dX6_ends_95 ?_
        refine Wp.getf (k := 25) (tg := 2) kC6 (by decide) rfl lf_X6_78 dX6_ends_96 (sK41 (h := h') sh') (sF41_25 (h := h') sh') ?_
        refine Wp.ald_n (j := 0) rfl dX6_ends_99 ?_
        refine Wp.getf (k := 27) (tg := 0) kC6 (by decide) rfl lf_X6_224 dX6_ends_100 (sK41 (h := h') sh') ee ?_
        refine Wp.iconst dX6_ends_103 (by decide) ?_
        refine Wp.iastore dX6_ends_104 (sK61 (h := h') sh') (by omega) (ilt (sL61 (h := h') sh') (by omega)) ?_
        refine Wp.ald_n (j := 0) rfl dX6_ends_105 ?_
        refine Wp.getf (k := 22) (tg := 2) kC6 (by decide) rfl lf_X6_69 dX6_ends_106 (sK41 (h := h') sh') (sF41_22 (h := h') sh') ?_
        refine Wp.ild_n (j := 2) rfl dX6_ends_109 ?_
        refine Wp.iaload dX6_ends_110 (sK58 (h := h') sh') (by omega) (ilt (sL58 (h := h') sh') (by omega)) (show hA _ 58 _ = hA h 58 _ from congrFun e58 _) ?_
        refine sti_4_3 rfl (dSt_n dX6_ends_111) ?_
        have hz := ez s s0 (by omega)
        rw [c69] at hz
        obtain ⟨c, hc1, hc2⟩ := hz.2.2.2
        have fr3 : Fr [60, 61, 62, 71] [(41, 27)] h (sE (sE (sE h' 71 s em) 60 em s) 61 em 1) := fr.tr ((Fr.e (by decide)).tr ((Fr.e (by decide)).tr (Fr.e (by decide))))
        have g58 : hA (sE (sE (sE h' 71 s em) 60 em s) 61 em 1) 58 = hA h 58 := fr3.2.2.2.2.2 58 (by decide)
        have g59 : hA (sE (sE (sE h' 71 s em) 60 em s) 61 em 1) 59 = hA h 59 := fr3.2.2.2.2.2 59 (by decide)
        have k9 := mee2 d (sE (sE (sE h' 71 s em) 60 em s) 61 em 1) (sh.fr fr3 (by decide +kernel) (by decide)) n n1 (by rw [g58]; exact hn) (by rw [g58, g59]; exact ez) s em s0 (by omega) (by omega) ee c (by rw [g58]; exact hc2) Q (fun t j frt => mee140 d t ((sh.fr fr3 (by decide +kernel) (by decide)).fr frt (by decide +kernel) (by decide)) n s em j (by omega) (by omega) s0 ((frt.2.2.2.2.1 41 27 (by decide)).trans ee) Q (fun v => ?_)) _ 1 _ (Nat.lt_succ_self _) Fr.rf hc1
        · rw [g58] at k9
          exact k9
        have f71 : hA t 71 = u1 (hA h' 71) s em := frt.2.2.2.2.2 71 (by decide)
        refine ih (s + 1) (em + 1) _ _ (by omega) (by omega) (by omega) (by omega) rfl (((fr3.tr (frt.mono (by decide) (by simp))).tr (Fr.e (by decide))).tr (Fr.f (by decide))) (fun j j0 j1 j2 => ?_)
        show 0 ≤ hA t 71 j ∧ hA t 71 j < em + 1
        rw [f71]
        by_cases e : j = s
        · rw [e, u1_s]
          omega
        · rw [u1_n _ _ e]
          have := hf j j0 (by omega) j2
          omega
      · refine Wp.goto (tgt := 160) dX6_ends_72 (by decide) ?_
        refine inc_4_2 rfl dX6_ends_160 (by first | exact w32_of (by omega) (by omega) | rfl) ?_
        refine Wp.goto (tgt := 57) dX6_ends_163 (by decide) ?_
        refine ih (s + 1) em _ h' (by omega) (by omega) (by omega) (by omega) ee fr (fun j j0 j1 j2 => hf j j0 ?_ j2)
        by_cases e : j = s
        · rw [e] at j2
          exact absurd j2 c69
        · omega

theorem mee4 (d : Nat) (h : mH) (sh : Sh h) (n : Int) (n1 : n ≤ 20736) (hn : ∀ j, 0 ≤ j → j < n → 0 ≤ hA h 58 j ∧ hA h 58 j < n) (ez : EZ n (hA h 58) (hA h 59)) (em : Int) (em1 : em ≤ 20736) (hf : ∀ j, 0 ≤ j → j < n → hA h 59 j = j → 0 ≤ hA h 71 j ∧ hA h 71 j < em) (Q : Option mV → mH → Prop) (kq : ∀ (t : mH) (s : Int) (x3 : mV), Fr [62] [] h t → Wp m_X6_ends (d + 3) 199 [(2, 41), (0, n), (0, s), x3] [] t Q) : ∀ (m : Nat) (s : Int) (x3 : mV) (h' : mH), (n - s).toNat < m → (Fr [62] [] h h') → (0 ≤ s) → Wp m_X6_ends (d + 3) 168 [(2, 41), (0, n), (0, s), x3] [] h' Q := by
  intro m
  induction m with
  | zero => intro s x3 h' hm; exact absurd hm (Nat.not_lt_zero _)
  | succ m ih =>
    intro s x3 h' hm fr s0
    have sh' := sh.fr fr (by decide +kernel) (by decide)
    have e59 : hA h' 59 = hA h 59 := fr.2.2.2.2.2 59 (by decide)
    have e71 : hA h' 71 = hA h 71 := fr.2.2.2.2.2 71 (by decide)
    refine Wp.ild_n (j := 2) rfl dX6_ends_168 ?_
    refine Wp.ild_n (j := 1) rfl dX6_ends_169 ?_
    refine Wp.icge dX6_ends_170 (by decide) (tgt := 199) (fun c170 => ?_) (fun c170 => ?_)
    · exact kq _ _ _ fr
    · have hz := ez s s0 (by omega)
      have hy := hf _ hz.1 hz.2.1 hz.2.2.1
      refine Wp.ald_n (j := 0) rfl dX6_ends_173 ?_
      refine Wp.getf (k := 26) (tg := 2) kC6 (by decide) rfl lf_X6_81 dX6_ends_174 (sK41 (h := h') sh') (sF41_26 (h := h') sh') ?_
      refine Wp.ald_n (j := 0) rfl dX6_ends_177 ?_
      refine Wp.getf (k := 43) (tg := 2) kC6 (by decide) rfl lf_X6_109 dX6_ends_178 (sK41 (h := h') sh') (sF41_43 (h := h') sh') ?_
      refine Wp.ald_n (j := 0) rfl dX6_ends_181 ?_
      refine Wp.getf (k := 23) (tg := 2) kC6 (by decide) rfl lf_X6_72 dX6_ends_182 (sK41 (h := h') sh') (sF41_23 (h := h') sh') ?_
      refine Wp.ild_n (j := 2) rfl dX6_ends_185 ?_
      refine Wp.iaload dX6_ends_186 (sK59 (h := h') sh') (by omega) (ilt (sL59 (h := h') sh') (by omega)) (show hA _ 59 _ = hA h 59 _ from congrFun e59 _) ?_
      refine Wp.iaload dX6_ends_187 (sK71 (h := h') sh') (by omega) (ilt (sL71 (h := h') sh') (by omega)) (show hA _ 71 _ = hA h 71 _ from congrFun e71 _) ?_
      refine Wp.dup2 dX6_ends_188 (Or.inl rfl) (Or.inr rfl) ?_
      refine Wp.iaload dX6_ends_189 (sK62 (h := h') sh') (by omega) (ilt (sL62 (h := h') sh') (by omega)) (show hA _ 62 _ = hA h' 62 _ from rfl) ?_
      refine Wp.iconst dX6_ends_190 (by decide) ?_
      refine Wp.iaddE dX6_ends_191 rfl ?_
      refine Wp.iastore dX6_ends_192 (sK62 (h := h') sh') (by omega) (ilt (sL62 (h := h') sh') (by omega)) ?_
      refine inc_4_2 rfl dX6_ends_193 (by first | exact w32_of (by omega) (by omega) | rfl) ?_
      refine Wp.goto (tgt := 168) dX6_ends_196 (by decide) ?_
      exact ih (s + 1) _ _ (by omega) (fr.tr (Fr.e (by decide))) (by omega)

theorem cq_mends (d : Nat) (h : mH) (sh : Sh h) (mi : MI h) : Cq m_X6_ends (d + 3) [(2, 41)] h (fun r t => (∃ y, r = some (0, y)) ∧ MI t ∧ Fr mAq mGq h t) := by
  refine Cq.of ?_
  show Wp m_X6_ends ((d + 3)) 0 [(2, 41), (9, 0), (9, 0), (9, 0)] [] h _
  obtain ⟨⟨⟨r0, r1⟩, ⟨n0, n1⟩, ⟨m0, m1⟩, hp, hq⟩, hms, ⟨⟨z0, z1⟩, hsp⟩, hme⟩ := id mi
  refine Wp.ald_n (j := 0) rfl dX6_ends_0 ?_
  refine Wp.iconst dX6_ends_1 (by decide) ?_
  refine Wp.putf (k := 1) (tg := 0) kC6 (by decide) rfl rfl lf_X6_117 dX6_ends_2 (sK41 (h := h) sh) ?_
  refine Wp.ald_n (j := 0) rfl dX6_ends_5 ?_
  refine Wp.iconst dX6_ends_6 (by decide) ?_
  refine Wp.putf (k := 0) (tg := 0) kC6 (by decide) rfl rfl lf_X6_120 dX6_ends_7 (sK41 (h := h) sh) ?_
  refine Wp.ald_n (j := 0) rfl dX6_ends_10 ?_
  obtain ⟨_, tq2, ctq2, ⟨yq2, rfl, hyq2⟩, eq2⟩ := cq_mstates (d + 2) (sF (sF h 41 1 0) 41 0 0) sh.m0 mi.1
  rw [eq2] at ctq2
  refine Wp.callV1 (ctq2) wc_X6_216 iM_X6_states se_X6_states kC6 (sK41 (h := h) sh) dX6_ends_11 rfl (Nat.le_of_ble_eq_true rfl) rfl (Nat.le_of_ble_eq_true rfl) ?_
  refine sti_4_1 rfl (dSt_n dX6_ends_14) ?_
  refine Wp.ild_n (j := 1) rfl dX6_ends_15 ?_
  refine Wp.ifge dX6_ends_16 (by decide) (tgt := 25) (fun c16 => ?_) (fun c16 => ?_)
  · refine Wp.ald_n (j := 0) rfl dX6_ends_25 ?_
    refine Wp.ild_n (j := 1) rfl dX6_ends_26 ?_
    obtain ⟨hy1, hy2, hy3⟩ : yq2 = hF h 41 5 ^ (hF h 41 6).toNat ∧ 1 ≤ yq2 ∧ yq2 ≤ 20736 := by
      rcases hyq2 with z | z
      · omega
      · exact z
    obtain ⟨_, t27, ct27, rfl, ft27, hnt27, ezt27⟩ := cq_fillEnds d (sF (sF h 41 1 0) 41 0 0) sh.m0 mi.1 yq2 hy1 hy3
    have sht27 : Sh t27 := sh.m0.fr ft27 (by decide +kernel) (by decide)
    have mit27 : MI t27 := MI.fr (h := (sF (sF h 41 1 0) 41 0 0)) mi (ft27.mono (by decide) (by simp))
    have frt27 : Fr mAq mGq h t27 := ((Fr.f (by decide)).tr (Fr.f (by decide))).tr (ft27.mono (by decide) (by simp))
    refine Wp.callV0 (ct27) wc_X6_220 iM_X6_fillEnds se_X6_fillEnds kC6 (sK41 (h := h) sh) dX6_ends_27 rfl (Nat.le_of_ble_eq_true rfl) rfl (Nat.le_of_ble_eq_true rfl) ?_
    refine Wp.ald_n (j := 0) rfl dX6_ends_30 ?_
    refine Wp.iconst dX6_ends_31 (by decide) ?_
    refine Wp.putf (k := 27) (tg := 0) kC6 (by decide) rfl rfl lf_X6_224 dX6_ends_32 (sK41 (h := t27) sht27) ?_
    refine Wp.iconst dX6_ends_35 (by decide) ?_
    refine sti_4_2 rfl (dSt_n dX6_ends_36) ?_
    have g0 : Fr [] [(41, 27)] t27 (sF t27 41 27 0) := Fr.f (by decide)
    refine mee1 d (sF t27 41 27 0) (sht27.m (Fr.f (by decide))) yq2 hy3 _ (fun t s frt => ?_) _ 0 _ (Nat.lt_succ_self _) Fr.rf (by omega)
    have sh1 : Sh t := (sht27.m (h' := sF t27 41 27 0) (Fr.f (by decide))).fr frt (by decide +kernel) (by decide)
    have e58 : hA t 58 = hA t27 58 := frt.2.2.2.2.2 58 (by decide)
    have e59 : hA t 59 = hA t27 59 := frt.2.2.2.2.2 59 (by decide)
    refine Wp.iconst dX6_ends_55 (by decide) ?_
    refine sti_4_2 rfl (dSt_n dX6_ends_56) ?_
    refine mee3 d t sh1 yq2 hy3 (by rw [e58]; exact hnt27) (by rw [e58, e59]; exact ezt27) _ (fun u em s2 x3 fru em0 em1 eem hf => ?_) _ 0 0 _ t (Nat.lt_succ_self _) (by omega) (by omega) (by omega) (frt.2.2.2.2.1 41 27 (by decide)) Fr.rf (fun j j0 j1 => absurd j1 (by omega))
    have shu : Sh u := sh1.fr fru (by decide +kernel) (by decide)
    have u58 : hA u 58 = hA t27 58 := (fru.2.2.2.2.2 58 (by decide)).trans e58
    have u59 : hA u 59 = hA t27 59 := (fru.2.2.2.2.2 59 (by decide)).trans e59
    refine Wp.iconst dX6_ends_166 (by decide) ?_
    refine sti_4_2 rfl (dSt_n dX6_ends_167) ?_
    refine mee4 d u shu yq2 hy3 (by rw [u58]; exact hnt27) (by rw [u58, u59]; exact ezt27) em em1 (by rw [u59, ← e59]; exact hf) _ (fun v s3 y3 frv => ?_) _ 0 _ u (Nat.lt_succ_self _) Fr.rf (by omega)
    have shv : Sh v := shu.fr frv (by decide +kernel) (by decide)
    have ev : hF v 41 27 = em := (frv.2.2.2.2.1 41 27 (by decide)).trans eem
    refine Wp.ald_n (j := 0) rfl dX6_ends_199 ?_
    refine Wp.getf (k := 27) (tg := 0) kC6 (by decide) rfl lf_X6_224 dX6_ends_200 (sK41 shv) ev ?_
    refine Wp.iret rfl dX6_ends_203 ?_
    have frz : Fr [60, 61, 62, 71] [(41, 27)] t27 v := (((g0.mono (by decide) (by decide)).tr (frt.mono (by decide) (by decide))).tr fru).tr (frv.mono (by decide) (by decide))
    refine ⟨⟨_, rfl⟩, ⟨mit27.1.fr frz (by decide) (by decide) (by decide) (by decide) (by decide), mit27.2.1.fr frz (by decide), mit27.2.2.1.fr frz (by decide) (by decide), by rw [ev]; exact ⟨em0, em1⟩, ?_, ?_⟩, frt27.tr (frz.mono (by decide) (by decide))⟩
    · rw [frz.2.2.2.2.1 41 28 (by decide)]
      exact mit27.2.2.2.2.1
    · rw [frz.2.2.2.2.1 41 39 (by decide)]
      exact mit27.2.2.2.2.2
  · refine Wp.ald_n (j := 0) rfl dX6_ends_19 ?_
    refine Wp.iconst dX6_ends_20 (by decide) ?_
    refine Wp.callV1 (ct_mrefuse (d + 2) (sF (sF h 41 1 0) 41 0 0) (sK41 (h := h) sh) 5) wc_X6_151 iM_X6_refuse se_X6_refuse kC6 (sK41 (h := h) sh) dX6_ends_21 rfl (Nat.le_of_ble_eq_true rfl) rfl (Nat.le_of_ble_eq_true rfl) ?_
    refine Wp.iret rfl dX6_ends_24 ?_
    exact ⟨⟨_, rfl⟩, mi, ((Fr.f (by decide)).tr ((Fr.f (by decide)).tr (Fr.f (by decide))))⟩

theorem msu1 (d : Nat) (h : mH) (sh : Sh h) (mb : MB h) (n : Int) (n1 : n ≤ 20736) (hn : ∀ j, 0 ≤ j → j < n → 0 ≤ hA h 58 j ∧ hA h 58 j < n) (ez : EZ n (hA h 58) (hA h 59)) (x s : Int) (s0 : 0 ≤ s) (s1 : s < n) (c : Nat) (hc : itn (hA h 58) c s = s) (Q : Option mV → mH → Prop) (kq : ∀ (t : mH) (is9 j : Int), Fr [54] [] h t → (is9 = 0 ∨ is9 = 1) → Wp m_X6_sure (d + 3) 119 [(2, 41), (0, x), (0, n), (0, s), (0, is9), (0, j)] [] t Q) : ∀ (m : Nat) (u : Nat) (is9 : Int) (h' : mH), c - u < m → (Fr [54] [] h h') → (u < c) → (is9 = 0 ∨ is9 = 1) → Wp m_X6_sure (d + 3) 70 [(2, 41), (0, x), (0, n), (0, s), (0, is9), (0, (itn (hA h 58) u s))] [] h' Q := by
  intro m
  induction m with
  | zero => intro u is9 h' hm; exact absurd hm (Nat.not_lt_zero _)
  | succ m ih =>
    intro u is9 h' hm fr u1 i01
    have sh' := sh.fr fr (by decide +kernel) (by decide)
    have e6 : hF h' 41 6 = hF h 41 6 := fr.2.2.2.2.1 41 6 (by decide)
    have e58 : hA h' 58 = hA h 58 := fr.2.2.2.2.2 58 (by decide)
    have hk := itn_in hn s0 s1 u
    have n24 := mb.2.1.2
    refine Wp.ald_n (j := 0) rfl dX6_sure_70 ?_
    refine Wp.ild (j := 5) rfl dX6_sure_71 ?_
    refine Wp.ald_n (j := 0) rfl dX6_sure_73 ?_
    refine Wp.getf (k := 18) (tg := 2) kC6 (by decide) rfl lf_X6_57 dX6_sure_74 (sK41 (h := h') sh') (sF41_18 (h := h') sh') ?_
    obtain ⟨_, t77, ct77, rfl, f77, r77⟩ := cq_stateTo (d + 2) h' sh' (mb.fr fr (by decide) (by decide) (by decide) (by decide) (by decide)) 54 (sK54 sh') (sL54 sh') (by decide) _ hk.1 (by omega)
    have sh77 : Sh t77 := sh'.fr f77 (by decide +kernel) (by decide)
    have e77 : hA t77 58 = hA h 58 := (f77.2.2.2.2.2 58 (by decide)).trans e58
    have n77 : hF t77 41 6 ≤ 24 := by rw [f77.2.2.2.2.1 41 6 (by decide), e6]; exact n24
    refine Wp.callV0 (ct77) wc_X6_208 iM_X6_stateTo se_X6_stateTo kC6 (sK41 (h := h') sh') dX6_sure_77 rfl (Nat.le_of_ble_eq_true rfl) rfl (Nat.le_of_ble_eq_true rfl) ?_
    refine Wp.ild (j := 4) rfl dX6_sure_80 ?_
    refine Wp.ifeq dX6_sure_82 (by decide) (tgt := 101) (fun c82 => ?_) (fun c82 => ?_)
    · refine Wp.iconst dX6_sure_101 (by decide) ?_
      refine sti_6_4 rfl (dSt_w dX6_sure_102) ?_
      refine Wp.ald_n (j := 0) rfl dX6_sure_104 ?_
      refine Wp.getf (k := 22) (tg := 2) kC6 (by decide) rfl lf_X6_69 dX6_sure_105 (sK41 (h := t77) sh77) (sF41_22 (h := t77) sh77) ?_
      refine Wp.ild (j := 5) rfl dX6_sure_108 ?_
      refine Wp.iaload dX6_sure_110 (sK58 (h := t77) sh77) (by omega) (ilt (sL58 (h := t77) sh77) (by omega)) (show hA _ 58 _ = hA h 58 _ from congrFun e77 _) ?_
      refine sti_6_5 rfl (dSt_w dX6_sure_111) ?_
      refine Wp.ild (j := 5) rfl dX6_sure_113 ?_
      refine Wp.ild_n (j := 3) rfl dX6_sure_115 ?_
      refine Wp.icne dX6_sure_116 (by decide) (tgt := 70) (fun c116 => ?_) (fun c116 => ?_)
      · have hne : u + 1 ≠ c := fun e => c116 (by
          have : itn (hA h 58) (u + 1) s = s := by rw [e]; exact hc
          exact this)
        exact ih (u + 1) _ _ (by omega) (fr.tr f77) (by omega) (by omega)
      · exact kq _ _ _ (fr.tr f77) (by omega)
    · refine Wp.ald_n (j := 0) rfl dX6_sure_85 ?_
      refine Wp.ald_n (j := 0) rfl dX6_sure_86 ?_
      refine Wp.getf (k := 18) (tg := 2) kC6 (by decide) rfl lf_X6_57 dX6_sure_87 (sK41 (h := t77) sh77) (sF41_18 (h := t77) sh77) ?_
      refine Wp.ild_n (j := 1) rfl dX6_sure_90 ?_
      obtain ⟨_, t91, ct91, ⟨y91, rfl, hy91⟩, e91⟩ := cq_misInStep (d + 2) t77 sh77 n77 54 (sK54 sh77) (sL54 sh77) x
      rw [e91] at ct91
      refine Wp.callV1 (ct91) wc_X6_176 iM_X6_isInStep se_X6_isInStep kC6 (sK41 (h := t77) sh77) dX6_sure_91 rfl (Nat.le_of_ble_eq_true rfl) rfl (Nat.le_of_ble_eq_true rfl) ?_
      refine Wp.ifeq dX6_sure_94 (by decide) (tgt := 101) (fun c94 => ?_) (fun c94 => ?_)
      · refine Wp.iconst dX6_sure_101 (by decide) ?_
        refine sti_6_4 rfl (dSt_w dX6_sure_102) ?_
        refine Wp.ald_n (j := 0) rfl dX6_sure_104 ?_
        refine Wp.getf (k := 22) (tg := 2) kC6 (by decide) rfl lf_X6_69 dX6_sure_105 (sK41 (h := t77) sh77) (sF41_22 (h := t77) sh77) ?_
        refine Wp.ild (j := 5) rfl dX6_sure_108 ?_
        refine Wp.iaload dX6_sure_110 (sK58 (h := t77) sh77) (by omega) (ilt (sL58 (h := t77) sh77) (by omega)) (show hA _ 58 _ = hA h 58 _ from congrFun e77 _) ?_
        refine sti_6_5 rfl (dSt_w dX6_sure_111) ?_
        refine Wp.ild (j := 5) rfl dX6_sure_113 ?_
        refine Wp.ild_n (j := 3) rfl dX6_sure_115 ?_
        refine Wp.icne dX6_sure_116 (by decide) (tgt := 70) (fun c116 => ?_) (fun c116 => ?_)
        · have hne : u + 1 ≠ c := fun e => c116 (by
            have : itn (hA h 58) (u + 1) s = s := by rw [e]; exact hc
            exact this)
          exact ih (u + 1) _ _ (by omega) (fr.tr f77) (by omega) (by omega)
        · exact kq _ _ _ (fr.tr f77) (by omega)
      · refine Wp.iconst dX6_sure_97 (by decide) ?_
        refine Wp.goto (tgt := 102) dX6_sure_98 (by decide) ?_
        refine sti_6_4 rfl (dSt_w dX6_sure_102) ?_
        refine Wp.ald_n (j := 0) rfl dX6_sure_104 ?_
        refine Wp.getf (k := 22) (tg := 2) kC6 (by decide) rfl lf_X6_69 dX6_sure_105 (sK41 (h := t77) sh77) (sF41_22 (h := t77) sh77) ?_
        refine Wp.ild (j := 5) rfl dX6_sure_108 ?_
        refine Wp.iaload dX6_sure_110 (sK58 (h := t77) sh77) (by omega) (ilt (sL58 (h := t77) sh77) (by omega)) (show hA _ 58 _ = hA h 58 _ from congrFun e77 _) ?_
        refine sti_6_5 rfl (dSt_w dX6_sure_111) ?_
        refine Wp.ild (j := 5) rfl dX6_sure_113 ?_
        refine Wp.ild_n (j := 3) rfl dX6_sure_115 ?_
        refine Wp.icne dX6_sure_116 (by decide) (tgt := 70) (fun c116 => ?_) (fun c116 => ?_)
        · have hne : u + 1 ≠ c := fun e => c116 (by
            have : itn (hA h 58) (u + 1) s = s := by rw [e]; exact hc
            exact this)
          exact ih (u + 1) _ _ (by omega) (fr.tr f77) (by omega) (by omega)
        · exact kq _ _ _ (fr.tr f77) (by omega)

theorem msu119 (d : Nat) (h : mH) (sh : Sh h) (x n s is9 j : Int) (s0 : 0 ≤ s) (s1 : s < 20736) (Q : Option mV → mH → Prop) (kq : ∀ v : Int, Wp m_X6_sure (d + 3) 46 [(2, 41), (0, x), (0, n), (0, s + 1), (0, is9), (0, j)] [] (sE h 71 s v) Q) : Wp m_X6_sure (d + 3) 119 [(2, 41), (0, x), (0, n), (0, s), (0, is9), (0, j)] [] h Q := by
  refine Wp.ald_n (j := 0) rfl dX6_sure_119 ?_
  refine Wp.getf (k := 43) (tg := 2) kC6 (by decide) rfl lf_X6_109 dX6_sure_120 (sK41 (h := h) sh) (sF41_43 (h := h) sh) ?_
  refine Wp.ild_n (j := 3) rfl dX6_sure_123 ?_
  refine Wp.ild (j := 4) rfl dX6_sure_124 ?_
  refine Wp.ifeq dX6_sure_126 (by decide) (tgt := 133) (fun c126 => ?_) (fun c126 => ?_)
  · refine Wp.iconst dX6_sure_133 (by decide) ?_
    refine Wp.iastore dX6_sure_134 (sK71 (h := h) sh) (by omega) (ilt (sL71 (h := h) sh) (by omega)) ?_
    refine inc_6_3 rfl dX6_sure_135 (by first | exact w32_of (by omega) (by omega) | rfl) ?_
    refine Wp.goto (tgt := 46) dX6_sure_138 (by decide) ?_
    exact kq _
  · refine Wp.iconst dX6_sure_129 (by decide) ?_
    refine Wp.goto (tgt := 134) dX6_sure_130 (by decide) ?_
    refine Wp.iastore dX6_sure_134 (sK71 (h := h) sh) (by omega) (ilt (sL71 (h := h) sh) (by omega)) ?_
    refine inc_6_3 rfl dX6_sure_135 (by first | exact w32_of (by omega) (by omega) | rfl) ?_
    refine Wp.goto (tgt := 46) dX6_sure_138 (by decide) ?_
    exact kq _

theorem msu2 (d : Nat) (h : mH) (sh : Sh h) (mb : MB h) (n : Int) (n1 : n ≤ 20736) (hn : ∀ j, 0 ≤ j → j < n → 0 ≤ hA h 58 j ∧ hA h 58 j < n) (ez : EZ n (hA h 58) (hA h 59)) (x : Int) (Q : Option mV → mH → Prop) (kq : ∀ (t : mH) (s : Int) (x4 x5 : mV), Fr [54, 71] [] h t → Wp m_X6_sure (d + 3) 141 [(2, 41), (0, x), (0, n), (0, s), x4, x5] [] t Q) : ∀ (m : Nat) (s : Int) (x4 x5 : mV) (h' : mH), (n - s).toNat < m → (Fr [54, 71] [] h h') → (0 ≤ s) → Wp m_X6_sure (d + 3) 46 [(2, 41), (0, x), (0, n), (0, s), x4, x5] [] h' Q := by
  intro m
  induction m with
  | zero => intro s x4 x5 h' hm; exact absurd hm (Nat.not_lt_zero _)
  | succ m ih =>
    intro s x4 x5 h' hm fr s0
    have sh' := sh.fr fr (by decide +kernel) (by decide)
    have e58 : hA h' 58 = hA h 58 := fr.2.2.2.2.2 58 (by decide)
    have e59 : hA h' 59 = hA h 59 := fr.2.2.2.2.2 59 (by decide)
    refine Wp.ild_n (j := 3) rfl dX6_sure_46 ?_
    refine Wp.ild_n (j := 2) rfl dX6_sure_47 ?_
    refine Wp.icge dX6_sure_48 (by decide) (tgt := 141) (fun c48 => ?_) (fun c48 => ?_)
    · exact kq _ _ _ _ fr
    · refine Wp.ald_n (j := 0) rfl dX6_sure_51 ?_
      refine Wp.getf (k := 23) (tg := 2) kC6 (by decide) rfl lf_X6_72 dX6_sure_52 (sK41 (h := h') sh') (sF41_23 (h := h') sh') ?_
      refine Wp.ild_n (j := 3) rfl dX6_sure_55 ?_
      refine Wp.iaload dX6_sure_56 (sK59 (h := h') sh') (by omega) (ilt (sL59 (h := h') sh') (by omega)) (show hA _ 59 _ = hA h 59 _ from congrFun e59 _) ?_
      refine Wp.ild_n (j := 3) rfl dX6_sure_57 ?_
      refine Wp.iceq dX6_sure_58 (by decide) (tgt := 64) (fun c58 => ?_) (fun c58 => ?_)
      · refine Wp.iconst dX6_sure_64 (by decide) ?_
        refine sti_6_4 rfl (dSt_w dX6_sure_65) ?_
        refine Wp.ild_n (j := 3) rfl dX6_sure_67 ?_
        refine sti_6_5 rfl (dSt_w dX6_sure_68) ?_
        have hz := ez s s0 (by omega)
        rw [c58] at hz
        obtain ⟨c, hc1, hc2⟩ := hz.2.2.2
        have k9 := msu1 d h' sh' (mb.fr fr (by decide) (by decide) (by decide) (by decide) (by decide)) n n1 (by rw [e58]; exact hn) (by rw [e58, e59]; exact ez) x s s0 (by omega) c (by rw [e58]; exact hc2) Q (fun t is9 j frt hi => msu119 d t (sh'.fr frt (by decide +kernel) (by decide)) x n s is9 j s0 (by omega) Q (fun v => ?_)) _ 0 1 h' (Nat.lt_succ_self _) Fr.rf (by omega) (Or.inr rfl)
        · exact k9
        exact ih (s + 1) _ _ _ (by omega) ((fr.tr (frt.mono (by decide) (by simp))).tr (Fr.e (by decide))) (by omega)
      · refine Wp.goto (tgt := 135) dX6_sure_61 (by decide) ?_
        refine inc_6_3 rfl dX6_sure_135 (by first | exact w32_of (by omega) (by omega) | rfl) ?_
        refine Wp.goto (tgt := 46) dX6_sure_138 (by decide) ?_
        exact ih (s + 1) _ _ h' (by omega) fr (by omega)

theorem msu3 (d : Nat) (h : mH) (sh : Sh h) (n : Int) (n1 : n ≤ 20736) (hn : ∀ j, 0 ≤ j → j < n → 0 ≤ hA h 58 j ∧ hA h 58 j < n) (ez : EZ n (hA h 58) (hA h 59)) (x : Int) (x5 : mV) : ∀ (m : Nat) (s a : Int), (n - s).toNat < m → (0 ≤ s) → Wp m_X6_sure (d + 3) 146 [(2, 41), (0, x), (0, n), (0, a), (0, s), x5] [] h (fun r t => (∃ y, r = some (0, y)) ∧ t = h) := by
  intro m
  induction m with
  | zero => intro s a hm; exact absurd hm (Nat.not_lt_zero _)
  | succ m ih =>
    intro s a hm s0
    refine Wp.ild (j := 4) rfl dX6_sure_146 ?_
    refine Wp.ild_n (j := 2) rfl dX6_sure_148 ?_
    refine Wp.icge dX6_sure_149 (by decide) (tgt := 173) (fun c149 => ?_) (fun c149 => ?_)
    · refine Wp.ild_n (j := 3) rfl dX6_sure_173 ?_
      refine Wp.iret rfl dX6_sure_174 ?_
      exact ⟨⟨_, rfl⟩, rfl⟩
    · have hz := ez s s0 (by omega)
      refine Wp.ild_n (j := 3) rfl dX6_sure_152 ?_
      refine Wp.ald_n (j := 0) rfl dX6_sure_153 ?_
      refine Wp.getf (k := 43) (tg := 2) kC6 (by decide) rfl lf_X6_109 dX6_sure_154 (sK41 (h := h) sh) (sF41_43 (h := h) sh) ?_
      refine Wp.ald_n (j := 0) rfl dX6_sure_157 ?_
      refine Wp.getf (k := 23) (tg := 2) kC6 (by decide) rfl lf_X6_72 dX6_sure_158 (sK41 (h := h) sh) (sF41_23 (h := h) sh) ?_
      refine Wp.ild (j := 4) rfl dX6_sure_161 ?_
      refine Wp.iaload dX6_sure_163 (sK59 (h := h) sh) (by omega) (ilt (sL59 (h := h) sh) (by omega)) (show hA _ 59 _ = hA h 59 _ from rfl) ?_
      refine Wp.iaload dX6_sure_164 (sK71 (h := h) sh) (by omega) (ilt (sL71 (h := h) sh) (by omega)) (show hA _ 71 _ = hA h 71 _ from rfl) ?_
      refine Wp.iaddE dX6_sure_165 rfl ?_
      refine sti_6_3 rfl (dSt_n dX6_sure_166) ?_
      refine inc_6_4 rfl dX6_sure_167 (by first | exact w32_of (by omega) (by omega) | rfl) ?_
      refine Wp.goto (tgt := 146) dX6_sure_170 (by decide) ?_
      exact ih (s + 1) _ (by omega) (by omega)

theorem cq_msure (d : Nat) (h : mH) (sh : Sh h) (mi : MI h) (x : Int) : Cq m_X6_sure (d + 3) [(2, 41), (0, x)] h (fun r t => (∃ y, r = some (0, y)) ∧ MI t ∧ Fr mAq mGq h t) := by
  refine Cq.of ?_
  show Wp m_X6_sure ((d + 3)) 0 [(2, 41), (0, x), (9, 0), (9, 0), (9, 0), (9, 0)] [] h _
  obtain ⟨⟨⟨r0, r1⟩, ⟨n0, n1⟩, ⟨m0, m1⟩, hp, hq⟩, hms, ⟨⟨z0, z1⟩, hsp⟩, hme⟩ := id mi
  refine Wp.ald_n (j := 0) rfl dX6_sure_0 ?_
  refine Wp.iconst dX6_sure_1 (by decide) ?_
  refine Wp.putf (k := 1) (tg := 0) kC6 (by decide) rfl rfl lf_X6_117 dX6_sure_2 (sK41 (h := h) sh) ?_
  refine Wp.ald_n (j := 0) rfl dX6_sure_5 ?_
  refine Wp.iconst dX6_sure_6 (by decide) ?_
  refine Wp.putf (k := 0) (tg := 0) kC6 (by decide) rfl rfl lf_X6_120 dX6_sure_7 (sK41 (h := h) sh) ?_
  refine Wp.ald_n (j := 0) rfl dX6_sure_10 ?_
  refine Wp.ild_n (j := 1) rfl dX6_sure_11 ?_
  obtain ⟨_, tq, ctq, ⟨yq, rfl, hyq⟩, eq⟩ := cq_misSet (d + 2) (sF (sF h 41 1 0) 41 0 0) (sK41 (h := h) sh) x
  rw [eq] at ctq
  refine Wp.callV1 (ctq) wc_X6_173 iM_X6_isSet se_X6_isSet kC6 (sK41 (h := h) sh) dX6_sure_12 rfl (Nat.le_of_ble_eq_true rfl) rfl (Nat.le_of_ble_eq_true rfl) ?_
  refine Wp.ifne dX6_sure_15 (by decide) (tgt := 24) (fun c15 => ?_) (fun c15 => ?_)
  · refine Wp.ald_n (j := 0) rfl dX6_sure_24 ?_
    obtain ⟨_, tq2, ctq2, ⟨yq2, rfl, hyq2⟩, eq2⟩ := cq_mstates (d + 2) (sF (sF h 41 1 0) 41 0 0) sh.m0 mi.1
    rw [eq2] at ctq2
    refine Wp.callV1 (ctq2) wc_X6_216 iM_X6_states se_X6_states kC6 (sK41 (h := h) sh) dX6_sure_25 rfl (Nat.le_of_ble_eq_true rfl) rfl (Nat.le_of_ble_eq_true rfl) ?_
    refine sti_6_2 rfl (dSt_n dX6_sure_28) ?_
    refine Wp.ild_n (j := 2) rfl dX6_sure_29 ?_
    refine Wp.ifge dX6_sure_30 (by decide) (tgt := 39) (fun c30 => ?_) (fun c30 => ?_)
    · refine Wp.ald_n (j := 0) rfl dX6_sure_39 ?_
      refine Wp.ild_n (j := 2) rfl dX6_sure_40 ?_
      obtain ⟨hy1, hy2, hy3⟩ : yq2 = hF h 41 5 ^ (hF h 41 6).toNat ∧ 1 ≤ yq2 ∧ yq2 ≤ 20736 := by
        rcases hyq2 with z | z
        · omega
        · exact z
      obtain ⟨_, t41, ct41, rfl, ft41, hnt41, ezt41⟩ := cq_fillEnds d (sF (sF h 41 1 0) 41 0 0) sh.m0 mi.1 yq2 hy1 hy3
      have sht41 : Sh t41 := sh.m0.fr ft41 (by decide +kernel) (by decide)
      have mit41 : MI t41 := MI.fr (h := (sF (sF h 41 1 0) 41 0 0)) mi (ft41.mono (by decide) (by simp))
      have frt41 : Fr mAq mGq h t41 := ((Fr.f (by decide)).tr (Fr.f (by decide))).tr (ft41.mono (by decide) (by simp))
      refine Wp.callV0 (ct41) wc_X6_220 iM_X6_fillEnds se_X6_fillEnds kC6 (sK41 (h := h) sh) dX6_sure_41 rfl (Nat.le_of_ble_eq_true rfl) rfl (Nat.le_of_ble_eq_true rfl) ?_
      refine Wp.iconst dX6_sure_44 (by decide) ?_
      refine sti_6_3 rfl (dSt_n dX6_sure_45) ?_
      refine msu2 d t41 sht41 mit41.1 yq2 hy3 hnt41 ezt41 x _ (fun t s x4 x5 frt => ?_) _ 0 _ _ _ (Nat.lt_succ_self _) Fr.rf (by omega)
      have e58 : hA t 58 = hA t41 58 := frt.2.2.2.2.2 58 (by decide)
      have e59 : hA t 59 = hA t41 59 := frt.2.2.2.2.2 59 (by decide)
      refine Wp.iconst dX6_sure_141 (by decide) ?_
      refine sti_6_3 rfl (dSt_n dX6_sure_142) ?_
      refine Wp.iconst dX6_sure_143 (by decide) ?_
      refine sti_6_4 rfl (dSt_w dX6_sure_144) ?_
      refine (msu3 d t (sht41.fr frt (by decide +kernel) (by decide)) yq2 hy3 (by rw [e58]; exact hnt41) (by rw [e58, e59]; exact ezt41) x _ _ 0 0 (Nat.lt_succ_self _) (by omega)).mono (fun r v q => ?_)
      obtain ⟨hr, rfl⟩ := q
      exact ⟨hr, mit41.fr (frt.mono (by decide) (by simp)), frt41.tr (frt.mono (by decide) (by simp))⟩
    · refine Wp.ald_n (j := 0) rfl dX6_sure_33 ?_
      refine Wp.iconst dX6_sure_34 (by decide) ?_
      refine Wp.callV1 (ct_mrefuse (d + 2) (sF (sF h 41 1 0) 41 0 0) (sK41 (h := h) sh) 5) wc_X6_151 iM_X6_refuse se_X6_refuse kC6 (sK41 (h := h) sh) dX6_sure_35 rfl (Nat.le_of_ble_eq_true rfl) rfl (Nat.le_of_ble_eq_true rfl) ?_
      refine Wp.iret rfl dX6_sure_38 ?_
      exact ⟨⟨_, rfl⟩, mi, ((Fr.f (by decide)).tr ((Fr.f (by decide)).tr (Fr.f (by decide))))⟩
  · refine Wp.ald_n (j := 0) rfl dX6_sure_18 ?_
    refine Wp.iconst dX6_sure_19 (by decide) ?_
    refine Wp.callV1 (ct_mrefuse (d + 2) (sF (sF h 41 1 0) 41 0 0) (sK41 (h := h) sh) 2) wc_X6_151 iM_X6_refuse se_X6_refuse kC6 (sK41 (h := h) sh) dX6_sure_20 rfl (Nat.le_of_ble_eq_true rfl) rfl (Nat.le_of_ble_eq_true rfl) ?_
    refine Wp.iret rfl dX6_sure_23 ?_
    exact ⟨⟨_, rfl⟩, mi, ((Fr.f (by decide)).tr ((Fr.f (by decide)).tr (Fr.f (by decide))))⟩

