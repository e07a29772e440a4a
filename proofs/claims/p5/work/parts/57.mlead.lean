theorem mld1 (d : Nat) (h : mH) (sh : Sh h) (mb : MB h) (a : Int) (a0 : 0 ≤ a ∧ a < hF h 41 6) (x3 : mV) (Q : Option mV → mH → Prop) (kq : ∀ (t : mH) (b : Int), Fr [72] [] h t → Wp m_X6_lead (d + 1) 85 [(2, 41), (0, a), (0, b), x3] [] t Q) : ∀ (m : Nat) (b : Int) (h' : mH), (hF h 41 6 - b).toNat < m → (Fr [72] [] h h') → (0 ≤ b) → Wp m_X6_lead (d + 1) 45 [(2, 41), (0, a), (0, b), x3] [] h' Q := by
  intro m
  induction m with
  | zero => intro b h' hm; exact absurd hm (Nat.not_lt_zero _)
  | succ m ih =>
    intro b h' hm fr b0
    obtain ⟨⟨r0, r1⟩, ⟨n0, n1⟩, ⟨m0, m1⟩, hp, hq⟩ := id mb
    have sh' := sh.fr fr (by decide +kernel) (by decide)
    have e6 : hF h' 41 6 = hF h 41 6 := fr.2.2.2.2.1 41 6 (by decide)
    refine Wp.ild_n (j := 2) rfl dX6_lead_45 ?_
    refine Wp.ald_n (j := 0) rfl dX6_lead_46 ?_
    refine Wp.getf (k := 6) (tg := 0) kC6 (by decide) rfl lf_X6_141 dX6_lead_47 (sK41 (h := h') sh') e6 ?_
    refine Wp.icge dX6_lead_50 (by decide) (tgt := 85) (fun c50 => ?_) (fun c50 => ?_)
    · exact kq _ _ fr
    · refine Wp.ald_n (j := 0) rfl dX6_lead_53 ?_
      refine Wp.getf (k := 13) (tg := 2) kC6 (by decide) rfl lf_X6_41 dX6_lead_54 (sK41 (h := h') sh') (sF41_13 (h := h') sh') ?_
      refine Wp.bipush dX6_lead_57 (by decide) ?_
      refine Wp.ild_n (j := 1) rfl dX6_lead_59 ?_
      refine Wp.imulE dX6_lead_60 (by first | exact w32_of (by omega) (by omega) | rfl) ?_
      refine Wp.ild_n (j := 2) rfl dX6_lead_61 ?_
      refine Wp.iaddE dX6_lead_62 (by first | exact w32_of (by omega) (by omega) | rfl) ?_
      refine Wp.zaload dX6_lead_63 (sK49 (h := h') sh') (by omega) (ilt (sL49 (h := h') sh') (by omega)) (show hA _ 49 _ = hA h' 49 _ from rfl) ?_
      refine Wp.ifeq dX6_lead_64 (by decide) (tgt := 79) (fun c64 => ?_) (fun c64 => ?_)
      · refine inc_4_2 rfl dX6_lead_79 (by first | exact w32_of (by omega) (by omega) | rfl) ?_
        refine Wp.goto (tgt := 45) dX6_lead_82 (by decide) ?_
        exact ih (b + 1) _ (by omega) fr (by omega)
      · refine Wp.ald_n (j := 0) rfl dX6_lead_67 ?_
        refine Wp.getf (k := 44) (tg := 2) kC6 (by decide) rfl lf_X6_112 dX6_lead_68 (sK41 (h := h') sh') (sF41_44 (h := h') sh') ?_
        refine Wp.ild_n (j := 1) rfl dX6_lead_71 ?_
        refine Wp.dup2 dX6_lead_72 (Or.inl rfl) (Or.inr rfl) ?_
        refine Wp.iaload dX6_lead_73 (sK72 (h := h') sh') (by omega) (ilt (sL72 (h := h') sh') (by omega)) (show hA _ 72 _ = hA h' 72 _ from rfl) ?_
        refine Wp.iconst dX6_lead_74 (by decide) ?_
        refine Wp.ild_n (j := 2) rfl dX6_lead_75 ?_
        refine Wp.ishl dX6_lead_76 ?_
        refine Wp.ior dX6_lead_77 ?_
        refine Wp.iastore dX6_lead_78 (sK72 (h := h') sh') (by omega) (ilt (sL72 (h := h') sh') (by omega)) ?_
        refine inc_4_2 rfl dX6_lead_79 (by first | exact w32_of (by omega) (by omega) | rfl) ?_
        refine Wp.goto (tgt := 45) dX6_lead_82 (by decide) ?_
        exact ih (b + 1) _ (by omega) (fr.tr (Fr.e (by decide))) (by omega)

theorem mld2 (d : Nat) (h : mH) (sh : Sh h) (mb : MB h) (x3 : mV) (Q : Option mV → mH → Prop) (kq : ∀ (t : mH) (a : Int) (x2 : mV), Fr [72] [] h t → Wp m_X6_lead (d + 1) 91 [(2, 41), (0, a), x2, x3] [] t Q) : ∀ (m : Nat) (a : Int) (x2 : mV) (h' : mH), (hF h 41 6 - a).toNat < m → (Fr [72] [] h h') → (0 ≤ a) → Wp m_X6_lead (d + 1) 26 [(2, 41), (0, a), x2, x3] [] h' Q := by
  intro m
  induction m with
  | zero => intro a x2 h' hm; exact absurd hm (Nat.not_lt_zero _)
  | succ m ih =>
    intro a x2 h' hm fr a0
    obtain ⟨⟨r0, r1⟩, ⟨n0, n1⟩, ⟨m0, m1⟩, hp, hq⟩ := id mb
    have sh' := sh.fr fr (by decide +kernel) (by decide)
    have e6 : hF h' 41 6 = hF h 41 6 := fr.2.2.2.2.1 41 6 (by decide)
    refine Wp.ild_n (j := 1) rfl dX6_lead_26 ?_
    refine Wp.ald_n (j := 0) rfl dX6_lead_27 ?_
    refine Wp.getf (k := 6) (tg := 0) kC6 (by decide) rfl lf_X6_141 dX6_lead_28 (sK41 (h := h') sh') e6 ?_
    refine Wp.icge dX6_lead_31 (by decide) (tgt := 91) (fun c31 => ?_) (fun c31 => ?_)
    · exact kq _ _ _ fr
    · refine Wp.ald_n (j := 0) rfl dX6_lead_34 ?_
      refine Wp.getf (k := 44) (tg := 2) kC6 (by decide) rfl lf_X6_112 dX6_lead_35 (sK41 (h := h') sh') (sF41_44 (h := h') sh') ?_
      refine Wp.ild_n (j := 1) rfl dX6_lead_38 ?_
      refine Wp.iconst dX6_lead_39 (by decide) ?_
      refine Wp.ild_n (j := 1) rfl dX6_lead_40 ?_
      refine Wp.ishl dX6_lead_41 ?_
      refine Wp.iastore dX6_lead_42 (sK72 (h := h') sh') (by omega) (ilt (sL72 (h := h') sh') (by omega)) ?_
      refine Wp.iconst dX6_lead_43 (by decide) ?_
      refine sti_4_2 rfl (dSt_n dX6_lead_44) ?_
      have fr2 : Fr [72] [] h (sE h' 72 a (kshl 1 a)) := fr.tr (Fr.e (by decide))
      refine mld1 d _ (sh.fr fr2 (by decide +kernel) (by decide)) (mb.fr fr2 (by decide) (by decide) (by decide) (by decide) (by decide)) a ⟨a0, by show a < hF h' 41 6; omega⟩ x3 Q (fun t b frt => ?_) _ 0 _ (Nat.lt_succ_self _) Fr.rf (by omega)
      refine inc_4_1 rfl dX6_lead_85 (w32_of (by omega) (by omega)) ?_
      refine Wp.goto (tgt := 26) dX6_lead_88 (by decide) ?_
      exact ih (a + 1) _ t (by omega) (fr2.tr frt) (by omega)

theorem mld3 (d : Nat) (h : mH) (sh : Sh h) (mb : MB h) (c : Int) (c0 : 0 ≤ c ∧ c < hF h 41 6) (x3 : mV) (Q : Option mV → mH → Prop) (kq : ∀ (t : mH) (a : Int), Fr [72] [] h t → Wp m_X6_lead (d + 1) 146 [(2, 41), (0, c), (0, a), x3] [] t Q) : ∀ (m : Nat) (a : Int) (h' : mH), (hF h 41 6 - a).toNat < m → (Fr [72] [] h h') → (0 ≤ a) → Wp m_X6_lead (d + 1) 103 [(2, 41), (0, c), (0, a), x3] [] h' Q := by
  intro m
  induction m with
  | zero => intro a h' hm; exact absurd hm (Nat.not_lt_zero _)
  | succ m ih =>
    intro a h' hm fr a0
    obtain ⟨⟨r0, r1⟩, ⟨n0, n1⟩, ⟨m0, m1⟩, hp, hq⟩ := id mb
    have sh' := sh.fr fr (by decide +kernel) (by decide)
    have e6 : hF h' 41 6 = hF h 41 6 := fr.2.2.2.2.1 41 6 (by decide)
    refine Wp.ild_n (j := 2) rfl dX6_lead_103 ?_
    refine Wp.ald_n (j := 0) rfl dX6_lead_104 ?_
    refine Wp.getf (k := 6) (tg := 0) kC6 (by decide) rfl lf_X6_141 dX6_lead_105 (sK41 (h := h') sh') e6 ?_
    refine Wp.icge dX6_lead_108 (by decide) (tgt := 146) (fun c108 => ?_) (fun c108 => ?_)
    · exact kq _ _ fr
    · refine Wp.ald_n (j := 0) rfl dX6_lead_111 ?_
      refine Wp.getf (k := 44) (tg := 2) kC6 (by decide) rfl lf_X6_112 dX6_lead_112 (sK41 (h := h') sh') (sF41_44 (h := h') sh') ?_
      refine Wp.ild_n (j := 2) rfl dX6_lead_115 ?_
      refine Wp.iaload dX6_lead_116 (sK72 (h := h') sh') (by omega) (ilt (sL72 (h := h') sh') (by omega)) (show hA _ 72 _ = hA h' 72 _ from rfl) ?_
      refine Wp.ild_n (j := 1) rfl dX6_lead_117 ?_
      refine Wp.ishr dX6_lead_118 ?_
      refine Wp.iconst dX6_lead_119 (by decide) ?_
      refine Wp.iand dX6_lead_120 ?_
      refine Wp.iconst dX6_lead_121 (by decide) ?_
      refine Wp.icne dX6_lead_122 (by decide) (tgt := 140) (fun c122 => ?_) (fun c122 => ?_)
      · refine inc_4_2 rfl dX6_lead_140 (by first | exact w32_of (by omega) (by omega) | rfl) ?_
        refine Wp.goto (tgt := 103) dX6_lead_143 (by decide) ?_
        exact ih (a + 1) _ (by omega) fr (by omega)
      · refine Wp.ald_n (j := 0) rfl dX6_lead_125 ?_
        refine Wp.getf (k := 44) (tg := 2) kC6 (by decide) rfl lf_X6_112 dX6_lead_126 (sK41 (h := h') sh') (sF41_44 (h := h') sh') ?_
        refine Wp.ild_n (j := 2) rfl dX6_lead_129 ?_
        refine Wp.dup2 dX6_lead_130 (Or.inl rfl) (Or.inr rfl) ?_
        refine Wp.iaload dX6_lead_131 (sK72 (h := h') sh') (by omega) (ilt (sL72 (h := h') sh') (by omega)) (show hA _ 72 _ = hA h' 72 _ from rfl) ?_
        refine Wp.ald_n (j := 0) rfl dX6_lead_132 ?_
        refine Wp.getf (k := 44) (tg := 2) kC6 (by decide) rfl lf_X6_112 dX6_lead_133 (sK41 (h := h') sh') (sF41_44 (h := h') sh') ?_
        refine Wp.ild_n (j := 1) rfl dX6_lead_136 ?_
        refine Wp.iaload dX6_lead_137 (sK72 (h := h') sh') (by omega) (ilt (sL72 (h := h') sh') (by omega)) (show hA _ 72 _ = hA h' 72 _ from rfl) ?_
        refine Wp.ior dX6_lead_138 ?_
        refine Wp.iastore dX6_lead_139 (sK72 (h := h') sh') (by omega) (ilt (sL72 (h := h') sh') (by omega)) ?_
        refine inc_4_2 rfl dX6_lead_140 (by first | exact w32_of (by omega) (by omega) | rfl) ?_
        refine Wp.goto (tgt := 103) dX6_lead_143 (by decide) ?_
        exact ih (a + 1) _ (by omega) (fr.tr (Fr.e (by decide))) (by omega)

theorem mld4 (d : Nat) (h : mH) (sh : Sh h) (mb : MB h) (x3 : mV) (Q : Option mV → mH → Prop) (kq : ∀ (t : mH) (c : Int) (x2 : mV), Fr [72] [] h t → Wp m_X6_lead (d + 1) 152 [(2, 41), (0, c), x2, x3] [] t Q) : ∀ (m : Nat) (c : Int) (x2 : mV) (h' : mH), (hF h 41 6 - c).toNat < m → (Fr [72] [] h h') → (0 ≤ c) → Wp m_X6_lead (d + 1) 93 [(2, 41), (0, c), x2, x3] [] h' Q := by
  intro m
  induction m with
  | zero => intro c x2 h' hm; exact absurd hm (Nat.not_lt_zero _)
  | succ m ih =>
    intro c x2 h' hm fr c0
    obtain ⟨⟨r0, r1⟩, ⟨n0, n1⟩, ⟨m0, m1⟩, hp, hq⟩ := id mb
    have sh' := sh.fr fr (by decide +kernel) (by decide)
    have e6 : hF h' 41 6 = hF h 41 6 := fr.2.2.2.2.1 41 6 (by decide)
    refine Wp.ild_n (j := 1) rfl dX6_lead_93 ?_
    refine Wp.ald_n (j := 0) rfl dX6_lead_94 ?_
    refine Wp.getf (k := 6) (tg := 0) kC6 (by decide) rfl lf_X6_141 dX6_lead_95 (sK41 (h := h') sh') e6 ?_
    refine Wp.icge dX6_lead_98 (by decide) (tgt := 152) (fun c98 => ?_) (fun c98 => ?_)
    · exact kq _ _ _ fr
    · refine Wp.iconst dX6_lead_101 (by decide) ?_
      refine sti_4_2 rfl (dSt_n dX6_lead_102) ?_
      refine mld3 d _ sh' (mb.fr fr (by decide) (by decide) (by decide) (by decide) (by decide)) c ⟨c0, by omega⟩ x3 Q (fun t a frt => ?_) _ 0 _ (Nat.lt_succ_self _) Fr.rf (by omega)
      refine inc_4_1 rfl dX6_lead_146 (w32_of (by omega) (by omega)) ?_
      refine Wp.goto (tgt := 93) dX6_lead_149 (by decide) ?_
      exact ih (c + 1) _ t (by omega) (fr.tr frt) (by omega)

theorem mld5 (d : Nat) (h : mH) (sh : Sh h) (mb : MB h) (a : Int) (a0 : 0 ≤ a ∧ a < hF h 41 6) (Q : Option mV → mH → Prop) (kq : ∀ i b : Int, Wp m_X6_lead (d + 1) 228 [(2, 41), (0, a), (0, i), (0, b)] [] h Q) : ∀ (m : Nat) (b i : Int), (hF h 41 6 - b).toNat < m → (0 ≤ b) → Wp m_X6_lead (d + 1) 171 [(2, 41), (0, a), (0, i), (0, b)] [] h Q := by
  intro m
  induction m with
  | zero => intro b i hm; exact absurd hm (Nat.not_lt_zero _)
  | succ m ih =>
    intro b i hm b0
    obtain ⟨⟨r0, r1⟩, ⟨n0, n1⟩, ⟨m0, m1⟩, hp, hq⟩ := id mb
    refine Wp.ild_n (j := 3) rfl dX6_lead_171 ?_
    refine Wp.ald_n (j := 0) rfl dX6_lead_172 ?_
    refine Wp.getf (k := 6) (tg := 0) kC6 (by decide) rfl lf_X6_141 dX6_lead_173 (sK41 (h := h) sh) (show hF _ 41 6 = hF h 41 6 from rfl) ?_
    refine Wp.icge dX6_lead_176 (by decide) (tgt := 228) (fun c176 => ?_) (fun c176 => ?_)
    · exact kq _ _
    · refine Wp.ild_n (j := 2) rfl dX6_lead_179 ?_
      refine Wp.ifeq dX6_lead_180 (by decide) (tgt := 228) (fun c180 => ?_) (fun c180 => ?_)
      · exact kq _ _
      · refine Wp.ald_n (j := 0) rfl dX6_lead_183 ?_
        refine Wp.getf (k := 44) (tg := 2) kC6 (by decide) rfl lf_X6_112 dX6_lead_184 (sK41 (h := h) sh) (sF41_44 (h := h) sh) ?_
        refine Wp.ild_n (j := 1) rfl dX6_lead_187 ?_
        refine Wp.iaload dX6_lead_188 (sK72 (h := h) sh) (by omega) (ilt (sL72 (h := h) sh) (by omega)) (show hA _ 72 _ = hA h 72 _ from rfl) ?_
        refine Wp.ild_n (j := 3) rfl dX6_lead_189 ?_
        refine Wp.ishr dX6_lead_190 ?_
        refine Wp.iconst dX6_lead_191 (by decide) ?_
        refine Wp.iand dX6_lead_192 ?_
        refine Wp.iconst dX6_lead_193 (by decide) ?_
        refine Wp.icne dX6_lead_194 (by decide) (tgt := 222) (fun c194 => ?_) (fun c194 => ?_)
        · refine inc_4_3 rfl dX6_lead_222 (by first | exact w32_of (by omega) (by omega) | rfl) ?_
          refine Wp.goto (tgt := 171) dX6_lead_225 (by decide) ?_
          exact ih (b + 1) _ (by omega) (by omega)
        · refine Wp.ald_n (j := 0) rfl dX6_lead_197 ?_
          refine Wp.getf (k := 44) (tg := 2) kC6 (by decide) rfl lf_X6_112 dX6_lead_198 (sK41 (h := h) sh) (sF41_44 (h := h) sh) ?_
          refine Wp.ild_n (j := 3) rfl dX6_lead_201 ?_
          refine Wp.iaload dX6_lead_202 (sK72 (h := h) sh) (by omega) (ilt (sL72 (h := h) sh) (by omega)) (show hA _ 72 _ = hA h 72 _ from rfl) ?_
          refine Wp.ild_n (j := 1) rfl dX6_lead_203 ?_
          refine Wp.ishr dX6_lead_204 ?_
          refine Wp.iconst dX6_lead_205 (by decide) ?_
          refine Wp.iand dX6_lead_206 ?_
          refine Wp.iconst dX6_lead_207 (by decide) ?_
          refine Wp.icne dX6_lead_208 (by decide) (tgt := 220) (fun c208 => ?_) (fun c208 => ?_)
          · refine Wp.iconst dX6_lead_220 (by decide) ?_
            refine sti_4_2 rfl (dSt_n dX6_lead_221) ?_
            refine inc_4_3 rfl dX6_lead_222 (by first | exact w32_of (by omega) (by omega) | rfl) ?_
            refine Wp.goto (tgt := 171) dX6_lead_225 (by decide) ?_
            exact ih (b + 1) _ (by omega) (by omega)
          · refine Wp.ild_n (j := 3) rfl dX6_lead_211 ?_
            refine Wp.ild_n (j := 1) rfl dX6_lead_212 ?_
            refine Wp.iclt dX6_lead_213 (by decide) (tgt := 220) (fun c213 => ?_) (fun c213 => ?_)
            · refine Wp.iconst dX6_lead_220 (by decide) ?_
              refine sti_4_2 rfl (dSt_n dX6_lead_221) ?_
              refine inc_4_3 rfl dX6_lead_222 (by first | exact w32_of (by omega) (by omega) | rfl) ?_
              refine Wp.goto (tgt := 171) dX6_lead_225 (by decide) ?_
              exact ih (b + 1) _ (by omega) (by omega)
            · refine Wp.iconst dX6_lead_216 (by decide) ?_
              refine Wp.goto (tgt := 221) dX6_lead_217 (by decide) ?_
              refine sti_4_2 rfl (dSt_n dX6_lead_221) ?_
              refine inc_4_3 rfl dX6_lead_222 (by first | exact w32_of (by omega) (by omega) | rfl) ?_
              refine Wp.goto (tgt := 171) dX6_lead_225 (by decide) ?_
              exact ih (b + 1) _ (by omega) (by omega)

theorem mld6 (d : Nat) (h : mH) (sh : Sh h) (mb : MB h) (h' : mH) (fr : Fr [63] [(41, 28)] h h') (a l i b : Int) (a0 : 0 ≤ a ∧ a < 24) (l0 : 0 ≤ l ∧ l ≤ a) (el : hF h' 41 28 = l) (Q : Option mV → mH → Prop) (kq : ∀ (t : mH) (l2 : Int), 0 ≤ l2 → l2 ≤ a + 1 → hF t 41 28 = l2 → Fr [63] [(41, 28)] h t → Wp m_X6_lead (d + 1) 159 [(2, 41), (0, a + 1), (0, i), (0, b)] [] t Q) : Wp m_X6_lead (d + 1) 228 [(2, 41), (0, a), (0, i), (0, b)] [] h' Q := by
  have sh' := sh.fr fr (by decide +kernel) (by decide)
  refine Wp.ild_n (j := 2) rfl dX6_lead_228 ?_
  refine Wp.ifne dX6_lead_229 (by decide) (tgt := 235) (fun c229 => ?_) (fun c229 => ?_)
  · refine Wp.ald_n (j := 0) rfl dX6_lead_235 ?_
    refine Wp.getf (k := 29) (tg := 2) kC6 (by decide) rfl lf_X6_84 dX6_lead_236 (sK41 (h := h') sh') (sF41_29 (h := h') sh') ?_
    refine Wp.ald_n (j := 0) rfl dX6_lead_239 ?_
    refine Wp.getf (k := 28) (tg := 0) kC6 (by decide) rfl lf_X6_227 dX6_lead_240 (sK41 (h := h') sh') el ?_
    refine Wp.ild_n (j := 1) rfl dX6_lead_243 ?_
    refine Wp.iastore dX6_lead_244 (sK63 (h := h') sh') (by omega) (ilt (sL63 (h := h') sh') (by omega)) ?_
    refine Wp.ald_n (j := 0) rfl dX6_lead_245 ?_
    refine Wp.dup dX6_lead_246 (Or.inr rfl) ?_
    refine Wp.getf (k := 28) (tg := 0) kC6 (by decide) rfl lf_X6_227 dX6_lead_247 (sK41 (h := h') sh') (show hF _ 41 28 = l from el) ?_
    refine Wp.iconst dX6_lead_250 (by decide) ?_
    refine Wp.iaddE dX6_lead_251 (by first | exact w32_of (by omega) (by omega) | rfl) ?_
    refine Wp.putf (k := 28) (tg := 0) kC6 (by decide) rfl rfl lf_X6_227 dX6_lead_252 (sK41 (h := h') sh') ?_
    refine inc_4_1 rfl dX6_lead_255 (by first | exact w32_of (by omega) (by omega) | rfl) ?_
    refine Wp.goto (tgt := 159) dX6_lead_258 (by decide) ?_
    exact kq _ (l + 1) (by omega) (by omega) rfl (fr.tr ((Fr.e (by decide)).tr (Fr.f (by decide))))
  · refine Wp.goto (tgt := 255) dX6_lead_232 (by decide) ?_
    refine inc_4_1 rfl dX6_lead_255 (by first | exact w32_of (by omega) (by omega) | rfl) ?_
    refine Wp.goto (tgt := 159) dX6_lead_258 (by decide) ?_
    exact kq h' l l0.1 (by omega) el fr

theorem mld7 (d : Nat) (h : mH) (sh : Sh h) (mb : MB h) : ∀ (m : Nat) (a l : Int) (x2 x3 : mV) (h' : mH), (hF h 41 6 - a).toNat < m → (0 ≤ a) → (a ≤ hF h 41 6) → (0 ≤ l ∧ l ≤ a) → (hF h' 41 28 = l) → (Fr [63] [(41, 28)] h h') → Wp m_X6_lead (d + 1) 159 [(2, 41), (0, a), x2, x3] [] h' (fun r t => (∃ y, r = some (0, y)) ∧ (0 ≤ hF t 41 28 ∧ hF t 41 28 ≤ 24) ∧ Fr [63] [(41, 28)] h t) := by
  intro m
  induction m with
  | zero => intro a l x2 x3 h' hm; exact absurd hm (Nat.not_lt_zero _)
  | succ m ih =>
    intro a l x2 x3 h' hm a0 a1 l0 el fr
    obtain ⟨⟨r0, r1⟩, ⟨n0, n1⟩, ⟨m0, m1⟩, hp, hq⟩ := id mb
    have sh' := sh.fr fr (by decide +kernel) (by decide)
    have e6 : hF h' 41 6 = hF h 41 6 := fr.2.2.2.2.1 41 6 (by decide)
    refine Wp.ild_n (j := 1) rfl dX6_lead_159 ?_
    refine Wp.ald_n (j := 0) rfl dX6_lead_160 ?_
    refine Wp.getf (k := 6) (tg := 0) kC6 (by decide) rfl lf_X6_141 dX6_lead_161 (sK41 (h := h') sh') e6 ?_
    refine Wp.icge dX6_lead_164 (by decide) (tgt := 261) (fun c164 => ?_) (fun c164 => ?_)
    · refine Wp.ald_n (j := 0) rfl dX6_lead_261 ?_
      refine Wp.getf (k := 28) (tg := 0) kC6 (by decide) rfl lf_X6_227 dX6_lead_262 (sK41 (h := h') sh') el ?_
      refine Wp.iret rfl dX6_lead_265 ?_
      exact ⟨⟨_, rfl⟩, by rw [el]; omega, fr⟩
    · refine Wp.iconst dX6_lead_167 (by decide) ?_
      refine sti_4_2 rfl (dSt_n dX6_lead_168) ?_
      refine Wp.iconst dX6_lead_169 (by decide) ?_
      refine sti_4_3 rfl (dSt_n dX6_lead_170) ?_
      refine mld5 d h' sh' (mb.fr fr (by decide) (by decide) (by decide) (by decide) (by decide)) a ⟨a0, by omega⟩ _ (fun i b => ?_) _ 0 _ (Nat.lt_succ_self _) (by omega)
      exact mld6 d h sh mb h' fr a l i b (by omega) l0 el _ (fun t l2 p1 p2 p3 p4 => ih (a + 1) l2 _ _ t (by omega) (by omega) (by omega) ⟨p1, p2⟩ p3 p4)

theorem cq_mlead (d : Nat) (h : mH) (sh : Sh h) (mi : MI h) : Cq m_X6_lead (d + 1) [(2, 41)] h (fun r t => (∃ y, r = some (0, y)) ∧ MI t ∧ Fr mAn mGn h t) := by
  refine Cq.of ?_
  show Wp m_X6_lead ((d + 1)) 0 [(2, 41), (9, 0), (9, 0), (9, 0)] [] h _
  refine Wp.ald_n (j := 0) rfl dX6_lead_0 ?_
  refine Wp.iconst dX6_lead_1 (by decide) ?_
  refine Wp.putf (k := 1) (tg := 0) kC6 (by decide) rfl rfl lf_X6_117 dX6_lead_2 (sK41 (h := h) sh) ?_
  refine Wp.ald_n (j := 0) rfl dX6_lead_5 ?_
  refine Wp.iconst dX6_lead_6 (by decide) ?_
  refine Wp.putf (k := 0) (tg := 0) kC6 (by decide) rfl rfl lf_X6_120 dX6_lead_7 (sK41 (h := h) sh) ?_
  refine Wp.ald_n (j := 0) rfl dX6_lead_10 ?_
  refine Wp.getf (k := 6) (tg := 0) kC6 (by decide) rfl lf_X6_141 dX6_lead_11 (sK41 (h := h) sh) (show hF _ 41 6 = hF h 41 6 from rfl) ?_
  refine Wp.ifne dX6_lead_14 (by decide) (tgt := 24) (fun c14 => ?_) (fun c14 => ?_)
  · refine Wp.iconst dX6_lead_24 (by decide) ?_
    refine sti_4_1 rfl (dSt_n dX6_lead_25) ?_
    refine mld2 d (sF (sF h 41 1 0) 41 0 0) sh.m0 mi.1 _ _ (fun t a x2 frt => ?_) _ 0 _ _ (Nat.lt_succ_self _) Fr.rf (by omega)
    have mbt : MB t := MB.fr (h := (sF (sF h 41 1 0) 41 0 0)) mi.1 frt (by decide) (by decide) (by decide) (by decide) (by decide)
    refine Wp.iconst dX6_lead_91 (by decide) ?_
    refine sti_4_1 rfl (dSt_n dX6_lead_92) ?_
    refine mld4 d t (sh.m0.fr frt (by decide +kernel) (by decide)) mbt _ _ (fun u c y2 fru => ?_) _ 0 _ _ (Nat.lt_succ_self _) Fr.rf (by omega)
    have mbu : MB u := mbt.fr fru (by decide) (by decide) (by decide) (by decide) (by decide)
    have shu : Sh u := (sh.m0.fr frt (by decide +kernel) (by decide)).fr fru (by decide +kernel) (by decide)
    refine Wp.ald_n (j := 0) rfl dX6_lead_152 ?_
    refine Wp.iconst dX6_lead_153 (by decide) ?_
    refine Wp.putf (k := 28) (tg := 0) kC6 (by decide) rfl rfl lf_X6_227 dX6_lead_154 (sK41 (h := u) shu) ?_
    refine Wp.iconst dX6_lead_157 (by decide) ?_
    refine sti_4_1 rfl (dSt_n dX6_lead_158) ?_
    refine (mld7 d (sF u 41 28 0) (shu.m (Fr.f (by decide))) mbu _ 0 0 _ _ _ (Nat.lt_succ_self _) (by omega) mbu.2.1.1 (by omega) rfl Fr.rf).mono (fun r v q => ?_)
    obtain ⟨hr, hl, frv⟩ := q
    have miu : MI u := (MI.fr (h := (sF (sF h 41 1 0) 41 0 0)) mi (frt.mono (by decide) (by simp))).fr (fru.mono (by decide) (by simp))
    have fru2 : Fr [63] [(41, 28)] u v := (Fr.f (by decide)).tr frv
    refine ⟨hr, ⟨mbu.fr fru2 (by decide) (by decide) (by decide) (by decide) (by decide), miu.2.1.fr fru2 (by decide), miu.2.2.1.fr fru2 (by decide) (by decide), ?_, hl, ?_⟩, ((((Fr.f (by decide)).tr (Fr.f (by decide))).tr (frt.mono (by decide) (by simp))).tr (fru.mono (by decide) (by simp))).tr (fru2.mono (by decide) (by decide))⟩
    · rw [fru2.2.2.2.2.1 41 27 (by decide)]
      exact miu.2.2.2.1
    · rw [fru2.2.2.2.2.1 41 39 (by decide)]
      exact miu.2.2.2.2.2
  · refine Wp.ald_n (j := 0) rfl dX6_lead_17 ?_
    refine Wp.bipush dX6_lead_18 (by decide) ?_
    refine Wp.callV1 (ct_mrefuse d (sF (sF h 41 1 0) 41 0 0) (sK41 (h := h) sh) 8) wc_X6_151 iM_X6_refuse se_X6_refuse kC6 (sK41 (h := h) sh) dX6_lead_20 rfl (Nat.le_of_ble_eq_true rfl) rfl (Nat.le_of_ble_eq_true rfl) ?_
    refine Wp.iret rfl dX6_lead_23 ?_
    exact ⟨⟨_, rfl⟩, mi, ((Fr.f (by decide)).tr ((Fr.f (by decide)).tr (Fr.f (by decide))))⟩

