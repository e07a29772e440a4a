theorem PT.of {h h' t : mH} {lo many : Int} (p : PT h' t lo many) (e1 : hF h' 41 30 = hF h 41 30) (e2 : hA h' 64 = hA h 64) : PT h t lo many := by
  unfold PT at p ⊢
  rw [e1, e2] at p
  exact p
theorem bm10 {x : Int} (h0 : 0 ≤ x) (h1 : x < 10) : x.bmod 256 = x := by
  unfold Int.bmod
  simp only []
  split <;> omega
theorem mcr3 (d : Nat) (h : mH) (sh : Sh h) (z1 : 0 ≤ hF h 41 30 ∧ hF h 41 30 ≤ 10) (hs : spK (hA h 64)) (hl9 : 1 ≤ hF h 41 37 ∧ hF h 41 37 ≤ 10) (ht9 : -10485760 ≤ hF h 41 36 ∧ hF h 41 36 ≤ 10485760) (c f p : Int) (c0 : 1 ≤ c ∧ c ≤ 10) (p0 : 0 ≤ p ∧ p < (hF h 41 30)) (hp1 : mPw (hA h 64) (hF h 41 30) p c.toNat p p ≠ gNO) (hp2 : mPw (hA h 64) (hF h 41 30) p c.toNat p p * hF h 41 37 = hF h 41 36 * c) (x4 x5 x6 x7 x8 : mV) (Q : Option mV → mH → Prop) (kq : ∀ (t : mH) (lo : Int), Fr [67, 68] [] h t → PT h t lo c → 0 ≤ lo → lo < (hF h 41 30) → mPw (hA h 64) (hF h 41 30) lo c.toNat lo lo ≠ gNO → Wp m_X6_critical (d + 4) 120 [(2, 41), (0, c), (0, f), (0, lo), x4, x5, x6, x7, x8] [] t Q) : ∀ (m : Nat) (lo : Int) (h' : mH), (p - lo).toNat < m → (0 ≤ lo) → (lo ≤ p) → (Fr [67, 68] [] h h') → (PT h h' lo c) → Wp m_X6_critical (d + 4) 86 [(2, 41), (0, c), (0, f), (0, lo), x4, x5, x6, x7, x8] [] h' Q := by
  intro m
  induction m with
  | zero => intro lo h' hm; exact absurd hm (Nat.not_lt_zero _)
  | succ m ih =>
    intro lo h' hm l0 lp fr pt
    have sh' := sh.fr fr (by decide +kernel) (by decide)
    have e30 : hF h' 41 30 = hF h 41 30 := fr.2.2.2.2.1 41 30 (by decide)
    have e36 : hF h' 41 36 = hF h 41 36 := fr.2.2.2.2.1 41 36 (by decide)
    have e37 : hF h' 41 37 = hF h 41 37 := fr.2.2.2.2.1 41 37 (by decide)
    have e64 : hA h' 64 = hA h 64 := fr.2.2.2.2.2 64 (by decide)
    have hrd : hA h' 68 (100 * c + 11 * lo) = mPw (hA h 64) (hF h 41 30) lo c.toNat lo lo := by
      have := pt c.toNat lo lo (by omega) (Int.le_refl _) (by omega) (Int.le_refl _) (by omega)
      rw [show (100 * c + 11 * lo) = 100 * ((c.toNat : Nat) : Int) + 10 * lo + lo by omega]
      exact this
    have hvb := mPw_bd (sp := (hA h 64)) (sz := (hF h 41 30)) hs l0 z1.2 c.toNat lo lo (by omega) l0 (by omega)
    refine Wp.ald_n (j := 0) rfl dX6_critical_86 ?_
    refine Wp.ald_n (j := 0) rfl dX6_critical_87 ?_
    refine Wp.getf (k := 35) (tg := 2) kC6 (by decide) rfl lf_X6_99 dX6_critical_88 (sK41 (h := h') sh') (sF41_35 (h := h') sh') ?_
    refine Wp.bipush dX6_critical_91 (by decide) ?_
    refine Wp.ild_n (j := 1) rfl dX6_critical_93 ?_
    refine Wp.imulE dX6_critical_94 (by first | exact w32_of (by omega) (by omega) | rfl) ?_
    refine Wp.bipush dX6_critical_95 (by decide) ?_
    refine Wp.ild_n (j := 3) rfl dX6_critical_97 ?_
    refine Wp.imulE dX6_critical_98 (by first | exact w32_of (by omega) (by omega) | rfl) ?_
    refine Wp.iaddE dX6_critical_99 (by first | exact w32_of (by omega) (by omega) | rfl) ?_
    refine Wp.laload dX6_critical_100 (sK68 (h := h') sh') (by omega) (ilt (sL68 (h := h') sh') (by omega)) hrd ?_
    refine Wp.ild_n (j := 1) rfl dX6_critical_101 ?_
    obtain ⟨_, t102, ct102, ⟨y102, rfl, hy102⟩, e102⟩ := cq_isPace (d + 3) h' sh' (mPw (hA h 64) (hF h 41 30) lo c.toNat lo lo) c (by rcases hvb with z | z; exact Or.inl z; exact Or.inr (by omega)) (by rw [e37]; exact hl9) (by rw [e36]; exact ht9) (by omega)
    rw [e102] at ct102
    rw [e36, e37] at hy102
    refine Wp.callV1 (ct102) wc_X6_271 iM_X6_isPace se_X6_isPace kC6 (sK41 (h := h') sh') dX6_critical_102 rfl (Nat.le_of_ble_eq_true rfl) rfl (Nat.le_of_ble_eq_true rfl) ?_
    refine Wp.ifne dX6_critical_105 (by decide) (tgt := 120) (fun c105 => ?_) (fun c105 => ?_)
    · refine kq h' lo fr pt l0 (by omega) ?_
      rcases hy102 with z | z
      · exact z.2.1
      · omega
    · refine inc_9_3 rfl dX6_critical_108 (by first | exact w32_of (by omega) (by omega) | rfl) ?_
      refine Wp.ald_n (j := 0) rfl dX6_critical_111 ?_
      refine Wp.ild_n (j := 1) rfl dX6_critical_112 ?_
      refine Wp.ild_n (j := 3) rfl dX6_critical_113 ?_
      have hne : lo ≠ p := fun e => by
        rcases hy102 with z | z
        · omega
        · rw [e] at z
          exact z.2 ⟨hp1, hp2⟩
      obtain ⟨_, t114, ct114, rfl, f114, p114⟩ := cq_fillPowers (d + 1) h' sh' (by rw [e30]; exact z1.2) c (lo + 1) (by omega) (by omega)
      have sh114 : Sh t114 := sh'.fr f114 (by decide +kernel) (by decide)
      refine Wp.callV0 (ct114) wc_X6_254 iM_X6_fillPowers se_X6_fillPowers kC6 (sK41 (h := h') sh') dX6_critical_114 rfl (Nat.le_of_ble_eq_true rfl) rfl (Nat.le_of_ble_eq_true rfl) ?_
      refine Wp.goto (tgt := 86) dX6_critical_117 (by decide) ?_
      refine ih (lo + 1) t114 ?_ (by omega) ?_ (fr.tr f114) (p114.of e30 e64)
      · clear hy102
        omega
      · clear hy102
        omega

theorem mcr4 (d : Nat) (h : mH) (sh : Sh h) (c f lo l at9 n k : Int) (m9 : Nat) (em : (m9 : Int) = c - 1 - n) (z1 : (hF h 41 30) ≤ 10) (n0 : 0 ≤ n ∧ n < c ∧ c ≤ 10) (l0 : 0 ≤ lo) (a0 : lo ≤ at9 ∧ at9 < (hF h 41 30)) (k0 : lo ≤ k ∧ k < (hF h 41 30)) (pw : ∀ b, lo ≤ b → b < (hF h 41 30) → hA h 68 (100 * (m9 : Int) + 10 * lo + b) = mPw (hA h 64) (hF h 41 30) lo m9 lo b) (hk : hA h 64 (10 * k + at9) ≠ gNO ∧ mPw (hA h 64) (hF h 41 30) lo m9 lo k ≠ gNO ∧ w64 (hA h 64 (10 * k + at9) + mPw (hA h 64) (hF h 41 30) lo m9 lo k) = l) (Q : Option mV → mH → Prop) (kq : ∀ b : Int, lo ≤ b → b < (hF h 41 30) → (hA h 64 (10 * b + at9) ≠ gNO ∧ mPw (hA h 64) (hF h 41 30) lo m9 lo b ≠ gNO ∧ w64 (hA h 64 (10 * b + at9) + mPw (hA h 64) (hF h 41 30) lo m9 lo b) = l) → Wp m_X6_critical (d + 4) 192 [(2, 41), (0, c), (0, f), (0, lo), (1, l), (9, 0), (0, at9), (0, n), (0, b)] [] h Q) : ∀ (m : Nat) (b : Int), (k - b).toNat < m → (lo ≤ b) → (b ≤ k) → Wp m_X6_critical (d + 4) 166 [(2, 41), (0, c), (0, f), (0, lo), (1, l), (9, 0), (0, at9), (0, n), (0, b)] [] h Q := by
  intro m
  induction m with
  | zero => intro b hm; exact absurd hm (Nat.not_lt_zero _)
  | succ m ih =>
    intro b hm b0 b1
    refine Wp.ald_n (j := 0) rfl dX6_critical_166 ?_
    refine Wp.ild (j := 6) rfl dX6_critical_167 ?_
    refine Wp.ild (j := 8) rfl dX6_critical_169 ?_
    refine Wp.ild_n (j := 3) rfl dX6_critical_171 ?_
    refine Wp.ild_n (j := 1) rfl dX6_critical_172 ?_
    refine Wp.iconst dX6_critical_173 (by decide) ?_
    refine Wp.isubE dX6_critical_174 (by first | exact w32_of (by omega) (by omega) | rfl) ?_
    refine Wp.ild (j := 7) rfl dX6_critical_175 ?_
    refine Wp.isubE dX6_critical_177 (by first | exact w32_of (by omega) (by omega) | rfl) ?_
    refine Wp.lld (j := 4) rfl dX6_critical_178 ?_
    obtain ⟨_, t180, ct180, ⟨y180, rfl, hy180⟩, e180⟩ := cq_goes (d + 3) h sh at9 b lo (c - 1 - n) l (by omega) (by omega) (by omega) (by omega)
    rw [e180] at ct180
    rw [← em, pw b b0 (by omega)] at hy180
    refine Wp.callV1 (ct180) wc_X6_278 iM_X6_goes se_X6_goes kC6 (sK41 (h := h) sh) dX6_critical_180 rfl (Nat.le_of_ble_eq_true rfl) rfl (Nat.le_of_ble_eq_true rfl) ?_
    refine Wp.ifne dX6_critical_183 (by decide) (tgt := 192) (fun c183 => ?_) (fun c183 => ?_)
    · refine kq b b0 (by omega) ?_
      rcases hy180 with z | z
      · exact z.2
      · omega
    · refine inc_9_8 rfl dX6_critical_186 (by first | exact w32_of (by omega) (by omega) | rfl) ?_
      refine Wp.goto (tgt := 166) dX6_critical_189 (by decide) ?_
      have hne : b ≠ k := fun e => by
        rcases hy180 with z | z
        · omega
        · rw [e] at z
          exact z.2 hk
      refine ih (b + 1) ?_ (by omega) ?_
      · clear hy180
        omega
      · clear hy180
        omega

theorem mcr192 (d : Nat) (h : mH) (sh : Sh h) (c f lo l at9 n b : Int) (z1 : (hF h 41 30) ≤ 10) (n0 : 0 ≤ n ∧ n < c ∧ c ≤ 10) (l0 : 0 ≤ lo) (a0 : 0 ≤ at9 ∧ at9 < 10) (b0 : 0 ≤ b ∧ b < 10) (Q : Option mV → mH → Prop) (kq : Wp m_X6_critical (d + 4) 147 [(2, 41), (0, c), (0, f), (0, lo), (1, w64 (l - hA h 64 (10 * b + at9))), (9, 0), (0, b), (0, n + 1), (0, b)] [] h Q) : Wp m_X6_critical (d + 4) 192 [(2, 41), (0, c), (0, f), (0, lo), (1, l), (9, 0), (0, at9), (0, n), (0, b)] [] h Q := by
  refine Wp.lld (j := 4) rfl dX6_critical_192 ?_
  refine Wp.ald_n (j := 0) rfl dX6_critical_194 ?_
  refine Wp.getf (k := 31) (tg := 2) kC6 (by decide) rfl lf_X6_87 dX6_critical_195 (sK41 (h := h) sh) (sF41_31 (h := h) sh) ?_
  refine Wp.bipush dX6_critical_198 (by decide) ?_
  refine Wp.ild (j := 8) rfl dX6_critical_200 ?_
  refine Wp.imulE dX6_critical_202 (by first | exact w32_of (by omega) (by omega) | rfl) ?_
  refine Wp.ild (j := 6) rfl dX6_critical_203 ?_
  refine Wp.iaddE dX6_critical_205 (by first | exact w32_of (by omega) (by omega) | rfl) ?_
  refine Wp.laload dX6_critical_206 (sK64 (h := h) sh) (by omega) (ilt (sL64 (h := h) sh) (by omega)) (show hA _ 64 _ = hA h 64 _ from rfl) ?_
  refine Wp.lsubE dX6_critical_207 rfl ?_
  refine stl_9_4 rfl (dSt_w dX6_critical_208) ?_
  refine Wp.ild (j := 8) rfl dX6_critical_210 ?_
  refine sti_9_6 rfl (dSt_w dX6_critical_212) ?_
  refine inc_9_7 rfl dX6_critical_214 (by first | exact w32_of (by omega) (by omega) | rfl) ?_
  refine Wp.goto (tgt := 147) dX6_critical_217 (by decide) ?_
  exact kq

theorem mcr5 (d : Nat) (h : mH) (sh : Sh h) (c f lo : Int) (z1 : 0 ≤ (hF h 41 30) ∧ (hF h 41 30) ≤ 10) (hs : spK (hA h 64)) (c0 : 1 ≤ c ∧ c ≤ 10) (l0 : 0 ≤ lo) (pt : PT h h lo c) : ∀ (m : Nat) (n at9 l : Int) (x8 : mV) (h' : mH), (c - n).toNat < m → (0 ≤ n) → (n ≤ c) → (lo ≤ at9 ∧ at9 < (hF h 41 30)) → (l = mPw (hA h 64) (hF h 41 30) lo (c - n).toNat lo at9) → (l ≠ gNO) → (Fr [69] [] h h') → Wp m_X6_critical (d + 4) 147 [(2, 41), (0, c), (0, f), (0, lo), (1, l), (9, 0), (0, at9), (0, n), x8] [] h' (fun r t => (∃ y, r = some (0, y)) ∧ Fr [69] [] h t) := by
  intro m
  induction m with
  | zero => intro n at9 l x8 h' hm; exact absurd hm (Nat.not_lt_zero _)
  | succ m ih =>
    intro n at9 l x8 h' hm n0 n1 a0 hl hl2 fr
    have sh' := sh.fr fr (by decide +kernel) (by decide)
    refine Wp.ild (j := 7) rfl dX6_critical_147 ?_
    refine Wp.ild_n (j := 1) rfl dX6_critical_149 ?_
    refine Wp.icge dX6_critical_150 (by decide) (tgt := 220) (fun c150 => ?_) (fun c150 => ?_)
    · refine Wp.ild_n (j := 1) rfl dX6_critical_220 ?_
      refine Wp.iret rfl dX6_critical_221 ?_
      exact ⟨⟨_, rfl⟩, fr⟩
    · refine Wp.ald_n (j := 0) rfl dX6_critical_153 ?_
      refine Wp.getf (k := 38) (tg := 2) kC6 (by decide) rfl lf_X6_102 dX6_critical_154 (sK41 (h := h') sh') (sF41_38 (h := h') sh') ?_
      refine Wp.ild (j := 7) rfl dX6_critical_157 ?_
      refine Wp.ild (j := 6) rfl dX6_critical_159 ?_
      refine Wp.i2b dX6_critical_161 ?_
      refine Wp.bastore dX6_critical_162 (sK69 (h := h') sh') (by omega) (ilt (sL69 (h := h') sh') (by omega)) (by rw [bm10 (by omega) (by omega)]; omega) ?_
      refine Wp.ild_n (j := 3) rfl dX6_critical_163 ?_
      refine sti_9_8 rfl (dSt_w dX6_critical_164) ?_
      obtain ⟨m9, em⟩ : ∃ m9 : Nat, (m9 : Int) = c - 1 - n := ⟨(c - 1 - n).toNat, by omega⟩
      have e9 : (c - n).toNat = m9 + 1 := by omega
      rw [e9] at hl
      have hx : mPw (hA h 64) (hF h 41 30) lo (m9 + 1) lo at9 ≠ gNO := by rw [← hl]; exact hl2
      obtain ⟨k, k0, k1, ek⟩ := mxL_at ((hF h 41 30) - lo).toNat hx
      have ek2 : mPw (hA h 64) (hF h 41 30) lo (m9 + 1) lo at9 = jnL (mPw (hA h 64) (hF h 41 30) lo m9 lo k) (hA h 64 (10 * k + at9)) := ek
      have fr2 : Fr [69] [] h (sE h' 69 n (at9.bmod 256)) := fr.tr (Fr.e (by decide))
      have g30 : hF (sE h' 69 n (at9.bmod 256)) 41 30 = hF h 41 30 := fr2.2.2.2.2.1 41 30 (by decide)
      have g64 : hA (sE h' 69 n (at9.bmod 256)) 64 = hA h 64 := fr2.2.2.2.2.2 64 (by decide)
      have g68 : hA (sE h' 69 n (at9.bmod 256)) 68 = hA h 68 := fr2.2.2.2.2.2 68 (by decide)
      have sh2 : Sh (sE h' 69 n (at9.bmod 256)) := sh.fr fr2 (by decide +kernel) (by decide)
      have hkk : hA h 64 (10 * k + at9) ≠ gNO ∧ mPw (hA h 64) (hF h 41 30) lo m9 lo k ≠ gNO ∧ w64 (hA h 64 (10 * k + at9) + mPw (hA h 64) (hF h 41 30) lo m9 lo k) = l := by
        have hj : ¬ (mPw (hA h 64) (hF h 41 30) lo m9 lo k = gNO ∨ hA h 64 (10 * k + at9) = gNO) := fun z => by
          unfold jnL at ek2
          rw [if_pos z] at ek2
          exact hx ek2
        refine ⟨fun z => hj (Or.inr z), fun z => hj (Or.inl z), ?_⟩
        unfold jnL at ek2
        rw [if_neg hj] at ek2
        rw [hl, ek2, Int.add_comm]
      refine mcr4 d (sE h' 69 n (at9.bmod 256)) sh2 c f lo l at9 n k m9 em (by rw [g30]; exact z1.2) (by omega) l0 (by rw [g30]; exact a0) (by rw [g30]; omega) (fun b b0 b1 => by
        rw [g30] at b1
        rw [g30, g64, g68]
        exact pt m9 lo b (by omega) (Int.le_refl _) (by omega) b0 b1) (by rw [g30, g64]; exact hkk) _ (fun b b0 b1 hb => mcr192 d (sE h' 69 n (at9.bmod 256)) sh2 c f lo l at9 n b (by rw [g30]; exact z1.2) (by omega) l0 (by omega) (by rw [g30] at b1; omega) _ ?_) _ lo (Nat.lt_succ_self _) (Int.le_refl _) k0
      rw [g30] at b1
      rw [g30, g64] at hb
      have hsb := (hs (10 * b + at9) (by omega) (by omega)).resolve_left hb.1
      have hpb := (mPw_bd (sp := (hA h 64)) (sz := (hF h 41 30)) hs l0 z1.2 m9 lo b (by omega) (by omega) (by omega)).resolve_left hb.2.1
      have hlv : l = hA h 64 (10 * b + at9) + mPw (hA h 64) (hF h 41 30) lo m9 lo b := by
        rw [← hb.2.2]
        exact w64_of (by omega) (by omega)
      have hll : w64 (l - hA (sE h' 69 n (at9.bmod 256)) 64 (10 * b + at9)) = mPw (hA h 64) (hF h 41 30) lo m9 lo b := by
        rw [g64, hlv, w64_of (by omega) (by omega)]
        omega
      rw [hll]
      exact ih (n + 1) b _ _ _ (by omega) (by omega) (by omega) ⟨b0, b1⟩ (by rw [show (c - (n + 1)).toNat = m9 by omega]) hb.2.1 fr2

