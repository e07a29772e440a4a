/-! ===== rounds ===== -/
def mIt (c : mCf) (f : Int → Int) : Nat → Int → Int
  | 0 => cutF c.1.1 f
  | k + 1 => mT c (mIt c f k)
theorem mIt_out (c : mCf) (f : Int → Int) : ∀ (k : Nat) (j : Int), ¬ (0 ≤ j ∧ j < c.1.1) → mIt c f k j = 0
  | 0, j, h => if_neg h
  | k + 1, j, h => if_neg h
def RW (n : Int) (t : mH) (ra : Int) (f : Int → Int) : Prop := ∀ j, 0 ≤ j → j < n → hA t ra j = f j
def RGm (n r : Int) (t : mH) (ra : Int) : Prop := ∀ j, 0 ≤ j → j < n → 0 ≤ hA t ra j ∧ hA t ra j < r
/-- the two walkers: the tortoise after i ticks, the hare after k -/
def WR (h t : mH) (i k : Nat) : Prop := Fr [50, 51, 52, 53, 55, 56] [(41, 40), (41, 41)] h t ∧ (RW (hF h 41 6) t 56 (mIt (mcf h) (hA h 46) i) ∧ RW (hF h 41 6) t 55 (mIt (mcf h) (hA h 46) k)) ∧ RGm (hF h 41 6) (hF h 41 5) t 56 ∧ RGm (hF h 41 6) (hF h 41 5) t 55
theorem WR.f {h t : mH} {i k : Nat} (wr : WR h t i k) {f : Nat} (v : Int) (hf : f = 40 ∨ f = 41) : WR h (sF t 41 f v) i k := ⟨wr.1.tr (Fr.f (by rcases hf with z | z <;> subst z <;> decide)), wr.2⟩
theorem WR.mb {h t : mH} {i k : Nat} (wr : WR h t i k) (mb : MB h) : MB t := mb.fr wr.1 (by decide) (by decide) (by decide) (by decide) (by decide)
theorem WR.sh {h t : mH} {i k : Nat} (wr : WR h t i k) (sh : Sh h) : Sh t := sh.fr wr.1 (by decide +kernel) (by decide)
theorem WR.e {h t : mH} {i k : Nat} (wr : WR h t i k) : hF t 41 6 = hF h 41 6 ∧ hF t 41 5 = hF h 41 5 ∧ mcf t = mcf h ∧ hA t 46 = hA h 46 := ⟨wr.1.2.2.2.2.1 41 6 (by decide), wr.1.2.2.2.2.1 41 5 (by decide), mcf_fr wr.1 (by decide) (by decide) (by decide) (by decide) (by decide) (by decide), wr.1.2.2.2.2.2 46 (by decide)⟩
theorem WR.like {h t : mH} {i k : Nat} (wr : WR h t i k) (hl : ∀ j, 0 ≤ j → j < hF t 41 6 → hA t 56 j = hA t 55 j) : mIt (mcf h) (hA h 46) i = mIt (mcf h) (hA h 46) k := by
  funext j
  by_cases hj : 0 ≤ j ∧ j < hF h 41 6
  · rw [← wr.2.1.1 j hj.1 hj.2, ← wr.2.1.2 j hj.1 hj.2]
    exact hl j hj.1 (by rw [wr.e.1]; exact hj.2)
  · rw [mIt_out (mcf h) (hA h 46) i j hj, mIt_out (mcf h) (hA h 46) k j hj]
theorem WR.unlike {h t : mH} {i k : Nat} (wr : WR h t i k) (hl : ∃ j, 0 ≤ j ∧ j < hF t 41 6 ∧ hA t 56 j ≠ hA t 55 j) : mIt (mcf h) (hA h 46) i ≠ mIt (mcf h) (hA h 46) k := by
  intro e
  obtain ⟨j, j0, j1, hne⟩ := hl
  rw [wr.e.1] at j1
  rw [wr.2.1.1 j j0 j1, wr.2.1.2 j j0 j1, e] at hne
  exact hne rfl
theorem RW.keep {A : List Int} {G : List (Int × Nat)} {n : Int} {t u : mH} {ra : Int} {f : Int → Int} (x : RW n t ra f) (fr : Fr A G t u) (ha : ra ∉ A) : RW n u ra f := fun j j0 j1 => by rw [fr.2.2.2.2.2 ra ha]; exact x j j0 j1
theorem RGm.keep {A : List Int} {G : List (Int × Nat)} {n r : Int} {t u : mH} {ra : Int} (x : RGm n r t ra) (fr : Fr A G t u) (ha : ra ∉ A) : RGm n r u ra := fun j j0 j1 => by rw [fr.2.2.2.2.2 ra ha]; exact x j j0 j1
theorem wr_hare (d : Nat) {h h' : mH} (sh : Sh h) (mb : MB h) {i k : Nat} (wr : WR h h' i k) : ∃ t, Ct m_X6_tick (d + 1) [(2, 41), (2, 55)] h' none t ∧ WR h t i (k + 1) ∧ ∀ f, hF t 41 f = hF h' 41 f := by
  have sh' := wr.sh sh
  obtain ⟨e6, e5, ec, -⟩ := wr.e
  obtain ⟨_, t, ct, rfl, fr, hr⟩ := cq_mtick d h' sh' (wr.mb mb) 55 (sK55 sh') (sL55 sh') (by decide) (fun j j0 j1 => by rw [e5]; exact wr.2.2.2 j j0 (by rw [← e6]; exact j1))
  rw [ec, mT_eq (c := mcf h) (fun j j0 j1 => wr.2.1.2 j j0 j1), e6, e5] at hr
  exact ⟨t, ct, ⟨wr.1.tr (fr.mono (by decide) (by simp)), ⟨wr.2.1.1.keep fr (by decide), fun j j0 j1 => (hr j j0 j1).1⟩, wr.2.2.1.keep fr (by decide), fun j j0 j1 => (hr j j0 j1).2⟩, fun f => fr.2.2.2.2.1 41 f (by simp)⟩
theorem wr_tort (d : Nat) {h h' : mH} (sh : Sh h) (mb : MB h) {i k : Nat} (wr : WR h h' i k) : ∃ t, Ct m_X6_tick (d + 1) [(2, 41), (2, 56)] h' none t ∧ WR h t (i + 1) k ∧ ∀ f, hF t 41 f = hF h' 41 f := by
  have sh' := wr.sh sh
  obtain ⟨e6, e5, ec, -⟩ := wr.e
  obtain ⟨_, t, ct, rfl, fr, hr⟩ := cq_mtick d h' sh' (wr.mb mb) 56 (sK56 sh') (sL56 sh') (by decide) (fun j j0 j1 => by rw [e5]; exact wr.2.2.1 j j0 (by rw [← e6]; exact j1))
  rw [ec, mT_eq (c := mcf h) (fun j j0 j1 => wr.2.1.1 j j0 j1), e6, e5] at hr
  exact ⟨t, ct, ⟨wr.1.tr (fr.mono (by decide) (by simp)), ⟨fun j j0 j1 => (hr j j0 j1).1, wr.2.1.2.keep fr (by decide)⟩, fun j j0 j1 => (hr j j0 j1).2, wr.2.2.2.keep fr (by decide)⟩, fun f => fr.2.2.2.2.1 41 f (by simp)⟩
theorem wr_begin (d : Nat) {h h' : mH} (sh : Sh h) (mb : MB h) (fr0 : Fr [50, 51, 52, 53, 55, 56] [(41, 40), (41, 41)] h h') : ∃ t u, Ct m_X6_begin d [(2, 41), (2, 56)] h' none t ∧ Ct m_X6_begin d [(2, 41), (2, 55)] t none u ∧ WR h u 0 0 ∧ (∀ f, hF u 41 f = hF h' 41 f) ∧ Sh t := by
  have sh' : Sh h' := sh.fr fr0 (by decide +kernel) (by decide)
  have e6 : hF h' 41 6 = hF h 41 6 := fr0.2.2.2.2.1 41 6 (by decide)
  have e46 : hA h' 46 = hA h 46 := fr0.2.2.2.2.2 46 (by decide)
  obtain ⟨_, t, ct, rfl, fr, hr⟩ := cq_mbegin d h' sh' (by rw [e6]; exact mb.2.1.2) 56 (sK56 sh') (sL56 sh') (by decide) (by decide)
  have sht : Sh t := sh'.fr fr (by decide +kernel) (by decide)
  have t6 : hF t 41 6 = hF h 41 6 := (fr.2.2.2.2.1 41 6 (by decide)).trans e6
  have t46 : hA t 46 = hA h 46 := (fr.2.2.2.2.2 46 (by decide)).trans e46
  obtain ⟨_, u, cu, rfl, fru, hu⟩ := cq_mbegin d t sht (by rw [t6]; exact mb.2.1.2) 55 (sK55 sht) (sL55 sht) (by decide) (by decide)
  rw [e6, e46] at hr
  rw [t6, t46] at hu
  have h56 : ∀ j, 0 ≤ j → j < hF h 41 6 → hA u 56 j = hA h 46 j := fun j j0 j1 => by rw [fru.2.2.2.2.2 56 (by decide)]; exact hr j j0 j1
  refine ⟨t, u, ct, cu, ⟨(fr0.tr (fr.mono (by decide) (by simp))).tr (fru.mono (by decide) (by simp)), ⟨fun j j0 j1 => ?_, fun j j0 j1 => ?_⟩, fun j j0 j1 => ?_, fun j j0 j1 => ?_⟩, fun f => (fru.2.2.2.2.1 41 f (by simp)).trans (fr.2.2.2.2.1 41 f (by simp)), sht⟩
  · rw [h56 j j0 j1]
    exact (cutF_in j0 j1).symm
  · rw [hu j j0 j1]
    exact (cutF_in j0 j1).symm
  · rw [h56 j j0 j1]
    exact mb.2.2.2.1 j j0 j1
  · rw [hu j j0 j1]
    exact mb.2.2.2.1 j j0 j1
theorem rounds_179 (d : Nat) (h : mH) (sh : Sh h) (mb : MB h) (x1 x2 x3 : mV) (p l : Nat) (l0 : 1 ≤ l) (l1 : l ≤ 20000) (p1 : p ≤ 100000) (hpl : mIt (mcf h) (hA h 46) p = mIt (mcf h) (hA h 46) (p + l)) : ∀ (m : Nat) (i : Nat) (h' : mH), (p - i) < m → (i ≤ p) → (WR h h' i (i + l)) → (hF h' 41 41 = l) → (hF h' 41 40 = i) → Wp m_X6_rounds (d + 2) 179 [(2, 41), x1, x2, x3] [] h' (fun r t => (∃ y, r = some (0, y) ∧ (y = 0 ∨ (y = 1 ∧ 0 ≤ hF t 41 40 ∧ 1 ≤ hF t 41 41 ∧ hF t 41 40 + hF t 41 41 ≤ 20000))) ∧ Fr [50, 51, 52, 53, 55, 56] [(41, 40), (41, 41)] h t) := by
  intro m
  induction m with
  | zero => intro i h' hm; exact absurd hm (Nat.not_lt_zero _)
  | succ m ih =>
    intro i h' hm ip wr el ei
    obtain ⟨⟨r0, r1⟩, ⟨n0, n1⟩, ⟨m0, m1⟩, hp, hq⟩ := id mb
    have sh' := wr.sh sh
    obtain ⟨e6, e5, ec, e46⟩ := wr.e
    refine Wp.ald_n (j := 0) rfl dX6_rounds_179 ?_
    refine Wp.ald_n (j := 0) rfl dX6_rounds_180 ?_
    refine Wp.getf (k := 20) (tg := 2) kC6 (by decide) rfl lf_X6_63 dX6_rounds_181 (sK41 (h := h') sh') (sF41_20 (h := h') sh') ?_
    refine Wp.ald_n (j := 0) rfl dX6_rounds_184 ?_
    refine Wp.getf (k := 19) (tg := 2) kC6 (by decide) rfl lf_X6_60 dX6_rounds_185 (sK41 (h := h') sh') (sF41_19 (h := h') sh') ?_
    obtain ⟨_, t188, ct188, ⟨y188, rfl, hy188⟩, e188⟩ := cq_misLike (d + 1) h' sh' (by omega) 56 (sK56 sh') (sL56 sh') 55 (sK55 sh') (sL55 sh')
    rw [e188] at ct188
    refine Wp.callV1 (ct188) wc_X6_194 iM_X6_isLike se_X6_isLike kC6 (sK41 (h := h') sh') dX6_rounds_188 rfl (Nat.le_of_ble_eq_true rfl) rfl (Nat.le_of_ble_eq_true rfl) ?_
    refine Wp.ifne dX6_rounds_191 (by decide) (tgt := 223) (fun c191 => ?_) (fun c191 => ?_)
    · refine Wp.ald_n (j := 0) rfl dX6_rounds_223 ?_
      refine Wp.getf (k := 40) (tg := 0) kC6 (by decide) rfl lf_X6_199 dX6_rounds_224 (sK41 (h := h') sh') ei ?_
      refine Wp.ald_n (j := 0) rfl dX6_rounds_227 ?_
      refine Wp.getf (k := 41) (tg := 0) kC6 (by decide) rfl lf_X6_191 dX6_rounds_228 (sK41 (h := h') sh') el ?_
      refine Wp.iaddE dX6_rounds_231 (by first | exact w32_of (by omega) (by omega) | rfl) ?_
      refine Wp.sipush dX6_rounds_232 (by decide) ?_
      refine Wp.icgt dX6_rounds_235 (by decide) (tgt := 242) (fun c235 => ?_) (fun c235 => ?_)
      · refine Wp.iconst dX6_rounds_242 (by decide) ?_
        refine Wp.zret rfl dX6_rounds_243 (by omega) ?_
        exact ⟨⟨_, rfl, by first | (refine Or.inr ⟨rfl, ?_, ?_, ?_⟩ <;> (try rw [ei]) <;> (try rw [el]) <;> omega) | exact Or.inl rfl⟩, wr.1⟩
      · refine Wp.iconst dX6_rounds_238 (by decide) ?_
        refine Wp.goto (tgt := 243) dX6_rounds_239 (by decide) ?_
        refine Wp.zret rfl dX6_rounds_243 (by omega) ?_
        exact ⟨⟨_, rfl, by first | (refine Or.inr ⟨rfl, ?_, ?_, ?_⟩ <;> (try rw [ei]) <;> (try rw [el]) <;> omega) | exact Or.inl rfl⟩, wr.1⟩
    · refine Wp.ald_n (j := 0) rfl dX6_rounds_194 ?_
      refine Wp.ald_n (j := 0) rfl dX6_rounds_195 ?_
      refine Wp.getf (k := 20) (tg := 2) kC6 (by decide) rfl lf_X6_63 dX6_rounds_196 (sK41 (h := h') sh') (sF41_20 (h := h') sh') ?_
      have hne : i ≠ p := by
        intro e
        rcases hy188 with z | z
        · exact wr.unlike z.2 (by rw [e]; exact hpl)
        · omega
      obtain ⟨t199, ct199, wr199, f199⟩ := wr_tort d sh mb wr
      have sh199 := wr199.sh sh
      refine Wp.callV0 (ct199) wc_X6_166 iM_X6_tick se_X6_tick kC6 (sK41 (h := h') sh') dX6_rounds_199 rfl (Nat.le_of_ble_eq_true rfl) rfl (Nat.le_of_ble_eq_true rfl) ?_
      refine Wp.ald_n (j := 0) rfl dX6_rounds_202 ?_
      refine Wp.ald_n (j := 0) rfl dX6_rounds_203 ?_
      refine Wp.getf (k := 19) (tg := 2) kC6 (by decide) rfl lf_X6_60 dX6_rounds_204 (sK41 (h := t199) sh199) (sF41_19 (h := t199) sh199) ?_
      obtain ⟨t207, ct207, wr207, f207⟩ := wr_hare d sh mb wr199
      have sh207 := wr207.sh sh
      have e212 : hF t207 41 40 = i := by rw [f207, f199]; exact ei
      refine Wp.callV0 (ct207) wc_X6_166 iM_X6_tick se_X6_tick kC6 (sK41 (h := t199) sh199) dX6_rounds_207 rfl (Nat.le_of_ble_eq_true rfl) rfl (Nat.le_of_ble_eq_true rfl) ?_
      refine Wp.ald_n (j := 0) rfl dX6_rounds_210 ?_
      refine Wp.dup dX6_rounds_211 (Or.inr rfl) ?_
      refine Wp.getf (k := 40) (tg := 0) kC6 (by decide) rfl lf_X6_199 dX6_rounds_212 (sK41 (h := t207) sh207) e212 ?_
      refine Wp.iconst dX6_rounds_215 (by decide) ?_
      refine Wp.iaddE dX6_rounds_216 (by first | exact w32_of (by omega) (by omega) | rfl) ?_
      refine Wp.putf (k := 40) (tg := 0) kC6 (by decide) rfl rfl lf_X6_199 dX6_rounds_217 (sK41 (h := t207) sh207) ?_
      refine Wp.goto (tgt := 179) dX6_rounds_220 (by decide) ?_
      refine ih (i + 1) _ (by omega) (by omega) ?_ ?_ ?_
      · have wz := wr207.f (f := 40) ((i : Int) + 1) (Or.inl rfl)
        rw [show i + 1 + l = i + l + 1 by omega]
        exact wz
      · show hF t207 41 41 = _
        rw [f207, f199]
        exact el
      · show ((i : Int) + 1) = ((i + 1 : Nat) : Int)
        omega

theorem rounds_152 (d : Nat) (h : mH) (sh : Sh h) (mb : MB h) (x1 x2 : Int) (p l : Nat) (l0 : 1 ≤ l) (l1 : l ≤ 20000) (p1 : p ≤ 100000) (hpl : mIt (mcf h) (hA h 46) p = mIt (mcf h) (hA h 46) (p + l)) : ∀ (m : Nat) (k : Nat) (h' : mH), (l - k) < m → (k ≤ l) → (WR h h' 0 k) → (hF h' 41 41 = l) → Wp m_X6_rounds (d + 2) 152 [(2, 41), (0, x1), (0, x2), (0, (k : Int))] [] h' (fun r t => (∃ y, r = some (0, y) ∧ (y = 0 ∨ (y = 1 ∧ 0 ≤ hF t 41 40 ∧ 1 ≤ hF t 41 41 ∧ hF t 41 40 + hF t 41 41 ≤ 20000))) ∧ Fr [50, 51, 52, 53, 55, 56] [(41, 40), (41, 41)] h t) := by
  intro m
  induction m with
  | zero => intro k h' hm; exact absurd hm (Nat.not_lt_zero _)
  | succ m ih =>
    intro k h' hm kl wr el
    obtain ⟨⟨r0, r1⟩, ⟨n0, n1⟩, ⟨m0, m1⟩, hp, hq⟩ := id mb
    have sh' := wr.sh sh
    obtain ⟨e6, e5, ec, e46⟩ := wr.e
    refine Wp.ild_n (j := 3) rfl dX6_rounds_152 ?_
    refine Wp.ald_n (j := 0) rfl dX6_rounds_153 ?_
    refine Wp.getf (k := 41) (tg := 0) kC6 (by decide) rfl lf_X6_191 dX6_rounds_154 (sK41 (h := h') sh') el ?_
    refine Wp.icge dX6_rounds_157 (by decide) (tgt := 174) (fun c157 => ?_) (fun c157 => ?_)
    · refine Wp.ald_n (j := 0) rfl dX6_rounds_174 ?_
      refine Wp.iconst dX6_rounds_175 (by decide) ?_
      refine Wp.putf (k := 40) (tg := 0) kC6 (by decide) rfl rfl lf_X6_199 dX6_rounds_176 (sK41 (h := h') sh') ?_
      have ek : k = l := by omega
      subst ek
      refine rounds_179 d h sh mb _ _ _ p k l0 l1 p1 hpl _ 0 _ (Nat.lt_succ_self _) (by omega) ?_ el rfl
      rw [Nat.zero_add]
      exact wr.f (f := 40) 0 (Or.inl rfl)
    · refine Wp.ald_n (j := 0) rfl dX6_rounds_160 ?_
      refine Wp.ald_n (j := 0) rfl dX6_rounds_161 ?_
      refine Wp.getf (k := 19) (tg := 2) kC6 (by decide) rfl lf_X6_60 dX6_rounds_162 (sK41 (h := h') sh') (sF41_19 (h := h') sh') ?_
      obtain ⟨t165, ct165, wr165, f165⟩ := wr_hare d sh mb wr
      have sh165 := wr165.sh sh
      refine Wp.callV0 (ct165) wc_X6_166 iM_X6_tick se_X6_tick kC6 (sK41 (h := h') sh') dX6_rounds_165 rfl (Nat.le_of_ble_eq_true rfl) rfl (Nat.le_of_ble_eq_true rfl) ?_
      refine inc_4_3 rfl dX6_rounds_168 (by first | exact w32_of (by omega) (by omega) | rfl) ?_
      refine Wp.goto (tgt := 152) dX6_rounds_171 (by decide) ?_
      refine ih (k + 1) t165 (by omega) (by omega) wr165 ?_
      rw [f165]
      exact el

theorem rounds_122 (d : Nat) (h : mH) (sh : Sh h) (mb : MB h) (x1 x2 : Int) (x3 : mV) (p l : Nat) (l0 : 1 ≤ l) (p1 : p ≤ 100000) (l2 : l ≤ 100000) (hpl : mIt (mcf h) (hA h 46) p = mIt (mcf h) (hA h 46) (p + l)) (h' : mH) (i k : Nat) (wr : WR h h' i k) (el : hF h' 41 41 = l) : Wp m_X6_rounds (d + 2) 122 [(2, 41), (0, x1), (0, x2), x3] [] h' (fun r t => (∃ y, r = some (0, y) ∧ (y = 0 ∨ (y = 1 ∧ 0 ≤ hF t 41 40 ∧ 1 ≤ hF t 41 41 ∧ hF t 41 40 + hF t 41 41 ≤ 20000))) ∧ Fr [50, 51, 52, 53, 55, 56] [(41, 40), (41, 41)] h t) := by
  obtain ⟨⟨r0, r1⟩, ⟨n0, n1⟩, ⟨m0, m1⟩, hp, hq⟩ := id mb
  have sh' := wr.sh sh
  obtain ⟨e6, e5, ec, e46⟩ := wr.e
  refine Wp.ald_n (j := 0) rfl dX6_rounds_122 ?_
  refine Wp.getf (k := 41) (tg := 0) kC6 (by decide) rfl lf_X6_191 dX6_rounds_123 (sK41 (h := h') sh') el ?_
  refine Wp.sipush dX6_rounds_126 (by decide) ?_
  refine Wp.icle dX6_rounds_129 (by decide) (tgt := 134) (fun c129 => ?_) (fun c129 => ?_)
  · refine Wp.ald_n (j := 0) rfl dX6_rounds_134 ?_
    refine Wp.ald_n (j := 0) rfl dX6_rounds_135 ?_
    refine Wp.getf (k := 20) (tg := 2) kC6 (by decide) rfl lf_X6_63 dX6_rounds_136 (sK41 (h := h') sh') (sF41_20 (h := h') sh') ?_
    obtain ⟨t139, u139, ct139, cu139, wr139, f139, sh139⟩ := wr_begin (d + 1) sh mb wr.1
    refine Wp.callV0 (ct139) wc_X6_188 iM_X6_begin se_X6_begin kC6 (sK41 (h := h') sh') dX6_rounds_139 rfl (Nat.le_of_ble_eq_true rfl) rfl (Nat.le_of_ble_eq_true rfl) ?_
    refine Wp.ald_n (j := 0) rfl dX6_rounds_142 ?_
    refine Wp.ald_n (j := 0) rfl dX6_rounds_143 ?_
    refine Wp.getf (k := 19) (tg := 2) kC6 (by decide) rfl lf_X6_60 dX6_rounds_144 (sK41 (h := t139) sh139) (sF41_19 (h := t139) sh139) ?_
    have sh147 := wr139.sh sh
    refine Wp.callV0 (cu139) wc_X6_188 iM_X6_begin se_X6_begin kC6 (sK41 (h := t139) sh139) dX6_rounds_147 rfl (Nat.le_of_ble_eq_true rfl) rfl (Nat.le_of_ble_eq_true rfl) ?_
    refine Wp.iconst dX6_rounds_150 (by decide) ?_
    refine sti_4_3 rfl (dSt_n dX6_rounds_151) ?_
    refine rounds_152 d h sh mb x1 x2 p l l0 (by omega) p1 hpl _ 0 u139 (Nat.lt_succ_self _) (by omega) wr139 ?_
    rw [f139]
    exact el
  · refine Wp.iconst dX6_rounds_132 (by decide) ?_
    refine Wp.zret rfl dX6_rounds_133 (by omega) ?_
    exact ⟨⟨_, rfl, Or.inl rfl⟩, wr.1⟩

theorem rounds_93 (d : Nat) (h : mH) (sh : Sh h) (mb : MB h) (pw st q : Int) (x3 : mV) (i k : Nat) (h' : mH) (wr : WR h h' i k) (eq : hF h' 41 41 = q) (q0 : 0 ≤ q ∧ q ≤ 100000) (s0 : 0 ≤ st ∧ st ≤ 100000) (Q : Option mV → mH → Prop) (kq : ∀ t : mH, WR h t i (k + 1) → hF t 41 41 = q + 1 → st + 1 ≤ 100000 → Wp m_X6_rounds (d + 2) 33 [(2, 41), (0, pw), (0, st + 1), x3] [] t Q) (kx : ∀ t : mH, WR h t i (k + 1) → Q (some (0, 0)) t) : Wp m_X6_rounds (d + 2) 93 [(2, 41), (0, pw), (0, st), x3] [] h' Q := by
  obtain ⟨⟨r0, r1⟩, ⟨n0, n1⟩, ⟨m0, m1⟩, hp, hq⟩ := id mb
  have sh' := wr.sh sh
  obtain ⟨e6, e5, ec, e46⟩ := wr.e
  refine Wp.ald_n (j := 0) rfl dX6_rounds_93 ?_
  refine Wp.ald_n (j := 0) rfl dX6_rounds_94 ?_
  refine Wp.getf (k := 19) (tg := 2) kC6 (by decide) rfl lf_X6_60 dX6_rounds_95 (sK41 (h := h') sh') (sF41_19 (h := h') sh') ?_
  obtain ⟨t98, ct98, wr98, f98⟩ := wr_hare d sh mb wr
  have sh98 := wr98.sh sh
  have e103 : hF t98 41 41 = q := by rw [f98]; exact eq
  refine Wp.callV0 (ct98) wc_X6_166 iM_X6_tick se_X6_tick kC6 (sK41 (h := h') sh') dX6_rounds_98 rfl (Nat.le_of_ble_eq_true rfl) rfl (Nat.le_of_ble_eq_true rfl) ?_
  refine Wp.ald_n (j := 0) rfl dX6_rounds_101 ?_
  refine Wp.dup dX6_rounds_102 (Or.inr rfl) ?_
  refine Wp.getf (k := 41) (tg := 0) kC6 (by decide) rfl lf_X6_191 dX6_rounds_103 (sK41 (h := t98) sh98) e103 ?_
  refine Wp.iconst dX6_rounds_106 (by decide) ?_
  refine Wp.iaddE dX6_rounds_107 (by first | exact w32_of (by omega) (by omega) | rfl) ?_
  refine Wp.putf (k := 41) (tg := 0) kC6 (by decide) rfl rfl lf_X6_191 dX6_rounds_108 (sK41 (h := t98) sh98) ?_
  refine inc_4_2 rfl dX6_rounds_111 (by first | exact w32_of (by omega) (by omega) | rfl) ?_
  refine Wp.ild_n (j := 2) rfl dX6_rounds_114 ?_
  refine Wp.ldc (z := 100000) lk_X6_198 (by decide) dX6_rounds_115 ?_
  refine Wp.icle dX6_rounds_117 (by decide) (tgt := 33) (fun c117 => ?_) (fun c117 => ?_)
  · exact kq _ (wr98.f (f := 41) (q + 1) (Or.inr rfl)) rfl (by omega)
  · refine Wp.iconst dX6_rounds_120 (by decide) ?_
    refine Wp.zret rfl dX6_rounds_121 (by omega) ?_
    exact kx _ (wr98.f (f := 41) (q + 1) (Or.inr rfl))

theorem rounds_58 (d : Nat) (h : mH) (sh : Sh h) (mb : MB h) (pw st : Int) (k : Nat) (Q : Option mV → mH → Prop) (kq : ∀ (t : mH) (i : Int), WR h t k k → Wp m_X6_rounds (d + 2) 84 [(2, 41), (0, pw), (0, st), (0, i)] [] t Q) : ∀ (m : Nat) (i : Int) (p : Nat) (h' h2 : mH), (hF h 41 6 - i).toNat < m → (0 ≤ i) → (WR h h2 p k) → (Fr [56] [] h2 h') → (∀ j, 0 ≤ j → j < i → hA h' 56 j = hA h2 55 j) → Wp m_X6_rounds (d + 2) 58 [(2, 41), (0, pw), (0, st), (0, i)] [] h' Q := by
  intro m
  induction m with
  | zero => intro i p h' h2 hm; exact absurd hm (Nat.not_lt_zero _)
  | succ m ih =>
    intro i p h' h2 hm i0 wr fr hj
    obtain ⟨⟨r0, r1⟩, ⟨n0, n1⟩, ⟨m0, m1⟩, hp, hq⟩ := id mb
    have sh' := (wr.sh sh).fr fr (by decide +kernel) (by decide)
    have e6 : hF h' 41 6 = hF h 41 6 := (fr.2.2.2.2.1 41 6 (by simp)).trans wr.e.1
    have e55 : hA h' 55 = hA h2 55 := fr.2.2.2.2.2 55 (by decide)
    refine Wp.ild_n (j := 3) rfl dX6_rounds_58 ?_
    refine Wp.ald_n (j := 0) rfl dX6_rounds_59 ?_
    refine Wp.getf (k := 6) (tg := 0) kC6 (by decide) rfl lf_X6_141 dX6_rounds_60 (sK41 (h := h') sh') e6 ?_
    refine Wp.icge dX6_rounds_63 (by decide) (tgt := 84) (fun c63 => ?_) (fun c63 => ?_)
    · refine kq h' i ⟨wr.1.tr (fr.mono (by decide) (by simp)), ⟨fun j j0 j1 => ?_, wr.2.1.2.keep fr (by decide)⟩, fun j j0 j1 => ?_, wr.2.2.2.keep fr (by decide)⟩
      · rw [hj j j0 (by omega)]
        exact wr.2.1.2 j j0 j1
      · rw [hj j j0 (by omega)]
        exact wr.2.2.2 j j0 j1
    · refine Wp.ald_n (j := 0) rfl dX6_rounds_66 ?_
      refine Wp.getf (k := 20) (tg := 2) kC6 (by decide) rfl lf_X6_63 dX6_rounds_67 (sK41 (h := h') sh') (sF41_20 (h := h') sh') ?_
      refine Wp.ild_n (j := 3) rfl dX6_rounds_70 ?_
      refine Wp.ald_n (j := 0) rfl dX6_rounds_71 ?_
      refine Wp.getf (k := 19) (tg := 2) kC6 (by decide) rfl lf_X6_60 dX6_rounds_72 (sK41 (h := h') sh') (sF41_19 (h := h') sh') ?_
      refine Wp.ild_n (j := 3) rfl dX6_rounds_75 ?_
      refine Wp.iaload dX6_rounds_76 (sK55 (h := h') sh') (by omega) (ilt (sL55 (h := h') sh') (by omega)) (show hA _ 55 _ = hA h2 55 _ from congrFun e55 _) ?_
      refine Wp.iastore dX6_rounds_77 (sK56 (h := h') sh') (by omega) (ilt (sL56 (h := h') sh') (by omega)) ?_
      refine inc_4_3 rfl dX6_rounds_78 (by first | exact w32_of (by omega) (by omega) | rfl) ?_
      refine Wp.goto (tgt := 58) dX6_rounds_81 (by decide) ?_
      refine ih (i + 1) p _ h2 (by omega) (by omega) wr (fr.tr (Fr.e (by simp))) (fun j j0 j1 => ?_)
      rw [hA_sEs]
      by_cases e : j = i
      · rw [e, u1_s]
      · rw [u1_n _ _ e]
        exact hj j j0 (by omega)

theorem rounds_33 (d : Nat) (h : mH) (sh : Sh h) (mb : MB h) : ∀ (m : Nat) (st pw : Int) (p l : Nat) (x3 : mV) (h' : mH), (100001 - st).toNat < m → (1 ≤ l) → (st = (p : Int) + l) → (st ≤ 100000) → (WR h h' p (p + l)) → (hF h' 41 41 = l) → Wp m_X6_rounds (d + 2) 33 [(2, 41), (0, pw), (0, st), x3] [] h' (fun r t => (∃ y, r = some (0, y) ∧ (y = 0 ∨ (y = 1 ∧ 0 ≤ hF t 41 40 ∧ 1 ≤ hF t 41 41 ∧ hF t 41 40 + hF t 41 41 ≤ 20000))) ∧ Fr [50, 51, 52, 53, 55, 56] [(41, 40), (41, 41)] h t) := by
  intro m
  induction m with
  | zero => intro st pw p l x3 h' hm; exact absurd hm (Nat.not_lt_zero _)
  | succ m ih =>
    intro st pw p l x3 h' hm l0 es s1 wr el
    obtain ⟨⟨r0, r1⟩, ⟨n0, n1⟩, ⟨m0, m1⟩, hp, hq⟩ := id mb
    have sh' := wr.sh sh
    obtain ⟨e6, e5, ec, e46⟩ := wr.e
    refine Wp.ald_n (j := 0) rfl dX6_rounds_33 ?_
    refine Wp.ald_n (j := 0) rfl dX6_rounds_34 ?_
    refine Wp.getf (k := 20) (tg := 2) kC6 (by decide) rfl lf_X6_63 dX6_rounds_35 (sK41 (h := h') sh') (sF41_20 (h := h') sh') ?_
    refine Wp.ald_n (j := 0) rfl dX6_rounds_38 ?_
    refine Wp.getf (k := 19) (tg := 2) kC6 (by decide) rfl lf_X6_60 dX6_rounds_39 (sK41 (h := h') sh') (sF41_19 (h := h') sh') ?_
    obtain ⟨_, t42, ct42, ⟨y42, rfl, hy42⟩, e42⟩ := cq_misLike (d + 1) h' sh' (by omega) 56 (sK56 sh') (sL56 sh') 55 (sK55 sh') (sL55 sh')
    rw [e42] at ct42
    refine Wp.callV1 (ct42) wc_X6_194 iM_X6_isLike se_X6_isLike kC6 (sK41 (h := h') sh') dX6_rounds_42 rfl (Nat.le_of_ble_eq_true rfl) rfl (Nat.le_of_ble_eq_true rfl) ?_
    refine Wp.ifne dX6_rounds_45 (by decide) (tgt := 122) (fun c45 => ?_) (fun c45 => ?_)
    · have hl : mIt (mcf h) (hA h 46) p = mIt (mcf h) (hA h 46) (p + l) := by
        rcases hy42 with z | z
        · omega
        · exact wr.like z.2
      exact rounds_122 d h sh mb pw st x3 p l l0 (by omega) (by omega) hl h' _ _ wr el
    · refine Wp.ild_n (j := 1) rfl dX6_rounds_48 ?_
      refine Wp.ald_n (j := 0) rfl dX6_rounds_49 ?_
      refine Wp.getf (k := 41) (tg := 0) kC6 (by decide) rfl lf_X6_191 dX6_rounds_50 (sK41 (h := h') sh') el ?_
      refine Wp.icne dX6_rounds_53 (by decide) (tgt := 93) (fun c53 => ?_) (fun c53 => ?_)
      · refine rounds_93 d h sh mb pw st l x3 p (p + l) h' wr el (by omega) (by omega) _ (fun t wt et s2 => ?_) (fun t wt => ⟨⟨_, rfl, Or.inl rfl⟩, wt.1⟩)
        clear hy42
        exact ih (st + 1) pw p (l + 1) _ t (by omega) (by omega) (by omega) s2 wt (by rw [et]; omega)
      · refine Wp.iconst dX6_rounds_56 (by decide) ?_
        refine sti_4_3 rfl (dSt_n dX6_rounds_57) ?_
        refine rounds_58 d h sh mb pw st (p + l) _ (fun t i wt => ?_) _ 0 p h' h' (Nat.lt_succ_self _) (by omega) wr Fr.rf (fun j j0 j1 => absurd j1 (by omega))
        refine Wp.ild_n (j := 1) rfl dX6_rounds_84 ?_
        refine Wp.iconst dX6_rounds_85 (by decide) ?_
        refine Wp.imulE dX6_rounds_86 rfl ?_
        refine sti_4_1 rfl (dSt_n dX6_rounds_87) ?_
        refine Wp.ald_n (j := 0) rfl dX6_rounds_88 ?_
        refine Wp.iconst dX6_rounds_89 (by decide) ?_
        refine Wp.putf (k := 41) (tg := 0) kC6 (by decide) rfl rfl lf_X6_191 dX6_rounds_90 (sK41 (h := t) (wt.sh sh)) ?_
        refine rounds_93 d h sh mb _ st 0 _ (p + l) (p + l) _ (wt.f (f := 41) 0 (Or.inr rfl)) rfl (by omega) (by omega) _ (fun u wu eu s2 => ?_) (fun u wu => ⟨⟨_, rfl, Or.inl rfl⟩, wu.1⟩)
        exact ih (st + 1) _ (p + l) 1 _ u (by omega) (by omega) (by omega) s2 wu (by rw [eu]; rfl)

theorem cq_rounds (d : Nat) (h : mH) (sh : Sh h) (mb : MB h) : Cq m_X6_rounds (d + 2) [(2, 41)] h (fun r t => (∃ y, r = some (0, y) ∧ (y = 0 ∨ (y = 1 ∧ 0 ≤ hF t 41 40 ∧ 1 ≤ hF t 41 41 ∧ hF t 41 40 + hF t 41 41 ≤ 20000))) ∧ Fr [50, 51, 52, 53, 55, 56] [(41, 40), (41, 41)] h t) := by
  refine Cq.of ?_
  show Wp m_X6_rounds ((d + 2)) 0 [(2, 41), (9, 0), (9, 0), (9, 0)] [] h _
  refine Wp.ald_n (j := 0) rfl dX6_rounds_0 ?_
  refine Wp.ald_n (j := 0) rfl dX6_rounds_1 ?_
  refine Wp.getf (k := 20) (tg := 2) kC6 (by decide) rfl lf_X6_63 dX6_rounds_2 (sK41 (h := h) sh) (sF41_20 (h := h) sh) ?_
  obtain ⟨t5, u5, ct5, cu5, wr5, f5, sh5⟩ := wr_begin (d + 1) sh mb Fr.rf
  refine Wp.callV0 (ct5) wc_X6_188 iM_X6_begin se_X6_begin kC6 (sK41 (h := h) sh) dX6_rounds_5 rfl (Nat.le_of_ble_eq_true rfl) rfl (Nat.le_of_ble_eq_true rfl) ?_
  refine Wp.ald_n (j := 0) rfl dX6_rounds_8 ?_
  refine Wp.ald_n (j := 0) rfl dX6_rounds_9 ?_
  refine Wp.getf (k := 19) (tg := 2) kC6 (by decide) rfl lf_X6_60 dX6_rounds_10 (sK41 (h := t5) sh5) (sF41_19 (h := t5) sh5) ?_
  have sh13 := wr5.sh sh
  refine Wp.callV0 (cu5) wc_X6_188 iM_X6_begin se_X6_begin kC6 (sK41 (h := t5) sh5) dX6_rounds_13 rfl (Nat.le_of_ble_eq_true rfl) rfl (Nat.le_of_ble_eq_true rfl) ?_
  refine Wp.ald_n (j := 0) rfl dX6_rounds_16 ?_
  refine Wp.ald_n (j := 0) rfl dX6_rounds_17 ?_
  refine Wp.getf (k := 19) (tg := 2) kC6 (by decide) rfl lf_X6_60 dX6_rounds_18 (sK41 (h := u5) sh13) (sF41_19 (h := u5) sh13) ?_
  obtain ⟨t21, ct21, wr21, f21⟩ := wr_hare d sh mb wr5
  have sh21 := wr21.sh sh
  refine Wp.callV0 (ct21) wc_X6_166 iM_X6_tick se_X6_tick kC6 (sK41 (h := u5) sh13) dX6_rounds_21 rfl (Nat.le_of_ble_eq_true rfl) rfl (Nat.le_of_ble_eq_true rfl) ?_
  refine Wp.iconst dX6_rounds_24 (by decide) ?_
  refine sti_4_1 rfl (dSt_n dX6_rounds_25) ?_
  refine Wp.ald_n (j := 0) rfl dX6_rounds_26 ?_
  refine Wp.iconst dX6_rounds_27 (by decide) ?_
  refine Wp.putf (k := 41) (tg := 0) kC6 (by decide) rfl rfl lf_X6_191 dX6_rounds_28 (sK41 (h := t21) sh21) ?_
  refine Wp.iconst dX6_rounds_31 (by decide) ?_
  refine sti_4_2 rfl (dSt_n dX6_rounds_32) ?_
  exact rounds_33 d h sh mb _ 1 1 0 1 _ _ (Nat.lt_succ_self _) (by omega) (by omega) (by omega) (wr21.f (f := 41) 1 (Or.inr rfl)) rfl

