/-! ===== the class's tick, told purely ===== -/
def ccf (h : mH) : mCf := ((hF h 2 1, hF h 2 0, hF h 2 8), hA h 3, hA h 6, hA h 7)
theorem ccf_fr {A : List Int} {G : List (Int × Nat)} {h h' : mH} (fr : Fr A G h h') (a3 : (3 : Int) ∉ A) (a6 : (6 : Int) ∉ A) (a7 : (7 : Int) ∉ A) (g0 : ((2 : Int), 0) ∉ G) (g1 : ((2 : Int), 1) ∉ G) (g8 : ((2 : Int), 8) ∉ G) : ccf h' = ccf h := by
  unfold ccf
  rw [fr.2.2.2.2.1 2 0 g0, fr.2.2.2.2.1 2 1 g1, fr.2.2.2.2.1 2 8 g8, fr.2.2.2.2.2 3 a3, fr.2.2.2.2.2 6 a6, fr.2.2.2.2.2 7 a7]
/-- the line: how many; who; phases; the set of those in it -/
abbrev cS : Type := Int × (Int → Int) × (Int → Int) × Int
def cl2 (c : mCf) : Nat → Int → cS → cS
  | 0, _, s => s
  | m + 1, k, s => if k < c.1.1 then cl2 c m (k + 1) (if c.2.1 k = 2 ∧ c.1.2.1 ≤ s.2.2.1 k then (s.1 + 1, u1 s.2.1 s.1 k, s.2.2.1, kor s.2.2.2 (kshl 1 k)) else s) else s
def cvw (c : mCf) (k : Int) (s : cS) : Int := s.2.2.1 k + c.2.2.2 ((s.2.2.1 k * c.1.2.2).tdiv c.1.2.1)
def ci1 (c : mCf) (b k : Int) (s : cS) : cS := if c.2.1 k ≠ 2 then s else if kand (kshr s.2.2.2 k) 1 ≠ 0 then s else if kand (kshr (c.2.2.1 k) b) 1 = 0 then s else if cvw c k s < c.1.2.1 then (s.1, s.2.1, u1 s.2.2.1 k (cvw c k s), s.2.2.2) else (s.1 + 1, u1 s.2.1 s.1 k, u1 s.2.2.1 k (cvw c k s), kor s.2.2.2 (kshl 1 k))
def ci3 (c : mCf) (b : Int) : Nat → Int → cS → cS
  | 0, _, s => s
  | m + 1, k, s => if k < c.1.1 then ci3 c b m (k + 1) (ci1 c b k s) else s
def co9 (c : mCf) : Nat → Int → cS → cS
  | 0, _, s => s
  | m + 1, k, s => if k < s.1 then co9 c m (k + 1) (ci3 c (s.2.1 k) 25 0 (s.1, s.2.1, u1 s.2.2.1 (s.2.1 k) 0, s.2.2.2)) else s
def cRl (n : Int) (h : mH) (s : cS) : Prop := (∀ j, 0 ≤ j → j < n → hA h 8 j = s.2.2.1 j) ∧ ∀ i, 0 ≤ i → i < s.1 → hA h 9 i = s.2.1 i
theorem cRl.up {n a v : Int} {h : mH} {s : cS} (rl : cRl n h s) : cRl n (sE h 8 a v) (s.1, s.2.1, u1 s.2.2.1 a v, s.2.2.2) := by
  refine ⟨fun j j0 j1 => ?_, fun i i0 i1 => ?_⟩
  · rw [hA_sEs]
    exact u1_cg (fun _ => rl.1 j j0 j1)
  · rw [hA_sEn (by decide)]
    exact rl.2 i i0 i1
theorem cRl.app {n a : Int} {h : mH} {s : cS} (rl : cRl n h s) (x : Int) : cRl n (sE h 9 s.1 a) (s.1 + 1, u1 s.2.1 s.1 a, s.2.2.1, x) := by
  refine ⟨fun j j0 j1 => ?_, fun i i0 i1 => ?_⟩
  · rw [hA_sEn (by decide)]
    exact rl.1 j j0 j1
  · have i1' : i < s.1 + 1 := i1
    rw [hA_sEs]
    exact u1_cg (fun e => rl.2 i i0 (by omega))
theorem cRl.tal {n a v : Int} {h : mH} {s : cS} (rl : cRl n h s) : cRl n (sE h 12 a v) s := by
  refine ⟨fun j j0 j1 => ?_, fun i i0 i1 => ?_⟩
  · rw [hA_sEn (by decide)]
    exact rl.1 j j0 j1
  · rw [hA_sEn (by decide)]
    exact rl.2 i i0 i1
def cLI (n r m b k : Int) (s : cS) : Prop := LI s.2.2.1 s.2.1 s.2.2.2 s.1 k r n m b
theorem ct_pushAtX (d : Nat) (h : mH) (sh : Sh h) (bi : BI h) (p : Int) (p0 : 0 ≤ p) (p1 : p < hF h 2 0) : Ct m_X0_pushAt d [(2, 2), (0, p)] h (some (0, hA h 7 ((p * hF h 2 8).tdiv (hF h 2 0)))) h := by
  refine Ct.of ?_
  show Wp m_X0_pushAt (d) 0 [(2, 2), (0, p), (9, 0)] [] h _
  obtain ⟨⟨r0, r1⟩, ⟨n0, n1⟩, ⟨m0, m1⟩, hp, hq⟩ := id bi
  have hm := mul_bd (a := p) (b := hF h 2 8) (A := 4096) (B := 16) p0 (by omega) (by omega) m1
  have ht := tdn (a := p * hF h 2 8) (b := hF h 2 0) hm.1 (by omega)
  have hq7 : (p * hF h 2 8).tdiv (hF h 2 0) < 16 := by
    have h7 : (p * hF h 2 8).tdiv (hF h 2 0) < hF h 2 8 := by
      rw [Int.tdiv_eq_ediv_of_nonneg hm.1]
      refine Int.ediv_lt_of_lt_mul (by omega) ?_
      rw [Int.mul_comm (hF h 2 8) (hF h 2 0)]
      exact Int.mul_lt_mul_of_pos_right p1 (by omega)
    omega
  refine Wp.ald_n (j := 0) rfl dX0_pushAt_0 ?_
  refine Wp.getf (k := 0) (tg := 0) kC0 (by decide) rfl lf_X0_9 dX0_pushAt_1 (sK2 (h := h) sh) (show hF _ 2 0 = hF h 2 0 from rfl) ?_
  refine Wp.ifle dX0_pushAt_4 (by decide) (tgt := 21) (fun c4 => absurd c4 (by omega)) (fun _ => ?_)
  refine Wp.ild_n (j := 1) rfl dX0_pushAt_7 ?_
  refine Wp.ald_n (j := 0) rfl dX0_pushAt_8 ?_
  refine Wp.getf (k := 8) (tg := 0) kC0 (by decide) rfl lf_X0_37 dX0_pushAt_9 (sK2 (h := h) sh) (show hF _ 2 8 = hF h 2 8 from rfl) ?_
  refine Wp.imulE dX0_pushAt_12 (w32_of (by omega) (by omega)) ?_
  refine Wp.ald_n (j := 0) rfl dX0_pushAt_13 ?_
  refine Wp.getf (k := 0) (tg := 0) kC0 (by decide) rfl lf_X0_9 dX0_pushAt_14 (sK2 (h := h) sh) (show hF _ 2 0 = hF h 2 0 from rfl) ?_
  refine Wp.idivE dX0_pushAt_17 (by omega) (w32_of (by omega) (by omega)) ?_
  refine Wp.goto (tgt := 22) dX0_pushAt_18 (by decide) ?_
  refine sti_3_2 rfl (dSt_n dX0_pushAt_22) ?_
  refine Wp.ild_n (j := 2) rfl dX0_pushAt_23 ?_
  refine Wp.iflt dX0_pushAt_24 (by decide) (tgt := 45) (fun c24 => absurd c24 (by omega)) (fun _ => ?_)
  refine Wp.ild_n (j := 2) rfl dX0_pushAt_27 ?_
  refine Wp.ald_n (j := 0) rfl dX0_pushAt_28 ?_
  refine Wp.getf (k := 7) (tg := 2) kC0 (by decide) rfl lf_X0_34 dX0_pushAt_29 (sK2 (h := h) sh) (sF2_7 (h := h) sh) ?_
  refine Wp.alen dX0_pushAt_32 (by decide) (by decide) (sK7 (h := h) sh) (sL7 (h := h) sh) (by omega) ?_
  refine Wp.icge dX0_pushAt_33 (by decide) (tgt := 45) (fun c33 => absurd c33 (by omega)) (fun _ => ?_)
  refine Wp.ald_n (j := 0) rfl dX0_pushAt_36 ?_
  refine Wp.getf (k := 7) (tg := 2) kC0 (by decide) rfl lf_X0_34 dX0_pushAt_37 (sK2 (h := h) sh) (sF2_7 (h := h) sh) ?_
  refine Wp.ild_n (j := 2) rfl dX0_pushAt_40 ?_
  refine Wp.iaload dX0_pushAt_41 (sK7 (h := h) sh) (by omega) (ilt (sL7 (h := h) sh) (by omega)) (show hA _ 7 _ = hA h 7 _ from rfl) ?_
  refine Wp.goto (tgt := 46) dX0_pushAt_42 (by decide) ?_
  refine Wp.iret rfl dX0_pushAt_46 ?_
  exact ⟨rfl, rfl⟩

theorem xfire_in (d : Nat) (h : mH) (sh : Sh h) (bi : BI h) (fst b : Int) (hb : 0 ≤ b ∧ b < hF h 2 1) (F : cS) (Q : Option mV → mH → Prop) (hq9 : ∀ (t : mH) (i : Int) (x7 : mV), Fr [8, 9, 12] [] h t → cRl (hF h 2 1) t F → fst + 1 ≤ F.1 → cLI (hF h 2 1) (hF h 2 0) (hF h 2 1) (hF h 2 1) (fst + 1) F → Wp m_X0_fire (d + 1) 240 [(2, 2), (2, 12), (0, F.1), (0, F.2.2.2), (0, fst), (0, b), (0, i), x7] [] t Q) : ∀ (m : Nat) (k : Int) (s : cS) (h' : mH) (x7 : mV), (hF h 2 1 - k).toNat < m → (0 ≤ k) → (Fr [8, 9, 12] [] h h') → (cRl (hF h 2 1) h' s) → (fst + 1 ≤ s.1) → (cLI (hF h 2 1) (hF h 2 0) (hF h 2 1) (hF h 2 1) (fst + 1) s) → (ci3 (ccf h) b m k s = F) → Wp m_X0_fire (d + 1) 111 [(2, 2), (2, 12), (0, s.1), (0, s.2.2.2), (0, fst), (0, b), (0, k), x7] [] h' Q := by
  intro m
  induction m with
  | zero => intro k s h' x7 hm; exact absurd hm (Nat.not_lt_zero _)
  | succ m ih =>
    intro k s h' x7 hm k0 fr rl hfl li eF
    have sh' := sh.fr fr (by decide +kernel) (by decide)
    have e0 : hF h' 2 0 = hF h 2 0 := fr.2.2.2.2.1 2 0 (by decide)
    have e1 : hF h' 2 1 = hF h 2 1 := fr.2.2.2.2.1 2 1 (by decide)
    have e8 : hF h' 2 8 = hF h 2 8 := fr.2.2.2.2.1 2 8 (by decide)
    have e3 : hA h' 3 = hA h 3 := fr.2.2.2.2.2 3 (by decide)
    have e6 : hA h' 6 = hA h 6 := fr.2.2.2.2.2 6 (by decide)
    have e7 : hA h' 7 = hA h 7 := fr.2.2.2.2.2 7 (by decide)
    obtain ⟨⟨r0, r1⟩, ⟨n0, n1⟩, ⟨m0, m1⟩, hp, hq⟩ := id bi
    refine Wp.ild (j := 6) rfl dX0_fire_111 ?_
    refine Wp.ald_n (j := 0) rfl dX0_fire_113 ?_
    refine Wp.getf (k := 1) (tg := 0) kC0 (by decide) rfl lf_X0_15 dX0_fire_114 (sK2 (h := h') sh') e1 ?_
    refine Wp.icge dX0_fire_117 (by decide) (tgt := 240) (fun c117 => ?_) (fun c117 => ?_)
    · have hu : ci3 (ccf h) b (m + 1) k s = s := if_neg (show ¬ k < hF h 2 1 by omega)
      rw [hu] at eF
      subst eF
      exact hq9 h' k _ fr rl hfl li
    · refine Wp.ald_n (j := 0) rfl dX0_fire_120 ?_
      refine Wp.getf (k := 3) (tg := 2) kC0 (by decide) rfl lf_X0_21 dX0_fire_121 (sK2 (h := h') sh') (sF2_3 (h := h') sh') ?_
      refine Wp.ild (j := 6) rfl dX0_fire_124 ?_
      refine Wp.iaload dX0_fire_126 (sK3 (h := h') sh') (by omega) (ilt (sL3 (h := h') sh') (by omega)) (congrFun e3 k) ?_
      refine Wp.iconst dX0_fire_127 (by decide) ?_
      refine Wp.icne dX0_fire_128 (by decide) (tgt := 159) (fun c128 => ?_) (fun c128 => ?_)
      · refine Wp.iconst dX0_fire_159 (by decide) ?_
        refine sti_8_7 rfl (dSt_w dX0_fire_160) ?_
        refine Wp.ild (j := 7) rfl dX0_fire_162 ?_
        refine Wp.ifeq dX0_fire_164 (by decide) (tgt := 188) (fun _ => ?_) (fun c => absurd c (by decide))
        refine Wp.ild (j := 7) rfl dX0_fire_188 ?_
        refine Wp.ifeq dX0_fire_190 (by decide) (tgt := 234) (fun _ => ?_) (fun c => absurd c (by decide))
        refine inc_8_6 rfl dX0_fire_234 (by first | exact w32_of (by omega) (by omega) | rfl) ?_
        refine Wp.goto (tgt := 111) dX0_fire_237 (by decide) ?_
        have hu : ci3 (ccf h) b (m + 1) k s = ci3 (ccf h) b m (k + 1) (ci1 (ccf h) b k s) := if_pos (show k < hF h 2 1 by omega)
        rw [hu] at eF
        unfold ci1 at eF
        rw [if_pos (show (ccf h).2.1 k ≠ 2 from c128)] at eF
        exact ih (k + 1) s h' _ (by omega) (by omega) fr rl hfl li eF
      · refine Wp.ild_n (j := 3) rfl dX0_fire_131 ?_
        refine Wp.ild (j := 6) rfl dX0_fire_132 ?_
        refine Wp.callS1 (ct_holds d _ _ _) wc_X0_75 sM_X0_holds dX0_fire_134 rfl (Nat.le_of_ble_eq_true rfl) rfl (Nat.le_of_ble_eq_true rfl) ?_
        refine Wp.ifne dX0_fire_137 (by decide) (tgt := 159) (fun c137 => ?_) (fun c137 => ?_)
        · refine Wp.iconst dX0_fire_159 (by decide) ?_
          refine sti_8_7 rfl (dSt_w dX0_fire_160) ?_
          refine Wp.ild (j := 7) rfl dX0_fire_162 ?_
          refine Wp.ifeq dX0_fire_164 (by decide) (tgt := 188) (fun _ => ?_) (fun c => absurd c (by decide))
          refine Wp.ild (j := 7) rfl dX0_fire_188 ?_
          refine Wp.ifeq dX0_fire_190 (by decide) (tgt := 234) (fun _ => ?_) (fun c => absurd c (by decide))
          refine inc_8_6 rfl dX0_fire_234 (by first | exact w32_of (by omega) (by omega) | rfl) ?_
          refine Wp.goto (tgt := 111) dX0_fire_237 (by decide) ?_
          have hu : ci3 (ccf h) b (m + 1) k s = ci3 (ccf h) b m (k + 1) (ci1 (ccf h) b k s) := if_pos (show k < hF h 2 1 by omega)
          rw [hu] at eF
          unfold ci1 at eF
          rw [if_neg (show ¬ (ccf h).2.1 k ≠ 2 from fun z => z c128)] at eF
          rw [if_pos (show kand (kshr s.2.2.2 k) 1 ≠ 0 from holds_t c137)] at eF
          exact ih (k + 1) s h' _ (by omega) (by omega) fr rl hfl li eF
        · refine Wp.ald_n (j := 0) rfl dX0_fire_140 ?_
          refine Wp.getf (k := 6) (tg := 2) kC0 (by decide) rfl lf_X0_31 dX0_fire_141 (sK2 (h := h') sh') (sF2_6 (h := h') sh') ?_
          refine Wp.ild (j := 6) rfl dX0_fire_144 ?_
          refine Wp.iaload dX0_fire_146 (sK6 (h := h') sh') (by omega) (ilt (sL6 (h := h') sh') (by omega)) (congrFun e6 k) ?_
          refine Wp.ild (j := 5) rfl dX0_fire_147 ?_
          refine Wp.callS1 (ct_holds d _ _ _) wc_X0_75 sM_X0_holds dX0_fire_149 rfl (Nat.le_of_ble_eq_true rfl) rfl (Nat.le_of_ble_eq_true rfl) ?_
          refine Wp.ifeq dX0_fire_152 (by decide) (tgt := 159) (fun c152 => ?_) (fun c152 => ?_)
          · refine Wp.iconst dX0_fire_159 (by decide) ?_
            refine sti_8_7 rfl (dSt_w dX0_fire_160) ?_
            refine Wp.ild (j := 7) rfl dX0_fire_162 ?_
            refine Wp.ifeq dX0_fire_164 (by decide) (tgt := 188) (fun _ => ?_) (fun c => absurd c (by decide))
            refine Wp.ild (j := 7) rfl dX0_fire_188 ?_
            refine Wp.ifeq dX0_fire_190 (by decide) (tgt := 234) (fun _ => ?_) (fun c => absurd c (by decide))
            refine inc_8_6 rfl dX0_fire_234 (by first | exact w32_of (by omega) (by omega) | rfl) ?_
            refine Wp.goto (tgt := 111) dX0_fire_237 (by decide) ?_
            have hu : ci3 (ccf h) b (m + 1) k s = ci3 (ccf h) b m (k + 1) (ci1 (ccf h) b k s) := if_pos (show k < hF h 2 1 by omega)
            rw [hu] at eF
            unfold ci1 at eF
            rw [if_neg (show ¬ (ccf h).2.1 k ≠ 2 from fun z => z c128)] at eF
            rw [if_neg (show ¬ kand (kshr s.2.2.2 k) 1 ≠ 0 from holds_f c137)] at eF
            rw [if_pos (show kand (kshr ((ccf h).2.2.1 k) b) 1 = 0 from Classical.byContradiction (fun z => holds_f c152 z))] at eF
            exact ih (k + 1) s h' _ (by omega) (by omega) fr rl hfl li eF
          · refine Wp.iconst dX0_fire_155 (by decide) ?_
            refine Wp.goto (tgt := 160) dX0_fire_156 (by decide) ?_
            refine sti_8_7 rfl (dSt_w dX0_fire_160) ?_
            refine Wp.ild (j := 7) rfl dX0_fire_162 ?_
            refine Wp.ifeq dX0_fire_164 (by decide) (tgt := 188) (fun c => absurd c (by decide)) (fun _ => ?_)
            have hk := (show LI s.2.2.1 s.2.1 s.2.2.2 s.1 (fst + 1) (hF h 2 0) (hF h 2 1) (hF h 2 1) (hF h 2 1) from li).2.1 k k0 (by omega)
            have hlt : s.2.2.1 k < hF h 2 0 := by
              by_cases hz : hF h 2 0 ≤ s.2.2.1 k
              · exact absurd ((show LI s.2.2.1 s.2.1 s.2.2.2 s.1 (fst + 1) (hF h 2 0) (hF h 2 1) (hF h 2 1) (hF h 2 1) from li).2.2.1 k k0 (by omega) hz) (holds_f c137)
              · omega
            have hm8 := mul_bd (a := s.2.2.1 k) (b := hF h 2 8) (A := 4096) (B := 16) hk.1 (by omega) (by omega) m1
            have ht8 := tdn (a := s.2.2.1 k * hF h 2 8) (b := hF h 2 0) hm8.1 (by omega)
            have hq8 : (s.2.2.1 k * hF h 2 8).tdiv (hF h 2 0) < 16 := by
              have h7 : (s.2.2.1 k * hF h 2 8).tdiv (hF h 2 0) < hF h 2 8 := by
                rw [Int.tdiv_eq_ediv_of_nonneg hm8.1]
                refine Int.ediv_lt_of_lt_mul (by omega) ?_
                rw [Int.mul_comm (hF h 2 8) (hF h 2 0)]
                exact Int.mul_lt_mul_of_pos_right hlt (by omega)
              omega
            have hpq := hq _ ht8.1 hq8
            have hvv : cvw (ccf h) k s = s.2.2.1 k + hA h 7 ((s.2.2.1 k * hF h 2 8).tdiv (hF h 2 0)) := rfl
            refine Wp.ald_n (j := 0) rfl dX0_fire_167 ?_
            refine Wp.getf (k := 9) (tg := 2) kC0 (by decide) rfl lf_X0_40 dX0_fire_168 (sK2 (h := h') sh') (sF2_9 (h := h') sh') ?_
            refine Wp.ild (j := 6) rfl dX0_fire_171 ?_
            refine Wp.dup2 dX0_fire_173 (Or.inl rfl) (Or.inr rfl) ?_
            refine Wp.iaload dX0_fire_174 (sK8 (h := h') sh') (by omega) (ilt (sL8 (h := h') sh') (by omega)) (rl.1 k k0 (by omega)) ?_
            refine Wp.ald_n (j := 0) rfl dX0_fire_175 ?_
            refine Wp.ald_n (j := 0) rfl dX0_fire_176 ?_
            refine Wp.getf (k := 9) (tg := 2) kC0 (by decide) rfl lf_X0_40 dX0_fire_177 (sK2 (h := h') sh') (sF2_9 (h := h') sh') ?_
            refine Wp.ild (j := 6) rfl dX0_fire_180 ?_
            refine Wp.iaload dX0_fire_182 (sK8 (h := h') sh') (by omega) (ilt (sL8 (h := h') sh') (by omega)) (rl.1 k k0 (by omega)) ?_
            have ct183 := ct_pushAtX d h' sh' (bi.fr fr (by decide) (by decide) (by decide) (by decide) (by decide)) (s.2.2.1 k) hk.1 (by omega)
            rw [e0, e7, e8] at ct183
            refine Wp.callV1 (ct183) wc_X0_96 iM_X0_pushAt se_X0_pushAt kC0 (sK2 (h := h') sh') dX0_fire_183 rfl (Nat.le_of_ble_eq_true rfl) rfl (Nat.le_of_ble_eq_true rfl) ?_
            refine Wp.iaddE dX0_fire_186 (show w32 _ = cvw (ccf h) k s by rw [hvv, w32_of (by omega) (by omega)]) ?_
            refine Wp.iastore dX0_fire_187 (sK8 (h := h') sh') (by omega) (ilt (sL8 (h := h') sh') (by omega)) ?_
            refine Wp.ild (j := 7) rfl dX0_fire_188 ?_
            refine Wp.ifeq dX0_fire_190 (by decide) (tgt := 234) (fun c => absurd c (by decide)) (fun _ => ?_)
            refine Wp.ald_n (j := 0) rfl dX0_fire_193 ?_
            refine Wp.getf (k := 9) (tg := 2) kC0 (by decide) rfl lf_X0_40 dX0_fire_194 (sK2 (h := h') sh') (sF2_9 (h := h') sh') ?_
            refine Wp.ild (j := 6) rfl dX0_fire_197 ?_
            refine Wp.iaload dX0_fire_199 (sK8 (h := h') sh') (by omega) (ilt (sL8 (h := h') sh') (by omega)) (show hA (sE _ 8 k _) 8 k = _ from u1_s _ _ _) ?_
            refine Wp.ald_n (j := 0) rfl dX0_fire_200 ?_
            refine Wp.getf (k := 0) (tg := 0) kC0 (by decide) rfl lf_X0_9 dX0_fire_201 (sK2 (h := h') sh') e0 ?_
            refine Wp.iclt dX0_fire_204 (by decide) (tgt := 234) (fun c204 => ?_) (fun c204 => ?_)
            · refine inc_8_6 rfl dX0_fire_234 (by first | exact w32_of (by omega) (by omega) | rfl) ?_
              refine Wp.goto (tgt := 111) dX0_fire_237 (by decide) ?_
              have hu : ci3 (ccf h) b (m + 1) k s = ci3 (ccf h) b m (k + 1) (ci1 (ccf h) b k s) := if_pos (show k < hF h 2 1 by omega)
              rw [hu] at eF
              unfold ci1 at eF
              rw [if_neg (show ¬ (ccf h).2.1 k ≠ 2 from fun z => z c128)] at eF
              rw [if_neg (show ¬ kand (kshr s.2.2.2 k) 1 ≠ 0 from holds_f c137)] at eF
              rw [if_neg (show ¬ kand (kshr ((ccf h).2.2.1 k) b) 1 = 0 from holds_t c152)] at eF
              rw [if_pos (show cvw (ccf h) k s < (ccf h).1.2.1 from c204)] at eF
              exact ih (k + 1) (s.1, s.2.1, u1 s.2.2.1 k (cvw (ccf h) k s), s.2.2.2) _ _ (by omega) (by omega) (fr.tr (Fr.e (by decide))) rl.up hfl (LI.push li (holds_f c137) (by omega) (by omega) c204) eF
            · have hrm := LI.room (show LI s.2.2.1 s.2.1 s.2.2.2 s.1 (fst + 1) (hF h 2 0) (hF h 2 1) (hF h 2 1) (hF h 2 1) from li) (Int.le_refl _) (holds_f c137) k0 (by omega)
              have hl0 := (show LI s.2.2.1 s.2.1 s.2.2.2 s.1 (fst + 1) (hF h 2 0) (hF h 2 1) (hF h 2 1) (hF h 2 1) from li).1
              refine Wp.ild_n (j := 2) rfl dX0_fire_207 ?_
              refine Wp.ald_n (j := 0) rfl dX0_fire_208 ?_
              refine Wp.getf (k := 10) (tg := 2) kC0 (by decide) rfl lf_X0_43 dX0_fire_209 (sK2 (h := h') sh') (sF2_10 (h := h') sh') ?_
              refine Wp.alen dX0_fire_212 (by decide) (by decide) (sK9 (h := h') sh') (sL9 (h := h') sh') (by omega) ?_
              refine Wp.icge dX0_fire_213 (by decide) (tgt := 234) (fun c213 => absurd c213 (by omega)) (fun _ => ?_)
              refine Wp.ald_n (j := 0) rfl dX0_fire_216 ?_
              refine Wp.getf (k := 10) (tg := 2) kC0 (by decide) rfl lf_X0_43 dX0_fire_217 (sK2 (h := h') sh') (sF2_10 (h := h') sh') ?_
              refine Wp.ild_n (j := 2) rfl dX0_fire_220 ?_
              refine Wp.ild (j := 6) rfl dX0_fire_221 ?_
              refine Wp.iastore dX0_fire_223 (sK9 (h := h') sh') (by omega) (ilt (sL9 (h := h') sh') (by omega)) ?_
              refine inc_8_2 rfl dX0_fire_224 (by first | exact w32_of (by omega) (by omega) | rfl) ?_
              refine Wp.ild_n (j := 3) rfl dX0_fire_227 ?_
              refine Wp.iconst dX0_fire_228 (by decide) ?_
              refine Wp.ild (j := 6) rfl dX0_fire_229 ?_
              refine Wp.ishl dX0_fire_231 ?_
              refine Wp.ior dX0_fire_232 ?_
              refine sti_8_3 rfl (dSt_n dX0_fire_233) ?_
              refine inc_8_6 rfl dX0_fire_234 (by first | exact w32_of (by omega) (by omega) | rfl) ?_
              refine Wp.goto (tgt := 111) dX0_fire_237 (by decide) ?_
              have hu : ci3 (ccf h) b (m + 1) k s = ci3 (ccf h) b m (k + 1) (ci1 (ccf h) b k s) := if_pos (show k < hF h 2 1 by omega)
              rw [hu] at eF
              unfold ci1 at eF
              rw [if_neg (show ¬ (ccf h).2.1 k ≠ 2 from fun z => z c128)] at eF
              rw [if_neg (show ¬ kand (kshr s.2.2.2 k) 1 ≠ 0 from holds_f c137)] at eF
              rw [if_neg (show ¬ kand (kshr ((ccf h).2.2.1 k) b) 1 = 0 from holds_t c152)] at eF
              rw [if_neg (show ¬ cvw (ccf h) k s < (ccf h).1.2.1 from c204)] at eF
              exact ih (k + 1) (s.1 + 1, u1 s.2.1 s.1 k, u1 s.2.2.1 k (cvw (ccf h) k s), kor s.2.2.2 (kshl 1 k)) _ _ (by omega) (by omega) (fr.tr ((Fr.e (by decide)).tr (Fr.e (by decide)))) (cRl.app (s := (s.1, s.2.1, u1 s.2.2.1 k (cvw (ccf h) k s), s.2.2.2)) rl.up _) (by show fst + 1 ≤ s.1 + 1; omega) (LI.pushApp li (holds_f c137) k0 (by omega) n1 (by omega) (by omega) (by omega) hfl) eF

theorem xfire_out (d : Nat) (h : mH) (sh : Sh h) (bi : BI h) (F : cS) : ∀ (m : Nat) (fst : Int) (s : cS) (h' : mH) (x5 x6 x7 : mV), (hF h 2 1 - fst).toNat < m → (0 ≤ fst) → (fst ≤ s.1) → (Fr [8, 9, 12] [] h h') → (cRl (hF h 2 1) h' s) → (cLI (hF h 2 1) (hF h 2 0) (hF h 2 1) (hF h 2 1) fst s) → (co9 (ccf h) m fst s = F) → Wp m_X0_fire (d + 1) 68 [(2, 2), (2, 12), (0, s.1), (0, s.2.2.2), (0, fst), x5, x6, x7] [] h' (fun r t => r = none ∧ Fr [8, 9, 12] [] h t ∧ (∀ j, 0 ≤ j → j < hF h 2 1 → hA t 8 j = F.2.2.1 j) ∧ ∀ j, 0 ≤ j → j < hF h 2 1 → 0 ≤ F.2.2.1 j ∧ F.2.2.1 j < hF h 2 0) := by
  intro m
  induction m with
  | zero => intro fst s h' x5 x6 x7 hm; exact absurd hm (Nat.not_lt_zero _)
  | succ m ih =>
    intro fst s h' x5 x6 x7 hm f0 hfl fr rl li eF
    have sh' := sh.fr fr (by decide +kernel) (by decide)
    have e0 : hF h' 2 0 = hF h 2 0 := fr.2.2.2.2.1 2 0 (by decide)
    have e1 : hF h' 2 1 = hF h 2 1 := fr.2.2.2.2.1 2 1 (by decide)
    have e8 : hF h' 2 8 = hF h 2 8 := fr.2.2.2.2.1 2 8 (by decide)
    have e3 : hA h' 3 = hA h 3 := fr.2.2.2.2.2 3 (by decide)
    have e6 : hA h' 6 = hA h 6 := fr.2.2.2.2.2 6 (by decide)
    have e7 : hA h' 7 = hA h 7 := fr.2.2.2.2.2 7 (by decide)
    obtain ⟨⟨r0, r1⟩, ⟨n0, n1⟩, ⟨m0, m1⟩, hp, hq⟩ := id bi
    refine Wp.ild (j := 4) rfl dX0_fire_68 ?_
    refine Wp.ild_n (j := 2) rfl dX0_fire_70 ?_
    refine Wp.icge dX0_fire_71 (by decide) (tgt := 246) (fun c71 => ?_) (fun c71 => ?_)
    · refine Wp.vret rfl dX0_fire_246 ?_
      have hft := LI.fits (show LI s.2.2.1 s.2.1 s.2.2.2 s.1 fst (hF h 2 0) (hF h 2 1) (hF h 2 1) (hF h 2 1) from li) (Int.le_refl _) (by omega)
      have hu : co9 (ccf h) (m + 1) fst s = s := if_neg (by omega)
      rw [hu] at eF
      subst eF
      exact ⟨rfl, fr, rl.1, LI.done (show LI s.2.2.1 s.2.1 s.2.2.2 s.1 fst (hF h 2 0) (hF h 2 1) (hF h 2 1) (hF h 2 1) from li) (by omega)⟩
    · refine Wp.ild (j := 4) rfl dX0_fire_74 ?_
      refine Wp.ald_n (j := 0) rfl dX0_fire_76 ?_
      refine Wp.getf (k := 1) (tg := 0) kC0 (by decide) rfl lf_X0_15 dX0_fire_77 (sK2 (h := h') sh') e1 ?_
      refine Wp.icge dX0_fire_80 (by decide) (tgt := 246) (fun c80 => ?_) (fun c80 => ?_)
      · refine Wp.vret rfl dX0_fire_246 ?_
        have hft := LI.fits (show LI s.2.2.1 s.2.1 s.2.2.2 s.1 fst (hF h 2 0) (hF h 2 1) (hF h 2 1) (hF h 2 1) from li) (Int.le_refl _) (by omega)
        have hu : co9 (ccf h) (m + 1) fst s = s := if_neg (by omega)
        rw [hu] at eF
        subst eF
        exact ⟨rfl, fr, rl.1, LI.done (show LI s.2.2.1 s.2.1 s.2.2.2 s.1 fst (hF h 2 0) (hF h 2 1) (hF h 2 1) (hF h 2 1) from li) (by omega)⟩
      · have hli := (show LI s.2.2.1 s.2.1 s.2.2.2 s.1 fst (hF h 2 0) (hF h 2 1) (hF h 2 1) (hF h 2 1) from li).2.2.2.1 fst f0 (by omega)
        refine Wp.ald_n (j := 0) rfl dX0_fire_83 ?_
        refine Wp.getf (k := 10) (tg := 2) kC0 (by decide) rfl lf_X0_43 dX0_fire_84 (sK2 (h := h') sh') (sF2_10 (h := h') sh') ?_
        refine Wp.ild (j := 4) rfl dX0_fire_87 ?_
        refine Wp.iaload dX0_fire_89 (sK9 (h := h') sh') (by omega) (ilt (sL9 (h := h') sh') (by omega)) (rl.2 fst f0 (by omega)) ?_
        refine sti_8_5 rfl (dSt_w dX0_fire_90) ?_
        refine Wp.ald_n (j := 0) rfl dX0_fire_92 ?_
        refine Wp.getf (k := 9) (tg := 2) kC0 (by decide) rfl lf_X0_40 dX0_fire_93 (sK2 (h := h') sh') (sF2_9 (h := h') sh') ?_
        refine Wp.ild (j := 5) rfl dX0_fire_96 ?_
        refine Wp.iconst dX0_fire_98 (by decide) ?_
        refine Wp.iastore dX0_fire_99 (sK8 (h := h') sh') (by omega) (ilt (sL8 (h := h') sh') (by omega)) ?_
        refine Wp.ald_n (j := 1) rfl dX0_fire_100 ?_
        refine Wp.ild (j := 5) rfl dX0_fire_101 ?_
        refine Wp.dup2 dX0_fire_103 (Or.inl rfl) (Or.inr rfl) ?_
        refine Wp.iaload dX0_fire_104 (sK12 (h := h') sh') (by omega) (ilt (sL12 (h := h') sh') (by omega)) (show hA _ 12 _ = hA h' 12 _ from rfl) ?_
        refine Wp.iconst dX0_fire_105 (by decide) ?_
        refine Wp.iaddE dX0_fire_106 rfl ?_
        refine Wp.iastore dX0_fire_107 (sK12 (h := h') sh') (by omega) (ilt (sL12 (h := h') sh') (by omega)) ?_
        refine Wp.iconst dX0_fire_108 (by decide) ?_
        refine sti_8_6 rfl (dSt_w dX0_fire_109) ?_
        have hu : co9 (ccf h) (m + 1) fst s = co9 (ccf h) m (fst + 1) (ci3 (ccf h) (s.2.1 fst) 25 0 (s.1, s.2.1, u1 s.2.2.1 (s.2.1 fst) 0, s.2.2.2)) := if_pos (by omega)
        rw [hu] at eF
        refine xfire_in d h sh bi fst (s.2.1 fst) ⟨hli.1, hli.2.1⟩ _ _ (fun t i x7' frt rlt hfl' li' => ?_) 25 0 (s.1, s.2.1, u1 s.2.2.1 (s.2.1 fst) 0, s.2.2.2) _ _ (by omega) (Int.le_refl _) ((fr.tr (Fr.e (by decide))).tr (Fr.e (by decide))) (cRl.tal rl.up) (by show fst + 1 ≤ s.1; omega) (LI.zero li (by omega) (by omega)) rfl
        refine inc_8_4 rfl dX0_fire_240 (w32_of (by omega) (by omega)) ?_
        refine Wp.goto (tgt := 68) dX0_fire_243 (by decide) ?_
        exact ih (fst + 1) _ t _ _ _ (by omega) (by omega) hfl' frt rlt li' eF

theorem xfire_line (d : Nat) (h : mH) (sh : Sh h) (bi : BI h) (g : Int → Int) (hx : ∀ j, 0 ≤ j → j < hF h 2 1 → 0 ≤ g j ∧ g j ≤ 10000 ∧ (hA h 3 j ≠ 2 → g j < hF h 2 0)) (F : cS) (Q : Option mV → mH → Prop) (kq : ∀ (t : mH) (k : Int) (x5 x6 x7 : mV), Fr [8, 9, 12] [] h t → cRl (hF h 2 1) t F → cLI (hF h 2 1) (hF h 2 0) (hF h 2 1) (hF h 2 1) 0 F → Wp m_X0_fire (d + 1) 65 [(2, 2), (2, 12), (0, F.1), (0, F.2.2.2), (0, k), x5, x6, x7] [] t Q) : ∀ (m : Nat) (k : Int) (s : cS) (h' : mH) (x5 x6 x7 : mV), (hF h 2 1 - k).toNat < m → (0 ≤ k) → (k ≤ hF h 2 1) → (Fr [8, 9, 12] [] h h') → (cRl (hF h 2 1) h' s) → (s.2.2.1 = g) → (cLI (hF h 2 1) (hF h 2 0) k k 0 s) → (cl2 (ccf h) m k s = F) → Wp m_X0_fire (d + 1) 7 [(2, 2), (2, 12), (0, s.1), (0, s.2.2.2), (0, k), x5, x6, x7] [] h' Q := by
  intro m
  induction m with
  | zero => intro k s h' x5 x6 x7 hm; exact absurd hm (Nat.not_lt_zero _)
  | succ m ih =>
    intro k s h' x5 x6 x7 hm k0 k1 fr rl eg li eF
    have sh' := sh.fr fr (by decide +kernel) (by decide)
    have e0 : hF h' 2 0 = hF h 2 0 := fr.2.2.2.2.1 2 0 (by decide)
    have e1 : hF h' 2 1 = hF h 2 1 := fr.2.2.2.2.1 2 1 (by decide)
    have e8 : hF h' 2 8 = hF h 2 8 := fr.2.2.2.2.1 2 8 (by decide)
    have e3 : hA h' 3 = hA h 3 := fr.2.2.2.2.2 3 (by decide)
    have e6 : hA h' 6 = hA h 6 := fr.2.2.2.2.2 6 (by decide)
    have e7 : hA h' 7 = hA h 7 := fr.2.2.2.2.2 7 (by decide)
    obtain ⟨⟨r0, r1⟩, ⟨n0, n1⟩, ⟨m0, m1⟩, hp, hq⟩ := id bi
    have hft := LI.fitb (show LI s.2.2.1 s.2.1 s.2.2.2 s.1 0 (hF h 2 0) (hF h 2 1) k k from li) k0
    have hl0 := (show LI s.2.2.1 s.2.1 s.2.2.2 s.1 0 (hF h 2 0) (hF h 2 1) k k from li).1
    refine Wp.ild (j := 4) rfl dX0_fire_7 ?_
    refine Wp.ald_n (j := 0) rfl dX0_fire_9 ?_
    refine Wp.getf (k := 1) (tg := 0) kC0 (by decide) rfl lf_X0_15 dX0_fire_10 (sK2 (h := h') sh') e1 ?_
    refine Wp.icge dX0_fire_13 (by decide) (tgt := 65) (fun c13 => ?_) (fun c13 => ?_)
    · have hu : cl2 (ccf h) (m + 1) k s = s := if_neg (show ¬ k < hF h 2 1 by omega)
      rw [hu] at eF
      subst eF
      have ek : k = hF h 2 1 := by omega
      rw [ek] at li
      exact kq h' k _ _ _ fr rl li
    · refine Wp.ald_n (j := 0) rfl dX0_fire_16 ?_
      refine Wp.getf (k := 3) (tg := 2) kC0 (by decide) rfl lf_X0_21 dX0_fire_17 (sK2 (h := h') sh') (sF2_3 (h := h') sh') ?_
      refine Wp.ild (j := 4) rfl dX0_fire_20 ?_
      refine Wp.iaload dX0_fire_22 (sK3 (h := h') sh') (by omega) (ilt (sL3 (h := h') sh') (by omega)) (congrFun e3 k) ?_
      refine Wp.iconst dX0_fire_23 (by decide) ?_
      refine Wp.icne dX0_fire_24 (by decide) (tgt := 59) (fun c24 => ?_) (fun c24 => ?_)
      · refine inc_8_4 rfl dX0_fire_59 (by first | exact w32_of (by omega) (by omega) | rfl) ?_
        refine Wp.goto (tgt := 7) dX0_fire_62 (by decide) ?_
        have hu : cl2 (ccf h) (m + 1) k s = cl2 (ccf h) m (k + 1) (if hA h 3 k = 2 ∧ hF h 2 0 ≤ s.2.2.1 k then (s.1 + 1, u1 s.2.1 s.1 k, s.2.2.1, kor s.2.2.2 (kshl 1 k)) else s) := if_pos (show k < hF h 2 1 by omega)
        rw [hu] at eF
        have li2 : LI s.2.2.1 s.2.1 s.2.2.2 s.1 0 (hF h 2 0) (hF h 2 1) k k := li
        have hnb : ¬ bt s.2.2.2 k := fun z => by
          obtain ⟨i, i0, i1, e⟩ := li2.2.2.2.2.2.1 k k0 (by omega) z
          have := (li2.2.2.2.1 i i0 i1).2.1
          omega
        have hxk := hx k k0 (by omega)
        rw [← eg] at hxk
        rw [if_neg (fun z => c24 z.1)] at eF
        refine ih (k + 1) s h' _ _ _ (by omega) (by omega) (by omega) fr rl eg ?_ eF
        exact ⟨li2.1, li2.2.1, fun j j0 j1 hj => by
          by_cases hjk : j = k
          · subst hjk
            have := hxk.2.2 c24
            omega
          · exact li2.2.2.1 j j0 (by omega) hj, fun i i0 i1 => ⟨(li2.2.2.2.1 i i0 i1).1, by have := (li2.2.2.2.1 i i0 i1).2.1; omega, (li2.2.2.2.1 i i0 i1).2.2⟩, li2.2.2.2.2⟩
      · refine Wp.ald_n (j := 0) rfl dX0_fire_27 ?_
        refine Wp.getf (k := 9) (tg := 2) kC0 (by decide) rfl lf_X0_40 dX0_fire_28 (sK2 (h := h') sh') (sF2_9 (h := h') sh') ?_
        refine Wp.ild (j := 4) rfl dX0_fire_31 ?_
        refine Wp.iaload dX0_fire_33 (sK8 (h := h') sh') (by omega) (ilt (sL8 (h := h') sh') (by omega)) (rl.1 k k0 (by omega)) ?_
        refine Wp.ald_n (j := 0) rfl dX0_fire_34 ?_
        refine Wp.getf (k := 0) (tg := 0) kC0 (by decide) rfl lf_X0_9 dX0_fire_35 (sK2 (h := h') sh') e0 ?_
        refine Wp.iclt dX0_fire_38 (by decide) (tgt := 59) (fun c38 => ?_) (fun c38 => ?_)
        · refine inc_8_4 rfl dX0_fire_59 (by first | exact w32_of (by omega) (by omega) | rfl) ?_
          refine Wp.goto (tgt := 7) dX0_fire_62 (by decide) ?_
          have hu : cl2 (ccf h) (m + 1) k s = cl2 (ccf h) m (k + 1) (if hA h 3 k = 2 ∧ hF h 2 0 ≤ s.2.2.1 k then (s.1 + 1, u1 s.2.1 s.1 k, s.2.2.1, kor s.2.2.2 (kshl 1 k)) else s) := if_pos (show k < hF h 2 1 by omega)
          rw [hu] at eF
          have li2 : LI s.2.2.1 s.2.1 s.2.2.2 s.1 0 (hF h 2 0) (hF h 2 1) k k := li
          have hnb : ¬ bt s.2.2.2 k := fun z => by
            obtain ⟨i, i0, i1, e⟩ := li2.2.2.2.2.2.1 k k0 (by omega) z
            have := (li2.2.2.2.1 i i0 i1).2.1
            omega
          have hxk := hx k k0 (by omega)
          rw [← eg] at hxk
          rw [if_neg (fun z => absurd z.2 (by omega))] at eF
          refine ih (k + 1) s h' _ _ _ (by omega) (by omega) (by omega) fr rl eg ?_ eF
          exact ⟨li2.1, li2.2.1, fun j j0 j1 hj => by
            by_cases hjk : j = k
            · subst hjk
              skip
              omega
            · exact li2.2.2.1 j j0 (by omega) hj, fun i i0 i1 => ⟨(li2.2.2.2.1 i i0 i1).1, by have := (li2.2.2.2.1 i i0 i1).2.1; omega, (li2.2.2.2.1 i i0 i1).2.2⟩, li2.2.2.2.2⟩
        · refine Wp.ald_n (j := 0) rfl dX0_fire_41 ?_
          refine Wp.getf (k := 10) (tg := 2) kC0 (by decide) rfl lf_X0_43 dX0_fire_42 (sK2 (h := h') sh') (sF2_10 (h := h') sh') ?_
          refine Wp.ild_n (j := 2) rfl dX0_fire_45 ?_
          refine Wp.ild (j := 4) rfl dX0_fire_46 ?_
          refine Wp.iastore dX0_fire_48 (sK9 (h := h') sh') (by omega) (ilt (sL9 (h := h') sh') (by omega)) ?_
          refine inc_8_2 rfl dX0_fire_49 (by first | exact w32_of (by omega) (by omega) | rfl) ?_
          refine Wp.ild_n (j := 3) rfl dX0_fire_52 ?_
          refine Wp.iconst dX0_fire_53 (by decide) ?_
          refine Wp.ild (j := 4) rfl dX0_fire_54 ?_
          refine Wp.ishl dX0_fire_56 ?_
          refine Wp.ior dX0_fire_57 ?_
          refine sti_8_3 rfl (dSt_n dX0_fire_58) ?_
          refine inc_8_4 rfl dX0_fire_59 (by first | exact w32_of (by omega) (by omega) | rfl) ?_
          refine Wp.goto (tgt := 7) dX0_fire_62 (by decide) ?_
          have hu : cl2 (ccf h) (m + 1) k s = cl2 (ccf h) m (k + 1) (if hA h 3 k = 2 ∧ hF h 2 0 ≤ s.2.2.1 k then (s.1 + 1, u1 s.2.1 s.1 k, s.2.2.1, kor s.2.2.2 (kshl 1 k)) else s) := if_pos (show k < hF h 2 1 by omega)
          rw [hu] at eF
          have li2 : LI s.2.2.1 s.2.1 s.2.2.2 s.1 0 (hF h 2 0) (hF h 2 1) k k := li
          have hnb : ¬ bt s.2.2.2 k := fun z => by
            obtain ⟨i, i0, i1, e⟩ := li2.2.2.2.2.2.1 k k0 (by omega) z
            have := (li2.2.2.2.1 i i0 i1).2.1
            omega
          have hxk := hx k k0 (by omega)
          rw [← eg] at hxk
          rw [if_pos ⟨c24, by omega⟩] at eF
          refine ih (k + 1) (s.1 + 1, u1 s.2.1 s.1 k, s.2.2.1, kor s.2.2.2 (kshl 1 k)) _ _ _ _ (by omega) (by omega) (by omega) (fr.tr (Fr.e (by decide))) (rl.app _) eg ?_ eF
          exact li2.app hnb k0 (by omega) n1 (by omega) (by omega) (by omega) (by omega) (fun j j0 j1 hj => by
            by_cases hjk : j = k
            · exact Or.inr hjk
            · exact Or.inl (li2.2.2.1 j j0 (by omega) hj)) li2.1.1

def cfi (c : mCf) (g : Int → Int) : Int → Int := (co9 c 26 0 (cl2 c 25 0 (0, fun _ => 0, g, 0))).2.2.1
theorem cq_fireX (d : Nat) (h : mH) (sh : Sh h) (bi : BI h) (g : Int → Int) (hg : ∀ j, 0 ≤ j → j < hF h 2 1 → hA h 8 j = g j) (hx : ∀ j, 0 ≤ j → j < hF h 2 1 → 0 ≤ g j ∧ g j ≤ 10000 ∧ (hA h 3 j ≠ 2 → g j < hF h 2 0)) : Cq m_X0_fire (d + 1) [(2, 2), (2, 12)] h (fun r t => r = none ∧ Fr [8, 9, 12] [] h t ∧ (∀ j, 0 ≤ j → j < hF h 2 1 → hA t 8 j = cfi (ccf h) g j) ∧ ∀ j, 0 ≤ j → j < hF h 2 1 → 0 ≤ cfi (ccf h) g j ∧ cfi (ccf h) g j < hF h 2 0) := by
  refine Cq.of ?_
  show Wp m_X0_fire ((d + 1)) 0 [(2, 2), (2, 12), (9, 0), (9, 0), (9, 0), (9, 0), (9, 0), (9, 0)] [] h _
  obtain ⟨⟨r0, r1⟩, ⟨n0, n1⟩, ⟨m0, m1⟩, hp, hq⟩ := id bi
  refine Wp.iconst dX0_fire_0 (by decide) ?_
  refine sti_8_2 rfl (dSt_n dX0_fire_1) ?_
  refine Wp.iconst dX0_fire_2 (by decide) ?_
  refine sti_8_3 rfl (dSt_n dX0_fire_3) ?_
  refine Wp.iconst dX0_fire_4 (by decide) ?_
  refine sti_8_4 rfl (dSt_w dX0_fire_5) ?_
  refine xfire_line d h sh bi g hx _ _ (fun t k x5 x6 x7 frt rlt lit => ?_) 25 0 (0, fun _ => 0, g, 0) h _ _ _ (by omega) (by omega) n0 Fr.rf ⟨hg, fun i i0 i1 => absurd i1 (by show ¬ i < (0 : Int); omega)⟩ rfl ⟨⟨Int.le_refl _, Int.le_refl _⟩, fun j j0 j1 => ⟨(hx j j0 j1).1, (hx j j0 j1).2.1⟩, fun j j0 j1 => by omega, fun i i0 (i1 : i < 0) => by omega, fun i j i0 (i1 : i < 0) => by omega, fun j j0 j1 z => absurd z (bt_0 j0 (by omega)), fun i i0 i1 => by omega⟩ rfl
  refine Wp.iconst dX0_fire_65 (by decide) ?_
  refine sti_8_4 rfl (dSt_w dX0_fire_66) ?_
  exact xfire_out d h sh bi _ 26 0 _ t _ _ _ (by omega) (by omega) (show LI _ _ _ _ _ _ _ _ _ from lit).1.1 frt rlt lit rfl

