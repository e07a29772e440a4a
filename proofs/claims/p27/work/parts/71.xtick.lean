def wrpC (r p : Int) : Int := if r ≤ p then p - r else if p < 0 then p + r else p
def pulC (c : mCf) (f : Int → Int) (k : Int) : Int := plV (plS f c.1.2.1 (f k) (kand (c.2.2.1 k) (kxor (kshl 1 k) (-1))) c.1.1.toNat)
/-- what next holds of beater k behind the first loop -/
def cg9 (c : mCf) (f : Int → Int) (k : Int) : Int := if c.2.1 k = 2 then f k + 1 else if c.2.1 k = 1 then wrpC c.1.2.1 (f k + 1 + pulC c f k) else wrpC c.1.2.1 (f k + 1)
def can9 (c : mCf) (f : Int → Int) : Nat → Int
  | 0 => 0
  | k + 1 => if c.2.1 k = 2 ∧ c.1.2.1 ≤ f k + 1 then 1 else can9 c f k
/-- the tick -/
def cT9 (c : mCf) (f : Int → Int) : Int → Int := cutF c.1.1 (if can9 c (cutF c.1.1 f) c.1.1.toNat = 0 then cg9 c (cutF c.1.1 f) else cfi c (cg9 c (cutF c.1.1 f)))
theorem plS_eq {f g : Int → Int} {r m s : Int} : ∀ n : Nat, (∀ k : Int, 0 ≤ k → k < n → f k = g k) → plS f r m s n = plS g r m s n
  | 0, _ => rfl
  | n + 1, h => by
    unfold plS
    rw [plS_eq n (fun k k0 k1 => h k k0 (by omega)), h n (by omega) (by omega)]
theorem can9_01 (c : mCf) (f : Int → Int) : ∀ n : Nat, can9 c f n = 0 ∨ can9 c f n = 1
  | 0 => Or.inl rfl
  | n + 1 => by
    unfold can9
    split
    · exact Or.inr rfl
    · exact can9_01 c f n
theorem can9_0 {c : mCf} {f : Int → Int} : ∀ {n : Nat}, can9 c f n = 0 → ∀ k : Int, 0 ≤ k → k < n → c.2.1 k = 2 → f k + 1 < c.1.2.1
  | 0, _, k, k0, k1, _ => absurd k1 (by omega)
  | n + 1, h, k, k0, k1, hk => by
    unfold can9 at h
    by_cases z : c.2.1 n = 2 ∧ c.1.2.1 ≤ f n + 1
    · rw [if_pos z] at h
      exact absurd h (by decide)
    · rw [if_neg z] at h
      by_cases e : k = n
      · subst e
        by_cases y : c.1.2.1 ≤ f n + 1
        · exact absurd ⟨hk, y⟩ z
        · omega
      · exact can9_0 h k k0 (by omega) hk
theorem wrpC_bd {r p : Int} (h0 : -r ≤ p) (h1 : p < 2 * r) : 0 ≤ wrpC r p ∧ wrpC r p < r := by
  unfold wrpC
  split
  · omega
  · split <;> omega
theorem cg9_bd {c : mCf} {f : Int → Int} {k : Int} (r0 : 2 ≤ c.1.2.1) (r1 : c.1.2.1 ≤ 4096) (hf : ∀ j, 0 ≤ j → j < c.1.1 → 0 ≤ f j ∧ f j < c.1.2.1) (k0 : 0 ≤ k) (k1 : k < c.1.1) : 0 ≤ cg9 c f k ∧ cg9 c f k ≤ 10000 ∧ (c.2.1 k ≠ 2 → cg9 c f k < c.1.2.1) := by
  have hk := hf k k0 k1
  unfold cg9
  by_cases h2 : c.2.1 k = 2
  · rw [if_pos h2]
    exact ⟨by omega, by omega, fun z => absurd h2 z⟩
  · rw [if_neg h2]
    by_cases h1 : c.2.1 k = 1
    · rw [if_pos h1]
      have hpb := plS_bd (f := f) (r := c.1.2.1) (m := f k) (s := kand (c.2.2.1 k) (kxor (kshl 1 k) (-1))) hk c.1.1.toNat (fun i i0 i1 => hf i i0 (by omega))
      have hpv := plV_bd (r := c.1.2.1) (by omega) hpb.1 hpb.2.1 hpb.2.2.1
      have hpv2 : -c.1.2.1 < 2 * pulC c f k ∧ 2 * pulC c f k < c.1.2.1 := hpv
      have := wrpC_bd (r := c.1.2.1) (p := f k + 1 + pulC c f k) (by omega) (by omega)
      exact ⟨this.1, by omega, fun _ => this.2⟩
    · rw [if_neg h1]
      have := wrpC_bd (r := c.1.2.1) (p := f k + 1) (by omega) (by omega)
      exact ⟨this.1, by omega, fun _ => this.2⟩
theorem xtick_loop (d : Nat) (h : mH) (sh : Sh h) (bi : BI h) (hrow : ∀ k, 0 ≤ k → k < hF h 2 1 → 0 ≤ hA h 11 k ∧ hA h 11 k < hF h 2 0) (Q : Option mV → mH → Prop) (kq : ∀ (t : mH) (k any : Int), Fr [8] [] h t → can9 (ccf h) (cutF (hF h 2 1) (hA h 11)) (hF h 2 1).toNat = any → (∀ j, 0 ≤ j → j < hF h 2 1 → hA t 8 j = cg9 (ccf h) (cutF (hF h 2 1) (hA h 11)) j) → Wp m_X0_tick (d + 2) 125 [(2, 2), (2, 11), (2, 12), (0, any), (0, k)] [] t Q) : ∀ (m : Nat) (k any : Int) (h' : mH), (hF h 2 1 - k).toNat < m → (0 ≤ k) → (k ≤ hF h 2 1) → (Fr [8] [] h h') → (can9 (ccf h) (cutF (hF h 2 1) (hA h 11)) k.toNat = any) → (∀ j, 0 ≤ j → j < k → hA h' 8 j = cg9 (ccf h) (cutF (hF h 2 1) (hA h 11)) j) → Wp m_X0_tick (d + 2) 5 [(2, 2), (2, 11), (2, 12), (0, any), (0, k)] [] h' Q := by
  intro m
  induction m with
  | zero => intro k any h' hm; exact absurd hm (Nat.not_lt_zero _)
  | succ m ih =>
    intro k any h' hm k0 k1 fr hany hj
    have sh' := sh.fr fr (by decide +kernel) (by decide)
    have e0 : hF h' 2 0 = hF h 2 0 := fr.2.2.2.2.1 2 0 (by decide)
    have e1 : hF h' 2 1 = hF h 2 1 := fr.2.2.2.2.1 2 1 (by decide)
    have e3 : hA h' 3 = hA h 3 := fr.2.2.2.2.2 3 (by decide)
    have e6 : hA h' 6 = hA h 6 := fr.2.2.2.2.2 6 (by decide)
    have ea : hA h' 11 = hA h 11 := fr.2.2.2.2.2 11 (by decide)
    obtain ⟨⟨r0, r1⟩, ⟨n0, n1⟩, ⟨m0, m1⟩, hp, hq⟩ := id bi
    have hcf : ∀ j, 0 ≤ j → j < hF h 2 1 → (cutF (hF h 2 1) (hA h 11)) j = hA h 11 j := fun j j0 j1 => cutF_in j0 j1
    have hany01 := can9_01 (ccf h) (cutF (hF h 2 1) (hA h 11)) k.toNat
    rw [hany] at hany01
    refine Wp.ild (j := 4) rfl dX0_tick_5 ?_
    refine Wp.ald_n (j := 0) rfl dX0_tick_7 ?_
    refine Wp.getf (k := 1) (tg := 0) kC0 (by decide) rfl lf_X0_15 dX0_tick_8 (sK2 (h := h') sh') e1 ?_
    refine Wp.icge dX0_tick_11 (by decide) (tgt := 125) (fun c11 => ?_) (fun c11 => ?_)
    · have ek : k = hF h 2 1 := by omega
      rw [ek] at hany
      exact kq h' k any fr hany (fun j j0 j1 => hj j j0 (by omega))
    · have hrk := hrow k k0 (by omega)
      refine Wp.ald_n (j := 0) rfl dX0_tick_14 ?_
      refine Wp.getf (k := 3) (tg := 2) kC0 (by decide) rfl lf_X0_21 dX0_tick_15 (sK2 (h := h') sh') (sF2_3 (h := h') sh') ?_
      refine Wp.ild (j := 4) rfl dX0_tick_18 ?_
      refine Wp.iaload dX0_tick_20 (sK3 (h := h') sh') (by omega) (ilt (sL3 (h := h') sh') (by omega)) (congrFun e3 k) ?_
      refine Wp.iconst dX0_tick_21 (by decide) ?_
      refine Wp.icne dX0_tick_22 (by decide) (tgt := 63) (fun c22 => ?_) (fun c22 => ?_)
      · refine Wp.ald_n (j := 0) rfl dX0_tick_63 ?_
        refine Wp.getf (k := 3) (tg := 2) kC0 (by decide) rfl lf_X0_21 dX0_tick_64 (sK2 (h := h') sh') (sF2_3 (h := h') sh') ?_
        refine Wp.ild (j := 4) rfl dX0_tick_67 ?_
        refine Wp.iaload dX0_tick_69 (sK3 (h := h') sh') (by omega) (ilt (sL3 (h := h') sh') (by omega)) (congrFun e3 k) ?_
        refine Wp.iconst dX0_tick_70 (by decide) ?_
        refine Wp.icne dX0_tick_71 (by decide) (tgt := 102) (fun c71 => ?_) (fun c71 => ?_)
        · refine Wp.ald_n (j := 0) rfl dX0_tick_102 ?_
          refine Wp.getf (k := 9) (tg := 2) kC0 (by decide) rfl lf_X0_40 dX0_tick_103 (sK2 (h := h') sh') (sF2_9 (h := h') sh') ?_
          refine Wp.ild (j := 4) rfl dX0_tick_106 ?_
          refine Wp.ald_n (j := 0) rfl dX0_tick_108 ?_
          refine Wp.ald_n (j := 1) rfl dX0_tick_109 ?_
          refine Wp.ild (j := 4) rfl dX0_tick_110 ?_
          refine Wp.iaload dX0_tick_112 (sK11 (h := h') sh') (by omega) (ilt (sL11 (h := h') sh') (by omega)) (congrFun ea k) ?_
          refine Wp.iconst dX0_tick_113 (by decide) ?_
          refine Wp.iaddE dX0_tick_114 (by first | exact w32_of (by omega) (by omega) | rfl) ?_
          have ct115 := fun p p0 p1 => ct_wrap (d + 1) h' sh' p (by omega) (by omega) p0 p1
          rw [e0] at ct115
          refine Wp.callV1 (ct115 _ (by omega) (by omega)) wc_X0_83 iM_X0_wrap se_X0_wrap kC0 (sK2 (h := h') sh') dX0_tick_115 rfl (Nat.le_of_ble_eq_true rfl) rfl (Nat.le_of_ble_eq_true rfl) ?_
          refine Wp.iastore dX0_tick_118 (sK8 (h := h') sh') (by omega) (ilt (sL8 (h := h') sh') (by omega)) ?_
          refine inc_5_4 rfl dX0_tick_119 (by first | exact w32_of (by omega) (by omega) | rfl) ?_
          refine Wp.goto (tgt := 5) dX0_tick_122 (by decide) ?_
          have hca : can9 (ccf h) (cutF (hF h 2 1) (hA h 11)) (k + 1).toNat = any := by
            rw [show (k + 1).toNat = k.toNat + 1 by omega]
            show (if hA h 3 ((k.toNat : Nat) : Int) = 2 ∧ hF h 2 0 ≤ (cutF (hF h 2 1) (hA h 11)) ((k.toNat : Nat) : Int) + 1 then (1 : Int) else _) = _
            rw [show ((k.toNat : Nat) : Int) = k by omega, if_neg (fun z => c22 z.1), hany]
          refine ih (k + 1) _ _ (by omega) (by omega) (by omega) (fr.tr (Fr.e (by decide))) hca (fun j j0 j1 => ?_)
          rw [hA_sEs]
          by_cases hjk : j = k
          · rw [hjk, u1_s]
            symm
            unfold cg9
            rw [if_neg (show ¬ (ccf h).2.1 k = 2 from c22), if_neg (show ¬ (ccf h).2.1 k = 1 from c71)]
            unfold wrpC
            rw [hcf k k0 (by omega)]
            rfl
          · rw [u1_n _ _ hjk]
            exact hj j j0 (by omega)
        · refine Wp.ald_n (j := 0) rfl dX0_tick_74 ?_
          refine Wp.getf (k := 9) (tg := 2) kC0 (by decide) rfl lf_X0_40 dX0_tick_75 (sK2 (h := h') sh') (sF2_9 (h := h') sh') ?_
          refine Wp.ild (j := 4) rfl dX0_tick_78 ?_
          refine Wp.ald_n (j := 0) rfl dX0_tick_80 ?_
          refine Wp.ald_n (j := 1) rfl dX0_tick_81 ?_
          refine Wp.ild (j := 4) rfl dX0_tick_82 ?_
          refine Wp.iaload dX0_tick_84 (sK11 (h := h') sh') (by omega) (ilt (sL11 (h := h') sh') (by omega)) (congrFun ea k) ?_
          refine Wp.iconst dX0_tick_85 (by decide) ?_
          refine Wp.iaddE dX0_tick_86 (by first | exact w32_of (by omega) (by omega) | rfl) ?_
          refine Wp.ald_n (j := 0) rfl dX0_tick_87 ?_
          refine Wp.ild (j := 4) rfl dX0_tick_88 ?_
          refine Wp.ald_n (j := 1) rfl dX0_tick_90 ?_
          have hpb := plS_bd (f := hA h 11) (r := hF h 2 0) (m := hA h 11 k) (s := kand (hA h 6 k) (kxor (kshl 1 k) (-1))) hrk (hF h 2 1).toNat (fun i i0 i1 => hrow i i0 (by omega))
          have hpv := plV_bd (r := hF h 2 0) (by omega) hpb.1 hpb.2.1 hpb.2.2.1
          have ct91 := ct_pullOn (d + 1) h' sh' 11 k (sK11 (h := h') sh') (sL11 (h := h') sh') k0 (by omega) (by omega) (by omega) (by rw [e0, e1, ea]; exact hrow)
          rw [e0, e1, ea, e6] at ct91
          refine Wp.callV1 (ct91) wc_X0_79 iM_X0_pullOn se_X0_pullOn kC0 (sK2 (h := h') sh') dX0_tick_91 rfl (Nat.le_of_ble_eq_true rfl) rfl (Nat.le_of_ble_eq_true rfl) ?_
          refine Wp.iaddE dX0_tick_94 (by first | exact w32_of (by omega) (by omega) | rfl) ?_
          have ct95 := fun p p0 p1 => ct_wrap (d + 1) h' sh' p (by omega) (by omega) p0 p1
          rw [e0] at ct95
          refine Wp.callV1 (ct95 _ (by omega) (by omega)) wc_X0_83 iM_X0_wrap se_X0_wrap kC0 (sK2 (h := h') sh') dX0_tick_95 rfl (Nat.le_of_ble_eq_true rfl) rfl (Nat.le_of_ble_eq_true rfl) ?_
          refine Wp.iastore dX0_tick_98 (sK8 (h := h') sh') (by omega) (ilt (sL8 (h := h') sh') (by omega)) ?_
          refine Wp.goto (tgt := 119) dX0_tick_99 (by decide) ?_
          refine inc_5_4 rfl dX0_tick_119 (by first | exact w32_of (by omega) (by omega) | rfl) ?_
          refine Wp.goto (tgt := 5) dX0_tick_122 (by decide) ?_
          have hca : can9 (ccf h) (cutF (hF h 2 1) (hA h 11)) (k + 1).toNat = any := by
            rw [show (k + 1).toNat = k.toNat + 1 by omega]
            show (if hA h 3 ((k.toNat : Nat) : Int) = 2 ∧ hF h 2 0 ≤ (cutF (hF h 2 1) (hA h 11)) ((k.toNat : Nat) : Int) + 1 then (1 : Int) else _) = _
            rw [show ((k.toNat : Nat) : Int) = k by omega, if_neg (fun z => c22 z.1), hany]
          refine ih (k + 1) _ _ (by omega) (by omega) (by omega) (fr.tr (Fr.e (by decide))) hca (fun j j0 j1 => ?_)
          rw [hA_sEs]
          by_cases hjk : j = k
          · rw [hjk, u1_s]
            symm
            unfold cg9
            rw [if_neg (show ¬ (ccf h).2.1 k = 2 from c22), if_pos (show (ccf h).2.1 k = 1 from c71)]
            unfold wrpC pulC
            rw [hcf k k0 (by omega), plS_eq (f := (cutF (hF h 2 1) (hA h 11))) (g := hA h 11) _ (fun i i0 i1 => hcf i i0 (by show i < hF h 2 1; have : (ccf h).1.1 = hF h 2 1 := rfl; omega))]
            rfl
          · rw [u1_n _ _ hjk]
            exact hj j j0 (by omega)
      · refine Wp.ald_n (j := 0) rfl dX0_tick_25 ?_
        refine Wp.getf (k := 9) (tg := 2) kC0 (by decide) rfl lf_X0_40 dX0_tick_26 (sK2 (h := h') sh') (sF2_9 (h := h') sh') ?_
        refine Wp.ild (j := 4) rfl dX0_tick_29 ?_
        refine Wp.ald_n (j := 1) rfl dX0_tick_31 ?_
        refine Wp.ild (j := 4) rfl dX0_tick_32 ?_
        refine Wp.iaload dX0_tick_34 (sK11 (h := h') sh') (by omega) (ilt (sL11 (h := h') sh') (by omega)) (congrFun ea k) ?_
        refine Wp.iconst dX0_tick_35 (by decide) ?_
        refine Wp.iaddE dX0_tick_36 (by first | exact w32_of (by omega) (by omega) | rfl) ?_
        refine Wp.iastore dX0_tick_37 (sK8 (h := h') sh') (by omega) (ilt (sL8 (h := h') sh') (by omega)) ?_
        refine Wp.ild_n (j := 3) rfl dX0_tick_38 ?_
        refine Wp.ald_n (j := 0) rfl dX0_tick_39 ?_
        refine Wp.getf (k := 9) (tg := 2) kC0 (by decide) rfl lf_X0_40 dX0_tick_40 (sK2 (h := h') sh') (sF2_9 (h := h') sh') ?_
        refine Wp.ild (j := 4) rfl dX0_tick_43 ?_
        refine Wp.iaload dX0_tick_45 (sK8 (h := h') sh') (by omega) (ilt (sL8 (h := h') sh') (by omega)) (show hA (sE h' 8 k (hA h 11 k + 1)) 8 k = hA h 11 k + 1 from u1_s (hA h' 8) k _) ?_
        refine Wp.ald_n (j := 0) rfl dX0_tick_46 ?_
        refine Wp.getf (k := 0) (tg := 0) kC0 (by decide) rfl lf_X0_9 dX0_tick_47 (sK2 (h := h') sh') e0 ?_
        refine Wp.iclt dX0_tick_50 (by decide) (tgt := 57) (fun c50 => ?_) (fun c50 => ?_)
        · refine Wp.iconst dX0_tick_57 (by decide) ?_
          refine Wp.ior dX0_tick_58 ?_
          refine sti_5_3 rfl (dSt_n dX0_tick_59) ?_
          refine Wp.goto (tgt := 119) dX0_tick_60 (by decide) ?_
          refine inc_5_4 rfl dX0_tick_119 (by first | exact w32_of (by omega) (by omega) | rfl) ?_
          refine Wp.goto (tgt := 5) dX0_tick_122 (by decide) ?_
          have hca : can9 (ccf h) (cutF (hF h 2 1) (hA h 11)) (k + 1).toNat = any := by
            rw [show (k + 1).toNat = k.toNat + 1 by omega]
            show (if hA h 3 ((k.toNat : Nat) : Int) = 2 ∧ hF h 2 0 ≤ (cutF (hF h 2 1) (hA h 11)) ((k.toNat : Nat) : Int) + 1 then (1 : Int) else _) = _
            rw [show ((k.toNat : Nat) : Int) = k by omega, if_neg (fun z => by have := hcf k k0 (by omega); omega), hany]
          have ko : kor any 0 = any := (kor01 hany01).2
          refine ih (k + 1) _ _ (by omega) (by omega) (by omega) (fr.tr (Fr.e (by decide))) (by rw [ko]; exact hca) (fun j j0 j1 => ?_)
          rw [hA_sEs]
          by_cases hjk : j = k
          · rw [hjk, u1_s]
            symm
            unfold cg9
            rw [if_pos (show (ccf h).2.1 k = 2 from c22), hcf k k0 (by omega)]
          · rw [u1_n _ _ hjk]
            exact hj j j0 (by omega)
        · refine Wp.iconst dX0_tick_53 (by decide) ?_
          refine Wp.goto (tgt := 58) dX0_tick_54 (by decide) ?_
          refine Wp.ior dX0_tick_58 ?_
          refine sti_5_3 rfl (dSt_n dX0_tick_59) ?_
          refine Wp.goto (tgt := 119) dX0_tick_60 (by decide) ?_
          refine inc_5_4 rfl dX0_tick_119 (by first | exact w32_of (by omega) (by omega) | rfl) ?_
          refine Wp.goto (tgt := 5) dX0_tick_122 (by decide) ?_
          have hca : can9 (ccf h) (cutF (hF h 2 1) (hA h 11)) (k + 1).toNat = 1 := by
            rw [show (k + 1).toNat = k.toNat + 1 by omega]
            show (if hA h 3 ((k.toNat : Nat) : Int) = 2 ∧ hF h 2 0 ≤ (cutF (hF h 2 1) (hA h 11)) ((k.toNat : Nat) : Int) + 1 then (1 : Int) else _) = _
            rw [show ((k.toNat : Nat) : Int) = k by omega, if_pos ⟨c22, by have := hcf k k0 (by omega); omega⟩]
          have ko : kor any 1 = 1 := (kor01 hany01).1
          refine ih (k + 1) _ _ (by omega) (by omega) (by omega) (fr.tr (Fr.e (by decide))) (by rw [ko]; exact hca) (fun j j0 j1 => ?_)
          rw [hA_sEs]
          by_cases hjk : j = k
          · rw [hjk, u1_s]
            symm
            unfold cg9
            rw [if_pos (show (ccf h).2.1 k = 2 from c22), hcf k k0 (by omega)]
          · rw [u1_n _ _ hjk]
            exact hj j j0 (by omega)

theorem xtick_end (d : Nat) (h : mH) (sh : Sh h) (bi : BI h) (h' : mH) (fr : Fr [8, 9, 12, 11] [] h h') (g : Int → Int) (hg : ∀ j, 0 ≤ j → j < hF h 2 1 → hA h' 8 j = g j) (hr : ∀ j, 0 ≤ j → j < hF h 2 1 → 0 ≤ g j ∧ g j < hF h 2 0) (eg : cutF (hF h 2 1) g = cT9 (ccf h) (hA h 11)) (any k : Int) : Wp m_X0_tick (d + 2) 134 [(2, 2), (2, 11), (2, 12), (0, any), (0, k)] [] h' (fun r t => r = none ∧ Fr [8, 9, 12, 11] [] h t ∧ ∀ j, 0 ≤ j → j < hF h 2 1 → hA t 11 j = cT9 (ccf h) (hA h 11) j ∧ 0 ≤ hA t 11 j ∧ hA t 11 j < hF h 2 0) := by
  have sh' := sh.fr fr (by decide +kernel) (by decide)
  have e1 : hF h' 2 1 = hF h 2 1 := fr.2.2.2.2.1 2 1 (by decide)
  obtain ⟨n0, n1⟩ := bi.2.1
  refine Wp.ald_n (j := 0) rfl dX0_tick_134 ?_
  refine Wp.getf (k := 9) (tg := 2) kC0 (by decide) rfl lf_X0_40 dX0_tick_135 (sK2 (h := h') sh') (sF2_9 (h := h') sh') ?_
  refine Wp.iconst dX0_tick_138 (by decide) ?_
  refine Wp.ald_n (j := 1) rfl dX0_tick_139 ?_
  refine Wp.iconst dX0_tick_140 (by decide) ?_
  refine Wp.ald_n (j := 0) rfl dX0_tick_141 ?_
  refine Wp.getf (k := 1) (tg := 0) kC0 (by decide) rfl lf_X0_15 dX0_tick_142 (sK2 (h := h') sh') e1 ?_
  refine Wp.acopy (t := 10) (Or.inl rfl) wa_X0_90 wA2 wA3 wA4 dX0_tick_145 (sK8 (h := h') sh') (sK11 (h := h') sh') (by omega) (by omega) (by omega) (ile (sL8 (h := h') sh') (by omega)) (ile (sL11 (h := h') sh') (by omega)) (Nat.le_of_ble_eq_true rfl) ?_
  refine Wp.vret rfl dX0_tick_148 ?_
  refine ⟨rfl, fr.tr (Fr.a (by decide)), fun j j0 j1 => ?_⟩
  rw [hA_sAs]
  unfold cpF
  rw [if_pos (by omega), show (0 : Int) + (j - 0) = j by omega, hg j j0 j1, ← eg, cutF_in j0 j1]
  exact ⟨rfl, hr j j0 j1⟩

theorem cq_tickX (d : Nat) (h : mH) (sh : Sh h) (bi : BI h) (hrow : ∀ k, 0 ≤ k → k < hF h 2 1 → 0 ≤ hA h 11 k ∧ hA h 11 k < hF h 2 0) : Cq m_X0_tick (d + 2) [(2, 2), (2, 11), (2, 12)] h (fun r t => r = none ∧ Fr [8, 9, 12, 11] [] h t ∧ ∀ j, 0 ≤ j → j < hF h 2 1 → hA t 11 j = cT9 (ccf h) (hA h 11) j ∧ 0 ≤ hA t 11 j ∧ hA t 11 j < hF h 2 0) := by
  refine Cq.of ?_
  show Wp m_X0_tick ((d + 2)) 0 [(2, 2), (2, 11), (2, 12), (9, 0), (9, 0)] [] h _
  obtain ⟨⟨r0, r1⟩, ⟨n0, n1⟩, ⟨m0, m1⟩, hp, hq⟩ := id bi
  refine Wp.iconst dX0_tick_0 (by decide) ?_
  refine sti_5_3 rfl (dSt_n dX0_tick_1) ?_
  refine Wp.iconst dX0_tick_2 (by decide) ?_
  refine sti_5_4 rfl (dSt_w dX0_tick_3) ?_
  refine xtick_loop d h sh bi hrow _ (fun t k any frt hany ht => ?_) _ 0 0 h (Nat.lt_succ_self _) (Int.le_refl _) bi.2.1.1 Fr.rf rfl (fun j j0 j1 => by omega)
  have sht : Sh t := sh.fr frt (by decide +kernel) (by decide)
  have t0 : hF t 2 0 = hF h 2 0 := frt.2.2.2.2.1 2 0 (by decide)
  have t1 : hF t 2 1 = hF h 2 1 := frt.2.2.2.2.1 2 1 (by decide)
  have t3 : hA t 3 = hA h 3 := frt.2.2.2.2.2 3 (by decide)
  have tc : ccf t = ccf h := ccf_fr frt (by decide) (by decide) (by decide) (by decide) (by decide) (by decide)
  have hb9 := fun j (j0 : 0 ≤ j) (j1 : j < hF h 2 1) => cg9_bd (c := ccf h) (f := (cutF (hF h 2 1) (hA h 11))) (k := j) r0 r1 (fun i i0 (i1 : i < hF h 2 1) => by rw [cutF_in i0 i1]; exact hrow i i0 i1) j0 j1
  refine Wp.ild_n (j := 3) rfl dX0_tick_125 ?_
  refine Wp.ifeq dX0_tick_126 (by decide) (tgt := 134) (fun c => ?_) (fun c => ?_)
  · refine xtick_end d h sh bi t (frt.mono (by decide) (by decide)) (cg9 (ccf h) (cutF (hF h 2 1) (hA h 11))) ht (fun j j0 j1 => ?_) ?_ any k
    · refine ⟨(hb9 j j0 j1).1, ?_⟩
      by_cases z : hA h 3 j = 2
      · have := can9_0 (c := ccf h) (f := (cutF (hF h 2 1) (hA h 11))) (by rw [hany]; exact c) j j0 (by omega) z
        unfold cg9
        rw [if_pos (show (ccf h).2.1 j = 2 from z)]
        exact this
      · exact (hb9 j j0 j1).2.2 z
    · unfold cT9
      rw [if_pos (show can9 (ccf h) (cutF (ccf h).1.1 (hA h 11)) (ccf h).1.1.toNat = 0 by rw [← c, ← hany]; rfl)]
      rfl
  · obtain ⟨_, t131, ct131, rfl, fr131, hg131, hr131⟩ := cq_fireX d t sht (bi.fr frt (by decide) (by decide) (by decide) (by decide) (by decide)) (cg9 (ccf h) (cutF (hF h 2 1) (hA h 11))) (by rw [t1]; exact ht) (by rw [t0, t1, t3]; exact hb9)
    rw [t1, t0, tc] at hr131
    rw [t1, tc] at hg131
    refine Wp.ald_n (j := 0) rfl dX0_tick_129 ?_
    refine Wp.ald_n (j := 2) rfl dX0_tick_130 ?_
    refine Wp.callV0 (ct131) wc_X0_86 iM_X0_fire se_X0_fire kC0 (sK2 (h := t) sht) dX0_tick_131 rfl (Nat.le_of_ble_eq_true rfl) rfl (Nat.le_of_ble_eq_true rfl) ?_
    refine xtick_end d h sh bi t131 ((frt.mono (by decide) (by decide)).tr (fr131.mono (by decide) (by decide))) (cfi (ccf h) (cg9 (ccf h) (cutF (hF h 2 1) (hA h 11)))) hg131 hr131 ?_ any k
    unfold cT9
    rw [if_neg (show ¬ can9 (ccf h) (cutF (ccf h).1.1 (hA h 11)) (ccf h).1.1.toNat = 0 from fun z => c (by rw [← hany]; exact z))]
    rfl

