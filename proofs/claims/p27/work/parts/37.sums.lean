theorem multiplyRow_in (d : Nat) (h : mH) (sh : Sh h) (spx : SPx h) (a : Int) (ka : hK h a = 11) (la : hL h a = 100) (i : Int) (i0 : 0 ≤ i) (i1 : i < 10) (Q : Option mV → mH → Prop) (kq : ∀ (x : Int) (u5 : mV), Wp m_X3_multiplyRow (d + 2) 55 [(2, 22), (2, a), (0, i), (1, x), (9, 0), u5] [] h Q) : ∀ (m : Nat) (k x : Int), (10 - k).toNat < m → (0 ≤ k) → Wp m_X3_multiplyRow (d + 2) 17 [(2, 22), (2, a), (0, i), (1, x), (9, 0), (0, k)] [] h Q := by
  intro m
  induction m with
  | zero => intro k x hm; exact absurd hm (Nat.not_lt_zero _)
  | succ m ih =>
    intro k x hm k0
    obtain ⟨pw, sp, rr, sr, spq⟩ := id spx
    have kl := spq.k sh
    obtain ⟨⟨p0, p1, p2⟩, ⟨r0, r1, r2⟩, ⟨z0, z1⟩, ⟨q0, q1⟩, ⟨o0, o1⟩⟩ := id spq
    refine Wp.ild (j := 5) rfl dX3_multiplyRow_17 ?_
    refine Wp.ald_n (j := 0) rfl dX3_multiplyRow_19 ?_
    refine Wp.getf (k := 0) (tg := 0) kC3 (by decide) rfl lf_X3_9 dX3_multiplyRow_20 (sK22 (h := h) sh) (show hF _ 22 0 = hF h 22 0 from rfl) ?_
    refine Wp.icge dX3_multiplyRow_23 (by decide) (tgt := 55) (fun c23 => ?_) (fun c23 => ?_)
    · exact kq _ _
    · refine Wp.lld_n (j := 3) rfl dX3_multiplyRow_26 ?_
      refine Wp.ald_n (j := 1) rfl dX3_multiplyRow_27 ?_
      refine Wp.ild_n (j := 2) rfl dX3_multiplyRow_28 ?_
      refine Wp.ild (j := 5) rfl dX3_multiplyRow_29 ?_
      refine Wp.callS1 (ct_place (d + 1) _ _ _ (by omega) (by omega) (by omega) (by omega)) wc_X3_66 sM_X3_place dX3_multiplyRow_31 rfl (Nat.le_of_ble_eq_true rfl) rfl (Nat.le_of_ble_eq_true rfl) ?_
      refine Wp.laload dX3_multiplyRow_34 ka (by omega) (ilt la (by omega)) (show hA _ a _ = hA h a _ from rfl) ?_
      refine Wp.ald_n (j := 0) rfl dX3_multiplyRow_35 ?_
      refine Wp.getf (k := 5) (tg := 2) kC3 (by decide) rfl lf_X3_28 dX3_multiplyRow_36 (sK22 (h := h) sh) r0 ?_
      refine Wp.ild (j := 5) rfl dX3_multiplyRow_39 ?_
      refine Wp.laload dX3_multiplyRow_41 kl.2.2.1.1 (by omega) (ilt kl.2.2.1.2 (by omega)) (show hA _ rr _ = hA h rr _ from rfl) ?_
      obtain ⟨_, tj, ctj, ⟨yj, rfl⟩, ej⟩ := cq_join (d + 1) h (hA h a (i * 10 + k)) (hA h rr k)
      rw [ej] at ctj
      refine Wp.callS1 (ctj) wc_X3_78 sM_X3_join dX3_multiplyRow_42 rfl (Nat.le_of_ble_eq_true rfl) rfl (Nat.le_of_ble_eq_true rfl) ?_
      refine Wp.mlmax wm_X3_82 dX3_multiplyRow_45 (Nat.le_of_ble_eq_true rfl) ?_
      refine stl_6_3 rfl (dSt_n dX3_multiplyRow_48) ?_
      refine inc_6_5 rfl dX3_multiplyRow_49 (by first | exact w32_of (by omega) (by omega) | rfl) ?_
      refine Wp.goto (tgt := 17) dX3_multiplyRow_52 (by decide) ?_
      exact ih (k + 1) _ (by omega) (by omega)

theorem multiplyRow_tl (d : Nat) (h : mH) (sh : Sh h) (spx : SPx h) (a : Int) (ka : hK h a = 11) (la : hL h a = 100) (i : Int) (i0 : 0 ≤ i) (i1 : i < 10) (x : Int) (u5 : mV) (Q : Option mV → mH → Prop) (kq : ∀ (t : mH), SPx t → Fr sAr [] h t → Wp m_X3_multiplyRow (d + 2) 2 [(2, 22), (2, a), (0, i + 1), (1, x), (9, 0), u5] [] t Q) : Wp m_X3_multiplyRow (d + 2) 55 [(2, 22), (2, a), (0, i), (1, x), (9, 0), u5] [] h Q := by
  obtain ⟨pw, sp, rr, sr, spq⟩ := id spx
  have kl := spq.k sh
  obtain ⟨⟨p0, p1, p2⟩, ⟨r0, r1, r2⟩, ⟨z0, z1⟩, ⟨q0, q1⟩, ⟨o0, o1⟩⟩ := id spq
  refine Wp.ald_n (j := 0) rfl dX3_multiplyRow_55 ?_
  refine Wp.getf (k := 6) (tg := 2) kC3 (by decide) rfl lf_X3_31 dX3_multiplyRow_56 (sK22 (h := h) sh) r1 ?_
  refine Wp.ild_n (j := 2) rfl dX3_multiplyRow_59 ?_
  refine Wp.lld_n (j := 3) rfl dX3_multiplyRow_60 ?_
  refine Wp.lastore dX3_multiplyRow_61 kl.2.2.2.1 (by omega) (ilt kl.2.2.2.2 (by omega)) ?_
  refine inc_6_2 rfl dX3_multiplyRow_62 (by first | exact w32_of (by omega) (by omega) | rfl) ?_
  refine Wp.goto (tgt := 2) dX3_multiplyRow_65 (by decide) ?_
  have f : Fr sAr [] h (sE h sr i x) := Fr.e (by simp; omega)
  exact kq _ (spx.fr f (by decide)) f

theorem multiplyRow_out (d : Nat) (h : mH) (sh : Sh h) (spx : SPx h) (a : Int) (ka : hK h a = 11) (la : hL h a = 100) : ∀ (m : Nat) (i : Int) (u3 u4 u5 : mV) (h' : mH), (10 - i).toNat < m → (0 ≤ i) → (Fr sAr [] h h') → (SPx h') → Wp m_X3_multiplyRow (d + 2) 2 [(2, 22), (2, a), (0, i), u3, u4, u5] [] h' (fun r t => r = none ∧ SPx t ∧ Fr sAr sGf h t) := by
  intro m
  induction m with
  | zero => intro i u3 u4 u5 h' hm; exact absurd hm (Nat.not_lt_zero _)
  | succ m ih =>
    intro i u3 u4 u5 h' hm i0 fr spx'
    have sh' := sh.fr fr (by decide +kernel) (by decide)
    obtain ⟨pw, sp, rr, sr, spq⟩ := id spx'
    have kl := spq.k sh'
    obtain ⟨⟨p0, p1, p2⟩, ⟨r0, r1, r2⟩, ⟨z0, z1⟩, ⟨q0, q1⟩, ⟨o0, o1⟩⟩ := id spq
    have ka' : hK h' a = 11 := by rw [fr.2.2.1]; exact ka
    have la' : hL h' a = 100 := by rw [fr.2.2.2.1]; exact la
    refine Wp.ild_n (j := 2) rfl dX3_multiplyRow_2 ?_
    refine Wp.ald_n (j := 0) rfl dX3_multiplyRow_3 ?_
    refine Wp.getf (k := 0) (tg := 0) kC3 (by decide) rfl lf_X3_9 dX3_multiplyRow_4 (sK22 (h := h') sh') (show hF _ 22 0 = hF h' 22 0 from rfl) ?_
    refine Wp.icge dX3_multiplyRow_7 (by decide) (tgt := 68) (fun c7 => ?_) (fun c7 => ?_)
    · refine Wp.ald_n (j := 0) rfl dX3_multiplyRow_68 ?_
      refine Wp.getf (k := 6) (tg := 2) kC3 (by decide) rfl lf_X3_31 dX3_multiplyRow_69 (sK22 (h := h') sh') r1 ?_
      refine sta_6_2 rfl (dSt_n dX3_multiplyRow_72) ?_
      refine Wp.ald_n (j := 0) rfl dX3_multiplyRow_73 ?_
      refine Wp.ald_n (j := 0) rfl dX3_multiplyRow_74 ?_
      refine Wp.getf (k := 5) (tg := 2) kC3 (by decide) rfl lf_X3_28 dX3_multiplyRow_75 (sK22 (h := h') sh') r0 ?_
      refine Wp.putf (k := 6) (tg := 2) kC3 (by decide) rfl rfl lf_X3_31 dX3_multiplyRow_78 (sK22 (h := h') sh') ?_
      refine Wp.ald_n (j := 0) rfl dX3_multiplyRow_81 ?_
      refine Wp.ald_n (j := 2) rfl dX3_multiplyRow_82 ?_
      refine Wp.putf (k := 5) (tg := 2) kC3 (by decide) rfl rfl lf_X3_28 dX3_multiplyRow_83 (sK22 (h := h') sh') ?_
      refine Wp.vret rfl dX3_multiplyRow_86 ?_
      exact ⟨rfl, ⟨pw, sp, sr, rr, ⟨p0, p1, p2⟩, ⟨rfl, rfl, by omega⟩, ⟨z0, z1⟩, ⟨q0, q1⟩, ⟨o0, o1⟩⟩, (fr.mono (fun _ z => z) (by simp)).tr ((Fr.f (by decide)).tr (Fr.f (by decide)))⟩
    · refine Wp.ldc2 (z := -9223372036854775808) lk_X3_58 (by decide) dX3_multiplyRow_10 ?_
      refine stl_6_3 rfl (dSt_n dX3_multiplyRow_13) ?_
      refine Wp.iconst dX3_multiplyRow_14 (by decide) ?_
      refine sti_6_5 rfl (dSt_w dX3_multiplyRow_15) ?_
      exact multiplyRow_in d h' sh' spx' a ka' la' i i0 (by omega) _ (fun x v5 => multiplyRow_tl d h' sh' spx' a ka' la' i i0 (by omega) x v5 _ (fun t st ft => ih (i + 1) _ _ _ t (by omega) (by omega) (fr.tr ft) st)) _ 0 _ (Nat.lt_succ_self _) (Int.le_refl _)

theorem cq_multiplyRow (d : Nat) (h : mH) (sh : Sh h) (spx : SPx h) (a : Int) (ka : hK h a = 11) (la : hL h a = 100) : Cq m_X3_multiplyRow (d + 2) [(2, 22), (2, a)] h (fun r t => r = none ∧ SPx t ∧ Fr sAr sGf h t) := by
  refine Cq.of ?_
  show Wp m_X3_multiplyRow ((d + 2)) 0 [(2, 22), (2, a), (9, 0), (9, 0), (9, 0), (9, 0)] [] h _
  obtain ⟨pw, sp, rr, sr, spq⟩ := id spx
  have kl := spq.k sh
  obtain ⟨⟨p0, p1, p2⟩, ⟨r0, r1, r2⟩, ⟨z0, z1⟩, ⟨q0, q1⟩, ⟨o0, o1⟩⟩ := id spq
  refine Wp.iconst dX3_multiplyRow_0 (by decide) ?_
  refine sti_6_2 rfl (dSt_n dX3_multiplyRow_1) ?_
  exact multiplyRow_out d h sh spx a ka la _ 0 _ _ _ h (Nat.lt_succ_self _) (Int.le_refl _) Fr.rf spx

theorem qshr1 {a : Int} (h0 : 0 ≤ a) (h1 : a < 9223372036854775808) : qshr a 1 = a / 2 := by
  unfold qshr
  rw [show ((Int32.ofInt 1).toInt64 &&& 63) = (1 : Int64) from by decide]
  show (Int64.ofInt a >>> (1 : Int64)).toBitVec.toInt = _
  rw [Int64.toBitVec_shiftRight]
  rw [show ((1 : Int64).toBitVec.smod 64) = 1#64 from by decide]
  rw [BitVec.sshiftRight_eq', BitVec.toInt_sshiftRight]
  have e : (Int64.ofInt a).toBitVec.toInt = a := by
    show (Int64.ofInt a).toInt = a
    exact Int64.toInt_ofInt_of_le (by simp; omega) (by simp; omega)
  rw [e, Int.shiftRight_eq_div_pow]
  rfl
theorem sumOf_loop (d : Nat) (h : mH) (sh : Sh h) (spx : SPx h) (n i j : Int) (i0 : 0 ≤ i) (i1 : i < 10) : ∀ (m : Nat) (x : Int) (h' : mH), x.toNat < m → (0 ≤ x) → (x < 9223372036854775808) → (Fr sAr sGf h h') → (SPx h') → Wp m_X3_sumOf (d + 4) 24 [(2, 22), (1, n), (9, 0), (0, i), (0, j), (1, x), (9, 0)] [] h' (fun r t => (∃ y, r = some (1, y)) ∧ SPx t ∧ Fr sAr sGf h t) := by
  intro m
  induction m with
  | zero => intro x h' hm; exact absurd hm (Nat.not_lt_zero _)
  | succ m ih =>
    intro x h' hm x0 x1 fr spx'
    have sh' := sh.fr fr (by decide +kernel) (by decide)
    obtain ⟨pw, sp, rr, sr, spq⟩ := id spx'
    have kl := spq.k sh'
    obtain ⟨⟨p0, p1, p2⟩, ⟨r0, r1, r2⟩, ⟨z0, z1⟩, ⟨q0, q1⟩, ⟨o0, o1⟩⟩ := id spq
    refine Wp.lld (j := 5) rfl dX3_sumOf_24 ?_
    refine Wp.lconst (z := 0) dX3_sumOf_26 (by decide) ?_
    refine Wp.lcle dX3_sumOf_27 dX3_sumOf_28 (by decide) (tgt := 72) (fun c27 => ?_) (fun c27 => ?_)
    · refine Wp.ald_n (j := 0) rfl dX3_sumOf_72 ?_
      refine Wp.getf (k := 5) (tg := 2) kC3 (by decide) rfl lf_X3_28 dX3_sumOf_73 (sK22 (h := h') sh') r0 ?_
      refine Wp.ild_n (j := 3) rfl dX3_sumOf_76 ?_
      refine Wp.laload dX3_sumOf_77 kl.2.2.1.1 (by omega) (ilt kl.2.2.1.2 (by omega)) (show hA _ rr _ = hA h' rr _ from rfl) ?_
      refine Wp.lret rfl dX3_sumOf_78 ?_
      exact ⟨⟨_, rfl⟩, spx', fr⟩
    · refine Wp.lld (j := 5) rfl dX3_sumOf_31 ?_
      refine Wp.lconst (z := 1) dX3_sumOf_33 (by decide) ?_
      refine Wp.land dX3_sumOf_34 ?_
      refine Wp.lconst (z := 0) dX3_sumOf_35 (by decide) ?_
      refine Wp.lceq dX3_sumOf_36 dX3_sumOf_37 (by decide) (tgt := 48) (fun c36 => ?_) (fun c36 => ?_)
      · refine Wp.lld (j := 5) rfl dX3_sumOf_48 ?_
        refine Wp.lconst (z := 1) dX3_sumOf_50 (by decide) ?_
        refine Wp.lcle dX3_sumOf_51 dX3_sumOf_52 (by decide) (tgt := 63) (fun c51 => ?_) (fun c51 => ?_)
        · refine Wp.lld (j := 5) rfl dX3_sumOf_63 ?_
          refine Wp.iconst dX3_sumOf_65 (by decide) ?_
          refine Wp.lshr dX3_sumOf_66 ?_
          refine stl_7_5 rfl (dSt_w dX3_sumOf_67) ?_
          refine Wp.goto (tgt := 24) dX3_sumOf_69 (by decide) ?_
          have hq := qshr1 x0 x1
          first
          | exact ih _ _ (by rw [hq]; omega) (by rw [hq]; omega) (by rw [hq]; omega) (fr.tr (f45.tr f60)) spx60
          | exact ih _ _ (by rw [hq]; omega) (by rw [hq]; omega) (by rw [hq]; omega) (fr.tr f60) spx60
          | exact ih _ _ (by rw [hq]; omega) (by rw [hq]; omega) (by rw [hq]; omega) (fr.tr f45) spx45
          | exact ih _ _ (by rw [hq]; omega) (by rw [hq]; omega) (by rw [hq]; omega) fr spx'
        · refine Wp.ald_n (j := 0) rfl dX3_sumOf_55 ?_
          refine Wp.ald_n (j := 0) rfl dX3_sumOf_56 ?_
          refine Wp.getf (k := 2) (tg := 2) kC3 (by decide) rfl lf_X3_19 dX3_sumOf_57 (sK22 (h := h') sh') p0 ?_
          obtain ⟨_, t60, ct60, rfl, spx60, f60⟩ := cq_multiplyPower d h' sh' spx' pw kl.1.1 kl.1.2
          refine Wp.callV0 (ct60) wc_X3_101 iM_X3_multiplyPower se_X3_multiplyPower kC3 (sK22 (h := h') sh') dX3_sumOf_60 rfl (Nat.le_of_ble_eq_true rfl) rfl (Nat.le_of_ble_eq_true rfl) ?_
          have sh60 := sh'.fr f60 (by decide +kernel) (by decide)
          obtain ⟨pw60, sp60, rr60, sr60, spq60⟩ := id spx60
          have kl60 := spq60.k sh60
          obtain ⟨⟨p060, p160, p260⟩, ⟨r060, r160, r260⟩, ⟨z060, z160⟩, -⟩ := id spq60
          refine Wp.lld (j := 5) rfl dX3_sumOf_63 ?_
          refine Wp.iconst dX3_sumOf_65 (by decide) ?_
          refine Wp.lshr dX3_sumOf_66 ?_
          refine stl_7_5 rfl (dSt_w dX3_sumOf_67) ?_
          refine Wp.goto (tgt := 24) dX3_sumOf_69 (by decide) ?_
          have hq := qshr1 x0 x1
          first
          | exact ih _ _ (by rw [hq]; omega) (by rw [hq]; omega) (by rw [hq]; omega) (fr.tr (f45.tr f60)) spx60
          | exact ih _ _ (by rw [hq]; omega) (by rw [hq]; omega) (by rw [hq]; omega) (fr.tr f60) spx60
          | exact ih _ _ (by rw [hq]; omega) (by rw [hq]; omega) (by rw [hq]; omega) (fr.tr f45) spx45
          | exact ih _ _ (by rw [hq]; omega) (by rw [hq]; omega) (by rw [hq]; omega) fr spx'
      · refine Wp.ald_n (j := 0) rfl dX3_sumOf_40 ?_
        refine Wp.ald_n (j := 0) rfl dX3_sumOf_41 ?_
        refine Wp.getf (k := 2) (tg := 2) kC3 (by decide) rfl lf_X3_19 dX3_sumOf_42 (sK22 (h := h') sh') p0 ?_
        obtain ⟨_, t45, ct45, rfl, spx45, f45⟩ := cq_multiplyRow (d + 1) h' sh' spx' pw kl.1.1 kl.1.2
        refine Wp.callV0 (ct45) wc_X3_97 iM_X3_multiplyRow se_X3_multiplyRow kC3 (sK22 (h := h') sh') dX3_sumOf_45 rfl (Nat.le_of_ble_eq_true rfl) rfl (Nat.le_of_ble_eq_true rfl) ?_
        have sh45 := sh'.fr f45 (by decide +kernel) (by decide)
        obtain ⟨pw45, sp45, rr45, sr45, spq45⟩ := id spx45
        have kl45 := spq45.k sh45
        obtain ⟨⟨p045, p145, p245⟩, ⟨r045, r145, r245⟩, ⟨z045, z145⟩, -⟩ := id spq45
        refine Wp.lld (j := 5) rfl dX3_sumOf_48 ?_
        refine Wp.lconst (z := 1) dX3_sumOf_50 (by decide) ?_
        refine Wp.lcle dX3_sumOf_51 dX3_sumOf_52 (by decide) (tgt := 63) (fun c51 => ?_) (fun c51 => ?_)
        · refine Wp.lld (j := 5) rfl dX3_sumOf_63 ?_
          refine Wp.iconst dX3_sumOf_65 (by decide) ?_
          refine Wp.lshr dX3_sumOf_66 ?_
          refine stl_7_5 rfl (dSt_w dX3_sumOf_67) ?_
          refine Wp.goto (tgt := 24) dX3_sumOf_69 (by decide) ?_
          have hq := qshr1 x0 x1
          first
          | exact ih _ _ (by rw [hq]; omega) (by rw [hq]; omega) (by rw [hq]; omega) (fr.tr (f45.tr f60)) spx60
          | exact ih _ _ (by rw [hq]; omega) (by rw [hq]; omega) (by rw [hq]; omega) (fr.tr f60) spx60
          | exact ih _ _ (by rw [hq]; omega) (by rw [hq]; omega) (by rw [hq]; omega) (fr.tr f45) spx45
          | exact ih _ _ (by rw [hq]; omega) (by rw [hq]; omega) (by rw [hq]; omega) fr spx'
        · refine Wp.ald_n (j := 0) rfl dX3_sumOf_55 ?_
          refine Wp.ald_n (j := 0) rfl dX3_sumOf_56 ?_
          refine Wp.getf (k := 2) (tg := 2) kC3 (by decide) rfl lf_X3_19 dX3_sumOf_57 (sK22 (h := t45) sh45) p045 ?_
          obtain ⟨_, t60, ct60, rfl, spx60, f60⟩ := cq_multiplyPower d t45 sh45 spx45 pw45 kl45.1.1 kl45.1.2
          refine Wp.callV0 (ct60) wc_X3_101 iM_X3_multiplyPower se_X3_multiplyPower kC3 (sK22 (h := t45) sh45) dX3_sumOf_60 rfl (Nat.le_of_ble_eq_true rfl) rfl (Nat.le_of_ble_eq_true rfl) ?_
          have sh60 := sh45.fr f60 (by decide +kernel) (by decide)
          obtain ⟨pw60, sp60, rr60, sr60, spq60⟩ := id spx60
          have kl60 := spq60.k sh60
          obtain ⟨⟨p060, p160, p260⟩, ⟨r060, r160, r260⟩, ⟨z060, z160⟩, -⟩ := id spq60
          refine Wp.lld (j := 5) rfl dX3_sumOf_63 ?_
          refine Wp.iconst dX3_sumOf_65 (by decide) ?_
          refine Wp.lshr dX3_sumOf_66 ?_
          refine stl_7_5 rfl (dSt_w dX3_sumOf_67) ?_
          refine Wp.goto (tgt := 24) dX3_sumOf_69 (by decide) ?_
          have hq := qshr1 x0 x1
          first
          | exact ih _ _ (by rw [hq]; omega) (by rw [hq]; omega) (by rw [hq]; omega) (fr.tr (f45.tr f60)) spx60
          | exact ih _ _ (by rw [hq]; omega) (by rw [hq]; omega) (by rw [hq]; omega) (fr.tr f60) spx60
          | exact ih _ _ (by rw [hq]; omega) (by rw [hq]; omega) (by rw [hq]; omega) (fr.tr f45) spx45
          | exact ih _ _ (by rw [hq]; omega) (by rw [hq]; omega) (by rw [hq]; omega) fr spx'

theorem cq_sumOf (d : Nat) (h : mH) (sh : Sh h) (spx : SPx h) (n i j : Int) (n0 : 0 ≤ n) (n1 : n < 9223372036854775808) (i0 : 0 ≤ i) (i1 : i < 10) (j0 : 0 ≤ j) (j1 : j < 10) : Cq m_X3_sumOf (d + 4) [(2, 22), (1, n), (0, i), (0, j)] h (fun r t => (∃ y, r = some (1, y)) ∧ SPx t ∧ Fr sAr sGf h t) := by
  refine Cq.of ?_
  show Wp m_X3_sumOf ((d + 4)) 0 [(2, 22), (1, n), (9, 0), (0, i), (0, j), (9, 0), (9, 0)] [] h _
  obtain ⟨pw, sp, rr, sr, spq⟩ := id spx
  have kl := spq.k sh
  obtain ⟨⟨p0, p1, p2⟩, ⟨r0, r1, r2⟩, ⟨z0, z1⟩, ⟨q0, q1⟩, ⟨o0, o1⟩⟩ := id spq
  refine Wp.ald_n (j := 0) rfl dX3_sumOf_0 ?_
  refine Wp.getf (k := 1) (tg := 2) kC3 (by decide) rfl lf_X3_15 dX3_sumOf_1 (sK22 (h := h) sh) (sF22_1 (h := h) sh) ?_
  refine Wp.iconst dX3_sumOf_4 (by decide) ?_
  refine Wp.ald_n (j := 0) rfl dX3_sumOf_5 ?_
  refine Wp.getf (k := 2) (tg := 2) kC3 (by decide) rfl lf_X3_19 dX3_sumOf_6 (sK22 (h := h) sh) p0 ?_
  refine Wp.iconst dX3_sumOf_9 (by decide) ?_
  refine Wp.bipush dX3_sumOf_10 (by decide) ?_
  refine Wp.acopy (t := 11) (Or.inr rfl) wa_X3_87 wA2 wA3 wA4 dX3_sumOf_12 (sK23 (h := h) sh) kl.1.1 (by omega) (by omega) (by omega) (ile (sL23 (h := h) sh) (by omega)) (ile kl.1.2 (by omega)) (Nat.le_of_ble_eq_true rfl) ?_
  refine Wp.ald_n (j := 0) rfl dX3_sumOf_15 ?_
  refine Wp.ild (j := 4) rfl dX3_sumOf_16 ?_
  have f12 : Fr sAr [] h (sA h pw (cpF (hA h 23) (hA h pw) 0 0 100)) := Fr.a (by simp; omega)
  have sh12 := sh.fr f12 (by decide +kernel) (by decide)
  obtain ⟨_, t18, ct18, rfl, spx18, f18⟩ := cq_startRow (d + 2) _ sh12 (spx.fr f12 (by decide)) j j0 j1
  refine Wp.callV0 (ct18) wc_X3_93 iM_X3_startRow se_X3_startRow kC3 (sK22 (h := h) sh) dX3_sumOf_18 rfl (Nat.le_of_ble_eq_true rfl) rfl (Nat.le_of_ble_eq_true rfl) ?_
  have sh18 := sh12.fr f18 (by decide +kernel) (by decide)
  obtain ⟨pw18, sp18, rr18, sr18, spq18⟩ := id spx18
  have kl18 := spq18.k sh18
  obtain ⟨⟨p018, p118, p218⟩, ⟨r018, r118, r218⟩, ⟨z018, z118⟩, -⟩ := id spq18
  refine Wp.lld_n (j := 1) rfl dX3_sumOf_21 ?_
  refine stl_7_5 rfl (dSt_w dX3_sumOf_22) ?_
  refine (sumOf_loop d t18 sh18 spx18 n i j i0 i1 _ n t18 (Nat.lt_succ_self _) n0 n1 Fr.rf spx18).mono (fun r t q => ⟨q.1, q.2.1, ?_⟩)
  exact (f12.mono (fun _ z => z) (by simp)).tr (f18.tr q.2.2)

theorem longestSum_loop (d : Nat) (h : mH) (sh : Sh h) (spx : SPx h) (i j : Int) (i0 : 0 ≤ i) (i1 : i < 10) : ∀ (m : Nat) (n x : Int) (h' : mH), (10 - n).toNat < m → (0 ≤ n) → (Fr sAr sGf h h') → (SPx h') → Wp m_X3_longestSum (d + 3) 15 [(2, 22), (0, i), (0, j), (1, x), (9, 0), (0, n)] [] h' (fun r t => (∃ y, r = some (1, y)) ∧ SPx t ∧ Fr sAr sGf h t) := by
  intro m
  induction m with
  | zero => intro n x h' hm; exact absurd hm (Nat.not_lt_zero _)
  | succ m ih =>
    intro n x h' hm n0 fr spx'
    have sh' := sh.fr fr (by decide +kernel) (by decide)
    obtain ⟨pw, sp, rr, sr, spq⟩ := id spx'
    have kl := spq.k sh'
    obtain ⟨⟨p0, p1, p2⟩, ⟨r0, r1, r2⟩, ⟨z0, z1⟩, ⟨q0, q1⟩, ⟨o0, o1⟩⟩ := id spq
    refine Wp.ild (j := 5) rfl dX3_longestSum_15 ?_
    refine Wp.ald_n (j := 0) rfl dX3_longestSum_17 ?_
    refine Wp.getf (k := 0) (tg := 0) kC3 (by decide) rfl lf_X3_9 dX3_longestSum_18 (sK22 (h := h') sh') (show hF _ 22 0 = hF h' 22 0 from rfl) ?_
    refine Wp.icge dX3_longestSum_21 (by decide) (tgt := 49) (fun c21 => ?_) (fun c21 => ?_)
    · refine Wp.lld_n (j := 3) rfl dX3_longestSum_49 ?_
      refine Wp.lret rfl dX3_longestSum_50 ?_
      exact ⟨⟨_, rfl⟩, spx', fr⟩
    · refine Wp.ald_n (j := 0) rfl dX3_longestSum_24 ?_
      refine Wp.ald_n (j := 0) rfl dX3_longestSum_25 ?_
      refine Wp.getf (k := 1) (tg := 2) kC3 (by decide) rfl lf_X3_15 dX3_longestSum_26 (sK22 (h := h') sh') (sF22_1 (h := h') sh') ?_
      obtain ⟨_, t29, ct29, rfl, spx29, f29⟩ := cq_multiplyRow d h' sh' spx' 23 (sK23 (h := h') sh') (sL23 (h := h') sh')
      refine Wp.callV0 (ct29) wc_X3_97 iM_X3_multiplyRow se_X3_multiplyRow kC3 (sK22 (h := h') sh') dX3_longestSum_29 rfl (Nat.le_of_ble_eq_true rfl) rfl (Nat.le_of_ble_eq_true rfl) ?_
      have sh29 := sh'.fr f29 (by decide +kernel) (by decide)
      obtain ⟨pw29, sp29, rr29, sr29, spq29⟩ := id spx29
      have kl29 := spq29.k sh29
      obtain ⟨⟨p029, p129, p229⟩, ⟨r029, r129, r229⟩, ⟨z029, z129⟩, -⟩ := id spq29
      refine Wp.lld_n (j := 3) rfl dX3_longestSum_32 ?_
      refine Wp.ald_n (j := 0) rfl dX3_longestSum_33 ?_
      refine Wp.getf (k := 5) (tg := 2) kC3 (by decide) rfl lf_X3_28 dX3_longestSum_34 (sK22 (h := t29) sh29) r029 ?_
      refine Wp.ild_n (j := 1) rfl dX3_longestSum_37 ?_
      refine Wp.laload dX3_longestSum_38 kl29.2.2.1.1 (by omega) (ilt kl29.2.2.1.2 (by omega)) (show hA _ rr29 _ = hA t29 rr29 _ from rfl) ?_
      refine Wp.mlmax wm_X3_82 dX3_longestSum_39 (Nat.le_of_ble_eq_true rfl) ?_
      refine stl_6_3 rfl (dSt_n dX3_longestSum_42) ?_
      refine inc_6_5 rfl dX3_longestSum_43 (by first | exact w32_of (by omega) (by omega) | rfl) ?_
      refine Wp.goto (tgt := 15) dX3_longestSum_46 (by decide) ?_
      exact ih (n + 1) _ _ (by omega) (by omega) (fr.tr f29) spx29

theorem cq_longestSum (d : Nat) (h : mH) (sh : Sh h) (spx : SPx h) (i j : Int) (i0 : 0 ≤ i) (i1 : i < 10) (j0 : 0 ≤ j) (j1 : j < 10) : Cq m_X3_longestSum (d + 3) [(2, 22), (0, i), (0, j)] h (fun r t => (∃ y, r = some (1, y)) ∧ SPx t ∧ Fr sAr sGf h t) := by
  refine Cq.of ?_
  show Wp m_X3_longestSum ((d + 3)) 0 [(2, 22), (0, i), (0, j), (9, 0), (9, 0), (9, 0)] [] h _
  obtain ⟨pw, sp, rr, sr, spq⟩ := id spx
  have kl := spq.k sh
  obtain ⟨⟨p0, p1, p2⟩, ⟨r0, r1, r2⟩, ⟨z0, z1⟩, ⟨q0, q1⟩, ⟨o0, o1⟩⟩ := id spq
  refine Wp.ald_n (j := 0) rfl dX3_longestSum_0 ?_
  refine Wp.ild_n (j := 2) rfl dX3_longestSum_1 ?_
  obtain ⟨_, t2, ct2, rfl, spx2, f2⟩ := cq_startRow (d + 1) h sh spx j j0 j1
  refine Wp.callV0 (ct2) wc_X3_93 iM_X3_startRow se_X3_startRow kC3 (sK22 (h := h) sh) dX3_longestSum_2 rfl (Nat.le_of_ble_eq_true rfl) rfl (Nat.le_of_ble_eq_true rfl) ?_
  have sh2 := sh.fr f2 (by decide +kernel) (by decide)
  obtain ⟨pw2, sp2, rr2, sr2, spq2⟩ := id spx2
  have kl2 := spq2.k sh2
  obtain ⟨⟨p02, p12, p22⟩, ⟨r02, r12, r22⟩, ⟨z02, z12⟩, -⟩ := id spq2
  refine Wp.ald_n (j := 0) rfl dX3_longestSum_5 ?_
  refine Wp.getf (k := 5) (tg := 2) kC3 (by decide) rfl lf_X3_28 dX3_longestSum_6 (sK22 (h := t2) sh2) r02 ?_
  refine Wp.ild_n (j := 1) rfl dX3_longestSum_9 ?_
  refine Wp.laload dX3_longestSum_10 kl2.2.2.1.1 (by omega) (ilt kl2.2.2.1.2 (by omega)) (show hA _ rr2 _ = hA t2 rr2 _ from rfl) ?_
  refine stl_6_3 rfl (dSt_n dX3_longestSum_11) ?_
  refine Wp.iconst dX3_longestSum_12 (by decide) ?_
  refine sti_6_5 rfl (dSt_w dX3_longestSum_13) ?_
  exact (longestSum_loop d t2 sh2 spx2 i j i0 i1 _ 1 _ t2 (Nat.lt_succ_self _) (by decide) Fr.rf spx2).mono (fun r t q => ⟨q.1, q.2.1, f2.tr q.2.2⟩)

theorem takeRounds_loop (d : Nat) (h : mH) (sh : Sh h) (spx : SPx h) (n : Int) (n0 : 1 ≤ n) (n1 : n ≤ 10) : ∀ (m : Nat) (i : Int) (u3 u4 : mV) (h' : mH), (10 - i).toNat < m → (0 ≤ i) → (Fr sAr sGf h h') → (SPx h') → Wp m_X3_takeRounds (d + 1) 2 [(2, 22), (0, n), (0, i), u3, u4] [] h' (fun r t => r = none ∧ SPx t ∧ Fr sAr sGf h t) := by
  intro m
  induction m with
  | zero => intro i u3 u4 h' hm; exact absurd hm (Nat.not_lt_zero _)
  | succ m ih =>
    intro i u3 u4 h' hm i0 fr spx'
    have sh' := sh.fr fr (by decide +kernel) (by decide)
    obtain ⟨pw, sp, rr, sr, spq⟩ := id spx'
    have kl := spq.k sh'
    obtain ⟨⟨p0, p1, p2⟩, ⟨r0, r1, r2⟩, ⟨z0, z1⟩, ⟨q0, q1⟩, ⟨o0, o1⟩⟩ := id spq
    refine Wp.ild_n (j := 2) rfl dX3_takeRounds_2 ?_
    refine Wp.ald_n (j := 0) rfl dX3_takeRounds_3 ?_
    refine Wp.getf (k := 0) (tg := 0) kC3 (by decide) rfl lf_X3_9 dX3_takeRounds_4 (sK22 (h := h') sh') (show hF _ 22 0 = hF h' 22 0 from rfl) ?_
    refine Wp.icge dX3_takeRounds_7 (by decide) (tgt := 75) (fun c7 => ?_) (fun c7 => ?_)
    · refine Wp.vret rfl dX3_takeRounds_75 ?_
      exact ⟨rfl, spx', fr⟩
    · refine Wp.ald_n (j := 0) rfl dX3_takeRounds_10 ?_
      refine Wp.getf (k := 2) (tg := 2) kC3 (by decide) rfl lf_X3_19 dX3_takeRounds_11 (sK22 (h := h') sh') p0 ?_
      refine Wp.ild_n (j := 2) rfl dX3_takeRounds_14 ?_
      refine Wp.ild_n (j := 2) rfl dX3_takeRounds_15 ?_
      refine Wp.callS1 (ct_place d _ _ _ (by omega) (by omega) (by omega) (by omega)) wc_X3_66 sM_X3_place dX3_takeRounds_16 rfl (Nat.le_of_ble_eq_true rfl) rfl (Nat.le_of_ble_eq_true rfl) ?_
      refine Wp.laload dX3_takeRounds_19 kl.1.1 (by omega) (ilt kl.1.2 (by omega)) (show hA _ pw _ = hA h' pw _ from rfl) ?_
      refine stl_5_3 rfl (dSt_n dX3_takeRounds_20) ?_
      refine Wp.lld_n (j := 3) rfl dX3_takeRounds_21 ?_
      refine Wp.ldc2 (z := -9223372036854775808) lk_X3_58 (by decide) dX3_takeRounds_22 ?_
      refine Wp.lceq dX3_takeRounds_25 dX3_takeRounds_26 (by decide) (tgt := 69) (fun c25 => ?_) (fun c25 => ?_)
      · refine inc_5_2 rfl dX3_takeRounds_69 (by first | exact w32_of (by omega) (by omega) | rfl) ?_
        refine Wp.goto (tgt := 2) dX3_takeRounds_72 (by decide) ?_
        first
        | exact ih (i + 1) _ _ _ (by omega) (by omega) fr spx'
        | exact ih (i + 1) _ _ _ (by omega) (by omega) (fr.tr ((Fr.f (by decide)).tr ((Fr.f (by decide)).tr (Fr.f (by decide))))) ⟨pw, sp, rr, sr, ⟨p0, p1, p2⟩, ⟨r0, r1, r2⟩, ⟨z0, z1⟩, ⟨by show 0 ≤ n; omega, by show n ≤ 10; omega⟩, ⟨by show 1 ≤ n; omega, by show n ≤ 10; omega⟩⟩
      · refine Wp.ald_n (j := 0) rfl dX3_takeRounds_29 ?_
        refine Wp.getf (k := 11) (tg := 0) kC3 (by decide) rfl lf_X3_49 dX3_takeRounds_30 (sK22 (h := h') sh') (show hF _ 22 11 = hF h' 22 11 from rfl) ?_
        refine Wp.ifeq dX3_takeRounds_33 (by decide) (tgt := 53) (fun c33 => ?_) (fun c33 => ?_)
        · refine Wp.ald_n (j := 0) rfl dX3_takeRounds_53 ?_
          refine Wp.lld_n (j := 3) rfl dX3_takeRounds_54 ?_
          refine Wp.putf (k := 9) (tg := 1) kC3 (by decide) rfl rfl lf_X3_42 dX3_takeRounds_55 (sK22 (h := h') sh') ?_
          refine Wp.ald_n (j := 0) rfl dX3_takeRounds_58 ?_
          refine Wp.ild_n (j := 1) rfl dX3_takeRounds_59 ?_
          refine Wp.i2l dX3_takeRounds_60 ?_
          refine Wp.putf (k := 10) (tg := 1) kC3 (by decide) rfl rfl lf_X3_46 dX3_takeRounds_61 (sK22 (h := h') sh') ?_
          refine Wp.ald_n (j := 0) rfl dX3_takeRounds_64 ?_
          refine Wp.ild_n (j := 1) rfl dX3_takeRounds_65 ?_
          refine Wp.putf (k := 11) (tg := 0) kC3 (by decide) rfl rfl lf_X3_49 dX3_takeRounds_66 (sK22 (h := h') sh') ?_
          refine inc_5_2 rfl dX3_takeRounds_69 (by first | exact w32_of (by omega) (by omega) | rfl) ?_
          refine Wp.goto (tgt := 2) dX3_takeRounds_72 (by decide) ?_
          first
          | exact ih (i + 1) _ _ _ (by omega) (by omega) fr spx'
          | exact ih (i + 1) _ _ _ (by omega) (by omega) (fr.tr ((Fr.f (by decide)).tr ((Fr.f (by decide)).tr (Fr.f (by decide))))) ⟨pw, sp, rr, sr, ⟨p0, p1, p2⟩, ⟨r0, r1, r2⟩, ⟨z0, z1⟩, ⟨by show 0 ≤ n; omega, by show n ≤ 10; omega⟩, ⟨by show 1 ≤ n; omega, by show n ≤ 10; omega⟩⟩
        · refine Wp.lld_n (j := 3) rfl dX3_takeRounds_36 ?_
          refine Wp.ald_n (j := 0) rfl dX3_takeRounds_37 ?_
          refine Wp.getf (k := 10) (tg := 1) kC3 (by decide) rfl lf_X3_46 dX3_takeRounds_38 (sK22 (h := h') sh') (show hF _ 22 10 = hF h' 22 10 from rfl) ?_
          refine Wp.lmulE dX3_takeRounds_41 rfl ?_
          refine Wp.ald_n (j := 0) rfl dX3_takeRounds_42 ?_
          refine Wp.getf (k := 9) (tg := 1) kC3 (by decide) rfl lf_X3_42 dX3_takeRounds_43 (sK22 (h := h') sh') (show hF _ 22 9 = hF h' 22 9 from rfl) ?_
          refine Wp.ild_n (j := 1) rfl dX3_takeRounds_46 ?_
          refine Wp.i2l dX3_takeRounds_47 ?_
          refine Wp.lmulE dX3_takeRounds_48 rfl ?_
          refine Wp.lcle dX3_takeRounds_49 dX3_takeRounds_50 (by decide) (tgt := 69) (fun c49 => ?_) (fun c49 => ?_)
          · refine inc_5_2 rfl dX3_takeRounds_69 (by first | exact w32_of (by omega) (by omega) | rfl) ?_
            refine Wp.goto (tgt := 2) dX3_takeRounds_72 (by decide) ?_
            first
            | exact ih (i + 1) _ _ _ (by omega) (by omega) fr spx'
            | exact ih (i + 1) _ _ _ (by omega) (by omega) (fr.tr ((Fr.f (by decide)).tr ((Fr.f (by decide)).tr (Fr.f (by decide))))) ⟨pw, sp, rr, sr, ⟨p0, p1, p2⟩, ⟨r0, r1, r2⟩, ⟨z0, z1⟩, ⟨by show 0 ≤ n; omega, by show n ≤ 10; omega⟩, ⟨by show 1 ≤ n; omega, by show n ≤ 10; omega⟩⟩
          · refine Wp.ald_n (j := 0) rfl dX3_takeRounds_53 ?_
            refine Wp.lld_n (j := 3) rfl dX3_takeRounds_54 ?_
            refine Wp.putf (k := 9) (tg := 1) kC3 (by decide) rfl rfl lf_X3_42 dX3_takeRounds_55 (sK22 (h := h') sh') ?_
            refine Wp.ald_n (j := 0) rfl dX3_takeRounds_58 ?_
            refine Wp.ild_n (j := 1) rfl dX3_takeRounds_59 ?_
            refine Wp.i2l dX3_takeRounds_60 ?_
            refine Wp.putf (k := 10) (tg := 1) kC3 (by decide) rfl rfl lf_X3_46 dX3_takeRounds_61 (sK22 (h := h') sh') ?_
            refine Wp.ald_n (j := 0) rfl dX3_takeRounds_64 ?_
            refine Wp.ild_n (j := 1) rfl dX3_takeRounds_65 ?_
            refine Wp.putf (k := 11) (tg := 0) kC3 (by decide) rfl rfl lf_X3_49 dX3_takeRounds_66 (sK22 (h := h') sh') ?_
            refine inc_5_2 rfl dX3_takeRounds_69 (by first | exact w32_of (by omega) (by omega) | rfl) ?_
            refine Wp.goto (tgt := 2) dX3_takeRounds_72 (by decide) ?_
            first
            | exact ih (i + 1) _ _ _ (by omega) (by omega) fr spx'
            | exact ih (i + 1) _ _ _ (by omega) (by omega) (fr.tr ((Fr.f (by decide)).tr ((Fr.f (by decide)).tr (Fr.f (by decide))))) ⟨pw, sp, rr, sr, ⟨p0, p1, p2⟩, ⟨r0, r1, r2⟩, ⟨z0, z1⟩, ⟨by show 0 ≤ n; omega, by show n ≤ 10; omega⟩, ⟨by show 1 ≤ n; omega, by show n ≤ 10; omega⟩⟩

theorem cq_takeRounds (d : Nat) (h : mH) (sh : Sh h) (spx : SPx h) (n : Int) (n0 : 1 ≤ n) (n1 : n ≤ 10) : Cq m_X3_takeRounds (d + 1) [(2, 22), (0, n)] h (fun r t => r = none ∧ SPx t ∧ Fr sAr sGf h t) := by
  refine Cq.of ?_
  show Wp m_X3_takeRounds ((d + 1)) 0 [(2, 22), (0, n), (9, 0), (9, 0), (9, 0)] [] h _
  obtain ⟨pw, sp, rr, sr, spq⟩ := id spx
  have kl := spq.k sh
  obtain ⟨⟨p0, p1, p2⟩, ⟨r0, r1, r2⟩, ⟨z0, z1⟩, ⟨q0, q1⟩, ⟨o0, o1⟩⟩ := id spq
  refine Wp.iconst dX3_takeRounds_0 (by decide) ?_
  refine sti_5_2 rfl (dSt_n dX3_takeRounds_1) ?_
  exact takeRounds_loop d h sh spx n n0 n1 _ 0 _ _ h (Nat.lt_succ_self _) (Int.le_refl _) Fr.rf spx

theorem tdq {a b : Int} (a1 : 1 ≤ a) (a2 : a ≤ 10) (b1 : 1 < b) (b2 : b ≤ 10) (hm : a.tmod b = 0) : w64 (a.tdiv b) = a.tdiv b ∧ 1 ≤ a.tdiv b ∧ a.tdiv b ≤ 10 := by
  have h1 := tdn (a := a) (b := b) (by omega) (by omega)
  have h2 : b * a.tdiv b + a.tmod b = a := Int.mul_tdiv_add_tmod a b
  have h3 : 1 ≤ a.tdiv b := by
    rcases Int.lt_or_le (a.tdiv b) 1 with z | z
    · have e : a.tdiv b = 0 := by omega
      rw [e, hm, Int.mul_zero] at h2
      omega
    · exact z
  exact ⟨w64_of (by omega) (by omega), h3, by omega⟩
theorem reducePace_loop (d : Nat) (h : mH) (sh : Sh h) (spx : SPx h) : ∀ (m : Nat) (x : Int), x.toNat < m → (x ≤ 10) → Wp m_X3_reducePace d 5 [(2, 22), (1, x), (9, 0)] [] h (fun r t => r = none ∧ SPx t ∧ Fr sAr sGf h t) := by
  intro m
  induction m with
  | zero => intro x hm; exact absurd hm (Nat.not_lt_zero _)
  | succ m ih =>
    intro x hm x1
    obtain ⟨pw, sp, rr, sr, spq⟩ := id spx
    have kl := spq.k sh
    obtain ⟨⟨p0, p1, p2⟩, ⟨r0, r1, r2⟩, ⟨z0, z1⟩, ⟨q0, q1⟩, ⟨o0, o1⟩⟩ := id spq
    refine Wp.lld_n (j := 1) rfl dX3_reducePace_5 ?_
    refine Wp.lconst (z := 1) dX3_reducePace_6 (by decide) ?_
    refine Wp.lcle dX3_reducePace_7 dX3_reducePace_8 (by decide) (tgt := 61) (fun c7 => ?_) (fun c7 => ?_)
    · refine Wp.vret rfl dX3_reducePace_61 ?_
      exact ⟨rfl, spx, Fr.rf⟩
    · refine Wp.ald_n (j := 0) rfl dX3_reducePace_11 ?_
      refine Wp.getf (k := 9) (tg := 1) kC3 (by decide) rfl lf_X3_42 dX3_reducePace_12 (sK22 (h := h) sh) (show hF _ 22 9 = hF h 22 9 from rfl) ?_
      refine Wp.lld_n (j := 1) rfl dX3_reducePace_15 ?_
      refine Wp.lremE dX3_reducePace_16 (by omega) rfl ?_
      refine Wp.lconst (z := 0) dX3_reducePace_17 (by decide) ?_
      refine Wp.lcne dX3_reducePace_18 dX3_reducePace_19 (by decide) (tgt := 54) (fun c18 => ?_) (fun c18 => ?_)
      · refine Wp.lld_n (j := 1) rfl dX3_reducePace_54 ?_
        refine Wp.lconst (z := 1) dX3_reducePace_55 (by decide) ?_
        refine Wp.lsubE dX3_reducePace_56 (w64_of (by omega) (by omega)) ?_
        refine stl_3_1 rfl (dSt_n dX3_reducePace_57) ?_
        refine Wp.goto (tgt := 5) dX3_reducePace_58 (by decide) ?_
        exact ih (x - 1) (by omega) (by omega)
      · refine Wp.ald_n (j := 0) rfl dX3_reducePace_22 ?_
        refine Wp.getf (k := 10) (tg := 1) kC3 (by decide) rfl lf_X3_46 dX3_reducePace_23 (sK22 (h := h) sh) (show hF _ 22 10 = hF h 22 10 from rfl) ?_
        refine Wp.lld_n (j := 1) rfl dX3_reducePace_26 ?_
        refine Wp.lremE dX3_reducePace_27 (by omega) rfl ?_
        refine Wp.lconst (z := 0) dX3_reducePace_28 (by decide) ?_
        refine Wp.lcne dX3_reducePace_29 dX3_reducePace_30 (by decide) (tgt := 54) (fun c29 => ?_) (fun c29 => ?_)
        · refine Wp.lld_n (j := 1) rfl dX3_reducePace_54 ?_
          refine Wp.lconst (z := 1) dX3_reducePace_55 (by decide) ?_
          refine Wp.lsubE dX3_reducePace_56 (w64_of (by omega) (by omega)) ?_
          refine stl_3_1 rfl (dSt_n dX3_reducePace_57) ?_
          refine Wp.goto (tgt := 5) dX3_reducePace_58 (by decide) ?_
          exact ih (x - 1) (by omega) (by omega)
        · refine Wp.ald_n (j := 0) rfl dX3_reducePace_33 ?_
          refine Wp.dup dX3_reducePace_34 (Or.inr rfl) ?_
          refine Wp.getf (k := 9) (tg := 1) kC3 (by decide) rfl lf_X3_42 dX3_reducePace_35 (sK22 (h := h) sh) (show hF _ 22 9 = hF h 22 9 from rfl) ?_
          refine Wp.lld_n (j := 1) rfl dX3_reducePace_38 ?_
          refine Wp.ldivE dX3_reducePace_39 (by omega) rfl ?_
          refine Wp.putf (k := 9) (tg := 1) kC3 (by decide) rfl rfl lf_X3_42 dX3_reducePace_40 (sK22 (h := h) sh) ?_
          refine Wp.ald_n (j := 0) rfl dX3_reducePace_43 ?_
          refine Wp.dup dX3_reducePace_44 (Or.inr rfl) ?_
          refine Wp.getf (k := 10) (tg := 1) kC3 (by decide) rfl lf_X3_46 dX3_reducePace_45 (sK22 (h := h) sh) (show hF _ 22 10 = hF h 22 10 from rfl) ?_
          refine Wp.lld_n (j := 1) rfl dX3_reducePace_48 ?_
          refine Wp.ldivE dX3_reducePace_49 (by omega) (tdq o0 o1 (b := x) (by omega) (by omega) (by omega)).1 ?_
          refine Wp.putf (k := 10) (tg := 1) kC3 (by decide) rfl rfl lf_X3_46 dX3_reducePace_50 (sK22 (h := h) sh) ?_
          refine Wp.vret rfl dX3_reducePace_53 ?_
          have ht := tdq o0 o1 (b := x) (by omega) (by omega) (by omega)
          exact ⟨rfl, ⟨pw, sp, rr, sr, ⟨p0, p1, p2⟩, ⟨r0, r1, r2⟩, ⟨z0, z1⟩, ⟨q0, q1⟩, ⟨by show 1 ≤ (hF h 22 10).tdiv x; omega, by show (hF h 22 10).tdiv x ≤ 10; omega⟩⟩, (Fr.f (by decide)).tr (Fr.f (by decide))⟩

theorem cq_reducePace (d : Nat) (h : mH) (sh : Sh h) (spx : SPx h) : Cq m_X3_reducePace d [(2, 22)] h (fun r t => r = none ∧ SPx t ∧ Fr sAr sGf h t) := by
  refine Cq.of ?_
  show Wp m_X3_reducePace (d) 0 [(2, 22), (9, 0), (9, 0)] [] h _
  obtain ⟨pw, sp, rr, sr, spq⟩ := id spx
  have kl := spq.k sh
  obtain ⟨⟨p0, p1, p2⟩, ⟨r0, r1, r2⟩, ⟨z0, z1⟩, ⟨q0, q1⟩, ⟨o0, o1⟩⟩ := id spq
  refine Wp.ald_n (j := 0) rfl dX3_reducePace_0 ?_
  refine Wp.getf (k := 10) (tg := 1) kC3 (by decide) rfl lf_X3_46 dX3_reducePace_1 (sK22 (h := h) sh) (show hF _ 22 10 = hF h 22 10 from rfl) ?_
  refine stl_3_1 rfl (dSt_n dX3_reducePace_4) ?_
  exact reducePace_loop d h sh spx _ _ (Nat.lt_succ_self _) o1

theorem findPace_loop (d : Nat) (h : mH) (sh : Sh h) (spx : SPx h) : ∀ (m : Nat) (n : Int) (h' : mH), (11 - n).toNat < m → (1 ≤ n) → (Fr sAr sGf h h') → (SPx h') → Wp m_X3_findPace (d + 4) 22 [(2, 22), (0, n)] [] h' (fun r t => (∃ y, r = some (0, y) ∧ (y = 0 ∨ y = 1)) ∧ SPx t ∧ Fr sAr sGf h t) := by
  intro m
  induction m with
  | zero => intro n h' hm; exact absurd hm (Nat.not_lt_zero _)
  | succ m ih =>
    intro n h' hm n0 fr spx'
    have sh' := sh.fr fr (by decide +kernel) (by decide)
    obtain ⟨pw, sp, rr, sr, spq⟩ := id spx'
    have kl := spq.k sh'
    obtain ⟨⟨p0, p1, p2⟩, ⟨r0, r1, r2⟩, ⟨z0, z1⟩, ⟨q0, q1⟩, ⟨o0, o1⟩⟩ := id spq
    refine Wp.ild_n (j := 1) rfl dX3_findPace_22 ?_
    refine Wp.ald_n (j := 0) rfl dX3_findPace_23 ?_
    refine Wp.getf (k := 0) (tg := 0) kC3 (by decide) rfl lf_X3_9 dX3_findPace_24 (sK22 (h := h') sh') (show hF _ 22 0 = hF h' 22 0 from rfl) ?_
    refine Wp.icgt dX3_findPace_27 (by decide) (tgt := 49) (fun c27 => ?_) (fun c27 => ?_)
    · refine Wp.ald_n (j := 0) rfl dX3_findPace_49 ?_
      obtain ⟨_, t50, ct50, rfl, spx50, f50⟩ := cq_reducePace (d + 3) h' sh' spx'
      refine Wp.callV0 (ct50) wc_X3_107 iM_X3_reducePace se_X3_reducePace kC3 (sK22 (h := h') sh') dX3_findPace_50 rfl (Nat.le_of_ble_eq_true rfl) rfl (Nat.le_of_ble_eq_true rfl) ?_
      have sh50 := sh'.fr f50 (by decide +kernel) (by decide)
      obtain ⟨pw50, sp50, rr50, sr50, spq50⟩ := id spx50
      have kl50 := spq50.k sh50
      obtain ⟨⟨p050, p150, p250⟩, ⟨r050, r150, r250⟩, ⟨z050, z150⟩, -⟩ := id spq50
      refine Wp.ald_n (j := 0) rfl dX3_findPace_53 ?_
      refine Wp.getf (k := 11) (tg := 0) kC3 (by decide) rfl lf_X3_49 dX3_findPace_54 (sK22 (h := t50) sh50) (show hF _ 22 11 = hF t50 22 11 from rfl) ?_
      refine Wp.ifle dX3_findPace_57 (by decide) (tgt := 64) (fun c57 => ?_) (fun c57 => ?_)
      · refine Wp.iconst dX3_findPace_64 (by decide) ?_
        refine Wp.zret rfl dX3_findPace_65 (by omega) ?_
        first
        | exact ⟨⟨_, rfl, Or.inr rfl⟩, spx50, fr.tr f50⟩
        | exact ⟨⟨_, rfl, Or.inl rfl⟩, spx50, fr.tr f50⟩
      · refine Wp.iconst dX3_findPace_60 (by decide) ?_
        refine Wp.goto (tgt := 65) dX3_findPace_61 (by decide) ?_
        refine Wp.zret rfl dX3_findPace_65 (by omega) ?_
        first
        | exact ⟨⟨_, rfl, Or.inr rfl⟩, spx50, fr.tr f50⟩
        | exact ⟨⟨_, rfl, Or.inl rfl⟩, spx50, fr.tr f50⟩
    · refine Wp.ald_n (j := 0) rfl dX3_findPace_30 ?_
      refine Wp.ild_n (j := 1) rfl dX3_findPace_31 ?_
      obtain ⟨_, t32, ct32, rfl, spx32, f32⟩ := cq_takeRounds (d + 2) h' sh' spx' n n0 (by omega)
      refine Wp.callV0 (ct32) wc_X3_104 iM_X3_takeRounds se_X3_takeRounds kC3 (sK22 (h := h') sh') dX3_findPace_32 rfl (Nat.le_of_ble_eq_true rfl) rfl (Nat.le_of_ble_eq_true rfl) ?_
      have sh32 := sh'.fr f32 (by decide +kernel) (by decide)
      obtain ⟨pw32, sp32, rr32, sr32, spq32⟩ := id spx32
      have kl32 := spq32.k sh32
      obtain ⟨⟨p032, p132, p232⟩, ⟨r032, r132, r232⟩, ⟨z032, z132⟩, -⟩ := id spq32
      refine Wp.ald_n (j := 0) rfl dX3_findPace_35 ?_
      refine Wp.ald_n (j := 0) rfl dX3_findPace_36 ?_
      refine Wp.getf (k := 1) (tg := 2) kC3 (by decide) rfl lf_X3_15 dX3_findPace_37 (sK22 (h := t32) sh32) (sF22_1 (h := t32) sh32) ?_
      obtain ⟨_, t40, ct40, rfl, spx40, f40⟩ := cq_multiplyPower d t32 sh32 spx32 23 (sK23 (h := t32) sh32) (sL23 (h := t32) sh32)
      refine Wp.callV0 (ct40) wc_X3_101 iM_X3_multiplyPower se_X3_multiplyPower kC3 (sK22 (h := t32) sh32) dX3_findPace_40 rfl (Nat.le_of_ble_eq_true rfl) rfl (Nat.le_of_ble_eq_true rfl) ?_
      have sh40 := sh32.fr f40 (by decide +kernel) (by decide)
      obtain ⟨pw40, sp40, rr40, sr40, spq40⟩ := id spx40
      have kl40 := spq40.k sh40
      obtain ⟨⟨p040, p140, p240⟩, ⟨r040, r140, r240⟩, ⟨z040, z140⟩, -⟩ := id spq40
      refine inc_2_1 rfl dX3_findPace_43 (by first | exact w32_of (by omega) (by omega) | rfl) ?_
      refine Wp.goto (tgt := 22) dX3_findPace_46 (by decide) ?_
      exact ih (n + 1) _ (by omega) (by omega) (fr.tr (f32.tr f40)) spx40

theorem cq_findPace (d : Nat) (h : mH) (sh : Sh h) (spx : SPx h) : Cq m_X3_findPace (d + 4) [(2, 22)] h (fun r t => (∃ y, r = some (0, y) ∧ (y = 0 ∨ y = 1)) ∧ SPx t ∧ Fr sAr sGf h t) := by
  refine Cq.of ?_
  show Wp m_X3_findPace ((d + 4)) 0 [(2, 22), (9, 0)] [] h _
  obtain ⟨pw, sp, rr, sr, spq⟩ := id spx
  have kl := spq.k sh
  obtain ⟨⟨p0, p1, p2⟩, ⟨r0, r1, r2⟩, ⟨z0, z1⟩, ⟨q0, q1⟩, ⟨o0, o1⟩⟩ := id spq
  refine Wp.ald_n (j := 0) rfl dX3_findPace_0 ?_
  refine Wp.iconst dX3_findPace_1 (by decide) ?_
  refine Wp.putf (k := 11) (tg := 0) kC3 (by decide) rfl rfl lf_X3_49 dX3_findPace_2 (sK22 (h := h) sh) ?_
  refine Wp.ald_n (j := 0) rfl dX3_findPace_5 ?_
  refine Wp.getf (k := 1) (tg := 2) kC3 (by decide) rfl lf_X3_15 dX3_findPace_6 (sK22 (h := h) sh) (sF22_1 (h := h) sh) ?_
  refine Wp.iconst dX3_findPace_9 (by decide) ?_
  refine Wp.ald_n (j := 0) rfl dX3_findPace_10 ?_
  refine Wp.getf (k := 2) (tg := 2) kC3 (by decide) rfl lf_X3_19 dX3_findPace_11 (sK22 (h := h) sh) p0 ?_
  refine Wp.iconst dX3_findPace_14 (by decide) ?_
  refine Wp.bipush dX3_findPace_15 (by decide) ?_
  refine Wp.acopy (t := 11) (Or.inr rfl) wa_X3_87 wA2 wA3 wA4 dX3_findPace_17 (sK23 (h := h) sh) kl.1.1 (by omega) (by omega) (by omega) (ile (sL23 (h := h) sh) (by omega)) (ile kl.1.2 (by omega)) (Nat.le_of_ble_eq_true rfl) ?_
  refine Wp.iconst dX3_findPace_20 (by decide) ?_
  refine sti_2_1 rfl (dSt_n dX3_findPace_21) ?_
  have f17 : Fr sAr sGf h (sA (sF h 22 11 0) pw (cpF (hA h 23) (hA h pw) 0 0 100)) := (Fr.f (by decide)).tr (Fr.a (by simp; omega))
  have spx17 : SPx (sA (sF h 22 11 0) pw (cpF (hA h 23) (hA h pw) 0 0 100)) := ⟨pw, sp, rr, sr, ⟨p0, p1, p2⟩, ⟨r0, r1, r2⟩, ⟨z0, z1⟩, ⟨Int.le_refl 0, by show (0 : Int) ≤ 10; decide⟩, ⟨o0, o1⟩⟩
  exact (findPace_loop d _ (sh.fr f17 (by decide +kernel) (by decide)) spx17 _ 1 _ (Nat.lt_succ_self _) (by decide) Fr.rf spx17).mono (fun r t q => ⟨q.1, q.2.1, f17.tr q.2.2⟩)

theorem shiftByPace_loop (d : Nat) (h : mH) (sh : Sh h) (spx : SPx h) : ∀ (m : Nat) (k : Int) (h' : mH), (100 - k).toNat < m → (0 ≤ k) → (Fr sAr sGf h h') → (SPx h') → Wp m_X3_shiftByPace d 2 [(2, 22), (0, k)] [] h' (fun r t => r = none ∧ SPx t ∧ Fr sAr sGf h t) := by
  intro m
  induction m with
  | zero => intro k h' hm; exact absurd hm (Nat.not_lt_zero _)
  | succ m ih =>
    intro k h' hm k0 fr spx'
    have sh' := sh.fr fr (by decide +kernel) (by decide)
    obtain ⟨pw, sp, rr, sr, spq⟩ := id spx'
    have kl := spq.k sh'
    obtain ⟨⟨p0, p1, p2⟩, ⟨r0, r1, r2⟩, ⟨z0, z1⟩, ⟨q0, q1⟩, ⟨o0, o1⟩⟩ := id spq
    refine Wp.ild_n (j := 1) rfl dX3_shiftByPace_2 ?_
    refine Wp.bipush dX3_shiftByPace_3 (by decide) ?_
    refine Wp.icge dX3_shiftByPace_5 (by decide) (tgt := 55) (fun c5 => ?_) (fun c5 => ?_)
    · refine Wp.vret rfl dX3_shiftByPace_55 ?_
      exact ⟨rfl, spx', fr⟩
    · refine Wp.ald_n (j := 0) rfl dX3_shiftByPace_8 ?_
      refine Wp.getf (k := 4) (tg := 2) kC3 (by decide) rfl lf_X3_25 dX3_shiftByPace_9 (sK22 (h := h') sh') (sF22_4 (h := h') sh') ?_
      refine Wp.ild_n (j := 1) rfl dX3_shiftByPace_12 ?_
      refine Wp.ald_n (j := 0) rfl dX3_shiftByPace_13 ?_
      refine Wp.getf (k := 1) (tg := 2) kC3 (by decide) rfl lf_X3_15 dX3_shiftByPace_14 (sK22 (h := h') sh') (sF22_1 (h := h') sh') ?_
      refine Wp.ild_n (j := 1) rfl dX3_shiftByPace_17 ?_
      refine Wp.laload dX3_shiftByPace_18 (sK23 (h := h') sh') (by omega) (ilt (sL23 (h := h') sh') (by omega)) (show hA _ 23 _ = hA h' 23 _ from rfl) ?_
      refine Wp.ldc2 (z := -9223372036854775808) lk_X3_58 (by decide) dX3_shiftByPace_19 ?_
      refine Wp.lcne dX3_shiftByPace_22 dX3_shiftByPace_23 (by decide) (tgt := 32) (fun c22 => ?_) (fun c22 => ?_)
      · refine Wp.ald_n (j := 0) rfl dX3_shiftByPace_32 ?_
        refine Wp.getf (k := 1) (tg := 2) kC3 (by decide) rfl lf_X3_15 dX3_shiftByPace_33 (sK22 (h := h') sh') (sF22_1 (h := h') sh') ?_
        refine Wp.ild_n (j := 1) rfl dX3_shiftByPace_36 ?_
        refine Wp.laload dX3_shiftByPace_37 (sK23 (h := h') sh') (by omega) (ilt (sL23 (h := h') sh') (by omega)) (show hA _ 23 _ = hA h' 23 _ from rfl) ?_
        refine Wp.ald_n (j := 0) rfl dX3_shiftByPace_38 ?_
        refine Wp.getf (k := 10) (tg := 1) kC3 (by decide) rfl lf_X3_46 dX3_shiftByPace_39 (sK22 (h := h') sh') (show hF _ 22 10 = hF h' 22 10 from rfl) ?_
        refine Wp.lmulE dX3_shiftByPace_42 rfl ?_
        refine Wp.ald_n (j := 0) rfl dX3_shiftByPace_43 ?_
        refine Wp.getf (k := 9) (tg := 1) kC3 (by decide) rfl lf_X3_42 dX3_shiftByPace_44 (sK22 (h := h') sh') (show hF _ 22 9 = hF h' 22 9 from rfl) ?_
        refine Wp.lsubE dX3_shiftByPace_47 rfl ?_
        refine Wp.lastore dX3_shiftByPace_48 (sK26 (h := h') sh') (by omega) (ilt (sL26 (h := h') sh') (by omega)) ?_
        refine inc_2_1 rfl dX3_shiftByPace_49 (by first | exact w32_of (by omega) (by omega) | rfl) ?_
        refine Wp.goto (tgt := 2) dX3_shiftByPace_52 (by decide) ?_
        exact ih (k + 1) _ (by omega) (by omega) (fr.tr (Fr.e (by decide))) (spx'.fr (Fr.e (A := [26]) (G := []) (by decide)) (by decide))
      · refine Wp.ldc2 (z := -9223372036854775808) lk_X3_58 (by decide) dX3_shiftByPace_26 ?_
        refine Wp.goto (tgt := 48) dX3_shiftByPace_29 (by decide) ?_
        refine Wp.lastore dX3_shiftByPace_48 (sK26 (h := h') sh') (by omega) (ilt (sL26 (h := h') sh') (by omega)) ?_
        refine inc_2_1 rfl dX3_shiftByPace_49 (by first | exact w32_of (by omega) (by omega) | rfl) ?_
        refine Wp.goto (tgt := 2) dX3_shiftByPace_52 (by decide) ?_
        exact ih (k + 1) _ (by omega) (by omega) (fr.tr (Fr.e (by decide))) (spx'.fr (Fr.e (A := [26]) (G := []) (by decide)) (by decide))

theorem cq_shiftByPace (d : Nat) (h : mH) (sh : Sh h) (spx : SPx h) : Cq m_X3_shiftByPace d [(2, 22)] h (fun r t => r = none ∧ SPx t ∧ Fr sAr sGf h t) := by
  refine Cq.of ?_
  show Wp m_X3_shiftByPace (d) 0 [(2, 22), (9, 0)] [] h _
  obtain ⟨pw, sp, rr, sr, spq⟩ := id spx
  have kl := spq.k sh
  obtain ⟨⟨p0, p1, p2⟩, ⟨r0, r1, r2⟩, ⟨z0, z1⟩, ⟨q0, q1⟩, ⟨o0, o1⟩⟩ := id spq
  refine Wp.iconst dX3_shiftByPace_0 (by decide) ?_
  refine sti_2_1 rfl (dSt_n dX3_shiftByPace_1) ?_
  exact shiftByPace_loop d h sh spx _ 0 h (Nat.lt_succ_self _) (Int.le_refl _) Fr.rf spx

