theorem traceCritical_loop (d : Nat) (h : mH) (sh : Sh h) (spx : SPx h) (a l : Int) (ka : hK h a = 10) (la : hL h a = l) (l0 : 0 ≤ l) (l1 : l ≤ 1000000) : ∀ (m : Nat) (p : Int) (h' : mH), (10 - p).toNat < m → (0 ≤ p) → (Fr (a :: sAr) sGf h h') → (SPx h') → Wp m_X3_traceCritical (d + 3) 6 [(2, 22), (2, a), (0, p)] [] h' (fun r t => (∃ y, r = some (0, y) ∧ 0 ≤ y ∧ y ≤ 10) ∧ SPx t ∧ Fr (a :: sAr) sGf h t) := by
  intro m
  induction m with
  | zero => intro p h' hm; exact absurd hm (Nat.not_lt_zero _)
  | succ m ih =>
    intro p h' hm p0 fr spx'
    have ha1 : a ≠ 1 := fun e => by
      rw [e, sK1 sh] at ka
      exact absurd ka (by decide)
    have sh' := sh.fr fr (by decide +kernel) (by simp; omega)
    have ka' : hK h' a = 10 := by rw [fr.2.2.1]; exact ka
    have la' : hL h' a = l := by rw [fr.2.2.2.1]; exact la
    obtain ⟨pw, sp, rr, sr, spq⟩ := id spx'
    obtain ⟨-, -, ⟨z0, z1⟩, ⟨q0, q1⟩, -⟩ := id spq
    refine Wp.ild_n (j := 2) rfl dX3_traceCritical_6 ?_
    refine Wp.ald_n (j := 0) rfl dX3_traceCritical_7 ?_
    refine Wp.getf (k := 0) (tg := 0) kC3 (by decide) rfl lf_X3_9 dX3_traceCritical_8 (sK22 (h := h') sh') (show hF _ 22 0 = hF h' 22 0 from rfl) ?_
    refine Wp.icge dX3_traceCritical_11 (by decide) (tgt := 54) (fun c11 => ?_) (fun c11 => ?_)
    · refine Wp.iconst dX3_traceCritical_54 (by decide) ?_
      refine Wp.iret rfl dX3_traceCritical_55 ?_
      exact ⟨⟨_, rfl, by decide, by decide⟩, spx', fr⟩
    · refine Wp.ald_n (j := 0) rfl dX3_traceCritical_14 ?_
      refine Wp.ild_n (j := 2) rfl dX3_traceCritical_15 ?_
      obtain ⟨_, t16, ct16, rfl, f16⟩ := cq_fillBack d h' sh' z1 q1 p p0 (by omega)
      have sh16 := sh'.fr f16 (by decide +kernel) (by decide)
      have e0 : hF t16 22 0 = hF h' 22 0 := f16.2.2.2.2.1 22 0 (by decide)
      have e11 : hF t16 22 11 = hF h' 22 11 := f16.2.2.2.2.1 22 11 (by decide)
      have ka16 : hK t16 a = 10 := by rw [f16.2.2.1]; exact ka'
      have la16 : hL t16 a = l := by rw [f16.2.2.2.1]; exact la'
      refine Wp.callV0 (ct16) wc_X3_113 iM_X3_fillBack se_X3_fillBack kC3 (sK22 (h := h') sh') dX3_traceCritical_16 rfl (Nat.le_of_ble_eq_true rfl) rfl (Nat.le_of_ble_eq_true rfl) ?_
      refine Wp.ald_n (j := 0) rfl dX3_traceCritical_19 ?_
      refine Wp.getf (k := 7) (tg := 2) kC3 (by decide) rfl lf_X3_34 dX3_traceCritical_20 (sK22 (h := t16) sh16) (sF22_7 (h := t16) sh16) ?_
      refine Wp.ald_n (j := 0) rfl dX3_traceCritical_23 ?_
      refine Wp.getf (k := 11) (tg := 0) kC3 (by decide) rfl lf_X3_49 dX3_traceCritical_24 (sK22 (h := t16) sh16) (show hF _ 22 11 = hF t16 22 11 from rfl) ?_
      refine Wp.ild_n (j := 2) rfl dX3_traceCritical_27 ?_
      refine Wp.callS1 (ct_place (d + 2) _ _ _ (by omega) (by omega) (by omega) (by omega)) wc_X3_66 sM_X3_place dX3_traceCritical_28 rfl (Nat.le_of_ble_eq_true rfl) rfl (Nat.le_of_ble_eq_true rfl) ?_
      refine Wp.laload dX3_traceCritical_31 (sK29 (h := t16) sh16) (by omega) (ilt (sL29 (h := t16) sh16) (by omega)) (show hA _ 29 _ = hA t16 29 _ from rfl) ?_
      refine Wp.lconst (z := 0) dX3_traceCritical_32 (by decide) ?_
      refine Wp.lcne dX3_traceCritical_33 dX3_traceCritical_34 (by decide) (tgt := 48) (fun c33 => ?_) (fun c33 => ?_)
      · refine inc_3_2 rfl dX3_traceCritical_48 (by first | exact w32_of (by omega) (by omega) | rfl) ?_
        refine Wp.goto (tgt := 6) dX3_traceCritical_51 (by decide) ?_
        exact ih (p + 1) _ (by omega) (by omega) (fr.tr (f16.mono (by simp) (by simp))) (spx'.fr f16 (by decide))
      · refine Wp.ald_n (j := 0) rfl dX3_traceCritical_37 ?_
        refine Wp.ild_n (j := 2) rfl dX3_traceCritical_38 ?_
        refine Wp.ald_n (j := 1) rfl dX3_traceCritical_39 ?_
        obtain ⟨_, t40, ct40, rfl, f40⟩ := cq_writeRound d t16 sh16 (by omega) (by omega) (by omega) a l ka16 la16 l0 l1 p p0 (by omega)
        have sh40 := sh16.fr f40 (by decide +kernel) (by simp; omega)
        refine Wp.callV0 (ct40) wc_X3_116 iM_X3_writeRound se_X3_writeRound kC3 (sK22 (h := t16) sh16) dX3_traceCritical_40 rfl (Nat.le_of_ble_eq_true rfl) rfl (Nat.le_of_ble_eq_true rfl) ?_
        refine Wp.ald_n (j := 0) rfl dX3_traceCritical_43 ?_
        refine Wp.getf (k := 11) (tg := 0) kC3 (by decide) rfl lf_X3_49 dX3_traceCritical_44 (sK22 (h := t40) sh40) (show hF _ 22 11 = hF t40 22 11 from rfl) ?_
        refine Wp.iret rfl dX3_traceCritical_47 ?_
        refine ⟨⟨_, rfl, ?_⟩, (spx'.fr f16 (by decide)).fr f40 (by decide), (fr.tr (f16.mono (by simp) (by simp))).tr (f40.mono (by simp) (by simp))⟩
        rw [f40.2.2.2.2.1 22 11 (by simp)]
        omega

theorem cq_traceCritical (d : Nat) (h : mH) (sh : Sh h) (spx : SPx h) (a l : Int) (ka : hK h a = 10) (la : hL h a = l) (l0 : 0 ≤ l) (l1 : l ≤ 1000000) : Cq m_X3_traceCritical (d + 3) [(2, 22), (2, a)] h (fun r t => (∃ y, r = some (0, y) ∧ 0 ≤ y ∧ y ≤ 10) ∧ SPx t ∧ Fr (a :: sAr) sGf h t) := by
  refine Cq.of ?_
  show Wp m_X3_traceCritical ((d + 3)) 0 [(2, 22), (2, a), (9, 0)] [] h _
  refine Wp.ald_n (j := 0) rfl dX3_traceCritical_0 ?_
  obtain ⟨_, t1, ct1, rfl, spx1, f1⟩ := cq_shiftByPace (d + 2) h sh spx
  have sh1 := sh.fr f1 (by decide +kernel) (by decide)
  refine Wp.callV0 (ct1) wc_X3_110 iM_X3_shiftByPace se_X3_shiftByPace kC3 (sK22 (h := h) sh) dX3_traceCritical_1 rfl (Nat.le_of_ble_eq_true rfl) rfl (Nat.le_of_ble_eq_true rfl) ?_
  refine Wp.iconst dX3_traceCritical_4 (by decide) ?_
  refine sti_3_2 rfl (dSt_n dX3_traceCritical_5) ?_
  have ka1 : hK t1 a = 10 := by rw [f1.2.2.1]; exact ka
  have la1 : hL t1 a = l := by rw [f1.2.2.2.1]; exact la
  exact (traceCritical_loop d t1 sh1 spx1 a l ka1 la1 l0 l1 _ 0 t1 (Nat.lt_succ_self _) (Int.le_refl _) Fr.rf spx1).mono (fun r t q => ⟨q.1, q.2.1, (f1.mono (by simp) (fun _ z => z)).tr q.2.2⟩)

/-- the room of the products -/
def OB (h : mH) (ob n : Int) : Prop := hF h 22 8 = ob ∧ hK h ob = 15 ∧ hL h ob = n ∧ (ob = 30 ∨ 74 ≤ ob) ∧ ob < hN h ∧ (n = 0 ∨ n = 201) ∧ ∀ i, 0 ≤ i → i < n → 74 ≤ hA h ob i ∧ hA h ob i < hN h ∧ hK h (hA h ob i) = 11 ∧ hL h (hA h ob i) = 100
def psO (n : Int) : Int := if n = 0 then 20301 else 0
theorem OB.fq {A : Int → Prop} {G : List (Int × Nat)} {h h' : mH} {ob n : Int} (t : OB h ob n) (a : Fq A G h h') (h22 : 74 ≤ hN h) (g8 : ((22 : Int), 8) ∉ G) (hA : ¬ A ob) : OB h' ob n := by
  obtain ⟨t0, k0, l0, y0, z0, b0, e0⟩ := t
  have hn := a.1
  have ea := a.2.2.2.2.2 ob z0 hA
  refine ⟨(a.2.2.2.2.1 22 8 (by omega) g8).trans t0, (a.2.2.1 ob z0).trans k0, (a.2.2.2.1 ob z0).trans l0, y0, by omega, b0, fun i i0 i1 => ?_⟩
  rw [ea]
  have := e0 i i0 i1
  exact ⟨this.1, by omega, (a.2.2.1 _ this.2.1).trans this.2.2.1, (a.2.2.2.1 _ this.2.1).trans this.2.2.2⟩
theorem nM_old {h : mH} {n k a : Int} (ha : a < hN h) : hK (nM h n k) a = hK h a ∧ hL (nM h n k) a = hL h a ∧ hA (nM h n k) a = hA h a := by
  have h1 : ¬ a = (h.1.1 : Int) := by
    have : a < (h.1.1 : Int) := ha
    omega
  have h2 : ¬ ((h.1.1 : Int) < a ∧ a ≤ (h.1.1 : Int) + n) := by
    have : a < (h.1.1 : Int) := ha
    omega
  refine ⟨?_, ?_, ?_⟩
  · show (if a = (h.1.1 : Int) then 15 else if (h.1.1 : Int) < a ∧ a ≤ (h.1.1 : Int) + n then 11 else h.2.1 a) = _
    rw [if_neg h1, if_neg h2]
    rfl
  · show (if a = (h.1.1 : Int) then n else if (h.1.1 : Int) < a ∧ a ≤ (h.1.1 : Int) + n then k else h.2.2.1 a) = _
    rw [if_neg h1, if_neg h2]
    rfl
  · show (if a = (h.1.1 : Int) then (fun i => (h.1.1 : Int) + 1 + i) else if (h.1.1 : Int) < a ∧ a ≤ (h.1.1 : Int) + n then (fun _ => 0) else h.2.2.2.2 a) = _
    rw [if_neg h1, if_neg h2]
    rfl
theorem Fq.m {A : Int → Prop} {G : List (Int × Nat)} {h : mH} {n k : Int} : Fq A G h (nM h n k) := ⟨by show hN h ≤ hN h + 1 + n.toNat; omega, by show hZ h ≤ hZ h + n.toNat + n.toNat * k.toNat; omega, fun _ hx => (nM_old hx).1, fun _ hx => (nM_old hx).2.1, fun _ _ _ _ => rfl, fun _ hx _ => (nM_old hx).2.2⟩
theorem nM_N {h : mH} {n k a v : Int} {i : Nat} : hN (sF (nM h n k) a i v) = hN h + 1 + n.toNat := rfl
theorem nM_Z {h : mH} {n k a v : Int} {i : Nat} : hZ (sF (nM h n k) a i v) = hZ h + n.toNat + n.toNat * k.toNat := rfl
theorem OB.new {h : mH} (h74 : 74 ≤ hN h) : OB (sF (nM h 201 100) 22 8 (hN h : Int)) (hN h : Int) 201 := by
  have e0 : hA (sF (nM h 201 100) 22 8 (hN h : Int)) (hN h : Int) = fun i => (hN h : Int) + 1 + i := if_pos rfl
  refine ⟨rfl, if_pos rfl, if_pos rfl, Or.inr (by omega), ?_, Or.inr rfl, fun i i0 i1 => ?_⟩
  · show (hN h : Int) < ((hN h + 1 + 201 : Nat) : Int)
    omega
  · rw [e0]
    refine ⟨by show (74 : Int) ≤ (hN h : Int) + 1 + i; omega, ?_, ?_, ?_⟩
    · show (hN h : Int) + 1 + i < ((hN h + 1 + 201 : Nat) : Int)
      omega
    · show (if (hN h : Int) + 1 + i = (hN h : Int) then 15 else if (hN h : Int) < (hN h : Int) + 1 + i ∧ (hN h : Int) + 1 + i ≤ (hN h : Int) + 201 then 11 else hK h ((hN h : Int) + 1 + i)) = 11
      rw [if_neg (by omega), if_pos (by omega)]
    · show (if (hN h : Int) + 1 + i = (hN h : Int) then (201 : Int) else if (hN h : Int) < (hN h : Int) + 1 + i ∧ (hN h : Int) + 1 + i ≤ (hN h : Int) + 201 then 100 else hL h ((hN h : Int) + 1 + i)) = 100
      rw [if_neg (by omega), if_pos (by omega)]
theorem again_in (d : Nat) (h : mH) (sh : Sh h) (hz : hF h 22 0 ≤ 10) (ob : Int) (obh : OB h ob 201) (n : Int) (n0 : 1 ≤ n) (n1 : n < 201) (Q : Option mV → mH → Prop) (kq : ∀ v2 : mV, Wp m_X3_findAgain (d + 3) 68 [(2, 22), (0, n + 1), v2] [] h Q) (kr : ∀ m : Int, Q (some (0, 1)) (sF (sF h 22 12 m) 22 13 (n - m))) : ∀ (m : Nat) (j : Int), (n - j).toNat < m → (0 ≤ j) → Wp m_X3_findAgain (d + 3) 101 [(2, 22), (0, n), (0, j)] [] h Q := by
  intro m
  induction m with
  | zero => intro j hm; exact absurd hm (Nat.not_lt_zero _)
  | succ m ih =>
    intro j hm j0
    obtain ⟨b0, bk, bl, by0, bz, -, be⟩ := id obh
    refine Wp.ild_n (j := 2) rfl dX3_findAgain_101 ?_
    refine Wp.ild_n (j := 1) rfl dX3_findAgain_102 ?_
    refine Wp.icge dX3_findAgain_103 (by decide) (tgt := 145) (fun c103 => ?_) (fun c103 => ?_)
    · refine inc_3_1 rfl dX3_findAgain_145 (by first | exact w32_of (by omega) (by omega) | rfl) ?_
      refine Wp.goto (tgt := 68) dX3_findAgain_148 (by decide) ?_
      exact kq _
    · refine Wp.ald_n (j := 0) rfl dX3_findAgain_106 ?_
      refine Wp.ald_n (j := 0) rfl dX3_findAgain_107 ?_
      refine Wp.getf (k := 8) (tg := 2) kC3 (by decide) rfl lf_X3_39 dX3_findAgain_108 (sK22 (h := h) sh) b0 ?_
      refine Wp.ild_n (j := 2) rfl dX3_findAgain_111 ?_
      refine Wp.aaload dX3_findAgain_112 (Or.inr rfl) bk (by omega) (ilt bl (by omega)) (show hA _ ob _ = hA h ob _ from rfl) ?_
      refine Wp.ald_n (j := 0) rfl dX3_findAgain_113 ?_
      refine Wp.getf (k := 8) (tg := 2) kC3 (by decide) rfl lf_X3_39 dX3_findAgain_114 (sK22 (h := h) sh) b0 ?_
      refine Wp.ild_n (j := 1) rfl dX3_findAgain_117 ?_
      refine Wp.aaload dX3_findAgain_118 (Or.inr rfl) bk (by omega) (ilt bl (by omega)) (show hA _ ob _ = hA h ob _ from rfl) ?_
      have hj := be j j0 (by omega)
      have hn := be n (by omega) (by omega)
      obtain ⟨_, t119, ct119, ⟨y119, rfl, hy119⟩, e119⟩ := cq_areAlike (d + 1) h sh hz (hA h ob j) (hA h ob n) hj.2.2.1 hj.2.2.2 hn.2.2.1 hn.2.2.2
      rw [e119] at ct119
      refine Wp.callV1 (ct119) wc_X3_123 iM_X3_areAlike se_X3_areAlike kC3 (sK22 (h := h) sh) dX3_findAgain_119 rfl (Nat.le_of_ble_eq_true rfl) rfl (Nat.le_of_ble_eq_true rfl) ?_
      refine Wp.ifeq dX3_findAgain_122 (by decide) (tgt := 139) (fun c122 => ?_) (fun c122 => ?_)
      · refine inc_3_2 rfl dX3_findAgain_139 (by first | exact w32_of (by omega) (by omega) | rfl) ?_
        refine Wp.goto (tgt := 101) dX3_findAgain_142 (by decide) ?_
        exact ih (j + 1) (by omega) (by omega)
      · refine Wp.ald_n (j := 0) rfl dX3_findAgain_125 ?_
        refine Wp.ild_n (j := 2) rfl dX3_findAgain_126 ?_
        refine Wp.putf (k := 12) (tg := 0) kC3 (by decide) rfl rfl lf_X3_52 dX3_findAgain_127 (sK22 (h := h) sh) ?_
        refine Wp.ald_n (j := 0) rfl dX3_findAgain_130 ?_
        refine Wp.ild_n (j := 1) rfl dX3_findAgain_131 ?_
        refine Wp.ild_n (j := 2) rfl dX3_findAgain_132 ?_
        refine Wp.isubE dX3_findAgain_133 (by first | exact w32_of (by omega) (by omega) | rfl) ?_
        refine Wp.putf (k := 13) (tg := 0) kC3 (by decide) rfl rfl lf_X3_55 dX3_findAgain_134 (sK22 (h := h) sh) ?_
        refine Wp.iconst dX3_findAgain_137 (by decide) ?_
        refine Wp.zret rfl dX3_findAgain_138 (by omega) ?_
        exact kr _

theorem again_out (d : Nat) (h : mH) (sh : Sh h) (spx : SPx h) (ob : Int) (obh : OB h ob 201) : ∀ (m : Nat) (n : Int) (u2 : mV) (h' : mH), (201 - n).toNat < m → (1 ≤ n) → (Fq (fun b => b ∈ sAr ∨ (74 ≤ b ∧ hK h b = 11)) sGf h h') → (hN h' = hN h) → (hZ h' = hZ h) → (SPx h') → Wp m_X3_findAgain (d + 3) 68 [(2, 22), (0, n), u2] [] h' (fun r t => (∃ y, r = some (0, y) ∧ (y = 0 ∨ y = 1)) ∧ SPx t ∧ OB t ob 201 ∧ Fq (fun b => b ∈ sAr ∨ (74 ≤ b ∧ hK h b = 11)) sGf h t ∧ hN t = hN h ∧ hZ t = hZ h) := by
  intro m
  induction m with
  | zero => intro n u2 h' hm; exact absurd hm (Nat.not_lt_zero _)
  | succ m ih =>
    intro n u2 h' hm n0 fq hn hZ0 spx'
    have h74 := sh.2.2.2.2
    have sh' := sh.fq fq (by decide +kernel) (by rintro (z | z); exact absurd z (by decide); exact absurd z.1 (by decide))
    have nob : ¬ (fun b => b ∈ sAr ∨ (74 ≤ b ∧ hK h b = 11)) ob := by
      rintro (z | z)
      · have := obh.2.2.2.1
        have hz : ∀ x ∈ sAr, x < 30 := by decide
        have := hz ob z
        omega
      · have := obh.2.1
        rw [this] at z
        exact absurd z.2 (by decide)
    have obh' := obh.fq fq h74 (by decide) nob
    obtain ⟨b0, bk, bl, by0, bz, -, be⟩ := id obh'
    obtain ⟨pw, sp, rr, sr, spq⟩ := id spx'
    obtain ⟨-, -, ⟨z0, z1⟩, -⟩ := id spq
    have hq : ∀ i, 0 ≤ i → i < 201 → (fun b => b ∈ sAr ∨ (74 ≤ b ∧ hK h b = 11)) (hA h' ob i) := fun i i0 i1 => by
      have h1 := be i i0 i1
      have e1 : hA h' ob = hA h ob := fq.2.2.2.2.2 ob obh.2.2.2.2.1 nob
      have h2 := obh.2.2.2.2.2.2 i i0 i1
      rw [e1]
      exact Or.inr ⟨h2.1, h2.2.2.1⟩
    refine Wp.ild_n (j := 1) rfl dX3_findAgain_68 ?_
    refine Wp.ald_n (j := 0) rfl dX3_findAgain_69 ?_
    refine Wp.getf (k := 8) (tg := 2) kC3 (by decide) rfl lf_X3_39 dX3_findAgain_70 (sK22 (h := h') sh') b0 ?_
    refine Wp.alen dX3_findAgain_73 (by decide) (by decide) bk bl (by omega) ?_
    refine Wp.icge dX3_findAgain_74 (by decide) (tgt := 151) (fun c74 => ?_) (fun c74 => ?_)
    · refine Wp.iconst dX3_findAgain_151 (by decide) ?_
      refine Wp.zret rfl dX3_findAgain_152 (by omega) ?_
      exact ⟨⟨_, rfl, Or.inl rfl⟩, spx', obh', fq, hn, hZ0⟩
    · refine Wp.ald_n (j := 0) rfl dX3_findAgain_77 ?_
      refine Wp.ald_n (j := 0) rfl dX3_findAgain_78 ?_
      refine Wp.getf (k := 4) (tg := 2) kC3 (by decide) rfl lf_X3_25 dX3_findAgain_79 (sK22 (h := h') sh') (sF22_4 (h := h') sh') ?_
      refine Wp.ald_n (j := 0) rfl dX3_findAgain_82 ?_
      refine Wp.getf (k := 8) (tg := 2) kC3 (by decide) rfl lf_X3_39 dX3_findAgain_83 (sK22 (h := h') sh') b0 ?_
      refine Wp.ild_n (j := 1) rfl dX3_findAgain_86 ?_
      refine Wp.iconst dX3_findAgain_87 (by decide) ?_
      refine Wp.isubE dX3_findAgain_88 (by first | exact w32_of (by omega) (by omega) | rfl) ?_
      refine Wp.aaload dX3_findAgain_89 (Or.inr rfl) bk (by omega) (ilt bl (by omega)) (show hA _ ob _ = hA h' ob _ from rfl) ?_
      refine Wp.ald_n (j := 0) rfl dX3_findAgain_90 ?_
      refine Wp.getf (k := 8) (tg := 2) kC3 (by decide) rfl lf_X3_39 dX3_findAgain_91 (sK22 (h := h') sh') b0 ?_
      refine Wp.ild_n (j := 1) rfl dX3_findAgain_94 ?_
      refine Wp.aaload dX3_findAgain_95 (Or.inr rfl) bk (by omega) (ilt bl (by omega)) (show hA _ ob _ = hA h' ob _ from rfl) ?_
      have hp := be (n - 1) (by omega) (by omega)
      have hq1 := be n (by omega) (by omega)
      obtain ⟨_, t96, ct96, rfl, f96⟩ := cq_multiply d h' sh' z1 26 (sK26 (h := h') sh') (sL26 (h := h') sh') (hA h' ob (n - 1)) (hA h' ob n) hp.2.2.1 hp.2.2.2 hq1.2.2.1 hq1.2.2.2
      refine Wp.callV0 (ct96) wc_X3_74 iM_X3_multiply se_X3_multiply kC3 (sK22 (h := h') sh') dX3_findAgain_96 rfl (Nat.le_of_ble_eq_true rfl) rfl (Nat.le_of_ble_eq_true rfl) ?_
      refine Wp.iconst dX3_findAgain_99 (by decide) ?_
      refine sti_3_2 rfl (dSt_n dX3_findAgain_100) ?_
      have fq96 : Fq (fun b => b ∈ sAr ∨ (74 ≤ b ∧ hK h b = 11)) sGf h t96 := fq.tr ((Fq.fr (A := fun b => b = hA h' ob n) f96 (by simp)).mono (fun x _ z => by rw [z]; exact hq n (by omega) (by omega)) (by simp))
      have spx96 : SPx t96 := spx'.fr f96 (by simp)
      have n96 : hN t96 = hN h := f96.1.trans hn
      have m96 : hZ t96 = hZ h := f96.2.1.trans hZ0
      have ob96 := obh.fq fq96 h74 (by decide) nob
      refine again_in d t96 (sh'.fr f96 (by decide +kernel) (by simp; omega)) (by rw [f96.2.2.2.2.1 22 0 (by simp)]; exact z1) ob ob96 n n0 (by omega) _ (fun v2 => ih (n + 1) v2 t96 (by omega) (by omega) fq96 n96 m96 spx96) (fun m => ?_) _ 0 (Nat.lt_succ_self _) (Int.le_refl _)
      exact ⟨⟨_, rfl, Or.inr rfl⟩, spx96.fr ((Fr.f (A := []) (G := [(22, 12), (22, 13)]) (by decide)).tr (Fr.f (by decide))) (by decide), ob96, fq96.tr ((Fq.f (by decide)).tr (Fq.f (by decide))), n96, m96⟩

theorem again_unit (d : Nat) (h : mH) (sh : Sh h) (spx : SPx h) (ob : Int) (obh : OB h ob 201) : ∀ (m : Nat) (i : Int) (u2 : mV) (h' : mH), (10 - i).toNat < m → (0 ≤ i) → (Fq (fun b => b ∈ sAr ∨ (74 ≤ b ∧ hK h b = 11)) sGf h h') → (hN h' = hN h) → (hZ h' = hZ h) → (SPx h') → Wp m_X3_findAgain (d + 3) 39 [(2, 22), (0, i), u2] [] h' (fun r t => (∃ y, r = some (0, y) ∧ (y = 0 ∨ y = 1)) ∧ SPx t ∧ OB t ob 201 ∧ Fq (fun b => b ∈ sAr ∨ (74 ≤ b ∧ hK h b = 11)) sGf h t ∧ hN t = hN h ∧ hZ t = hZ h) := by
  intro m
  induction m with
  | zero => intro i u2 h' hm; exact absurd hm (Nat.not_lt_zero _)
  | succ m ih =>
    intro i u2 h' hm i0 fq hn hZ0 spx'
    have h74 := sh.2.2.2.2
    have sh' := sh.fq fq (by decide +kernel) (by rintro (z | z); exact absurd z (by decide); exact absurd z.1 (by decide))
    have nob : ¬ (fun b => b ∈ sAr ∨ (74 ≤ b ∧ hK h b = 11)) ob := by
      rintro (z | z)
      · have := obh.2.2.2.1
        have hz : ∀ x ∈ sAr, x < 30 := by decide
        have := hz ob z
        omega
      · have := obh.2.1
        rw [this] at z
        exact absurd z.2 (by decide)
    have obh' := obh.fq fq h74 (by decide) nob
    obtain ⟨b0, bk, bl, by0, bz, -, be⟩ := id obh'
    obtain ⟨pw, sp, rr, sr, spq⟩ := id spx'
    obtain ⟨-, -, ⟨z0, z1⟩, -⟩ := id spq
    have hq : ∀ i, 0 ≤ i → i < 201 → (fun b => b ∈ sAr ∨ (74 ≤ b ∧ hK h b = 11)) (hA h' ob i) := fun i i0 i1 => by
      have h1 := be i i0 i1
      have e1 : hA h' ob = hA h ob := fq.2.2.2.2.2 ob obh.2.2.2.2.1 nob
      have h2 := obh.2.2.2.2.2.2 i i0 i1
      rw [e1]
      exact Or.inr ⟨h2.1, h2.2.2.1⟩
    have hx0 := be 0 (by decide) (by decide)
    refine Wp.ild_n (j := 1) rfl dX3_findAgain_39 ?_
    refine Wp.ald_n (j := 0) rfl dX3_findAgain_40 ?_
    refine Wp.getf (k := 0) (tg := 0) kC3 (by decide) rfl lf_X3_9 dX3_findAgain_41 (sK22 (h := h') sh') (show hF _ 22 0 = hF h' 22 0 from rfl) ?_
    refine Wp.icge dX3_findAgain_44 (by decide) (tgt := 66) (fun c44 => ?_) (fun c44 => ?_)
    · refine Wp.iconst dX3_findAgain_66 (by decide) ?_
      refine sti_3_1 rfl (dSt_n dX3_findAgain_67) ?_
      exact again_out d h sh spx ob obh _ 1 u2 h' (Nat.lt_succ_self _) (by decide) fq hn hZ0 spx'
    · refine Wp.ald_n (j := 0) rfl dX3_findAgain_47 ?_
      refine Wp.getf (k := 8) (tg := 2) kC3 (by decide) rfl lf_X3_39 dX3_findAgain_48 (sK22 (h := h') sh') b0 ?_
      refine Wp.iconst dX3_findAgain_51 (by decide) ?_
      refine Wp.aaload dX3_findAgain_52 (Or.inr rfl) bk (by omega) (ilt bl (by omega)) (show hA _ ob _ = hA h' ob _ from rfl) ?_
      refine Wp.ild_n (j := 1) rfl dX3_findAgain_53 ?_
      refine Wp.ild_n (j := 1) rfl dX3_findAgain_54 ?_
      refine Wp.callS1 (ct_place (d + 2) _ _ _ (by omega) (by omega) (by omega) (by omega)) wc_X3_66 sM_X3_place dX3_findAgain_55 rfl (Nat.le_of_ble_eq_true rfl) rfl (Nat.le_of_ble_eq_true rfl) ?_
      refine Wp.lconst (z := 0) dX3_findAgain_58 (by decide) ?_
      refine Wp.lastore dX3_findAgain_59 hx0.2.2.1 (by omega) (ilt hx0.2.2.2 (by omega)) ?_
      refine inc_3_1 rfl dX3_findAgain_60 (by first | exact w32_of (by omega) (by omega) | rfl) ?_
      refine Wp.goto (tgt := 39) dX3_findAgain_63 (by decide) ?_
      exact ih (i + 1) _ _ (by omega) (by omega) (fq.tr (Fq.e (fun _ => hq 0 (by decide) (by decide)))) hn hZ0 (spx'.fr (Fr.e (A := [hA h' ob 0]) (G := []) (by simp)) (by simp))

theorem again_rest (d : Nat) (h : mH) (sh : Sh h) (spx : SPx h) (ob : Int) (obh : OB h ob 201) (v1 u2 : mV) : Wp m_X3_findAgain (d + 3) 25 [(2, 22), v1, u2] [] h (fun r t => (∃ y, r = some (0, y) ∧ (y = 0 ∨ y = 1)) ∧ SPx t ∧ OB t ob 201 ∧ Fq (fun b => b ∈ sAr ∨ (74 ≤ b ∧ hK h b = 11)) sGf h t ∧ hN t = hN h ∧ hZ t = hZ h) := by
  obtain ⟨b0, bk, bl, by0, bz, -, be⟩ := id obh
  have hx0 := be 0 (by decide) (by decide)
  refine Wp.ald_n (j := 0) rfl dX3_findAgain_25 ?_
  refine Wp.getf (k := 8) (tg := 2) kC3 (by decide) rfl lf_X3_39 dX3_findAgain_26 (sK22 (h := h) sh) b0 ?_
  refine Wp.iconst dX3_findAgain_29 (by decide) ?_
  refine Wp.aaload dX3_findAgain_30 (Or.inr rfl) bk (by omega) (ilt bl (by omega)) (show hA _ ob _ = hA h ob _ from rfl) ?_
  refine Wp.ldc2 (z := -9223372036854775808) lk_X3_58 (by decide) dX3_findAgain_31 ?_
  refine Wp.callS0 (ct_fillJ (d + 2) h (hA h ob 0) _ 100 hx0.2.2.1 hx0.2.2.2 (by decide) (by decide)) wc_X3_60 sM_J7_fill_d0a16 dX3_findAgain_34 rfl (Nat.le_of_ble_eq_true rfl) rfl (Nat.le_of_ble_eq_true rfl) ?_
  refine Wp.iconst dX3_findAgain_37 (by decide) ?_
  refine sti_3_1 rfl (dSt_n dX3_findAgain_38) ?_
  have f34 : Fr [hA h ob 0] [] h (sA h (hA h ob 0) (flF (hA h (hA h ob 0)) 100 (-9223372036854775808))) := Fr.a (List.mem_singleton.mpr rfl)
  exact again_unit d h sh spx ob obh _ 0 u2 _ (Nat.lt_succ_self _) (Int.le_refl _) ((Fq.fr (A := fun b => b = hA h ob 0) f34 (by simp)).mono (fun x _ z => by rw [z]; exact Or.inr ⟨hx0.1, hx0.2.2.1⟩) (by simp)) rfl rfl (spx.fr f34 (by simp))

theorem cq_findAgain (d : Nat) (h : mH) (sh : Sh h) (spx : SPx h) (ob n : Int) (obh : OB h ob n) : Cq m_X3_findAgain (d + 3) [(2, 22)] h (fun r t => (∃ y, r = some (0, y) ∧ (y = 0 ∨ y = 1)) ∧ SPx t ∧ (∃ ob', OB t ob' 201) ∧ Fq (fun b => b ∈ sAr ∨ (74 ≤ b ∧ hK h b = 11)) ((22, 8) :: sGf) h t ∧ aC h t (psO n) (psO 201)) := by
  refine Cq.of ?_
  show Wp m_X3_findAgain ((d + 3)) 0 [(2, 22), (9, 0), (9, 0)] [] h _
  have h74 := sh.2.2.2.2
  refine Wp.ald_n (j := 0) rfl dX3_findAgain_0 ?_
  obtain ⟨_, t1, ct1, rfl, spx1, f1⟩ := cq_shiftByPace (d + 2) h sh spx
  have sh1 := sh.fr f1 (by decide +kernel) (by decide)
  have ob1 : OB t1 ob n := obh.fq (Fq.fr (A := fun b => b ∈ sAr) f1 (fun x z => z)) h74 (by decide) (fun z => by
    have := obh.2.2.2.1
    have hz : ∀ x ∈ sAr, x < 30 := by decide
    have := hz ob z
    omega)
  obtain ⟨b0, bk, bl, by0, bz, bn, be⟩ := id ob1
  have h741 := sh1.2.2.2.2
  refine Wp.callV0 (ct1) wc_X3_110 iM_X3_shiftByPace se_X3_shiftByPace kC3 (sK22 (h := h) sh) dX3_findAgain_1 rfl (Nat.le_of_ble_eq_true rfl) rfl (Nat.le_of_ble_eq_true rfl) ?_
  refine Wp.ald_n (j := 0) rfl dX3_findAgain_4 ?_
  refine Wp.getf (k := 8) (tg := 2) kC3 (by decide) rfl lf_X3_39 dX3_findAgain_5 (sK22 (h := t1) sh1) b0 ?_
  refine Wp.alen dX3_findAgain_8 (by decide) (by decide) bk bl (by omega) ?_
  refine Wp.ifne dX3_findAgain_9 (by decide) (tgt := 25) (fun c9 => ?_) (fun c9 => ?_)
  · have fq1 : Fq (fun b => b ∈ sAr ∨ (74 ≤ b ∧ hK h b = 11)) ((22, 8) :: sGf) h t1 := (Fq.fr (A := fun b => b ∈ sAr ∨ (74 ≤ b ∧ hK h b = 11)) f1 (fun x z => Or.inl z)).mono (fun _ _ z => z) (fun x z => List.mem_cons_of_mem _ z)
    first
    | (have e201 : n = 201 := by omega
       subst e201
       refine (again_rest d t1 sh1 spx1 ob ob1 _ _).mono (fun r t q => ?_)
       obtain ⟨q1, q2, q3, q4, q5, q6⟩ := q
       refine ⟨q1, q2, ⟨ob, q3⟩, fq1.tr (q4.mono (fun x _ z => z.imp id (fun y => ⟨y.1, by rw [← f1.2.2.1]; exact y.2⟩)) (fun x z => List.mem_cons_of_mem _ z)), aC.same (q5.trans f1.1) (q6.trans f1.2.1)⟩)
    | (have e0 : n = 0 := by omega
       subst e0
       have f22 : Fq (fun _ => False) [(22, 8)] t1 (sF (nM t1 201 100) 22 8 (hN t1 : Int)) := Fq.m.tr (Fq.f (by decide))
       have sh22 := sh1.fq f22 (by decide +kernel) (fun z => z)
       have spx22 : SPx (sF (nM t1 201 100) 22 8 (hN t1 : Int)) := spx1
       refine (again_rest d _ sh22 spx22 _ (OB.new (by omega)) _ _).mono (fun r t q => ?_)
       obtain ⟨q1, q2, q3, q4, q5, q6⟩ := q
       refine ⟨q1, q2, ⟨_, q3⟩, ?_, ?_⟩
       · refine (fq1.tr (f22.mono (fun x _ z => z.elim) (by simp))).tr2 (q4.mono (fun x _ z => z) (fun x z => List.mem_cons_of_mem _ z)) (fun x hx hz => hz.imp id (fun y => ⟨y.1, ?_⟩))
         have e1 := f22.2.2.1 x (by rw [f1.1]; exact hx)
         rw [e1, f1.2.2.1] at y
         exact y.2
       · have n5 : hN t = hN t1 + 1 + (201 : Int).toNat := q5.trans nM_N
         have n6 : hZ t = hZ t1 + (201 : Int).toNat + (201 : Int).toNat * (100 : Int).toNat := q6.trans nM_Z
         rw [show (201 : Int).toNat = 201 from rfl] at n5 n6
         rw [show (100 : Int).toNat = 100 from rfl] at n6
         have m1 := f1.1
         have m2 := f1.2.1
         refine ⟨?_, ?_⟩
         · rw [show psO 0 = 20301 from rfl, show psO 201 = 0 from rfl]
           omega
         · rw [show psO 0 = 20301 from rfl, show psO 201 = 0 from rfl]
           omega)
  · refine Wp.ald_n (j := 0) rfl dX3_findAgain_12 ?_
    refine Wp.sipush dX3_findAgain_13 (by decide) ?_
    refine Wp.bipush dX3_findAgain_16 (by decide) ?_
    refine Wp.newM lc_X3_37 wT_long dX3_findAgain_18 (by omega) (by omega) (by omega) (by omega) ?_
    refine Wp.putf (k := 8) (tg := 2) kC3 (by decide) rfl rfl lf_X3_39 dX3_findAgain_22 ((nM_old (h := t1) (n := 201) (k := 100) (show (22 : Int) < ((hN t1 : Nat) : Int) by omega)).1.trans (sK22 (h := t1) sh1)) ?_
    have fq1 : Fq (fun b => b ∈ sAr ∨ (74 ≤ b ∧ hK h b = 11)) ((22, 8) :: sGf) h t1 := (Fq.fr (A := fun b => b ∈ sAr ∨ (74 ≤ b ∧ hK h b = 11)) f1 (fun x z => Or.inl z)).mono (fun _ _ z => z) (fun x z => List.mem_cons_of_mem _ z)
    first
    | (have e201 : n = 201 := by omega
       subst e201
       refine (again_rest d t1 sh1 spx1 ob ob1 _ _).mono (fun r t q => ?_)
       obtain ⟨q1, q2, q3, q4, q5, q6⟩ := q
       refine ⟨q1, q2, ⟨ob, q3⟩, fq1.tr (q4.mono (fun x _ z => z.imp id (fun y => ⟨y.1, by rw [← f1.2.2.1]; exact y.2⟩)) (fun x z => List.mem_cons_of_mem _ z)), aC.same (q5.trans f1.1) (q6.trans f1.2.1)⟩)
    | (have e0 : n = 0 := by omega
       subst e0
       have f22 : Fq (fun _ => False) [(22, 8)] t1 (sF (nM t1 201 100) 22 8 (hN t1 : Int)) := Fq.m.tr (Fq.f (by decide))
       have sh22 := sh1.fq f22 (by decide +kernel) (fun z => z)
       have spx22 : SPx (sF (nM t1 201 100) 22 8 (hN t1 : Int)) := spx1
       refine (again_rest d _ sh22 spx22 _ (OB.new (by omega)) _ _).mono (fun r t q => ?_)
       obtain ⟨q1, q2, q3, q4, q5, q6⟩ := q
       refine ⟨q1, q2, ⟨_, q3⟩, ?_, ?_⟩
       · refine (fq1.tr (f22.mono (fun x _ z => z.elim) (by simp))).tr2 (q4.mono (fun x _ z => z) (fun x z => List.mem_cons_of_mem _ z)) (fun x hx hz => hz.imp id (fun y => ⟨y.1, ?_⟩))
         have e1 := f22.2.2.1 x (by rw [f1.1]; exact hx)
         rw [e1, f1.2.2.1] at y
         exact y.2
       · have n5 : hN t = hN t1 + 1 + (201 : Int).toNat := q5.trans nM_N
         have n6 : hZ t = hZ t1 + (201 : Int).toNat + (201 : Int).toNat * (100 : Int).toNat := q6.trans nM_Z
         rw [show (201 : Int).toNat = 201 from rfl] at n5 n6
         rw [show (100 : Int).toNat = 100 from rfl] at n6
         have m1 := f1.1
         have m2 := f1.2.1
         refine ⟨?_, ?_⟩
         · rw [show psO 0 = 20301 from rfl, show psO 201 = 0 from rfl]
           omega
         · rw [show psO 0 = 20301 from rfl, show psO 201 = 0 from rfl]
           omega)

