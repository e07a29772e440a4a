theorem traceCritical_loop (d : Nat) (h : mH) (sh : Sh h) (spx : SPx h) (a l : Int) (ka : hK h a = 10) (la : hL h a = l) (l0 : 0 ≤ l) (l1 : l ≤ 1000000) : ∀ (m : Nat) (p : Int) (h' : mH), (10 - p).toNat < m → (0 ≤ p) → (Fr (a :: sAr) sGf h h') → (SPx h') → Wp m_X3_traceCritical (d + 3) 6 [(2, 22), (2, a), (0, p)] [] h' (fun r t => (∃ y, r = some (0, y) ∧ 0 ≤ y ∧ y ≤ 10) ∧ SPx t ∧ Fr (a :: sAr) sGf h t) := by
  intro m
  induction m with
  | zero => intro p h' hm; exact absurd hm (Nat.not_lt_zero _)
  | succ m ih =>
    intro p h' hm p0 fr spx'
    have ha1 : a ≠ 1 := fun e => by
      rw [e, sK1 sh] at ka
      exact absurd ka (by decide)
    have sh' := sh.fr fr (by decide +kernel) (by simp; omega)
    have ka' : hK h' a = 10 := by rw [fr.2.2.1]; exact ka
    have la' : hL h' a = l := by rw [fr.2.2.2.1]; exact la
    obtain ⟨pw, sp, rr, sr, spq⟩ := id spx'
    obtain ⟨-, -, ⟨z0, z1⟩, ⟨q0, q1⟩, -⟩ := id spq
    refine Wp.ild_n (j := 2) rfl dX3_traceCritical_6 ?_
    refine Wp.ald_n (j := 0) rfl dX3_traceCritical_7 ?_
    refine Wp.getf (k := 0) (tg := 0) kC3 (by decide) rfl lf_X3_9 dX3_traceCritical_8 (sK22 (h := h') sh') (show hF _ 22 0 = hF h' 22 0 from rfl) ?_
    refine Wp.icge dX3_traceCritical_11 (by decide) (tgt := 54) (fun c11 => ?_) (fun c11 => ?_)
    · refine Wp.iconst dX3_traceCritical_54 (by decide) ?_
      refine Wp.iret rfl dX3_traceCritical_55 ?_
      exact ⟨⟨_, rfl, by decide, by decide⟩, spx', fr⟩
    · refine Wp.ald_n (j := 0) rfl dX3_traceCritical_14 ?_
      refine Wp.ild_n (j := 2) rfl dX3_traceCritical_15 ?_
      obtain ⟨_, t16, ct16, rfl, f16⟩ := cq_fillBack d h' sh' z1 q1 p p0 (by omega)
      have sh16 := sh'.fr f16 (by decide +kernel) (by decide)
      have e0 : hF t16 22 0 = hF h' 22 0 := f16.2.2.2.2.1 22 0 (by decide)
      have e11 : hF t16 22 11 = hF h' 22 11 := f16.2.2.2.2.1 22 11 (by decide)
      have ka16 : hK t16 a = 10 := by rw [f16.2.2.1]; exact ka'
      have la16 : hL t16 a = l := by rw [f16.2.2.2.1]; exact la'
      refine Wp.callV0 (ct16) wc_X3_113 iM_X3_fillBack se_X3_fillBack kC3 (sK22 (h := h') sh') dX3_traceCritical_16 rfl (Nat.le_of_ble_eq_true rfl) rfl (Nat.le_of_ble_eq_true rfl) ?_
      refine Wp.ald_n (j := 0) rfl dX3_traceCritical_19 ?_
      refine Wp.getf (k := 7) (tg := 2) kC3 (by decide) rfl lf_X3_34 dX3_traceCritical_20 (sK22 (h := t16) sh16) (sF22_7 (h := t16) sh16) ?_
      refine Wp.ald_n (j := 0) rfl dX3_traceCritical_23 ?_
      refine Wp.getf (k := 11) (tg := 0) kC3 (by decide) rfl lf_X3_49 dX3_traceCritical_24 (sK22 (h := t16) sh16) (show hF _ 22 11 = hF t16 22 11 from rfl) ?_
      refine Wp.ild_n (j := 2) rfl dX3_traceCritical_27 ?_
      refine Wp.callS1 (ct_place (d + 2) _ _ _ (by omega) (by omega) (by omega) (by omega)) wc_X3_66 sM_X3_place dX3_traceCritical_28 rfl (Nat.le_of_ble_eq_true rfl) rfl (Nat.le_of_ble_eq_true rfl) ?_
      refine Wp.laload dX3_traceCritical_31 (sK29 (h := t16) sh16) (by omega) (ilt (sL29 (h := t16) sh16) (by omega)) (show hA _ 29 _ = hA t16 29 _ from rfl) ?_
      refine Wp.lconst (z := 0) dX3_traceCritical_32 (by decide) ?_
      refine Wp.lcne dX3_traceCritical_33 dX3_traceCritical_34 (by decide) (tgt := 48) (fun c33 => ?_) (fun c33 => ?_)
      · refine inc_3_2 rfl dX3_traceCritical_48 (by first | exact w32_of (by omega) (by omega) | rfl) ?_
        refine Wp.goto (tgt := 6) dX3_traceCritical_51 (by decide) ?_
        exact ih (p + 1) _ (by omega) (by omega) (fr.tr (f16.mono (by simp) (by simp))) (spx'.fr f16 (by decide))
      · refine Wp.ald_n (j := 0) rfl dX3_traceCritical_37 ?_
        refine Wp.ild_n (j := 2) rfl dX3_traceCritical_38 ?_
        refine Wp.ald_n (j := 1) rfl dX3_traceCritical_39 ?_
        obtain ⟨_, t40, ct40, rfl, f40⟩ := cq_writeRound d t16 sh16 (by omega) (by omega) (by omega) a l ka16 la16 l0 l1 p p0 (by omega)
        have sh40 := sh16.fr f40 (by decide +kernel) (by simp; omega)
        refine Wp.callV0 (ct40) wc_X3_116 iM_X3_writeRound se_X3_writeRound kC3 (sK22 (h := t16) sh16) dX3_traceCritical_40 rfl (Nat.le_of_ble_eq_true rfl) rfl (Nat.le_of_ble_eq_true rfl) ?_
        refine Wp.ald_n (j := 0) rfl dX3_traceCritical_43 ?_
        refine Wp.getf (k := 11) (tg := 0) kC3 (by decide) rfl lf_X3_49 dX3_traceCritical_44 (sK22 (h := t40) sh40) (show hF _ 22 11 = hF t40 22 11 from rfl) ?_
        refine Wp.iret rfl dX3_traceCritical_47 ?_
        refine ⟨⟨_, rfl, ?_⟩, (spx'.fr f16 (by decide)).fr f40 (by decide), (fr.tr (f16.mono (by simp) (by simp))).tr (f40.mono (by simp) (by simp))⟩
        rw [f40.2.2.2.2.1 22 11 (by simp)]
        omega

theorem cq_traceCritical (d : Nat) (h : mH) (sh : Sh h) (spx : SPx h) (a l : Int) (ka : hK h a = 10) (la : hL h a = l) (l0 : 0 ≤ l) (l1 : l ≤ 1000000) : Cq m_X3_traceCritical (d + 3) [(2, 22), (2, a)] h (fun r t => (∃ y, r = some (0, y) ∧ 0 ≤ y ∧ y ≤ 10) ∧ SPx t ∧ Fr (a :: sAr) sGf h t) := by
  refine Cq.of ?_
  show Wp m_X3_traceCritical ((d + 3)) 0 [(2, 22), (2, a), (9, 0)] [] h _
  refine Wp.ald_n (j := 0) rfl dX3_traceCritical_0 ?_
  obtain ⟨_, t1, ct1, rfl, spx1, f1⟩ := cq_shiftByPace (d + 2) h sh spx
  have sh1 := sh.fr f1 (by decide +kernel) (by decide)
  refine Wp.callV0 (ct1) wc_X3_110 iM_X3_shiftByPace se_X3_shiftByPace kC3 (sK22 (h := h) sh) dX3_traceCritical_1 rfl (Nat.le_of_ble_eq_true rfl) rfl (Nat.le_of_ble_eq_true rfl) ?_
  refine Wp.iconst dX3_traceCritical_4 (by decide) ?_
  refine sti_3_2 rfl (dSt_n dX3_traceCritical_5) ?_
  have ka1 : hK t1 a = 10 := by rw [f1.2.2.1]; exact ka
  have la1 : hL t1 a = l := by rw [f1.2.2.2.1]; exact la
  exact (traceCritical_loop d t1 sh1 spx1 a l ka1 la1 l0 l1 _ 0 t1 (Nat.lt_succ_self _) (Int.le_refl _) Fr.rf spx1).mono (fun r t q => ⟨q.1, q.2.1, (f1.mono (by simp) (fun _ z => z)).tr q.2.2⟩)

/-- the room of the products -/
def OB (h : mH) (ob n : Int) : Prop := hF h 22 8 = ob ∧ hK h ob = 15 ∧ hL h ob = n ∧ (ob = 30 ∨ 74 ≤ ob) ∧ ob < hN h ∧ (n = 0 ∨ n = 201) ∧ ∀ i, 0 ≤ i → i < n → 74 ≤ hA h ob i ∧ hA h ob i < hN h ∧ hK h (hA h ob i) = 11 ∧ hL h (hA h ob i) = 100
def psO (n : Int) : Int := if n = 0 then 20301 else 0
theorem OB.fq {A : Int → Prop} {G : List (Int × Nat)} {h h' : mH} {ob n : Int} (t : OB h ob n) (a : Fq A G h h') (h22 : 74 ≤ hN h) (g8 : ((22 : Int), 8) ∉ G) (hA : ¬ A ob) : OB h' ob n := by
  obtain ⟨t0, k0, l0, y0, z0, b0, e0⟩ := t
  have hn := a.1
  have ea := a.2.2.2.2.2 ob z0 hA
  refine ⟨(a.2.2.2.2.1 22 8 (by omega) g8).trans t0, (a.2.2.1 ob z0).trans k0, (a.2.2.2.1 ob z0).trans l0, y0, by omega, b0, fun i i0 i1 => ?_⟩
  rw [ea]
  have := e0 i i0 i1
  exact ⟨this.1, by omega, (a.2.2.1 _ this.2.1).trans this.2.2.1, (a.2.2.2.1 _ this.2.1).trans this.2.2.2⟩
theorem nM_old {h : mH} {n k a : Int} (ha : a < hN h) : hK (nM h n k) a = hK h a ∧ hL (nM h n k) a = hL h a ∧ hA (nM h n k) a = hA h a := by
  have h1 : ¬ a = (h.1.1 : Int) := by
    have : a < (h.1.1 : Int) := ha
    omega
  have h2 : ¬ ((h.1.1 : Int) < a ∧ a ≤ (h.1.1 : Int) + n) := by
    have : a < (h.1.1 : Int) := ha
    omega
  refine ⟨?_, ?_, ?_⟩
  · show (if a = (h.1.1 : Int) then 15 else if (h.1.1 : Int) < a ∧ a ≤ (h.1.1 : Int) + n then 11 else h.2.1 a) = _
    rw [if_neg h1, if_neg h2]
    rfl
  · show (if a = (h.1.1 : Int) then n else if (h.1.1 : Int) < a ∧ a ≤ (h.1.1 : Int) + n then k else h.2.2.1 a) = _
    rw [if_neg h1, if_neg h2]
    rfl
  · show (if a = (h.1.1 : Int) then (fun i => (h.1.1 : Int) + 1 + i) else if (h.1.1 : Int) < a ∧ a ≤ (h.1.1 : Int) + n then (fun _ => 0) else h.2.2.2.2 a) = _
    rw [if_neg h1, if_neg h2]
    rfl
theorem Fq.m {A : Int → Prop} {G : List (Int × Nat)} {h : mH} {n k : Int} : Fq A G h (nM h n k) := ⟨by show hN h ≤ hN h + 1 + n.toNat; omega, by show hZ h ≤ hZ h + n.toNat + n.toNat * k.toNat; omega, fun _ hx => (nM_old hx).1, fun _ hx => (nM_old hx).2.1, fun _ _ _ _ => rfl, fun _ hx _ => (nM_old hx).2.2⟩
theorem OB.new {h : mH} (h74 : 74 ≤ hN h) : OB (sF (nM h 201 100) 22 8 (hN h : Int)) (hN h : Int) 201 := by
  have e0 : hA (sF (nM h 201 100) 22 8 (hN h : Int)) (hN h : Int) = fun i => (hN h : Int) + 1 + i := if_pos rfl
  refine ⟨rfl, if_pos rfl, if_pos rfl, Or.inr (by omega), ?_, Or.inr rfl, fun i i0 i1 => ?_⟩
  · show (hN h : Int) < ((hN h + 1 + 201 : Nat) : Int)
    omega
  · rw [e0]
    refine ⟨by show (74 : Int) ≤ (hN h : Int) + 1 + i; omega, ?_, ?_, ?_⟩
    · show (hN h : Int) + 1 + i < ((hN h + 1 + 201 : Nat) : Int)
      omega
    · show (if (hN h : Int) + 1 + i = (hN h : Int) then 15 else if (hN h : Int) < (hN h : Int) + 1 + i ∧ (hN h : Int) + 1 + i ≤ (hN h : Int) + 201 then 11 else hK h ((hN h : Int) + 1 + i)) = 11
      rw [if_neg (by omega), if_pos (by omega)]
    · show (if (hN h : Int) + 1 + i = (hN h : Int) then (201 : Int) else if (hN h : Int) < (hN h : Int) + 1 + i ∧ (hN h : Int) + 1 + i ≤ (hN h : Int) + 201 then 100 else hL h ((hN h : Int) + 1 + i)) = 100
      rw [if_neg (by omega), if_pos (by omega)]
