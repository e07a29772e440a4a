section VMH
variable {M : mM} {d pc : Nat} {L S : List mV} {h : mH} {Q : Option mV → mH → Prop}
/-- what a copied row holds -/
def cpF (f g : Int → Int) (sp dp n : Int) : Int → Int := fun j => if dp ≤ j ∧ j < dp + n then f (sp + (j - dp)) else g j
theorem Wp.acopy {src dst sp dp n : Int} {ix t : Nat} (ht5 : t = 10 ∨ t = 11) (hw1 : Cond.methodLink M.1.cls ix arraycopyName ∈ tW) (hw2 : Cond.native arraycopyName ∈ tW) (hw3 : Cond.static arraycopyName ∈ tW) (hw4 : Cond.initialized "java/lang/System" ∈ tW) (hd : decode M.2.1 pc = .ok (.invokestatic ix, 3))
    (hs : hK h src = t) (hdk : hK h dst = t) (h1 : 0 ≤ sp) (h2 : 0 ≤ dp) (h3 : 0 ≤ n) (h4 : sp + n ≤ hL h src) (h5 : dp + n ≤ hL h dst) (h8 : wSt S ≤ 8) (k : Wp M (d + 1) (pc + 3) L S (sA h dst (cpF (hA h src) (hA h dst) sp dp n)) Q) : Wp M (d + 1) pc L ((0, n) :: (0, dp) :: (2, dst) :: (0, sp) :: (2, src) :: S) h Q := by
  refine k.stepH (Nat.le_refl _) (Nat.le_refl _) ?_
  intro D sz h0 p l e R s m args below meth c0 Qw C H locs ls st a2 a3 a4 a1 r1 r2 n1 n2 kk
  obtain ⟨hx, hb, hml, ho, ht, hnw, hrt, hlk, hnm, hfr, hlo, hkD, hsz⟩ := C
  obtain ⟨_, z0, rfl, q0, b0⟩ := rSt_c a3
  obtain ⟨_, z1, rfl, q1, b1⟩ := rSt_c b0
  obtain ⟨_, z2, rfl, q2, b2⟩ := rSt_c b1
  obtain ⟨_, z3, rfl, q3, b3⟩ := rSt_c b2
  obtain ⟨_, z4, rfl, q4, b4⟩ := rSt_c b3
  obtain ⟨xn, rfl, en⟩ := rV_i q0
  obtain ⟨xd, rfl, ed⟩ := rV_i q1
  obtain ⟨xs, rfl, es⟩ := rV_i q3
  have t10 : 10 ≤ t := by omega
  have t16 : t < 16 := by omega
  obtain ⟨ns, cs, rfl, hns, s1, s2, s3, s4, s5⟩ := rC_arr a1 hs t10 t16
  obtain ⟨nd, cd, rfl, hnd, d1, d2, d3, d4, d5⟩ := rC_arr a1 hdk t10 t16
  have := rV_obj q2
  subst this
  have := rV_obj q4
  subst this
  have hneg : ∀ (x : Int32) (z : Int), x.toInt = z → 0 ≤ z → ¬ x < 0 ∧ x.toNatClampNeg = z.toNat := fun x z hz h0 => by
    refine ⟨fun q => ?_, by show x.toInt.toNat = _; rw [hz]⟩
    have := Int32.lt_iff_toInt_lt.mp q
    rw [hz] at this
    exact absurd this (by show ¬ z < 0; omega)
  obtain ⟨gn, en2⟩ := hneg xn n en h3
  obtain ⟨gd, ed2⟩ := hneg xd dp ed h2
  obtain ⟨gs, es2⟩ := hneg xs sp es h1
  have hty : ∃ ty, aTy t = ty ∧ pTy ty = true ∧ refKind ty = false ∧ ArrOfT s (D.2.2 t) ty := by
    rcases ht5 with rfl | rfl
    · exact ⟨_, rfl, rfl, rfl, (hkD.1.2 0 _ rfl).1⟩
    · exact ⟨_, rfl, rfl, rfl, (hkD.1.2 1 _ rfl).1⟩
  obtain ⟨ty, hta, htp, htr, hArr⟩ := hty
  obtain ⟨-, ks, hks, cms, hkks⟩ := arr_is s2 s3 hArr
  obtain ⟨-, kd, hkd, cmd, hkkd⟩ := arr_is d2 d3 hArr
  intro T hT X
  obtain ⟨vm', X', step⟩ := X.arraycopy hx ho (ht _ hw1) (ht _ hw2) (ht _ hw3) (ht _ hw4) (src := sz + ns) (dst := sz + nd) (cs := cs) (cd := cd) (srcPos := xs) (destPos := xd) (n := xn) (by rw [hT]; exact s1) (by rw [hT]; exact d1)
    (fun _ z => by rw [s2] at z; cases z) (fun _ z => by rw [d2] at z; cases z) (fun z => by rw [s2] at z; cases z) (fun z => by rw [d2] at z; cases z) hks hkd hkks hkkd (by simp [htr]) gs gd gn (by rw [es, en, s4]; omega) (by rw [ed, en, d4]; omega)
    (fun vm₁ _ i hi => by
      rw [en2] at hi
      rw [es2]
      obtain ⟨y, y1, y2⟩ := s5 (sp.toNat + i) (by omega)
      have e : cs.slots.getD (sp.toNat + i) .null = y := by rw [Array.getD_eq_getD_getElem?, y1]; rfl
      rw [e]
      refine ⟨(pTy_fits htp (by rw [← hta]; exact y2)).2, ?_⟩
      have hq : aTg t = 0 ∨ aTg t = 1 := by rcases ht5 with rfl | rfl <;> decide
      cases y with
      | ref a =>
        have := (Prod.mk.inj y2.2).1
        omega
      | null =>
        have := (Prod.mk.inj y2).1
        omega
      | _ => exact trivial)
    (g := F0 m pc ls (.int xn :: .int xd :: .ref (sz + nd) :: .int xs :: .ref (sz + ns) :: z4)) rfl (by show ls.size = _; rw [a2.1, a4, hml]) (rest := z4) rfl (by rw [hb]; exact hd) (by omega) (by
      rw [wSt_cat b4]
      have : nativeFrameWords "java/lang/System" "arraycopy" 5 ≤ 15 := by decide +kernel
      show 2 * 0 + _ + _ ≤ _
      omega)
  obtain ⟨k1, k2, k3, -⟩ := Cell.storeRun_facts cd xd.toNatClampNeg (cs.stretch xs.toNatClampNeg xn.toNatClampNeg)
  have hlen : (cs.stretch xs.toNatClampNeg xn.toNatClampNeg).length = n.toNat := by unfold Cell.stretch; rw [List.length_map, List.length_range, en2]
  have k4 := fun j => Cell.storeRun_get cd xd.toNatClampNeg (cs.stretch xs.toNatClampNeg xn.toNatClampNeg) j (by rw [hlen, ed2]; omega)
  rw [hlen, ed2] at k4
  have hget : ∀ i : Nat, i < n.toNat → (cs.stretch xs.toNatClampNeg xn.toNatClampNeg)[i]? = some (cs.slots.getD (sp.toNat + i) .null) := fun i hi => by
    unfold Cell.stretch
    rw [List.getElem?_map, en2, List.getElem?_range hi, es2]
    rfl
  generalize hCC : copied cs cd xs xd xn = CC at X' step
  have hCC' : cd.storeRun xd.toNatClampNeg (cs.stretch xs.toNatClampNeg xn.toNatClampNeg) = CC := hCC
  rw [hCC'] at k1 k2 k3
  rw [ed2] at hCC'
  rw [hCC'] at k4
  have hlt : sz + nd < T.heap.size := by rw [hT]; exact (Array.getElem?_eq_some_iff.mp d1).1
  have hat : ((T.setVm vm').setCell (sz + nd) CC).heap[sz + nd]? = some CC := heapAt_setCell_self _ hlt
  have hoff : ∀ q, q ≠ sz + nd → ((T.setVm vm').setCell (sz + nd) CC).heap[q]? = H[q]? := fun q hq => by
    rw [heapAt_setCell_ne _ (Ne.symm hq)]
    show T.heap[q]? = _
    rw [hT]
  have hsize : ((T.setVm vm').setCell (sz + nd) CC).heap.size = H.size := by
    rw [size_setCell]
    show T.heap.size = _
    rw [hT]
  have hrH : rH D sz (sA h nd (cpF (hA h ns) (hA h nd) sp dp n)) ((T.setVm vm').setCell (sz + nd) CC).heap := by
    refine rH_set (n := nd) a1 hsize hoff rfl rfl rfl (fun a _ => rfl) (fun a hz => u1_n _ _ (by omega)) ⟨CC, hat, Or.inr (Or.inl ?_)⟩
    have hkk : hK (sA h nd (cpF (hA h ns) (hA h nd) sp dp n)) nd = t := hdk
    have haa : hA (sA h nd (cpF (hA h ns) (hA h nd) sp dp n)) nd = cpF (hA h ns) (hA h nd) sp dp n := u1_s _ _ _
    rw [hkk, haa, k3]
    refine ⟨t10, t16, k2.trans d2, k1.trans d3, d4, fun j hj => ?_⟩
    rw [k4 j]
    unfold cpF
    by_cases hc : dp.toNat ≤ j ∧ j < dp.toNat + n.toNat
    · rw [if_pos hc, if_pos (by omega), hget _ (by omega)]
      obtain ⟨y, y1, y2⟩ := s5 (sp.toNat + (j - dp.toNat)) (by omega)
      rw [Array.getD_eq_getD_getElem?, y1]
      rw [show (sp + ((j : Int) - dp)) = ((sp.toNat + (j - dp.toNat) : Nat) : Int) by omega]
      exact ⟨y, rfl, y2⟩
    · rw [if_neg hc, if_neg (by omega)]
      exact d5 j hj
  obtain ⟨t1, t2, t3⟩ := kk _ _ ls z4 a2 b4 a4 hrH (fun q hq => by
    rcases List.mem_append.mp hq with z | z
    · exact Or.inr z
    · obtain ⟨y, -, hy⟩ := List.mem_map.mp z
      rw [← hy]
      exact Or.inl (Nat.le_add_right _ _)) (fun q hq => hoff q (Nat.ne_of_lt (Nat.lt_of_lt_of_le hq (Nat.le_add_right _ _)))) _ rfl X'
  exact ⟨t1, step t1 t2, t3⟩
end VMH
