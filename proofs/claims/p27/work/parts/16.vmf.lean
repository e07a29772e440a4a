section VMF
variable {M : mM} {d pc : Nat} {L S : List mV} {h : mH} {Q : Option mV → mH → Prop}
theorem Wp.new {c ix N : Nat} {C : String} {T : u_T} (hc : kC c C T N) (hw : Cond.classLink M.1.cls ix C ∈ tW) (hd : decode M.2.1 pc = .ok (.new ix, 3)) (k0 : Wp M d (pc + 3) L ((2, (hN h : Int)) :: S) (nO h c) Q) : Wp M d pc L S h Q := by
  refine k0.stepH (Nat.le_succ _) (Nat.le_add_right _ _) ?_
  intro D sz h0 p l e R s m args below meth c0 Qw C H locs ls st a2 a3 a4 a1 r1 r2 n1 n2 kk
  obtain ⟨hx, hb, hml, ho, ht, hnw, hrt, hlk, hnm, hfr, hlo, hkD, hsz⟩ := C
  obtain ⟨hc1, hc2, hc3, hc4, hc5, hc6, hc7, hc8, hc9, hc10⟩ := hc
  have hKn := hkD.1.1 c _ hc1
  have e1 : hN (nO h c) = hN h + 1 := rfl
  have e2 : hZ (nO h c) = hZ h + N := by rw [← hc2]; rfl
  rw [e1] at r1
  rw [e2] at r2
  refine W.newcK hx hb ho (ht _ hw) (ht _ hc9) (ht _ hc10) rfl hd (by omega) (by omega) hKn.2.1 rfl fun H1 kC hkC f1 z1 o1 => ?_
  refine W.cs (show hN h - hN h0 + 1 = hN (nO h c) - hN h0 by rw [e1]; omega) (show hZ h - hZ h0 + N = hZ (nO h c) - hZ h0 by rw [e2]; omega) ?_
  have hsz2 : H.size = sz + hN h := a1.1
  refine kk H1 locs ls _ a2 ⟨mR (by rw [hsz2]; omega) (by omega), a3⟩ a4 (rH_push a1 z1 o1 e1 (fun a ha => u1_n _ _ ha) (fun a _ => rfl) (fun a ha => u1_n _ _ ha) (fun a _ => rfl) ?_) (fun q hq => Or.inr hq) (fun q hq => o1 q (by omega))
  obtain ⟨cell, q1, q2, q3, q4⟩ := u_born (cTy c) ht hc4 hKn hkC f1 hc5
  rw [hsz2] at q1
  have hkk : hK (nO h c) (hN h : Int) = c := u1_s _ _ _
  refine ⟨cell, q1, Or.inl ?_⟩
  rw [hkk]
  refine ⟨hc3, q3, q2, fun k hk => ⟨_, q4 k (by omega), ?_⟩⟩
  have hff : hF (nO h c) (hN h : Int) k = dfl (fTg c k) := congrFun (u1_s _ _ _) k
  rw [hff]
  exact pTy_dfl (Or.inl (hc8 k (by omega)))
theorem Wp.newI {n : Int} (hw : Cond.arrayClass .int ∈ tW) (hd : decode M.2.1 pc = .ok (.newarray .int, 2)) (h1 : 0 ≤ n) (h2 : n ≤ 1000000) (k0 : Wp M d (pc + 2) L ((2, (hN h : Int)) :: S) (nA h 10 n) Q) : Wp M d pc L ((0, n) :: S) h Q := by
  refine k0.stepH (Nat.le_succ _) (Nat.le_add_right _ _) ?_
  intro D sz h0 p l e R s m args below meth c0 Qw C H locs ls st a2 a3 a4 a1 r1 r2 n1 n2 kk
  obtain ⟨hx, hb, hml, ho, ht, hnw, hrt, hlk, hnm, hfr, hlo, hkD, hsz⟩ := C
  obtain ⟨v, r, rfl, qv, b0⟩ := rSt_c a3
  obtain ⟨j, rfl, ej⟩ := rV_i qv
  have e1 : hN (nA h 10 n) = hN h + 1 := rfl
  have e2 : hZ (nA h 10 n) = hZ h + n.toNat := rfl
  rw [e1] at r1
  rw [e2] at r2
  have hj0 : ¬ j < 0 := fun z => by
    have := Int32.lt_iff_toInt_lt.mp z
    rw [ej] at this
    exact absurd this (by show ¬ n < 0; omega)
  have hjn : j.toNatClampNeg = n.toNat := by show j.toInt.toNat = _; rw [ej]
  have hsz2 : H.size = sz + hN h := a1.1
  refine va_newaK (atype := .int) hx hb (ht _ hw) rfl hd rfl hj0 hjn (by show n.toNat * 4 ≤ _; omega) (by omega) (by omega) hsz2 fun H1 cA f1 z1 o1 hArr hNm => ?_
  refine W.cs (show hN h - hN h0 + 1 = hN (nA h 10 n) - hN h0 by rw [e1]; omega) (show hZ h - hZ h0 + n.toNat = hZ (nA h 10 n) - hZ h0 by rw [e2]; omega) ?_
  have hcA : cA = D.2.2 10 := Option.some.inj (hNm.symm.trans (hkD.1.2 0 _ rfl).2)
  refine kk H1 locs ls _ a2 ⟨mR (by omega) (by omega), b0⟩ a4 (rH_push a1 (by rw [z1, hsz2]) (fun q hq => o1 q (by omega)) e1 (fun a ha => u1_n _ _ ha) (fun a ha => u1_n _ _ ha) (fun a _ => rfl) (fun a ha => u1_n _ _ ha) ?_) (fun q hq => Or.inr hq) (fun q hq => o1 q (by omega))
  have hkk : hK (nA h 10 n) (hN h : Int) = 10 := u1_s _ _ _
  have hll : hL (nA h 10 n) (hN h : Int) = n := u1_s _ _ _
  have haa : hA (nA h 10 n) (hN h : Int) = fun _ => dfl (aTg 10) := u1_s _ _ _
  refine ⟨_, f1, Or.inr (Or.inl ?_)⟩
  rw [hkk, hll, haa, arrV_size]
  refine ⟨by decide, by decide, rfl, hcA, by omega, fun i hi => ⟨_, arrV_read _ _ hi, ?_⟩⟩
  exact pTy_dfl (ty := .int) (by first | exact Or.inl rfl | exact Or.inr (Or.inl rfl) | exact Or.inr (Or.inr rfl))
theorem Wp.newJ {n : Int} (hw : Cond.arrayClass .long ∈ tW) (hd : decode M.2.1 pc = .ok (.newarray .long, 2)) (h1 : 0 ≤ n) (h2 : n ≤ 1000000) (k0 : Wp M d (pc + 2) L ((2, (hN h : Int)) :: S) (nA h 11 n) Q) : Wp M d pc L ((0, n) :: S) h Q := by
  refine k0.stepH (Nat.le_succ _) (Nat.le_add_right _ _) ?_
  intro D sz h0 p l e R s m args below meth c0 Qw C H locs ls st a2 a3 a4 a1 r1 r2 n1 n2 kk
  obtain ⟨hx, hb, hml, ho, ht, hnw, hrt, hlk, hnm, hfr, hlo, hkD, hsz⟩ := C
  obtain ⟨v, r, rfl, qv, b0⟩ := rSt_c a3
  obtain ⟨j, rfl, ej⟩ := rV_i qv
  have e1 : hN (nA h 11 n) = hN h + 1 := rfl
  have e2 : hZ (nA h 11 n) = hZ h + n.toNat := rfl
  rw [e1] at r1
  rw [e2] at r2
  have hj0 : ¬ j < 0 := fun z => by
    have := Int32.lt_iff_toInt_lt.mp z
    rw [ej] at this
    exact absurd this (by show ¬ n < 0; omega)
  have hjn : j.toNatClampNeg = n.toNat := by show j.toInt.toNat = _; rw [ej]
  have hsz2 : H.size = sz + hN h := a1.1
  refine va_newaK (atype := .long) hx hb (ht _ hw) rfl hd rfl hj0 hjn (by show n.toNat * 8 ≤ _; omega) (by omega) (by omega) hsz2 fun H1 cA f1 z1 o1 hArr hNm => ?_
  refine W.cs (show hN h - hN h0 + 1 = hN (nA h 11 n) - hN h0 by rw [e1]; omega) (show hZ h - hZ h0 + n.toNat = hZ (nA h 11 n) - hZ h0 by rw [e2]; omega) ?_
  have hcA : cA = D.2.2 11 := Option.some.inj (hNm.symm.trans (hkD.1.2 1 _ rfl).2)
  refine kk H1 locs ls _ a2 ⟨mR (by omega) (by omega), b0⟩ a4 (rH_push a1 (by rw [z1, hsz2]) (fun q hq => o1 q (by omega)) e1 (fun a ha => u1_n _ _ ha) (fun a ha => u1_n _ _ ha) (fun a _ => rfl) (fun a ha => u1_n _ _ ha) ?_) (fun q hq => Or.inr hq) (fun q hq => o1 q (by omega))
  have hkk : hK (nA h 11 n) (hN h : Int) = 11 := u1_s _ _ _
  have hll : hL (nA h 11 n) (hN h : Int) = n := u1_s _ _ _
  have haa : hA (nA h 11 n) (hN h : Int) = fun _ => dfl (aTg 11) := u1_s _ _ _
  refine ⟨_, f1, Or.inr (Or.inl ?_)⟩
  rw [hkk, hll, haa, arrV_size]
  refine ⟨by decide, by decide, rfl, hcA, by omega, fun i hi => ⟨_, arrV_read _ _ hi, ?_⟩⟩
  exact pTy_dfl (ty := .long) (by first | exact Or.inl rfl | exact Or.inr (Or.inl rfl) | exact Or.inr (Or.inr rfl))
theorem Wp.newZ {n : Int} (hw : Cond.arrayClass .boolean ∈ tW) (hd : decode M.2.1 pc = .ok (.newarray .boolean, 2)) (h1 : 0 ≤ n) (h2 : n ≤ 1000000) (k0 : Wp M d (pc + 2) L ((2, (hN h : Int)) :: S) (nA h 12 n) Q) : Wp M d pc L ((0, n) :: S) h Q := by
  refine k0.stepH (Nat.le_succ _) (Nat.le_add_right _ _) ?_
  intro D sz h0 p l e R s m args below meth c0 Qw C H locs ls st a2 a3 a4 a1 r1 r2 n1 n2 kk
  obtain ⟨hx, hb, hml, ho, ht, hnw, hrt, hlk, hnm, hfr, hlo, hkD, hsz⟩ := C
  obtain ⟨v, r, rfl, qv, b0⟩ := rSt_c a3
  obtain ⟨j, rfl, ej⟩ := rV_i qv
  have e1 : hN (nA h 12 n) = hN h + 1 := rfl
  have e2 : hZ (nA h 12 n) = hZ h + n.toNat := rfl
  rw [e1] at r1
  rw [e2] at r2
  have hj0 : ¬ j < 0 := fun z => by
    have := Int32.lt_iff_toInt_lt.mp z
    rw [ej] at this
    exact absurd this (by show ¬ n < 0; omega)
  have hjn : j.toNatClampNeg = n.toNat := by show j.toInt.toNat = _; rw [ej]
  have hsz2 : H.size = sz + hN h := a1.1
  refine va_newaK (atype := .boolean) hx hb (ht _ hw) rfl hd rfl hj0 hjn (by show n.toNat * 1 ≤ _; omega) (by omega) (by omega) hsz2 fun H1 cA f1 z1 o1 hArr hNm => ?_
  refine W.cs (show hN h - hN h0 + 1 = hN (nA h 12 n) - hN h0 by rw [e1]; omega) (show hZ h - hZ h0 + n.toNat = hZ (nA h 12 n) - hZ h0 by rw [e2]; omega) ?_
  have hcA : cA = D.2.2 12 := Option.some.inj (hNm.symm.trans (hkD.1.2 2 _ rfl).2)
  refine kk H1 locs ls _ a2 ⟨mR (by omega) (by omega), b0⟩ a4 (rH_push a1 (by rw [z1, hsz2]) (fun q hq => o1 q (by omega)) e1 (fun a ha => u1_n _ _ ha) (fun a ha => u1_n _ _ ha) (fun a _ => rfl) (fun a ha => u1_n _ _ ha) ?_) (fun q hq => Or.inr hq) (fun q hq => o1 q (by omega))
  have hkk : hK (nA h 12 n) (hN h : Int) = 12 := u1_s _ _ _
  have hll : hL (nA h 12 n) (hN h : Int) = n := u1_s _ _ _
  have haa : hA (nA h 12 n) (hN h : Int) = fun _ => dfl (aTg 12) := u1_s _ _ _
  refine ⟨_, f1, Or.inr (Or.inl ?_)⟩
  rw [hkk, hll, haa, arrV_size]
  refine ⟨by decide, by decide, rfl, hcA, by omega, fun i hi => ⟨_, arrV_read _ _ hi, ?_⟩⟩
  exact pTy_dfl (ty := .boolean) (by first | exact Or.inl rfl | exact Or.inr (Or.inl rfl) | exact Or.inr (Or.inr rfl))
theorem Wp.newB {n : Int} (hw : Cond.arrayClass .byte ∈ tW) (hd : decode M.2.1 pc = .ok (.newarray .byte, 2)) (h1 : 0 ≤ n) (h2 : n ≤ 1000000) (k0 : Wp M d (pc + 2) L ((2, (hN h : Int)) :: S) (nA h 13 n) Q) : Wp M d pc L ((0, n) :: S) h Q := by
  refine k0.stepH (Nat.le_succ _) (Nat.le_add_right _ _) ?_
  intro D sz h0 p l e R s m args below meth c0 Qw C H locs ls st a2 a3 a4 a1 r1 r2 n1 n2 kk
  obtain ⟨hx, hb, hml, ho, ht, hnw, hrt, hlk, hnm, hfr, hlo, hkD, hsz⟩ := C
  obtain ⟨v, r, rfl, qv, b0⟩ := rSt_c a3
  obtain ⟨j, rfl, ej⟩ := rV_i qv
  have e1 : hN (nA h 13 n) = hN h + 1 := rfl
  have e2 : hZ (nA h 13 n) = hZ h + n.toNat := rfl
  rw [e1] at r1
  rw [e2] at r2
  have hj0 : ¬ j < 0 := fun z => by
    have := Int32.lt_iff_toInt_lt.mp z
    rw [ej] at this
    exact absurd this (by show ¬ n < 0; omega)
  have hjn : j.toNatClampNeg = n.toNat := by show j.toInt.toNat = _; rw [ej]
  have hsz2 : H.size = sz + hN h := a1.1
  refine va_newaK (atype := .byte) hx hb (ht _ hw) rfl hd rfl hj0 hjn (by show n.toNat * 1 ≤ _; omega) (by omega) (by omega) hsz2 fun H1 cA f1 z1 o1 hArr hNm => ?_
  refine W.cs (show hN h - hN h0 + 1 = hN (nA h 13 n) - hN h0 by rw [e1]; omega) (show hZ h - hZ h0 + n.toNat = hZ (nA h 13 n) - hZ h0 by rw [e2]; omega) ?_
  have hcA : cA = D.2.2 13 := Option.some.inj (hNm.symm.trans (hkD.1.2 3 _ rfl).2)
  refine kk H1 locs ls _ a2 ⟨mR (by omega) (by omega), b0⟩ a4 (rH_push a1 (by rw [z1, hsz2]) (fun q hq => o1 q (by omega)) e1 (fun a ha => u1_n _ _ ha) (fun a ha => u1_n _ _ ha) (fun a _ => rfl) (fun a ha => u1_n _ _ ha) ?_) (fun q hq => Or.inr hq) (fun q hq => o1 q (by omega))
  have hkk : hK (nA h 13 n) (hN h : Int) = 13 := u1_s _ _ _
  have hll : hL (nA h 13 n) (hN h : Int) = n := u1_s _ _ _
  have haa : hA (nA h 13 n) (hN h : Int) = fun _ => dfl (aTg 13) := u1_s _ _ _
  refine ⟨_, f1, Or.inr (Or.inl ?_)⟩
  rw [hkk, hll, haa, arrV_size]
  refine ⟨by decide, by decide, rfl, hcA, by omega, fun i hi => ⟨_, arrV_read _ _ hi, ?_⟩⟩
  exact pTy_dfl (ty := .byte) (by first | exact Or.inl rfl | exact Or.inr (Or.inl rfl) | exact Or.inr (Or.inr rfl))
theorem Wp.newS {n : Int} {ix : Nat} (hw : Cond.classLink M.1.cls ix "BeatBench$Sheet" ∈ tW) (hd : decode M.2.1 pc = .ok (.anewarray ix, 3)) (h1 : 0 ≤ n) (h2 : n ≤ 1000000) (k0 : Wp M d (pc + 3) L ((2, (hN h : Int)) :: S) (nA h 14 n) Q) : Wp M d pc L ((0, n) :: S) h Q := by
  refine k0.stepH (Nat.le_succ _) (Nat.le_add_right _ _) ?_
  intro D sz h0 p l e R s m args below meth c0 Qw C H locs ls st a2 a3 a4 a1 r1 r2 n1 n2 kk
  obtain ⟨hx, hb, hml, ho, ht, hnw, hrt, hlk, hnm, hfr, hlo, hkD, hsz⟩ := C
  obtain ⟨v, r, rfl, qv, b0⟩ := rSt_c a3
  obtain ⟨j, rfl, ej⟩ := rV_i qv
  have e1 : hN (nA h 14 n) = hN h + 1 := rfl
  have e2 : hZ (nA h 14 n) = hZ h + n.toNat := rfl
  rw [e1] at r1
  rw [e2] at r2
  have hj0 : ¬ j < 0 := fun z => by
    have := Int32.lt_iff_toInt_lt.mp z
    rw [ej] at this
    exact absurd this (by show ¬ n < 0; omega)
  have hjn : j.toNatClampNeg = n.toNat := by show j.toInt.toNat = _; rw [ej]
  have hsz2 : H.size = sz + hN h := a1.1
  refine W.anew hx hb ho (ht _ hw) (va_AO.use hkD.2.1) rfl hd rfl hj0 (by rw [hjn]; omega) (by omega) (by rw [hjn]; omega) fun cA kA comp s1 s2 s3 s4 => ?_
  rw [hjn]
  refine W.cs (show hN h - hN h0 + 1 = hN (nA h 14 n) - hN h0 by rw [e1]; omega) (show hZ h - hZ h0 + n.toNat = hZ (nA h 14 n) - hZ h0 by rw [e2]; omega) ?_
  obtain ⟨kA', comp', t1, t2, t3, t4⟩ := (hkD.1.2 4 _ rfl).2
  have hcA : cA = D.2.2 14 := Option.some.inj (s1.symm.trans t4)
  have o1 : ∀ q : Nat, q < H.size → (H.push { cls := cA, slots := Array.replicate n.toNat .null, vm := .none })[q]? = H[q]? := fun q hq => by
    rw [Array.getElem?_push, if_neg (Nat.ne_of_lt hq)]
  refine kk _ locs ls _ a2 ⟨mR (by omega) (by omega), b0⟩ a4 (rH_push a1 (by simp) o1 e1 (fun a ha => u1_n _ _ ha) (fun a ha => u1_n _ _ ha) (fun a _ => rfl) (fun a ha => u1_n _ _ ha) ?_) (fun q hq => Or.inr hq) (fun q hq => o1 q (by omega))
  have hkk : hK (nA h 14 n) (hN h : Int) = 14 := u1_s _ _ _
  have hll : hL (nA h 14 n) (hN h : Int) = n := u1_s _ _ _
  have haa : hA (nA h 14 n) (hN h : Int) = fun _ => dfl (aTg 14) := u1_s _ _ _
  refine ⟨_, by rw [← hsz2, Array.getElem?_push, if_pos rfl], Or.inr (Or.inl ?_)⟩
  rw [hkk, hll, haa]
  refine ⟨by decide, by decide, rfl, hcA, by simp; omega, fun i hi => ⟨.null, ?_, rfl⟩⟩
  simp at hi
  simp [hi]
theorem Wp.newM {n k : Int} {ix : Nat} (hw : Cond.classLink M.1.cls ix "[[J" ∈ tW) (hwa : Cond.arrayClass .long ∈ tW) (hd : decode M.2.1 pc = .ok (.multianewarray ix 2, 4)) (h1 : 0 ≤ n) (h2 : n ≤ 1000000) (h3 : 0 ≤ k) (h4 : k ≤ 1000000) (k0 : Wp M d (pc + 4) L ((2, (hN h : Int)) :: S) (nM h n k) Q) : Wp M d pc L ((0, k) :: (0, n) :: S) h Q := by
  have e1 : hN (nM h n k) = hN h + 1 + n.toNat := rfl
  have e2 : hZ (nM h n k) = hZ h + n.toNat + n.toNat * k.toNat := rfl
  refine k0.stepH (by rw [e1]; omega) (by rw [e2]; omega) ?_
  intro D sz h0 p l e R s m args below meth c0 Qw C H locs ls st a2 a3 a4 a1 r1 r2 n1 n2 kk
  obtain ⟨hx, hb, hml, ho, ht, hnw, hrt, hlk, hnm, hfr, hlo, hkD, hsz⟩ := C
  obtain ⟨v, r, rfl, qv, b0⟩ := rSt_c a3
  obtain ⟨j, rfl, ej⟩ := rV_i qv
  obtain ⟨v2, r2', rfl, qv2, b1⟩ := rSt_c b0
  obtain ⟨i, rfl, ei⟩ := rV_i qv2
  rw [e1] at r1
  rw [e2] at r2
  have hneg : ∀ (x : Int32) (z : Int), x.toInt = z → 0 ≤ z → ¬ x < 0 := fun x z hz h0 q => by
    have := Int32.lt_iff_toInt_lt.mp q
    rw [hz] at this
    exact absurd this (by show ¬ z < 0; omega)
  have hjn : j.toNatClampNeg = k.toNat := by show j.toInt.toNat = _; rw [ej]
  have hin : i.toNatClampNeg = n.toNat := by show i.toInt.toNat = _; rw [ei]
  have hsz2 : H.size = sz + hN h := a1.1
  generalize hGe : n.toNat * k.toNat = G at *
  intro T hT Xs
  obtain ⟨vm₁, cA, comp, -, fA, fC, hO, -, X', step⟩ := Xs.multianewarray2F hx ho (ht _ hw) (va_AOA.use hkD.2.2) (ht _ hwa) (g := F0 m pc ls (.int j :: .int i :: r2')) rfl (by rw [hb]; exact hd) rfl (hneg i n ei h1) (hneg j k ej h3) (by rw [hin]; omega) (by rw [hjn]; show k.toNat * 8 ≤ _; omega) (by rw [hjn]; omega) (by decide) (by decide) (by rw [hin]; omega) (by rw [hin, hjn]; omega)
  rw [hin, hjn] at X' step
  have hcy : comp = D.2.2 11 := Option.some.inj (fC.symm.trans (hkD.1.2 1 _ rfl).2)
  have hcA : cA = D.2.2 15 := Option.some.inj (fA.symm.trans (hkD.1.2 5 _ rfl).2)
  generalize hF : Jvm.Free.Multi.fill (T.setVm vm₁) cA comp n.toNat k.toNat (defaultValue .long) n.toNat = F at X' step
  have hTh : (T.setVm vm₁).heap = H := hT
  obtain ⟨f1, f2, -, -⟩ := Jvm.Free.Multi.fill_facts (T.setVm vm₁) cA comp n.toNat k.toNat (defaultValue .long) n.toNat
  rw [hF, hTh] at f1 f2
  have hold : ∀ x : Nat, x < H.size → F.heap[x]? = H[x]? := fun x hx => by
    have := Jvm.Free.Multi.fill_old (T.setVm vm₁) cA comp n.toNat k.toNat (defaultValue .long) (a := x) (by rw [hTh]; exact hx) n.toNat
    rw [hF, hTh] at this
    exact this
  have hrow : ∀ j : Nat, j < n.toNat → F.heap[H.size + 1 + j]? = some (Jvm.Free.Multi.innerC comp k.toNat (defaultValue .long)) := fun j hj => by
    have := Jvm.Free.Multi.fill_inner (T.setVm vm₁) cA comp n.toNat k.toNat (defaultValue .long) n.toNat j hj
    rw [hF, hTh] at this
    exact this
  rw [vr_outer] at f2
  have hkk : ∀ b : Int, hK (nM h n k) b = if b = (hN h : Int) then 15 else if (hN h : Int) < b ∧ b ≤ (hN h : Int) + n then 11 else hK h b := fun b => rfl
  have hll : ∀ b : Int, hL (nM h n k) b = if b = (hN h : Int) then n else if (hN h : Int) < b ∧ b ≤ (hN h : Int) + n then k else hL h b := fun b => rfl
  have haa : ∀ b : Int, hA (nM h n k) b = if b = (hN h : Int) then (fun i => (hN h : Int) + 1 + i) else if (hN h : Int) < b ∧ b ≤ (hN h : Int) + n then (fun _ => 0) else hA h b := fun b => rfl
  have hrH : rH D sz (nM h n k) F.heap := by
    refine ⟨by rw [f1, e1]; omega, fun a ha => ?_, fun a ha => ?_⟩
    · rw [e1] at ha
      unfold rC
      rw [hkk, hll, haa]
      by_cases c1 : (a : Int) = (hN h : Int)
      · rw [if_pos c1, if_pos c1, if_pos c1]
        have ca : a = hN h := by omega
        rw [ca, ← hsz2]
        refine ⟨_, f2, Or.inr (Or.inl ?_)⟩
        rw [arrV_size]
        refine ⟨by decide, by decide, rfl, hcA, by omega, fun i hi => ⟨_, arrV_read _ _ hi, ?_⟩⟩
        rw [if_pos hi]
        exact mR (show ((H.size + 1 + i : Nat) : Int) = _ by omega) (by omega)
      · rw [if_neg c1, if_neg c1, if_neg c1]
        by_cases c2 : (hN h : Int) < (a : Int) ∧ (a : Int) ≤ (hN h : Int) + n
        · rw [if_pos c2, if_pos c2, if_pos c2]
          have := hrow (a - hN h - 1) (by omega)
          rw [show H.size + 1 + (a - hN h - 1) = sz + a by omega] at this
          refine ⟨_, this, Or.inr (Or.inl ?_)⟩
          have hin : Jvm.Free.Multi.innerC comp k.toNat (defaultValue .long) = arrV comp k.toNat (fun _ => defaultValue .long) := arrV_new comp k.toNat (defaultValue .long)
          rw [hin, arrV_size]
          exact ⟨by decide, by decide, rfl, hcy, by omega, fun i hi => ⟨_, arrV_read _ _ hi, rfl⟩⟩
        · rw [if_neg c2, if_neg c2, if_neg c2]
          obtain ⟨cell, g1, g2⟩ := a1.2.1 a (by omega)
          exact ⟨cell, (hold _ (by omega)).trans g1, g2⟩
    · rw [e1] at ha
      rw [hkk, if_neg (by omega), if_neg (by omega)]
      exact a1.2.2 a (by omega)
  have hk := kk F.heap locs ls (.ref H.size :: r2') a2 ⟨mR (show ((H.size : Nat) : Int) = (sz : Int) + (hN h : Int) by omega) (by omega), b1⟩ a4 hrH (fun q hq => Or.inr hq) (fun q hq => hold q (by omega))
  rw [e1, e2] at hk
  rw [hGe] at X'
  have hk2 := W.cs (cells := hN h - hN h0 + 1 + n.toNat) (slots := hZ h - hZ h0 + n.toNat + G) (by omega) (by omega) hk
  obtain ⟨t, t1, t2⟩ := hk2 F rfl X'
  exact ⟨t, step t (by rw [hT]; exact t1), t2⟩
end VMF
