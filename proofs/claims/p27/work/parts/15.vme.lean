section VME
variable {M : mM} {d pc : Nat} {L S : List mV} {h : mH} {Q : Option mV → mH → Prop}
theorem slot_set {cell : Cell} {i j : Nat} {v x : Value} (hj : cell.slots[j]? = some x) : (cell.setSlot i v).slots[j]? = if i = j then some v else some x := by
  have hlt : j < cell.slots.size := (Array.getElem?_eq_some_iff.mp hj).1
  by_cases hij : i = j
  · subst hij
    rw [if_pos rfl]
    simp [Cell.setSlot, Array.getElem?_setIfInBounds, hlt]
  · rw [if_neg hij]
    simp [Cell.setSlot, Array.getElem?_setIfInBounds, hij, hj]
theorem Wp.putf {a x : Int} {c k ix tg N : Nat} {C : String} {T : u_T} (hc : kC c C T N) (hk : k < N) (htg : fTg c k = tg) (hfin : (T k).2.2.2 = false) (hw : Cond.fieldLink M.1.cls ix C (T k).2.1 (T k).2.2.1 ∈ tW) (hd : decode M.2.1 pc = .ok (.putfield ix, 3)) (ha : hK h a = c) (k0 : Wp M d (pc + 3) L S (sF h a k x) Q) : Wp M d pc L ((tg, x) :: (2, a) :: S) h Q := by
  subst htg
  refine k0.stepH (Nat.le_refl _) (Nat.le_refl _) ?_
  intro D sz h0 p l e R s m args below meth c0 Qw C H locs ls st a2 a3 a4 a1 r1 r2 n1 n2 kk
  obtain ⟨hx, hb, hml, ho, ht, hnw, hrt, hlk, hnm, hfr, hlo, hkD, hsz⟩ := C
  obtain ⟨v, r, rfl, qv, b0⟩ := rSt_c a3
  obtain ⟨v2, r2', rfl, q, b1⟩ := rSt_c b0
  obtain ⟨hc1, hc2, hc3, hc4, hc5, hc6, hc7, hc8, -⟩ := hc
  obtain ⟨n, cell, rfl, hn, g1, g2, g3, g4⟩ := rC_obj a1 ha hc3
  have := rV_obj q
  subst this
  have hap := va_apart (own := C) ht hc4 (cTy c) hc5 hc6 hkD.1 hc1
  obtain ⟨hS, hfc, kC, hkC, hkind⟩ := hkD.1.1 c _ hc1
  obtain ⟨cf, kf, fi, f, hi, hsl⟩ := hS k hk
  obtain ⟨y, y1, y2⟩ := g4 k (by omega)
  dsimp only at hi hsl
  have hlay := ht _ (hc4 _ (u_in_lay hk))
  unfold u_lay at hlay
  have hst := (u_facts hfc hkC (u_lays ht hc4 hk) hi).1
  obtain ⟨f1, f2⟩ := pTy_fits (hc8 k hk) (show rV sz (tgT (cTy c k), x) v from qv)
  rw [if_neg (by rw [hfin]; decide)] at hlay
  have h6 := u_store hfc hkC hkind hlay hi (hc5 k hk) f1 f2
  rw [hc7 k hk] at hi
  refine W.putK hx hb (f := f) ⟨ho, ht _ hw, ⟨_, _, _, hi⟩, hst⟩ (by rw [g3]; exact h6) g1 g2 (by rw [hsl]; exact k2_hasslot y1) rfl rfl hd fun H' e1 e2 e3 => ?_
  rw [hsl] at e1
  refine kk H' _ ls _ a2 b1 a4 (rH_set (n := n) a1 e2 e3 rfl rfl rfl (fun a hz => ?_) (fun a _ => rfl) ?_) ?_ (fun q hq => e3 q (Nat.ne_of_lt (Nat.lt_of_lt_of_le hq (Nat.le_add_right _ _))))
  · funext j
    show (if j = k ∧ (a : Int) = (n : Int) then x else _) = _
    rw [if_neg (by omega)]
    rfl
  · refine ⟨_, e1, Or.inl ?_⟩
    have hkk : hK (sF h n k x) n = c := ha
    rw [hkk]
    refine ⟨hc3, g2, g3, fun j hj => ?_⟩
    obtain ⟨z, z1, z2⟩ := g4 j hj
    rw [slot_set z1]
    by_cases hjk : j = k
    · subst hjk
      refine ⟨v, if_pos rfl, ?_⟩
      have : hF (sF h n j x) n j = x := if_pos ⟨rfl, rfl⟩
      rw [this]
      exact qv
    · refine ⟨z, if_neg (hap k j hk (by omega) (Ne.symm hjk)), ?_⟩
      have : hF (sF h n k x) n j = hF h n j := if_neg (fun q => hjk q.1)
      rw [this]
      exact z2
  · intro q hq
    rcases List.mem_append.mp hq with z | z
    · exact Or.inr z
    · rw [List.mem_singleton.mp z]
      exact Or.inl (Nat.le_add_right _ _)
theorem Wp.putfF {a x : Int} {c k ix tg N : Nat} {C : String} {T : u_T} (hc : kC c C T N) (hk : k < N) (htg : fTg c k = tg) (hfin : (T k).2.2.2 = true) (hctor : M.1.name = "<init>") (hown : M.1.cls = C) (hw : Cond.fieldLink M.1.cls ix C (T k).2.1 (T k).2.2.1 ∈ tW) (hd : decode M.2.1 pc = .ok (.putfield ix, 3)) (ha : hK h a = c) (k0 : Wp M d (pc + 3) L S (sF h a k x) Q) : Wp M d pc L ((tg, x) :: (2, a) :: S) h Q := by
  subst htg
  refine k0.stepH (Nat.le_refl _) (Nat.le_refl _) ?_
  intro D sz h0 p l e R s m args below meth c0 Qw C H locs ls st a2 a3 a4 a1 r1 r2 n1 n2 kk
  obtain ⟨hx, hb, hml, ho, ht, hnw, hrt, hlk, hnm, hfr, hlo, hkD, hsz⟩ := C
  obtain ⟨v, r, rfl, qv, b0⟩ := rSt_c a3
  obtain ⟨v2, r2', rfl, q, b1⟩ := rSt_c b0
  obtain ⟨hc1, hc2, hc3, hc4, hc5, hc6, hc7, hc8, -⟩ := hc
  obtain ⟨n, cell, rfl, hn, g1, g2, g3, g4⟩ := rC_obj a1 ha hc3
  have := rV_obj q
  subst this
  have hap := va_apart (own := C) ht hc4 (cTy c) hc5 hc6 hkD.1 hc1
  obtain ⟨hS, hfc, kC, hkC, hkind⟩ := hkD.1.1 c _ hc1
  obtain ⟨cf, kf, fi, f, hi, hsl⟩ := hS k hk
  obtain ⟨y, y1, y2⟩ := g4 k (by omega)
  dsimp only at hi hsl
  have hlay := ht _ (hc4 _ (u_in_lay hk))
  unfold u_lay at hlay
  have hst := (u_facts hfc hkC (u_lays ht hc4 hk) hi).1
  obtain ⟨f1, f2⟩ := pTy_fits (hc8 k hk) (show rV sz (tgT (cTy c k), x) v from qv)
  rw [if_pos hfin] at hlay
  have hcf : m.cls = cf := by
    obtain ⟨_, _, c', _, _, _, -, -, hf', -, -, -, hown2, -⟩ := Cond.laysFinal_spec hlay
    have e1 : c' = cf := by have := hi.symm.trans hf'; simp at this; exact this.1.symm
    rw [hc7 k hk, ← hown] at hown2
    rw [← e1]; exact Option.some.inj (ho.symm.trans hown2)
  have h6 := u_fits hfc hkC hkind (Or.inr hlay) hi (hc5 k hk) f1 f2
  rw [hc7 k hk] at hi
  refine W.putFinK hx hb ho (ht _ hw) hi hst hcf (hnm.trans hctor) (by rw [g3]; exact h6) g1 g2 (by rw [hsl]; exact k2_hasslot y1) rfl rfl hd fun H' e1 e2 e3 => ?_
  rw [hsl] at e1
  refine kk H' _ ls _ a2 b1 a4 (rH_set (n := n) a1 e2 e3 rfl rfl rfl (fun a hz => ?_) (fun a _ => rfl) ?_) ?_ (fun q hq => e3 q (Nat.ne_of_lt (Nat.lt_of_lt_of_le hq (Nat.le_add_right _ _))))
  · funext j
    show (if j = k ∧ (a : Int) = (n : Int) then x else _) = _
    rw [if_neg (by omega)]
    rfl
  · refine ⟨_, e1, Or.inl ?_⟩
    have hkk : hK (sF h n k x) n = c := ha
    rw [hkk]
    refine ⟨hc3, g2, g3, fun j hj => ?_⟩
    obtain ⟨z, z1, z2⟩ := g4 j hj
    rw [slot_set z1]
    by_cases hjk : j = k
    · subst hjk
      refine ⟨v, if_pos rfl, ?_⟩
      have : hF (sF h n j x) n j = x := if_pos ⟨rfl, rfl⟩
      rw [this]
      exact qv
    · refine ⟨z, if_neg (hap k j hk (by omega) (Ne.symm hjk)), ?_⟩
      have : hF (sF h n k x) n j = hF h n j := if_neg (fun q => hjk q.1)
      rw [this]
      exact z2
  · intro q hq
    rcases List.mem_append.mp hq with z | z
    · exact Or.inr z
    · rw [List.mem_singleton.mp z]
      exact Or.inl (Nat.le_add_right _ _)
theorem Wp.putfN {a x : Int} {c k ix tg N : Nat} {C : String} {T : u_T} {host : String} (hc : kC c C T N) (hk : k < N) (htg : fTg c k = tg) (hfin : (T k).2.2.2 = false) (hw : Cond.fieldLinkNest M.1.cls ix C (T k).2.1 (T k).2.2.1 host ∈ nW) (hd : decode M.2.1 pc = .ok (.putfield ix, 3)) (ha : hK h a = c) (k0 : Wp M d (pc + 3) L S (sF h a k x) Q) : Wp M d pc L ((tg, x) :: (2, a) :: S) h Q := by
  subst htg
  refine k0.stepH (Nat.le_refl _) (Nat.le_refl _) ?_
  intro D sz h0 p l e R s m args below meth c0 Qw C H locs ls st a2 a3 a4 a1 r1 r2 n1 n2 kk
  obtain ⟨hx, hb, hml, ho, ht, hnw, hrt, hlk, hnm, hfr, hlo, hkD, hsz⟩ := C
  obtain ⟨v, r, rfl, qv, b0⟩ := rSt_c a3
  obtain ⟨v2, r2', rfl, q, b1⟩ := rSt_c b0
  obtain ⟨hc1, hc2, hc3, hc4, hc5, hc6, hc7, hc8, -⟩ := hc
  obtain ⟨n, cell, rfl, hn, g1, g2, g3, g4⟩ := rC_obj a1 ha hc3
  have := rV_obj q
  subst this
  have hap := va_apart (own := C) ht hc4 (cTy c) hc5 hc6 hkD.1 hc1
  obtain ⟨hS, hfc, kC, hkC, hkind⟩ := hkD.1.1 c _ hc1
  obtain ⟨cf, kf, fi, f, hi, hsl⟩ := hS k hk
  obtain ⟨y, y1, y2⟩ := g4 k (by omega)
  dsimp only at hi hsl
  have hlay := ht _ (hc4 _ (u_in_lay hk))
  unfold u_lay at hlay
  have hst := (u_facts hfc hkC (u_lays ht hc4 hk) hi).1
  obtain ⟨f1, f2⟩ := pTy_fits (hc8 k hk) (show rV sz (tgT (cTy c k), x) v from qv)
  rw [if_neg (by rw [hfin]; decide)] at hlay
  have h6 := u_store hfc hkC hkind hlay hi (hc5 k hk) f1 f2
  rw [hc7 k hk] at hi
  refine va_WputK hx hb (f := f) ho (va_Nw.use rfl (hnw _ hw)) hi hst (by rw [g3]; exact h6) g1 g2 (by rw [hsl]; exact k2_hasslot y1) rfl rfl hd fun H' e1 e2 e3 => ?_
  rw [hsl] at e1
  refine kk H' _ ls _ a2 b1 a4 (rH_set (n := n) a1 e2 e3 rfl rfl rfl (fun a hz => ?_) (fun a _ => rfl) ?_) ?_ (fun q hq => e3 q (Nat.ne_of_lt (Nat.lt_of_lt_of_le hq (Nat.le_add_right _ _))))
  · funext j
    show (if j = k ∧ (a : Int) = (n : Int) then x else _) = _
    rw [if_neg (by omega)]
    rfl
  · refine ⟨_, e1, Or.inl ?_⟩
    have hkk : hK (sF h n k x) n = c := ha
    rw [hkk]
    refine ⟨hc3, g2, g3, fun j hj => ?_⟩
    obtain ⟨z, z1, z2⟩ := g4 j hj
    rw [slot_set z1]
    by_cases hjk : j = k
    · subst hjk
      refine ⟨v, if_pos rfl, ?_⟩
      have : hF (sF h n j x) n j = x := if_pos ⟨rfl, rfl⟩
      rw [this]
      exact qv
    · refine ⟨z, if_neg (hap k j hk (by omega) (Ne.symm hjk)), ?_⟩
      have : hF (sF h n k x) n j = hF h n j := if_neg (fun q => hjk q.1)
      rw [this]
      exact z2
  · intro q hq
    rcases List.mem_append.mp hq with z | z
    · exact Or.inr z
    · rw [List.mem_singleton.mp z]
      exact Or.inl (Nat.le_add_right _ _)
theorem arr_is {s : State} {cell : Cell} {cA : ClassId} {ty : FieldType} (h1 : cell.vm = .none) (h2 : cell.cls = cA) (h3 : ArrOfT s cA ty) : s.isArrayOf cell ty := by
  obtain ⟨k, z⟩ := (h3 0 (fun _ => .null)).2
  exact ⟨fun q hq => (by rw [h1] at hq; cases hq), k, by rw [h2]; exact z⟩
theorem idx32 {j : Int32} {i : Int} {n : Nat} (e : j.toInt = i) (h1 : 0 ≤ i) (h2 : i < n) : ¬ (j < 0 ∨ n ≤ j.toNatClampNeg) ∧ j.toNatClampNeg = i.toNat ∧ i.toNat < n := by
  have hc : j.toNatClampNeg = j.toInt.toNat := rfl
  have h0 : (0 : Int32).toInt = 0 := by decide
  rw [Int32.lt_iff_toInt_lt, hc, e, h0]
  omega
theorem Wp.iaload {a i x : Int} (hd : decode M.2.1 pc = .ok (.iaload, 1)) (ha : hK h a = 10) (h1 : 0 ≤ i) (h2 : i < hL h a) (hv : hA h a i = x) (k0 : Wp M d (pc + 1) L ((0, x) :: S) h Q) : Wp M d pc L ((0, i) :: (2, a) :: S) h Q := by
  subst hv
  refine k0.step ?_
  intro D sz h0 p l e R s m args below meth c0 Qw C H locs cells slots ls st a2 a3 a4 a1 kk
  obtain ⟨hx, hb, hml, ho, ht, hnw, hrt, hlk, hnm, hfr, hlo, hkD, hsz⟩ := C
  obtain ⟨v, r, rfl, qv, b0⟩ := rSt_c a3
  obtain ⟨v2, r2', rfl, q, b1⟩ := rSt_c b0
  obtain ⟨j, rfl, ej⟩ := rV_i qv
  obtain ⟨n, cell, rfl, hn, g1, g2, g3, g4, g5⟩ := rC_arr a1 ha (by decide) (by decide)
  have := rV_obj q
  subst this
  obtain ⟨i1, i2, i3⟩ := idx32 ej h1 (show i < (cell.slots.size : Int) by omega)
  obtain ⟨y, y1, y2⟩ := g5 i.toNat i3
  rw [show ((i.toNat : Nat) : Int) = i by omega] at y2
  exact W.iald hx hb g1 (arr_is g2 g3 (hkD.1.2 0 _ rfl).1) (by rw [g2]; exact fun z => by cases z) i1 (by rw [i2]; exact y1) rfl rfl hd (kk ls _ a2 ⟨y2, b1⟩ a4)
theorem Wp.laload {a i x : Int} (hd : decode M.2.1 pc = .ok (.laload, 1)) (ha : hK h a = 11) (h1 : 0 ≤ i) (h2 : i < hL h a) (hv : hA h a i = x) (k0 : Wp M d (pc + 1) L ((1, x) :: S) h Q) : Wp M d pc L ((0, i) :: (2, a) :: S) h Q := by
  subst hv
  refine k0.step ?_
  intro D sz h0 p l e R s m args below meth c0 Qw C H locs cells slots ls st a2 a3 a4 a1 kk
  obtain ⟨hx, hb, hml, ho, ht, hnw, hrt, hlk, hnm, hfr, hlo, hkD, hsz⟩ := C
  obtain ⟨v, r, rfl, qv, b0⟩ := rSt_c a3
  obtain ⟨v2, r2', rfl, q, b1⟩ := rSt_c b0
  obtain ⟨j, rfl, ej⟩ := rV_i qv
  obtain ⟨n, cell, rfl, hn, g1, g2, g3, g4, g5⟩ := rC_arr a1 ha (by decide) (by decide)
  have := rV_obj q
  subst this
  obtain ⟨i1, i2, i3⟩ := idx32 ej h1 (show i < (cell.slots.size : Int) by omega)
  obtain ⟨y, y1, y2⟩ := g5 i.toNat i3
  rw [show ((i.toNat : Nat) : Int) = i by omega] at y2
  exact W.lald hx hb g1 (arr_is g2 g3 (hkD.1.2 1 _ rfl).1) (by rw [g2]; exact fun z => by cases z) i1 (by rw [i2]; exact y1) rfl rfl hd (kk ls _ a2 ⟨y2, b1⟩ a4)
theorem Wp.zaload {a i x : Int} (hd : decode M.2.1 pc = .ok (.baload, 1)) (ha : hK h a = 12) (h1 : 0 ≤ i) (h2 : i < hL h a) (hv : hA h a i = x) (k0 : Wp M d (pc + 1) L ((0, x) :: S) h Q) : Wp M d pc L ((0, i) :: (2, a) :: S) h Q := by
  subst hv
  refine k0.step ?_
  intro D sz h0 p l e R s m args below meth c0 Qw C H locs cells slots ls st a2 a3 a4 a1 kk
  obtain ⟨hx, hb, hml, ho, ht, hnw, hrt, hlk, hnm, hfr, hlo, hkD, hsz⟩ := C
  obtain ⟨v, r, rfl, qv, b0⟩ := rSt_c a3
  obtain ⟨v2, r2', rfl, q, b1⟩ := rSt_c b0
  obtain ⟨j, rfl, ej⟩ := rV_i qv
  obtain ⟨n, cell, rfl, hn, g1, g2, g3, g4, g5⟩ := rC_arr a1 ha (by decide) (by decide)
  have := rV_obj q
  subst this
  obtain ⟨i1, i2, i3⟩ := idx32 ej h1 (show i < (cell.slots.size : Int) by omega)
  obtain ⟨y, y1, y2⟩ := g5 i.toNat i3
  rw [show ((i.toNat : Nat) : Int) = i by omega] at y2
  exact W.zald hx hb g1 (arr_is g2 g3 (hkD.1.2 2 _ rfl).1) (by rw [g2]; exact fun z => by cases z) i1 (by rw [i2]; exact y1) rfl rfl hd (kk ls _ a2 ⟨y2, b1⟩ a4)
theorem Wp.baload {a i x : Int} (hd : decode M.2.1 pc = .ok (.baload, 1)) (ha : hK h a = 13) (h1 : 0 ≤ i) (h2 : i < hL h a) (hv : hA h a i = x) (k0 : Wp M d (pc + 1) L ((0, x) :: S) h Q) : Wp M d pc L ((0, i) :: (2, a) :: S) h Q := by
  subst hv
  refine k0.step ?_
  intro D sz h0 p l e R s m args below meth c0 Qw C H locs cells slots ls st a2 a3 a4 a1 kk
  obtain ⟨hx, hb, hml, ho, ht, hnw, hrt, hlk, hnm, hfr, hlo, hkD, hsz⟩ := C
  obtain ⟨v, r, rfl, qv, b0⟩ := rSt_c a3
  obtain ⟨v2, r2', rfl, q, b1⟩ := rSt_c b0
  obtain ⟨j, rfl, ej⟩ := rV_i qv
  obtain ⟨n, cell, rfl, hn, g1, g2, g3, g4, g5⟩ := rC_arr a1 ha (by decide) (by decide)
  have := rV_obj q
  subst this
  obtain ⟨i1, i2, i3⟩ := idx32 ej h1 (show i < (cell.slots.size : Int) by omega)
  obtain ⟨y, y1, y2⟩ := g5 i.toNat i3
  rw [show ((i.toNat : Nat) : Int) = i by omega] at y2
  exact W.bald hx hb g1 (arr_is g2 g3 (hkD.1.2 3 _ rfl).1) (by rw [g2]; exact fun z => by cases z) i1 (by rw [i2]; exact y1) rfl rfl hd (kk ls _ a2 ⟨y2, b1⟩ a4)
theorem Wp.aaload {a i x : Int} {t : Nat} (hd : decode M.2.1 pc = .ok (.aaload, 1)) (ht5 : t = 14 ∨ t = 15) (ha : hK h a = t) (h1 : 0 ≤ i) (h2 : i < hL h a) (hv : hA h a i = x) (k0 : Wp M d (pc + 1) L ((2, x) :: S) h Q) : Wp M d pc L ((0, i) :: (2, a) :: S) h Q := by
  subst hv
  refine k0.step ?_
  intro D sz h0 p l e R s m args below meth c0 Qw C H locs cells slots ls st a2 a3 a4 a1 kk
  obtain ⟨hx, hb, hml, ho, ht, hnw, hrt, hlk, hnm, hfr, hlo, hkD, hsz⟩ := C
  obtain ⟨v, r, rfl, qv, b0⟩ := rSt_c a3
  obtain ⟨v2, r2', rfl, q, b1⟩ := rSt_c b0
  obtain ⟨j, rfl, ej⟩ := rV_i qv
  obtain ⟨n, cell, rfl, hn, g1, g2, g3, g4, g5⟩ := rC_arr a1 ha (by omega) (by omega)
  have := rV_obj q
  subst this
  obtain ⟨i1, i2, i3⟩ := idx32 ej h1 (show i < (cell.slots.size : Int) by omega)
  obtain ⟨y, y1, y2⟩ := g5 i.toNat i3
  rw [show ((i.toNat : Nat) : Int) = i by omega] at y2
  rcases ht5 with rfl | rfl
  · exact W.aald hx hb g1 (arr_is g2 g3 (hkD.1.2 4 _ rfl).1) rfl (by rw [g2]; exact fun z => by cases z) i1 (by rw [i2]; exact y1) rfl rfl hd (kk ls _ a2 ⟨y2, b1⟩ a4)
  · exact W.aald hx hb g1 (arr_is g2 g3 (hkD.1.2 5 _ rfl).1) rfl (by rw [g2]; exact fun z => by cases z) i1 (by rw [i2]; exact y1) rfl rfl hd (kk ls _ a2 ⟨y2, b1⟩ a4)
theorem Wp.alen {a x : Int} {t : Nat} (hd : decode M.2.1 pc = .ok (.arraylength, 1)) (h10 : 10 ≤ t) (h16 : t < 16) (ha : hK h a = t) (hv : hL h a = x) (hm : x < 2147483648) (k0 : Wp M d (pc + 1) L ((0, x) :: S) h Q) : Wp M d pc L ((2, a) :: S) h Q := by
  subst hv
  refine k0.step ?_
  intro D sz h0 p l e R s m args below meth c0 Qw C H locs cells slots ls st a2 a3 a4 a1 kk
  obtain ⟨hx, hb, hml, ho, ht, hnw, hrt, hlk, hnm, hfr, hlo, hkD, hsz⟩ := C
  obtain ⟨v2, r2', rfl, q, b1⟩ := rSt_c a3
  obtain ⟨n, cell, rfl, hn, g1, g2, g3, g4, g5⟩ := rC_arr a1 ha h10 h16
  have := rV_obj q
  subst this
  have hq : ∃ ty, s.isArrayOf cell ty := by
    have hz : t = 10 ∨ t = 11 ∨ t = 12 ∨ t = 13 ∨ t = 14 ∨ t = 15 := by omega
    rcases hz with rfl | rfl | rfl | rfl | rfl | rfl
    · exact ⟨_, arr_is g2 g3 (hkD.1.2 0 _ rfl).1⟩
    · exact ⟨_, arr_is g2 g3 (hkD.1.2 1 _ rfl).1⟩
    · exact ⟨_, arr_is g2 g3 (hkD.1.2 2 _ rfl).1⟩
    · exact ⟨_, arr_is g2 g3 (hkD.1.2 3 _ rfl).1⟩
    · exact ⟨_, arr_is g2 g3 (hkD.1.2 4 _ rfl).1⟩
    · exact ⟨_, arr_is g2 g3 (hkD.1.2 5 _ rfl).1⟩
  obtain ⟨ty, hty⟩ := hq
  refine W.alen hx hb g1 hty rfl rfl rfl hd (kk ls _ a2 ⟨mI ?_, b1⟩ a4)
  have : (cell.slots.size.toInt32).toInt = (cell.slots.size : Int) := nI_toInt (by omega)
  rw [this, g4]
/-- an element is written -/
theorem rH_elem {D : mD} {sz n i : Nat} {h : mH} {H H' : Heap} {cell : Cell} {t : Nat} {x : Int} {v : Value} (hr : rH D sz h H) (ha : hK h (n : Int) = t) (h10 : 10 ≤ t) (h16 : t < 16) (g2 : cell.vm = .none) (g3 : cell.cls = D.2.2 t) (g4 : (cell.slots.size : Int) = hL h n) (g5 : ∀ i : Nat, i < cell.slots.size → ∃ x, cell.slots[i]? = some x ∧ rV sz (aTg t, hA h n i) x)
    (hv : rV sz (aTg t, x) v) (e1 : H'[sz + n]? = some (cell.setSlot i v)) (e2 : H'.size = H.size) (e3 : ∀ q, q ≠ sz + n → H'[q]? = H[q]?) : rH D sz (sE h n i x) H' := by
  refine rH_set (n := n) hr e2 e3 rfl rfl rfl (fun a _ => rfl) (fun a hz => ?_) ?_
  · show (if (a : Int) = (n : Int) then _ else _) = _
    rw [if_neg (by omega)]
    rfl
  · refine ⟨_, e1, Or.inr (Or.inl ?_)⟩
    have hkk : hK (sE h n i x) n = t := ha
    rw [hkk]
    have hsz : (cell.setSlot i v).slots.size = cell.slots.size := k2_slotsz cell i v
    refine ⟨h10, h16, g2, g3, by rw [hsz]; exact g4, fun j hj => ?_⟩
    rw [hsz] at hj
    obtain ⟨z, z1, z2⟩ := g5 j hj
    rw [slot_set z1]
    have e : hA (sE h n i x) n = u1 (hA h n) i x := u1_s _ _ _
    rw [e]
    by_cases hij : i = j
    · subst hij
      exact ⟨v, if_pos rfl, by rw [u1_s]; exact hv⟩
    · refine ⟨z, if_neg hij, ?_⟩
      rw [u1_n _ _ (show (j : Int) ≠ (i : Int) by omega)]
      exact z2
theorem mem_loc {sz n : Nat} {locs : List Loc} {i : Nat} : ∀ q ∈ locs ++ [(⟨sz + n, i⟩ : Loc)], sz ≤ q.base ∨ q ∈ locs := by
  intro q hq
  rcases List.mem_append.mp hq with z | z
  · exact Or.inr z
  · rw [List.mem_singleton.mp z]
    exact Or.inl (Nat.le_add_right _ _)
theorem Wp.iastore {a i x : Int} (hd : decode M.2.1 pc = .ok (.iastore, 1)) (ha : hK h a = 10) (h1 : 0 ≤ i) (h2 : i < hL h a) (k0 : Wp M d (pc + 1) L S (sE h a i x) Q) : Wp M d pc L ((0, x) :: (0, i) :: (2, a) :: S) h Q := by
  refine k0.stepH (Nat.le_refl _) (Nat.le_refl _) ?_
  intro D sz h0 p l e R s m args below meth c0 Qw C H locs ls st a2 a3 a4 a1 r1 r2 n1 n2 kk
  obtain ⟨hx, hb', hml, ho, ht, hnw, hrt, hlk, hnm, hfr, hlo, hkD, hsz⟩ := C
  obtain ⟨vv, r, rfl, qx, b0⟩ := rSt_c a3
  obtain ⟨v, r2', rfl, qv, b1⟩ := rSt_c b0
  obtain ⟨v2, r3', rfl, q, b2⟩ := rSt_c b1
  obtain ⟨u, rfl, eu⟩ := rV_i qx
  obtain ⟨j, rfl, ej⟩ := rV_i qv
  obtain ⟨n, cell, rfl, hn, g1, g2, g3, g4, g5⟩ := rC_arr a1 ha (by decide) (by decide)
  have := rV_obj q
  subst this
  obtain ⟨i1, i2, i3⟩ := idx32 ej h1 (show i < (cell.slots.size : Int) by omega)
  refine W.iast hx hb' g1 (arr_is g2 g3 (hkD.1.2 0 _ rfl).1) (by rw [g2]; exact fun z => by cases z) i1 rfl rfl hd fun H' e1 e2 e3 => ?_
  rw [i2] at e1 ⊢
  have hrH := rH_elem (i := i.toNat) a1 ha (by decide) (by decide) g2 g3 g4 g5 qx e1 e2 e3
  rw [show ((i.toNat : Nat) : Int) = i by omega] at hrH
  exact kk H' _ ls _ a2 b2 a4 hrH mem_loc (fun q hq => e3 q (Nat.ne_of_lt (Nat.lt_of_lt_of_le hq (Nat.le_add_right _ _))))
theorem Wp.lastore {a i x : Int} (hd : decode M.2.1 pc = .ok (.lastore, 1)) (ha : hK h a = 11) (h1 : 0 ≤ i) (h2 : i < hL h a) (k0 : Wp M d (pc + 1) L S (sE h a i x) Q) : Wp M d pc L ((1, x) :: (0, i) :: (2, a) :: S) h Q := by
  refine k0.stepH (Nat.le_refl _) (Nat.le_refl _) ?_
  intro D sz h0 p l e R s m args below meth c0 Qw C H locs ls st a2 a3 a4 a1 r1 r2 n1 n2 kk
  obtain ⟨hx, hb', hml, ho, ht, hnw, hrt, hlk, hnm, hfr, hlo, hkD, hsz⟩ := C
  obtain ⟨vv, r, rfl, qx, b0⟩ := rSt_c a3
  obtain ⟨v, r2', rfl, qv, b1⟩ := rSt_c b0
  obtain ⟨v2, r3', rfl, q, b2⟩ := rSt_c b1
  obtain ⟨u, rfl, eu⟩ := rV_l qx
  obtain ⟨j, rfl, ej⟩ := rV_i qv
  obtain ⟨n, cell, rfl, hn, g1, g2, g3, g4, g5⟩ := rC_arr a1 ha (by decide) (by decide)
  have := rV_obj q
  subst this
  obtain ⟨i1, i2, i3⟩ := idx32 ej h1 (show i < (cell.slots.size : Int) by omega)
  refine W.last hx hb' g1 (arr_is g2 g3 (hkD.1.2 1 _ rfl).1) (by rw [g2]; exact fun z => by cases z) i1 rfl rfl hd fun H' e1 e2 e3 => ?_
  rw [i2] at e1 ⊢
  have hrH := rH_elem (i := i.toNat) a1 ha (by decide) (by decide) g2 g3 g4 g5 qx e1 e2 e3
  rw [show ((i.toNat : Nat) : Int) = i by omega] at hrH
  exact kk H' _ ls _ a2 b2 a4 hrH mem_loc (fun q hq => e3 q (Nat.ne_of_lt (Nat.lt_of_lt_of_le hq (Nat.le_add_right _ _))))
theorem Wp.zastore {a i x : Int} (hd : decode M.2.1 pc = .ok (.bastore, 1)) (ha : hK h a = 12) (h1 : 0 ≤ i) (h2 : i < hL h a) (hb : x = 0 ∨ x = 1) (k0 : Wp M d (pc + 1) L S (sE h a i x) Q) : Wp M d pc L ((0, x) :: (0, i) :: (2, a) :: S) h Q := by
  refine k0.stepH (Nat.le_refl _) (Nat.le_refl _) ?_
  intro D sz h0 p l e R s m args below meth c0 Qw C H locs ls st a2 a3 a4 a1 r1 r2 n1 n2 kk
  obtain ⟨hx, hb', hml, ho, ht, hnw, hrt, hlk, hnm, hfr, hlo, hkD, hsz⟩ := C
  obtain ⟨vv, r, rfl, qx, b0⟩ := rSt_c a3
  obtain ⟨v, r2', rfl, qv, b1⟩ := rSt_c b0
  obtain ⟨v2, r3', rfl, q, b2⟩ := rSt_c b1
  obtain ⟨u, rfl, eu⟩ := rV_i qx
  obtain ⟨j, rfl, ej⟩ := rV_i qv
  obtain ⟨n, cell, rfl, hn, g1, g2, g3, g4, g5⟩ := rC_arr a1 ha (by decide) (by decide)
  have := rV_obj q
  subst this
  obtain ⟨i1, i2, i3⟩ := idx32 ej h1 (show i < (cell.slots.size : Int) by omega)
  have hnar : narrow .boolean (.int u) = .int u := by
    have : u = 0 ∨ u = 1 := by
      rcases hb with z | z
      · exact Or.inl (Int32.toInt_inj.mp (by rw [eu, z]; rfl))
      · exact Or.inr (Int32.toInt_inj.mp (by rw [eu, z]; rfl))
    rcases this with rfl | rfl <;> rfl
  refine W.zast hx hb' g1 (arr_is g2 g3 (hkD.1.2 2 _ rfl).1) (by rw [g2]; exact fun z => by cases z) i1 rfl rfl hd fun H' e1 e2 e3 => ?_
  rw [i2] at e1 ⊢
  rw [hnar] at e1
  have hrH := rH_elem (i := i.toNat) a1 ha (by decide) (by decide) g2 g3 g4 g5 qx e1 e2 e3
  rw [show ((i.toNat : Nat) : Int) = i by omega] at hrH
  exact kk H' _ ls _ a2 b2 a4 hrH mem_loc (fun q hq => e3 q (Nat.ne_of_lt (Nat.lt_of_lt_of_le hq (Nat.le_add_right _ _))))
theorem Wp.bastore {a i x : Int} (hd : decode M.2.1 pc = .ok (.bastore, 1)) (ha : hK h a = 13) (h1 : 0 ≤ i) (h2 : i < hL h a) (hb : -128 ≤ x ∧ x < 128) (k0 : Wp M d (pc + 1) L S (sE h a i x) Q) : Wp M d pc L ((0, x) :: (0, i) :: (2, a) :: S) h Q := by
  refine k0.stepH (Nat.le_refl _) (Nat.le_refl _) ?_
  intro D sz h0 p l e R s m args below meth c0 Qw C H locs ls st a2 a3 a4 a1 r1 r2 n1 n2 kk
  obtain ⟨hx, hb', hml, ho, ht, hnw, hrt, hlk, hnm, hfr, hlo, hkD, hsz⟩ := C
  obtain ⟨vv, r, rfl, qx, b0⟩ := rSt_c a3
  obtain ⟨v, r2', rfl, qv, b1⟩ := rSt_c b0
  obtain ⟨v2, r3', rfl, q, b2⟩ := rSt_c b1
  obtain ⟨u, rfl, eu⟩ := rV_i qx
  obtain ⟨j, rfl, ej⟩ := rV_i qv
  obtain ⟨n, cell, rfl, hn, g1, g2, g3, g4, g5⟩ := rC_arr a1 ha (by decide) (by decide)
  have := rV_obj q
  subst this
  obtain ⟨i1, i2, i3⟩ := idx32 ej h1 (show i < (cell.slots.size : Int) by omega)
  have hnar : narrow .byte (.int u) = .int u := by
    show Value.int u.toInt8.toInt32 = _
    rw [lg_i2b_small (by omega) (by omega)]
  refine W.bast hx hb' g1 (arr_is g2 g3 (hkD.1.2 3 _ rfl).1) (by rw [g2]; exact fun z => by cases z) i1 rfl rfl hd fun H' e1 e2 e3 => ?_
  rw [i2] at e1 ⊢
  rw [hnar] at e1
  have hrH := rH_elem (i := i.toNat) a1 ha (by decide) (by decide) g2 g3 g4 g5 qx e1 e2 e3
  rw [show ((i.toNat : Nat) : Int) = i by omega] at hrH
  exact kk H' _ ls _ a2 b2 a4 hrH mem_loc (fun q hq => e3 q (Nat.ne_of_lt (Nat.lt_of_lt_of_le hq (Nat.le_add_right _ _))))
theorem Wp.aastore14 {a i x : Int} (hd : decode M.2.1 pc = .ok (.aastore, 1)) (ha : hK h a = 14) (h1 : 0 ≤ i) (h2 : i < hL h a) (hxk : hK h x = 2) (k0 : Wp M d (pc + 1) L S (sE h a i x) Q) : Wp M d pc L ((2, x) :: (0, i) :: (2, a) :: S) h Q := by
  refine k0.stepH (Nat.le_refl _) (Nat.le_refl _) ?_
  intro D sz h0 p l e R s m args below meth c0 Qw C H locs ls st a2 a3 a4 a1 r1 r2 n1 n2 kk
  obtain ⟨hx, hb, hml, ho, ht, hnw, hrt, hlk, hnm, hfr, hlo, hkD, hsz⟩ := C
  obtain ⟨vv, r, rfl, qx, b0⟩ := rSt_c a3
  obtain ⟨v, r2', rfl, qv, b1⟩ := rSt_c b0
  obtain ⟨v2, r3', rfl, q, b2⟩ := rSt_c b1
  obtain ⟨j, rfl, ej⟩ := rV_i qv
  obtain ⟨n, cell, rfl, hn, g1, g2, g3, g4, g5⟩ := rC_arr a1 ha (by decide) (by decide)
  have := rV_obj q
  subst this
  obtain ⟨nx, cx, rfl, hnx, f1, f2, f3, -⟩ := rC_obj a1 hxk (by decide)
  have := rV_obj qx
  subst this
  obtain ⟨i1, i2, i3⟩ := idx32 ej h1 (show i < (cell.slots.size : Int) by omega)
  obtain ⟨kA, comp, s1, s2, s3, s4⟩ := (hkD.1.2 4 _ rfl).2
  obtain ⟨-, hfc, kS, hkS, hkd⟩ := hkD.1.1 2 _ rfl
  have hcomp : comp = D.1 2 := Option.some.inj (s3.symm.trans hfc)
  have hcls : s.vm.classes[comp]? = some kS := by rw [hcomp]; exact hkS
  refine W.aast hx hb (comp := comp) (t := .object "BeatBench$Sheet") g1 (fun z hz => by rw [g2] at hz; cases hz) (by rw [g2]; exact fun z => by cases z) (by rw [g3]; exact s1) s2 rfl hcls ⟨fun z => i1 (Or.inl z), by rw [i2]; exact i3⟩ f1 (fun z hz => by rw [f2] at hz; cases hz) (by rw [f3]; exact hkS) ?_ rfl rfl hd fun H' e1 e2 e3 => ?_
  · rw [f3, hcomp]
    exact va_asg _ _
  rw [i2] at e1 ⊢
  have hrH := rH_elem (i := i.toNat) a1 ha (by decide) (by decide) g2 g3 g4 g5 qx e1 e2 e3
  rw [show ((i.toNat : Nat) : Int) = i by omega] at hrH
  exact kk H' _ ls _ a2 b2 a4 hrH mem_loc (fun q hq => e3 q (Nat.ne_of_lt (Nat.lt_of_lt_of_le hq (Nat.le_add_right _ _))))
end VME
