section VMG
variable {M : mM} {d pc : Nat} {L S : List mV} {h : mH} {Q : Option mV → mH → Prop}
theorem Wp.iret {x : Int} (hr : M.2.2.2 = some .int) (hd : decode M.2.1 pc = .ok (.ireturn, 1)) (hq : Q (some (0, x)) h) : Wp M d pc L [(0, x)] h Q := by
  refine ⟨some (0, x), h, ⟨⟨Nat.le_refl _, Nat.le_refl _⟩, ?_⟩, hq⟩
  intro D sz h0 p l e R s m args below meth c0 C r1 r2 H locs ls st A
  obtain ⟨a1, a2, a3, a4, a5, a6, a7, a8⟩ := A
  obtain ⟨hx, hb, hml, ho, ht, hnw, hrt, hlk, hnm, hfr, hlo, hkD, hsz⟩ := C
  obtain ⟨v, r, rfl, qv, b0⟩ := rSt_c a3
  obtain ⟨j, rfl, ej⟩ := rV_i qv
  cases r with
  | cons _ _ => exact b0.elim
  | nil => exact W.iret hx hb (hrt.trans hr) (fun t ht hw => ⟨⟨_, rfl, qv⟩, by rw [ht]; exact a1, fun q hq => by rw [ht]; exact a6 q hq⟩) a5 hd hlk
theorem Wp.lret {x : Int} (hr : M.2.2.2 = some .long) (hd : decode M.2.1 pc = .ok (.lreturn, 1)) (hq : Q (some (1, x)) h) : Wp M d pc L [(1, x)] h Q := by
  refine ⟨some (1, x), h, ⟨⟨Nat.le_refl _, Nat.le_refl _⟩, ?_⟩, hq⟩
  intro D sz h0 p l e R s m args below meth c0 C r1 r2 H locs ls st A
  obtain ⟨a1, a2, a3, a4, a5, a6, a7, a8⟩ := A
  obtain ⟨hx, hb, hml, ho, ht, hnw, hrt, hlk, hnm, hfr, hlo, hkD, hsz⟩ := C
  obtain ⟨v, r, rfl, qv, b0⟩ := rSt_c a3
  obtain ⟨j, rfl, ej⟩ := rV_l qv
  cases r with
  | cons _ _ => exact b0.elim
  | nil => exact W.lret hx hb (hrt.trans hr) (fun t ht hw => ⟨⟨_, rfl, qv⟩, by rw [ht]; exact a1, fun q hq => by rw [ht]; exact a6 q hq⟩) a5 hd hlk
theorem Wp.zret {x : Int} (hr : M.2.2.2 = some .boolean) (hd : decode M.2.1 pc = .ok (.ireturn, 1)) (hz : x = 0 ∨ x = 1) (hq : Q (some (0, x)) h) : Wp M d pc L [(0, x)] h Q := by
  refine ⟨some (0, x), h, ⟨⟨Nat.le_refl _, Nat.le_refl _⟩, ?_⟩, hq⟩
  intro D sz h0 p l e R s m args below meth c0 C r1 r2 H locs ls st A
  obtain ⟨a1, a2, a3, a4, a5, a6, a7, a8⟩ := A
  obtain ⟨hx, hb, hml, ho, ht, hnw, hrt, hlk, hnm, hfr, hlo, hkD, hsz⟩ := C
  obtain ⟨v, r, rfl, qv, b0⟩ := rSt_c a3
  obtain ⟨u, rfl, eu⟩ := rV_i qv
  have hnar : narrow .boolean (.int u) = .int u := by
    have : u = 0 ∨ u = 1 := by
      rcases hz with z | z
      · exact Or.inl (Int32.toInt_inj.mp (by rw [eu, z]; rfl))
      · exact Or.inr (Int32.toInt_inj.mp (by rw [eu, z]; rfl))
    rcases this with rfl | rfl <;> rfl
  cases r with
  | cons _ _ => exact b0.elim
  | nil => exact W.zret hx hb (hrt.trans hr) hnar (fun t ht hw => ⟨⟨_, rfl, qv⟩, by rw [ht]; exact a1, fun q hq => by rw [ht]; exact a6 q hq⟩) a5 hd hlk
theorem Wp.aret {x : Int} {rt : FieldType} (hr : M.2.2.2 = some rt) (hrf : (∃ n, rt = .object n) ∨ ∃ t, rt = .array t) (hd : decode M.2.1 pc = .ok (.areturn, 1)) (hq : Q (some (2, x)) h) : Wp M d pc L [(2, x)] h Q := by
  refine ⟨some (2, x), h, ⟨⟨Nat.le_refl _, Nat.le_refl _⟩, ?_⟩, hq⟩
  intro D sz h0 p l e R s m args below meth c0 C r1 r2 H locs ls st A
  obtain ⟨a1, a2, a3, a4, a5, a6, a7, a8⟩ := A
  obtain ⟨hx, hb, hml, ho, ht, hnw, hrt, hlk, hnm, hfr, hlo, hkD, hsz⟩ := C
  obtain ⟨v, r, rfl, qv, b0⟩ := rSt_c a3
  have hv : v = .null ∨ ∃ a, v = .ref a := by
    rcases rV_r qv with ⟨-, z⟩ | ⟨-, z⟩
    · exact Or.inl z
    · exact Or.inr ⟨_, z⟩
  cases r with
  | cons _ _ => exact b0.elim
  | nil => exact W.aret hx hb (hrt.trans hr) hrf hv (fun t ht hw => ⟨⟨_, rfl, qv⟩, by rw [ht]; exact a1, fun q hq => by rw [ht]; exact a6 q hq⟩) a5 hd hlk
theorem Wp.vret (hr : M.2.2.2 = none) (hd : decode M.2.1 pc = .ok (.return_, 1)) (hq : Q none h) : Wp M d pc L [] h Q := by
  refine ⟨none, h, ⟨⟨Nat.le_refl _, Nat.le_refl _⟩, ?_⟩, hq⟩
  intro D sz h0 p l e R s m args below meth c0 C r1 r2 H locs ls st A
  obtain ⟨a1, a2, a3, a4, a5, a6, a7, a8⟩ := A
  obtain ⟨hx, hb, hml, ho, ht, hnw, hrt, hlk, hnm, hfr, hlo, hkD, hsz⟩ := C
  cases st with
  | cons _ _ => exact a3.elim
  | nil => exact W.vret hx hb (hrt.trans hr) (fun t ht hw => ⟨⟨_, rfl, trivial⟩, by rw [ht]; exact a1, fun q hq => by rw [ht]; exact a6 q hq⟩) a5 hd hlk
theorem rV_nl {sz : Nat} {v : mV} {x : Value} (h : rV sz v x) (hv : ¬ v.1 = 1) : x.category = 1 := by
  cases x with
  | long k => exact absurd (by rw [show v = (1, k.toInt) from h]) hv
  | float k => exact h.elim
  | double k => exact h.elim
  | _ => rfl
/-! a method's entry -/
def eS : List mV → List mV
  | [] => []
  | v :: r => if v.1 = 1 then v :: (9, 0) :: eS r else v :: eS r
def enL (av : List mV) (n : Nat) : List mV := eS av ++ List.replicate (n - (eS av).length) (9, 0)
theorem eS_len {sz : Nat} : ∀ {av : List mV} {xs : List Value}, rSt sz av xs → (lg_sl xs).length = (eS av).length
  | [], [], _ => rfl
  | v :: r, x :: xs, hr => by
    have ih := eS_len (sz := sz) hr.2
    by_cases hv : v.1 = 1
    · have hc := rV_cat2 hr.1 hv
      simp only [eS, hv, if_true, lg_sl, List.flatMap_cons, hc, List.length_append, List.length_cons, List.length_nil]
      have : (List.flatMap (fun v => if v.category = 2 then [Slot.val v, Slot.second] else [Slot.val v]) xs).length = (lg_sl xs).length := rfl
      omega
    · have hc : ¬ x.category = 2 := fun z => by rw [rV_nl hr.1 hv] at z; cases z
      simp only [eS, hv, if_false, lg_sl, List.flatMap_cons, hc, List.length_append, List.length_cons, List.length_nil]
      have : (List.flatMap (fun v => if v.category = 2 then [Slot.val v, Slot.second] else [Slot.val v]) xs).length = (lg_sl xs).length := rfl
      omega
theorem eS_get {sz : Nat} : ∀ {av : List mV} {xs : List Value}, rSt sz av xs → ∀ (i : Nat) (v : mV), (eS av)[i]? = some v → v.1 < 3 → ∃ x, (lg_sl xs)[i]? = some (.val x) ∧ rV sz v x
  | [], [], _, i, v, hv, _ => by simp [eS] at hv
  | u :: r, x :: xs, hr, i, v, hv, ht => by
    have ih := eS_get (sz := sz) hr.2
    have hcons : lg_sl (x :: xs) = (if x.category = 2 then [Slot.val x, Slot.second] else [Slot.val x]) ++ lg_sl xs := by simp [lg_sl]
    rw [hcons]
    by_cases hu : u.1 = 1
    · have hc := rV_cat2 hr.1 hu
      rw [if_pos hc]
      simp only [eS, hu, if_true] at hv
      match i, hv with
      | 0, hv => simp at hv; subst hv; exact ⟨x, rfl, hr.1⟩
      | 1, hv => simp at hv; subst hv; exact absurd ht (by decide)
      | i + 2, hv =>
        simp at hv
        obtain ⟨y, y1, y2⟩ := ih i v hv ht
        exact ⟨y, by simpa using y1, y2⟩
    · have hc : ¬ x.category = 2 := fun z => by rw [rV_nl hr.1 hu] at z; cases z
      rw [if_neg hc]
      simp only [eS, hu, if_false] at hv
      match i, hv with
      | 0, hv => simp at hv; subst hv; exact ⟨x, rfl, hr.1⟩
      | i + 1, hv =>
        simp at hv
        obtain ⟨y, y1, y2⟩ := ih i v hv ht
        exact ⟨y, by simpa using y1, y2⟩
theorem enL_rls {sz n : Nat} {av : List mV} {xs : List Value} (hr : rSt sz av xs) (hn : (eS av).length ≤ n) : rLs sz (enL av n) ((lg_sl xs ++ List.replicate (n - (lg_sl xs).length) Slot.unset).toArray) := by
  have hl := eS_len hr
  obtain ⟨h1, h2, -⟩ := lv_entry xs (n := n) (by omega)
  refine ⟨by rw [h1]; simp [enL]; omega, h2, fun i v hv ht => ?_⟩
  unfold enL at hv
  by_cases hi : i < (eS av).length
  · rw [List.getElem?_append_left hi] at hv
    obtain ⟨x, x1, x2⟩ := eS_get hr i v hv ht
    refine ⟨x, ?_, x2⟩
    rw [List.getElem?_toArray, List.getElem?_append_left (by omega)]
    exact x1
  · rw [List.getElem?_append_right (by omega)] at hv
    have := (List.mem_replicate.mp (List.mem_of_getElem? hv)).2
    subst this
    exact absurd ht (by decide)
/-! a contract: the method, called with these values at this heap, ends with that answer and that heap -/
def Ct (M : mM) (d : Nat) (av : List mV) (h : mH) (v : Option mV) (h' : mH) : Prop := Rt M d 0 (enL av M.2.2.1) [] h v h'
def rM (d : Nat) (h h' : mH) : Room := { frames := d, cells := hN h' - hN h, slots := hZ h' - hZ h, locals := 34 * d }
def pM (D : mD) (sz : Nat) (av : List mV) (h : mH) : Array Value → State → Prop := fun a U => ∃ xs : List Value, a = xs.toArray ∧ rSt sz av xs ∧ rH D sz h U.heap ∧ kD D U ∧ ∀ w ∈ nW, va_Nw w U
theorem pM_blind {D : mD} {sz : Nat} {av : List mV} {h : mH} : FrameBlind (pM D sz av h) := by
  intro a U g mk q
  obtain ⟨xs, q1, q2, q3, q4, q5⟩ := q
  exact ⟨xs, q1, q2, q3, q4.moved (u := U) (U := U.calling g mk a) (Vm.Alike.refl U.vm), fun w hw => va_Nw.same (u := U) (U := U.calling g mk a) (by have := (List.mem_filter.mp hw).2; cases w <;> first | (simp [isNest] at this; done) | rfl) rfl (q5 w hw)⟩
abbrev wY (M : mM) : List Cond := Cond.code M.1 M.2.1 M.2.2.1 M.2.2.2 :: tW
theorem Ct.met {av : List mV} {h' : mH} {v : Option mV} (hF : Ct M d av h v h') (hlen : (eS av).length ≤ M.2.2.1) (hpn : plainName M.1.cls = true) (l : Launch) (D : mD) (sz : Nat) : Met l M.1 (wY M) (rM d h h') (pM D sz av h) (qM D sz v h') (hN h' - hN h) (hZ h' - hZ h) (fun q => sz ≤ q) := by
  refine Met.ofW (cc := M.2.1) (maxL := M.2.2.1) (ret := M.2.2.2) hpn rfl ?_
  intro p e s m args below meth c s₁ B hml hv
  obtain ⟨xs, rfl, hxs, hH, hkd, hnw⟩ := hv
  have hts := atoms_spec (ws := wY M) B.pre
  have C : cX M d D sz h p (rM d h h') s m xs.toArray meth c := ⟨B.exec, B.bytes, hml, findClass_of_methodNamed B.named, fun w hw => hts w (List.mem_cons_of_mem _ hw), hnw, B.returns, B.notSynchronized, (name_of_methodNamed B.named B.method).1, Nat.le_refl _, Nat.le_refl _, hkd, hH.1⟩
  have k := hF.2 D sz h p l e (rM d h h') s m xs.toArray below meth c C (Nat.le_refl _) (Nat.le_refl _) s.heap [] _ [] ⟨hH, enL_rls hxs hlen, trivial, by simp [enL]; omega, fun q hq => absurd hq List.not_mem_nil, fun _ _ => rfl, Nat.le_refl _, Nat.le_refl _⟩
  rw [Nat.sub_self, Nat.sub_self] at k
  rw [lg_entry_eq]
  exact k
theorem rSt_app {sz : Nat} : ∀ {X Y : List mV} {st : List Value}, rSt sz (X ++ Y) st → ∃ s1 s2, st = s1 ++ s2 ∧ rSt sz X s1 ∧ rSt sz Y s2
  | [], Y, st, h => ⟨[], st, rfl, trivial, h⟩
  | v :: X, Y, st, h => by
    obtain ⟨x, r, rfl, q, b⟩ := rSt_c h
    obtain ⟨s1, s2, rfl, h1, h2⟩ := rSt_app b
    exact ⟨x :: s1, s2, rfl, ⟨q, h1⟩, h2⟩
theorem rSt_snoc {sz : Nat} {v : mV} {x : Value} (hv : rV sz v x) : ∀ {X : List mV} {s1 : List Value}, rSt sz X s1 → rSt sz (X ++ [v]) (s1 ++ [x])
  | [], [], _ => ⟨hv, trivial⟩
  | _ :: _, _ :: _, h => ⟨h.1, rSt_snoc hv h.2⟩
theorem rSt_rev {sz : Nat} : ∀ {X : List mV} {s1 : List Value}, rSt sz X s1 → rSt sz X.reverse s1.reverse
  | [], [], _ => trivial
  | v :: X, x :: s1, h => by
    rw [List.reverse_cons, List.reverse_cons]
    exact rSt_snoc h.1 (rSt_rev h.2)
theorem rSt_len {sz : Nat} : ∀ {X : List mV} {s1 : List Value}, rSt sz X s1 → X.length = s1.length
  | [], [], _ => rfl
  | _ :: _, _ :: _, h => by rw [List.length_cons, List.length_cons, rSt_len h.2]
/-- how many words a stack holds, at most -/
def wSt : List mV → Nat
  | [] => 0
  | v :: r => (if v.1 = 1 then 2 else 1) + wSt r
theorem wSt_cat {sz : Nat} : ∀ {X : List mV} {s1 : List Value}, rSt sz X s1 → (s1.map fun v => v.category).sum = wSt X
  | [], [], _ => rfl
  | v :: X, x :: s1, h => by
    have ih := wSt_cat h.2
    rw [List.map_cons, List.sum_cons, ih]
    by_cases hv : v.1 = 1
    · rw [rV_cat2 h.1 hv, wSt, if_pos hv]
    · rw [rV_nl h.1 hv, wSt, if_neg hv]
/-- the words of a call -/
def wC (own : String) (M' : mM) (ix n : Nat) : Prop := Cond.methodLink own ix M'.1 ∈ tW ∧ Cond.code M'.1 M'.2.1 M'.2.2.1 M'.2.2.2 ∈ tW ∧ Cond.initialized M'.1.cls ∈ tW ∧ (M'.1.cls ≠ "java/lang/invoke/MethodHandle" ∧ M'.1.cls ≠ "java/lang/invoke/VarHandle") ∧ (parseMethodDescriptor M'.1.desc).map (fun d => d.parameters.length) = some n ∧ M'.2.2.1 ≤ 15 ∧ plainName M'.1.cls = true
theorem callB_my {M' : mM} {ix n : Nat} {R : Room} {s : State} {args : Array Value} {h1 : mH} (hw : wC M.1.cls M' ix n) (ht : ∀ w ∈ tW, w.before args s = true) (hfr : d + 1 ≤ R.frames) (hlo : 34 * (d + 1) ≤ R.locals) : CallB R s args M.1.cls ix M'.1 M'.2.1 M'.2.2.1 M'.2.2.2 (wY M') (rM d h h1) (hN h1 - hN h) (hZ h1 - hZ h) n := by
  obtain ⟨w1, w2, w3, w4, w5, w6, w7⟩ := hw
  refine ⟨rfl, rfl, hfr, by show 8 + (M'.2.2.1 + 11) + 34 * d ≤ _; omega, fun w hw a' U hW => ?_, List.mem_cons_self, ht _ w2, ht _ w3, w4, fun sig hs => ?_, ht _ w1⟩
  · rcases List.mem_cons.mp hw with rfl | hw
    · exact word_at hW (tW_good _ w2) (ht _ w2)
    · exact word_at hW (tW_good _ hw) (ht _ hw)
  · rw [hs] at w5
    exact (Option.some.inj w5).symm
theorem kD.nw {D : mD} {s U : State} (hW : s.WarmedH U.vm) (h : kD D s) : kD D U := h.moved hW.alike
/-- behind a call -/
theorem Wp.after {h1 : mH} {v : Option mV} {pc' : Nat} {S0 : List mV} (k : Wp M (d + 1) pc' L (v.toList ++ S) h1 Q) (hle : hN h ≤ hN h1 ∧ hZ h ≤ hZ h1)
    (f : ∀ (D : mD) (sz : Nat) (h0 : mH) (p : Program) (l : Launch) (e : Env) (R : Room) (s : State) (m : MethodId) (args : Array Value) (below : List Frame) (meth : Method) (c : Code),
      cX M (d + 1) D sz h0 p R s m args meth c → ∀ (H : Heap) (locs : List Loc) (ls : Array Slot) (st : List Value), rLs sz L ls → rSt sz S0 st → L.length = M.2.2.1 → rH D sz h H → (hN h - hN h0) + (hN h1 - hN h) ≤ R.cells → (hZ h - hZ h0) + (hZ h1 - hZ h) ≤ R.slots →
      ∃ (st' : List Value) (args' : Array Value), rSt sz S st' ∧ ∀ T : State, T.heap = H → Stand p l e R s m args below meth c T locs (hN h - hN h0) (hZ h - hZ h0) → ∃ (x : Option Value) (st₀ t T' : State) (L' : List Loc), st₀.heap = H ∧ Stand p l e R s m args below meth c T' (locs ++ L') (hN h - hN h0 + (hN h1 - hN h)) (hZ h - hZ h0 + (hZ h1 - hZ h)) ∧ (∀ q ∈ L', sz ≤ q.base) ∧ T'.heap = t.heap ∧ qM D sz v h1 args' st₀ (.returned x) t ∧
        Goes p e below T (F0 m pc ls st) T' (F0 m pc' ls (x.toList ++ st'))) : Wp M (d + 1) pc L S0 h Q := by
  obtain ⟨r, h', ⟨hl, k⟩, q⟩ := k
  refine ⟨r, h', ⟨⟨Nat.le_trans hle.1 hl.1, Nat.le_trans hle.2 hl.2⟩, ?_⟩, q⟩
  intro D sz h0 p l e R s m args below meth c C r1 r2 H locs ls st A
  obtain ⟨a1, a2, a3, a4, a5, a6, a7, a8⟩ := A
  obtain ⟨st', args', b3, f⟩ := f D sz h0 p l e R s m args below meth c C H locs ls st a2 a3 a4 a1 (by omega) (by omega)
  intro T hT X
  obtain ⟨x, st₀, t, T', L', g1, g2, g3, g4, g5, g6⟩ := f T hT X
  obtain ⟨⟨x', hx', hxr⟩, hH1, hold⟩ := g5
  cases hx'
  have hst : rSt sz (v.toList ++ S) (x.toList ++ st') := by
    cases v with
    | none =>
      cases x with
      | none => exact b3
      | some _ => exact hxr.elim
    | some v =>
      cases x with
      | none => exact hxr.elim
      | some x => exact ⟨hxr, b3⟩
  have hk := k D sz h0 p l e R s m args below meth c C r1 r2 t.heap (locs ++ L') ls (x.toList ++ st') ⟨hH1, a2, hst, a4, fun q hq => ?_, fun q hq => by rw [hold q hq, g1]; exact a6 q hq, by omega, by omega⟩
  · have hk2 := W.cs (show hN h - hN h0 + (hN h1 - hN h) = hN h1 - hN h0 by omega) (show hZ h - hZ h0 + (hZ h1 - hZ h) = hZ h1 - hZ h0 by omega) hk
    obtain ⟨t2, t3, t4⟩ := hk2 T' g4 g2
    exact ⟨t2, g6 t2 t3, t4⟩
  · rcases List.mem_append.mp hq with z | z
    · exact a5 q z
    · exact g3 q z
theorem pM_pre {D : mD} {sz : Nat} {av : List mV} {xs : List Value} {H : Heap} {s : State} (hxs : rSt sz av xs) (hH : rH D sz h H) (hkD : kD D s) (hnw : ∀ w ∈ nW, va_Nw w s) : ∀ U : State, U.heap = H → s.WarmedH U.vm → pM D sz av h xs.toArray U :=
  fun U hU hW => ⟨xs, rfl, hxs, by rw [hU]; exact hH, hkD.nw hW, nW_warm hW hnw⟩
theorem Wp.callV {M' : mM} {av S0 : List mV} {a : Int} {h1 : mH} {v : Option mV} {c ix n N : Nat} {T : u_T} (hF : Ct M' d ((2, a) :: av) h v h1) (hw : wC M.1.cls M' ix n) (hin : Cond.instanceMethod M'.1 ∈ tW) (hse : Cond.selects M'.1.cls M'.1 M'.1 ∈ tW) (hc : kC c M'.1.cls T N) (ha : hK h a = c) (hd : decode M.2.1 pc = .ok (.invokevirtual ix, 3)) (hn : av.length = n) (hl : (eS ((2, a) :: av)).length ≤ M'.2.2.1) (hst : S0 = av.reverse ++ (2, a) :: S) (h8 : wSt S ≤ 8) (k : Wp M (d + 1) (pc + 3) L (v.toList ++ S) h1 Q) : Wp M (d + 1) pc L S0 h Q := by
  subst hst
  refine k.after hF.1 ?_
  intro D sz h0 p l e R s m args below meth c0 C H locs ls st a2 a3 a4 a1 r1 r2
  obtain ⟨hx, hb, hml, ho, ht, hnw, hrt, hlk, hnm, hfr, hlo, hkD, hsz⟩ := C
  obtain ⟨s1, s2, rfl, b1, b2⟩ := rSt_app a3
  obtain ⟨x, st', rfl, q, b3⟩ := rSt_c b2
  obtain ⟨na, cell, rfl, hna, g1, g2, g3, -⟩ := rC_obj a1 ha hc.2.2.1
  have := rV_obj q
  subst this
  have hav : rSt sz ((2, (na : Int)) :: av) (.ref (sz + na) :: s1.reverse) := ⟨q, by have := rSt_rev b1; rwa [List.reverse_reverse] at this⟩
  refine ⟨st', (Value.ref (sz + na) :: s1.reverse).toArray, b3, ?_⟩
  have hcls : s.vm.findClass M'.1.cls = some cell.cls := by rw [g3]; exact (hkD.1.1 c _ hc.1).2.1
  exact W.runV (Ts := tW) ⟨hx, hb, hml, ho, ht⟩ (hF.met hl hw.2.2.2.2.2.2 l D sz) ⟨callB_my hw ht hfr hlo, ht _ hin, ht _ hse⟩ ⟨pM_blind, ⟨cell, g1, by rw [g2]; rfl, hcls⟩, pM_pre hav a1 hkD hnw⟩ rfl (by rw [List.length_reverse, ← rSt_len b1, List.length_reverse]; exact hn) (by rw [a2.1, a4]) (by rw [List.reverse_reverse]) (by rw [wSt_cat b3]; exact Nat.le_trans (by show 2 * 0 + _ ≤ _; omega) h8) hd ⟨r1, r2⟩
theorem Wp.callS {M' : mM} {av S0 : List mV} {h1 : mH} {v : Option mV} {ix n : Nat} (hF : Ct M' d av h v h1) (hw : wC M.1.cls M' ix n) (hsm : Cond.static M'.1 ∈ tW) (hd : decode M.2.1 pc = .ok (.invokestatic ix, 3)) (hn : av.length = n) (hl : (eS av).length ≤ M'.2.2.1) (hst : S0 = av.reverse ++ S) (h8 : wSt S ≤ 8) (k : Wp M (d + 1) (pc + 3) L (v.toList ++ S) h1 Q) : Wp M (d + 1) pc L S0 h Q := by
  subst hst
  refine k.after hF.1 ?_
  intro D sz h0 p l e R s m args below meth c0 C H locs ls st a2 a3 a4 a1 r1 r2
  obtain ⟨hx, hb, hml, ho, ht, hnw, hrt, hlk, hnm, hfr, hlo, hkD, hsz⟩ := C
  obtain ⟨s1, st', rfl, b1, b3⟩ := rSt_app a3
  have hav : rSt sz av s1.reverse := by have := rSt_rev b1; rwa [List.reverse_reverse] at this
  refine ⟨st', s1.reverse.toArray, b3, ?_⟩
  exact W.runS (Ts := tW) ⟨hx, hb, hml, ho, ht⟩ (hF.met hl hw.2.2.2.2.2.2 l D sz) ⟨callB_my hw ht hfr hlo, ht _ hsm⟩ ⟨pM_blind, pM_pre hav a1 hkD hnw⟩ rfl (by rw [List.length_reverse, ← rSt_len b1, List.length_reverse]; exact hn) (by rw [a2.1, a4]) (by rw [List.reverse_reverse]) (by rw [wSt_cat b3]; exact Nat.le_trans (by show 2 * 0 + _ ≤ _; omega) h8) hd ⟨r1, r2⟩
theorem Wp.callI {M' : mM} {av S0 : List mV} {a : Int} {h1 : mH} {c ix n : Nat} (hF : Ct M' d ((2, a) :: av) h none h1) (hw : wC M.1.cls M' ix n) (hr : M'.2.2.2 = none) (hin : Cond.instanceMethod M'.1 ∈ tW) (hni : M'.1.name = "<init>") (ha : hK h a = c) (hc7 : c < 7) (hd : decode M.2.1 pc = .ok (.invokespecial ix, 3)) (hn : av.length = n) (hl : (eS ((2, a) :: av)).length ≤ M'.2.2.1) (hst : S0 = av.reverse ++ (2, a) :: S) (h8 : wSt S ≤ 8) (k : Wp M (d + 1) (pc + 3) L S h1 Q) : Wp M (d + 1) pc L S0 h Q := by
  subst hst
  refine Wp.after (v := none) (S := S) k hF.1 ?_
  intro D sz h0 p l e R s m args below meth c0 C H locs ls st a2 a3 a4 a1 r1 r2
  obtain ⟨hx, hb, hml, ho, ht, hnw, hrt, hlk, hnm, hfr, hlo, hkD, hsz⟩ := C
  obtain ⟨s1, s2, rfl, b1, b2⟩ := rSt_app a3
  obtain ⟨x, st', rfl, q, b3⟩ := rSt_c b2
  obtain ⟨na, cell, rfl, hna, g1, g2, g3, -⟩ := rC_obj a1 ha hc7
  have := rV_obj q
  subst this
  have hav : rSt sz ((2, (na : Int)) :: av) (.ref (sz + na) :: s1.reverse) := ⟨q, by have := rSt_rev b1; rwa [List.reverse_reverse] at this⟩
  refine ⟨st', (Value.ref (sz + na) :: s1.reverse).toArray, b3, ?_⟩
  have cb := callB_my (h := h) (h1 := h1) hw ht hfr hlo
  rw [hr] at cb
  exact W.runI (Ts := tW) ⟨hx, hb, hml, ho, ht⟩ (hF.met hl hw.2.2.2.2.2.2 l D sz) ⟨cb, hni, ht _ hin⟩ ⟨pM_blind, pM_pre hav a1 hkD hnw⟩ rfl (by rw [List.length_reverse, ← rSt_len b1, List.length_reverse]; exact hn) (by rw [a2.1, a4]) (by rw [List.reverse_reverse]) (by rw [wSt_cat b3]; exact Nat.le_trans (by show 2 * 0 + _ ≤ _; omega) h8) hd ⟨r1, r2⟩
/-- the words of a nest mate's call -/
def wN (own : String) (M' : mM) (ix n : Nat) (host : String) : Prop := Cond.methodLinkNest own ix M'.1 host ∈ nW ∧ Cond.code M'.1 M'.2.1 M'.2.2.1 M'.2.2.2 ∈ tW ∧ Cond.initialized M'.1.cls ∈ tW ∧ (M'.1.cls ≠ "java/lang/invoke/MethodHandle" ∧ M'.1.cls ≠ "java/lang/invoke/VarHandle") ∧ (parseMethodDescriptor M'.1.desc).map (fun d => d.parameters.length) = some n ∧ M'.2.2.1 ≤ 15 ∧ plainName M'.1.cls = true
theorem Wp.callIN {M' : mM} {av S0 : List mV} {a : Int} {h1 : mH} {c ix n : Nat} {host : String} (hF : Ct M' d ((2, a) :: av) h none h1) (hw : wN M.1.cls M' ix n host) (hr : M'.2.2.2 = none) (hin : Cond.instanceMethod M'.1 ∈ tW) (hni : M'.1.name = "<init>") (ha : hK h a = c) (hc7 : c < 7) (hd : decode M.2.1 pc = .ok (.invokespecial ix, 3)) (hn : av.length = n) (hl : (eS ((2, a) :: av)).length ≤ M'.2.2.1) (hst : S0 = av.reverse ++ (2, a) :: S) (h8 : wSt S ≤ 8) (k : Wp M (d + 1) (pc + 3) L S h1 Q) : Wp M (d + 1) pc L S0 h Q := by
  subst hst
  refine Wp.after (v := none) (S := S) k hF.1 ?_
  intro D sz h0 p l e R s m args below meth c0 C H locs ls st a2 a3 a4 a1 r1 r2
  obtain ⟨hx, hb, hml, ho, ht, hnw, hrt, hlk, hnm, hfr, hlo, hkD, hsz⟩ := C
  obtain ⟨s1, s2, rfl, b1, b2⟩ := rSt_app a3
  obtain ⟨x, st', rfl, q, b3⟩ := rSt_c b2
  obtain ⟨na, cell, rfl, hna, g1, g2, g3, -⟩ := rC_obj a1 ha hc7
  have := rV_obj q
  subst this
  have hav : rSt sz ((2, (na : Int)) :: av) (.ref (sz + na) :: s1.reverse) := ⟨q, by have := rSt_rev b1; rwa [List.reverse_reverse] at this⟩
  refine ⟨st', (Value.ref (sz + na) :: s1.reverse).toArray, b3, ?_⟩
  obtain ⟨w1, w2, w3, w4, w5, w6, w7⟩ := hw
  have cn : va_CN R s args M.1.cls ix M'.1 host M'.2.1 M'.2.2.1 none (wY M') (rM d h h1) (hN h1 - hN h) (hZ h1 - hZ h) n := by
    rw [hr] at w2
    refine ⟨⟨rfl, rfl, hfr, by show 8 + (M'.2.2.1 + 11) + 34 * d ≤ _; omega, fun w hw a' U hW => ?_, by unfold wY; rw [hr]; exact List.mem_cons_self⟩, ht _ w2, ht _ w3, w4, fun sig hs => ?_, va_Nw.use rfl (hnw _ w1)⟩
    · rcases List.mem_cons.mp hw with rfl | hw
      · rw [hr]
        exact word_at hW (tW_good _ w2) (ht _ w2)
      · exact word_at hW (tW_good _ hw) (ht _ hw)
    · rw [hs] at w5
      exact (Option.some.inj w5).symm
  intro T hT X
  obtain ⟨v, st₀, t, T', L', z1, z2, z3, z4, z5, z6, z7⟩ := va_runIN (Ts := tW) ⟨hx, hb, hml, ho, ht⟩ (hF.met hl w7 l D sz) ⟨cn, hni, ht _ hin⟩ ⟨pM_blind, pM_pre hav a1 hkD hnw⟩ (g := F0 m pc ls (s1 ++ .ref (sz + na) :: st')) rfl (by rw [List.length_reverse, ← rSt_len b1, List.length_reverse]; exact hn) (by show ls.size = _; rw [a2.1, a4]) (by rw [List.reverse_reverse]) (by rw [wSt_cat b3]; exact Nat.le_trans (by show 2 * 0 + _ ≤ _; omega) h8) hd ⟨r1, r2⟩ T hT X
  exact ⟨v, st₀, t, T', L', z1, z2, z3, z4, z6, z7⟩
theorem Wp.objInit {a : Int} {c ix : Nat} (h1 : Cond.methodLink M.1.cls ix Lib.objectInit ∈ tW) (h2 : Cond.instanceMethod Lib.objectInit ∈ tW) (h3 : Cond.code Lib.objectInit ⟨#[0xb1]⟩ 1 none ∈ tW) (hd : decode M.2.1 pc = .ok (.invokespecial ix, 3)) (ha : hK h a = c) (hc7 : c < 7) (h8 : wSt S ≤ 8) (k : Wp M (d + 1) (pc + 3) L S h Q) : Wp M (d + 1) pc L ((2, a) :: S) h Q := by
  refine k.step ?_
  intro D sz h0 p l e R s m args below meth c0 Qw C H locs cells slots ls st a2 a3 a4 a1 kk
  obtain ⟨hx, hb, hml, ho, ht, hnw, hrt, hlk, hnm, hfr, hlo, hkD, hsz⟩ := C
  obtain ⟨v, r, rfl, q, b0⟩ := rSt_c a3
  obtain ⟨n, cell, rfl, hn, g1, g2, g3, -⟩ := rC_obj a1 ha hc7
  have := rV_obj q
  subst this
  exact W.objInit hx hb ho (ht _ h1) (ht _ h2) (ht _ h3) rfl (by show ls.size = _; rw [a2.1, a4, hml]) rfl hd (by omega) (by rw [wSt_cat b0]; show 2 * 0 + _ + 12 ≤ _; omega) (kk ls _ a2 b0 a4)
end VMG
