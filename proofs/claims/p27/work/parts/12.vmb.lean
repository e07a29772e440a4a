/-! the words that hold at every method's entry -/
def tW : List Cond := lw_tbl.filter goodWord
def isNest : Cond → Bool
  | .fieldLinkNest .. => true
  | .methodLinkNest .. => true
  | _ => false
def nW : List Cond := lw_tbl.filter isNest
theorem tW_good : ∀ w ∈ tW, (w.onTables && w.keeps) = true ∨ ∃ ty, w = .arrayClass ty := fun w h => good_of_word (List.mem_filter.mp h).2
theorem tW_in {w : Cond} {i : Nat} (h : lw_tbl[i]? = some w) (hg : goodWord w = true) : w ∈ tW := List.mem_filter.mpr ⟨List.mem_of_getElem? h, hg⟩
theorem nW_warm {s U : State} (hW : s.WarmedH U.vm) (h : ∀ w ∈ nW, va_Nw w s) : ∀ w ∈ nW, va_Nw w U := by
  intro w hw
  have h1 := h w hw
  have h2 := (List.mem_filter.mp hw).2
  cases w <;> first | (simp [isNest] at h2; done) | exact h1.warmF hW | exact h1.warmM hW
/-- a method: name, code, how many locals, what it returns -/
abbrev mM : Type := MethodName × ByteArray × Nat × Option FieldType
def cX (M : mM) (d : Nat) (D : mD) (sz : Nat) (h0 : mH) (p : Program) (R : Room) (s : State) (m : MethodId) (args : Array Value) (meth : Method) (c : Code) : Prop :=
  p.tables.exec = Jvm.exec ∧ c.code = M.2.1 ∧ c.maxLocals = M.2.2.1 ∧ s.vm.findClass M.1.cls = some m.cls ∧ (∀ w ∈ tW, w.before args s = true) ∧ (∀ w ∈ nW, va_Nw w s) ∧ meth.sig.returnType = M.2.2.2 ∧ meth.locks = false ∧ meth.name = M.1.name ∧ d ≤ R.frames ∧ 34 * d ≤ R.locals ∧ kD D s ∧ s.heap.size = sz + hN h0
def rO (sz : Nat) (v : Option mV) (x : Option Value) : Prop := match v, x with
  | none, none => True
  | some v, some x => rV sz v x
  | _, _ => False
/-- a method's end: what it answers, the heap that it leaves, the old cells as they were -/
def qM (D : mD) (sz : Nat) (v : Option mV) (h : mH) : Array Value → State → Outcome → State → Prop := fun _ st o t =>
  (∃ x, o = .returned x ∧ rO sz v x) ∧ rH D sz h t.heap ∧ ∀ q : Nat, q < sz → t.heap[q]? = st.heap[q]?
/-- where a frame stands: the heap, its locals and stack, what was written, the old cells -/
def aX (M : mM) (D : mD) (sz : Nat) (h0 : mH) (s : State) (L S : List mV) (h : mH) (H : Heap) (locs : List Loc) (ls : Array Slot) (st : List Value) : Prop :=
  rH D sz h H ∧ rLs sz L ls ∧ rSt sz S st ∧ L.length = M.2.2.1 ∧ (∀ q ∈ locs, sz ≤ q.base) ∧ (∀ q : Nat, q < sz → H[q]? = s.heap[q]?) ∧ hN h0 ≤ hN h ∧ hZ h0 ≤ hZ h
def Rt (M : mM) (d pc : Nat) (L S : List mV) (h : mH) (v : Option mV) (h' : mH) : Prop :=
  (hN h ≤ hN h' ∧ hZ h ≤ hZ h') ∧ ∀ (D : mD) (sz : Nat) (h0 : mH) (p : Program) (l : Launch) (e : Env) (R : Room) (s : State) (m : MethodId) (args : Array Value) (below : List Frame) (meth : Method) (c : Code),
    cX M d D sz h0 p R s m args meth c → hN h' - hN h0 ≤ R.cells → hZ h' - hZ h0 ≤ R.slots → ∀ (H : Heap) (locs : List Loc) (ls : Array Slot) (st : List Value), aX M D sz h0 s L S h H locs ls st →
    W p l e R s m args below meth c H locs (hN h - hN h0) (hZ h - hZ h0) (MQ below (qM D sz v h') args s (hN h' - hN h0) (hZ h' - hZ h0) (fun q => sz ≤ q)) (F0 m pc ls st)
def Wp (M : mM) (d pc : Nat) (L S : List mV) (h : mH) (Q : Option mV → mH → Prop) : Prop := ∃ v h', Rt M d pc L S h v h' ∧ Q v h'
theorem Wp.mono {M : mM} {d pc : Nat} {L S : List mV} {h : mH} {Q Q' : Option mV → mH → Prop} (k : Wp M d pc L S h Q) (hq : ∀ v h', Q v h' → Q' v h') : Wp M d pc L S h Q' := by
  obtain ⟨v, h', f, q⟩ := k
  exact ⟨v, h', f, hq v h' q⟩
/-- a row that leaves the heap as it is: W at the next point gives W here -/
theorem Wp.step {M : mM} {d pc pc' : Nat} {L S L' S' : List mV} {h : mH} {Q : Option mV → mH → Prop} (k : Wp M d pc' L' S' h Q)
    (f : ∀ (D : mD) (sz : Nat) (h0 : mH) (p : Program) (l : Launch) (e : Env) (R : Room) (s : State) (m : MethodId) (args : Array Value) (below : List Frame) (meth : Method) (c : Code) (Qw : State → Prop),
      cX M d D sz h0 p R s m args meth c → ∀ (H : Heap) (locs : List Loc) (cells slots : Nat) (ls : Array Slot) (st : List Value), rLs sz L ls → rSt sz S st → L.length = M.2.2.1 → rH D sz h H →
      (∀ (ls' : Array Slot) (st' : List Value), rLs sz L' ls' → rSt sz S' st' → L'.length = M.2.2.1 → W p l e R s m args below meth c H locs cells slots Qw (F0 m pc' ls' st')) → W p l e R s m args below meth c H locs cells slots Qw (F0 m pc ls st)) : Wp M d pc L S h Q := by
  obtain ⟨v, h', ⟨hle, k⟩, q⟩ := k
  refine ⟨v, h', ⟨hle, ?_⟩, q⟩
  intro D sz h0 p l e R s m args below meth c C r1 r2 H locs ls st A
  obtain ⟨a1, a2, a3, a4, a5, a6, a7, a8⟩ := A
  exact f D sz h0 p l e R s m args below meth c _ C H locs _ _ ls st a2 a3 a4 a1 (fun ls' st' b2 b3 b4 => k D sz h0 p l e R s m args below meth c C r1 r2 H locs ls' st' ⟨a1, b2, b3, b4, a5, a6, a7, a8⟩)
