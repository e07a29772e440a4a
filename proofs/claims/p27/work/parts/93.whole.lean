def R_law : String := "BeatBenchLaw"
def lw_P (b : Addr) (xs : List Int32) (args : Array Value) (s : State) : Prop := args = #[.ref b] ∧ s.IntsAt b xs ∧ xs.length ≤ 3072 ∧ (Jvm.Cond.and given_1 narrow_1).before args s = true
def lw_Q (_ : Array Value) (s : State) (o : Outcome) (t : State) : Prop := o = .returned (some (.int 1)) ∧ Framed s o t [] 601024 7293034
def lw_Z (below : List Frame) (a : Array Value) (s : State) : State → Prop := fun t => ∃ o, t.status = .running ∧ Ended t below o ∧ lw_Q a s o t
/-- the law's own end, with 1 on the stack, nothing written that was there before, its room as the claim has it -/
theorem lw_ret {p : Program} {l : Launch} {e : Env} {s : State} {m : MethodId} {below : List Frame} {meth : Method} {c : Code} {b : Nat} (hx : p.tables.exec = Jvm.exec) (hb : c.code = code) (hr : meth.sig.returnType = ret) (hlocks : meth.locks = false) {pc : Nat} {H : Heap} {ls : Array Slot} (hdg : decode code pc = .ok (.ireturn, 1)) : W p l e room_1 s m #[Value.ref b] below meth c H [] 601024 7293034 (lw_Z below #[Value.ref b] s) (F0 m pc ls [.int 1]) := by
  intro T hT X
  obtain ⟨fs, hret, hrun, hended, hW, hframe⟩ := X.leave (v := some (.int 1)) (hlocks := hlocks) (fun h => by rw [hr] at h; cases h)
  have hmeth' : T.vm.method? m = some meth := X.method'
  refine ⟨T.setFrames fs, ?_, .returned (some (.int 1)), hrun, hended, rfl, ⟨_, rfl⟩, hW, hframe⟩
  jvm_step X.here [X.here.top, hx, hb, hdg, hmeth', hr, ret, narrow_b1]
  (try refine ⟨rfl, ?_⟩); (try refine ⟨rfl, ?_⟩)
  first | (intro acts; rw [hret _ acts rfl rfl rfl]) | rw [hret _ _ rfl rfl rfl]
  exact Steps.refl _
/-- what holds at the law's entry: the machine, the code, the tables' words (any of lw_tbl by 'hts w (by decide +kernel)'), the script of L ints xs at the cell b, what the Statement gives of the start (any of its parts by flat_of_before) -/
def lw_At (p : Program) (s : State) (m : MethodId) (meth : Method) (c : Code) (b L : Nat) (xs : Nat → Int32) : Prop :=
  p.tables.exec = Jvm.exec ∧ c.code = code ∧ meth.sig.returnType = ret ∧ c.maxLocals = 7 ∧ s.vm.findClass R_law = some m.cls ∧ (∀ w ∈ lw_tbl, w.before #[Value.ref b] s = true) ∧ va_X b L xs s s.heap ∧ b < s.heap.size ∧ meth.locks = false ∧ (Jvm.Cond.and given_1 narrow_1).before #[Value.ref b] s = true ∧ meth.name = "law"
/-- from the entry, for every script of at most 3072 ints, the law comes to its end with true -/
theorem whole_start {p : Program} {e : Env} {s : State} {m : MethodId} {below : List Frame} {meth : Method} {c : Code} (l : Launch) (hl : l.stackTraces = false) {b L : Nat} {xs : Nat → Int32} (hL : L ≤ 3072) (C0 : lw_At p s m meth c b L xs) : W p l e room_1 s m #[Value.ref b] below meth c s.heap [] 0 0 (lw_Z below #[Value.ref b] s) (entryFrame m ([Value.ref b] : List Value).toArray 7) := by
  obtain ⟨hx, hb, hr, hml, hown, hts, hX, hbl, hlk, hgv, hnm⟩ := C0
  obtain ⟨D, hkD⟩ := start_kD hts
  obtain ⟨sa, ex⟩ := start_EX hts hgv
  have C : cX m_L_law 10 D s.heap.size e9_0 p room_1 s m #[Value.ref b] meth c := ⟨hx, hb, hml, hown, fun w hw => hts w (List.mem_filter.mp hw).1, fun w hw => va_Nw.of (by have := (List.mem_filter.mp hw).2; cases w <;> first | (simp [isNest] at this; done) | rfl) (hts w (List.mem_filter.mp hw).1), hr, hlk, hnm, Nat.le_of_ble_eq_true rfl, Nat.le_of_ble_eq_true rfl, hkD, rfl⟩
  obtain ⟨G, hG⟩ : ∃ G : Nat → List mV → List mV → mH → Prop, G = fun pc L S h => ∀ (H : Heap) (locs : List Loc) (ls : Array Slot) (st : List Value), aX m_L_law D s.heap.size e9_0 s L S h H locs ls st → ls[0]? = some (.val (.ref b)) → W p l e room_1 s m #[Value.ref b] below meth c H locs (hN h - hN e9_0) (hZ h - hZ e9_0) (lw_Z below #[Value.ref b] s) (F0 m pc ls st) := ⟨_, rfl⟩
  have g : Gl L xs room_1 G := ⟨D, s.heap.size, p, l, e, s, m, _, below, meth, c, _, b, sa, C, hl, ex, hX, hbl, hG⟩
  have hend : ∀ (L : List mV) (h : mH) (n : Nat), CK h (n : Int) → G 1377 L [(0, 1)] h := by
    intro L h n ck
    have hrm := ck.rm (by omega)
    rw [hG]
    intro H locs ls st A hz
    obtain ⟨a1, a2, a3, a4, a5, a6, a7, a8⟩ := A
    obtain ⟨v, r, rfl, qv, b0⟩ := rSt_c a3
    obtain ⟨j, rfl, ej⟩ := rV_i qv
    have hj : j = 1 := Int32.toInt_inj.mp (by rw [ej]; rfl)
    subst hj
    cases r with
    | cons _ _ => exact b0.elim
    | nil => exact va_forget a5 (W.widen (k := 601024) (n := 7293034) (by show hN h - 0 ≤ _; omega) (by show hZ h - 0 ≤ _; omega) (lw_ret hx hb hr hlk dL_law_1377))
  have key := law_start g hL hend
  rw [hG] at key
  have hwf : lv_has ((lg_sl [Value.ref b] ++ List.replicate (7 - (lg_sl [Value.ref b]).length) Slot.unset).toArray) 7 (lv_args 0 [Value.ref b]) := lv_entry [Value.ref b] (by simp [lg_sl, Value.category])
  have hun : ∀ (i : Nat) (v : mV), ([(9, 0), (9, 0), (9, 0), (9, 0), (9, 0), (9, 0), (9, 0)] : List mV)[i]? = some v → ¬ v.1 < 3 := by
    intro i v hv
    have hm := List.mem_of_getElem? hv
    simp only [List.mem_cons, List.not_mem_nil, or_false, or_self] at hm
    rw [hm]
    decide
  have k9 := key s.heap [] _ [] ⟨⟨rfl, fun a ha => absurd ha (Nat.not_lt_zero _), fun _ _ => rfl⟩, ⟨hwf.1, hwf.2.1, fun i v hv ht => absurd ht (hun i v hv)⟩, trivial, rfl, fun q hq => absurd hq List.not_mem_nil, fun _ _ => rfl, Nat.le_refl _, Nat.le_refl _⟩ (by simp [lg_sl, Value.category])
  rw [lg_entry_eq]
  exact k9
