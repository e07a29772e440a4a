section GDX
/-- a frame at hand: its world, and what W asks at a place of it -/
def Gd (M : mM) (d : Nat) (h0 : mH) (R : Room) (G : Nat → List mV → List mV → mH → Prop) : Prop :=
  ∃ (D : mD) (sz : Nat) (p : Program) (l : Launch) (e : Env) (s : State) (m : MethodId) (args : Array Value) (below : List Frame) (meth : Method) (c : Code) (Qw : State → Prop) (z : Nat),
    cX M d D sz h0 p R s m args meth c ∧ G = fun pc L S h => ∀ (H : Heap) (locs : List Loc) (ls : Array Slot) (st : List Value), aX M D sz h0 s L S h H locs ls st → ls[0]? = some (.val (.ref z)) → W p l e R s m args below meth c H locs (hN h - hN h0) (hZ h - hZ h0) Qw (F0 m pc ls st)
variable {M : mM} {d pc : Nat} {L S : List mV} {h h0 : mH} {R : Room} {G : Nat → List mV → List mV → mH → Prop}
theorem Gd.step {pc' : Nat} {L' S' : List mV} (g : Gd M d h0 R G) (k : G pc' L' S' h)
    (f : ∀ (D : mD) (sz : Nat) (h0 : mH) (p : Program) (l : Launch) (e : Env) (R : Room) (s : State) (m : MethodId) (args : Array Value) (below : List Frame) (meth : Method) (c : Code) (Qw : State → Prop),
      cX M d D sz h0 p R s m args meth c → ∀ (H : Heap) (locs : List Loc) (cells slots : Nat) (ls : Array Slot) (st : List Value), rLs sz L ls → rSt sz S st → L.length = M.2.2.1 → rH D sz h H →
      (∀ (ls' : Array Slot) (st' : List Value), (∀ z : Nat, ls[0]? = some (.val (.ref z)) → ls'[0]? = some (.val (.ref z))) → rLs sz L' ls' → rSt sz S' st' → L'.length = M.2.2.1 → W p l e R s m args below meth c H locs cells slots Qw (F0 m pc' ls' st')) → W p l e R s m args below meth c H locs cells slots Qw (F0 m pc ls st)) : G pc L S h := by
  obtain ⟨D, sz, p, l, e, s, m, args, below, meth, c, Qw, z, C, rfl⟩ := g
  intro H locs ls st A hz
  obtain ⟨a1, a2, a3, a4, a5, a6, a7, a8⟩ := A
  exact f D sz h0 p l e R s m args below meth c _ C H locs _ _ ls st a2 a3 a4 a1 (fun ls' st' b0 b2 b3 b4 => k H locs ls' st' ⟨a1, b2, b3, b4, a5, a6, a7, a8⟩ (b0 z hz))
theorem Gd.stepH {pc' : Nat} {L' S' : List mV} {h2 : mH} (g : Gd M d h0 R G) (k : G pc' L' S' h2) (hn : hN h ≤ hN h2) (hz : hZ h ≤ hZ h2) (rm : hN h2 - hN h0 ≤ R.cells ∧ hZ h2 - hZ h0 ≤ R.slots)
    (f : ∀ (D : mD) (sz : Nat) (h0 : mH) (p : Program) (l : Launch) (e : Env) (R : Room) (s : State) (m : MethodId) (args : Array Value) (below : List Frame) (meth : Method) (c : Code) (Qw : State → Prop),
      cX M d D sz h0 p R s m args meth c → ∀ (H : Heap) (locs : List Loc) (ls : Array Slot) (st : List Value), rLs sz L ls → rSt sz S st → L.length = M.2.2.1 → rH D sz h H → hN h2 - hN h0 ≤ R.cells → hZ h2 - hZ h0 ≤ R.slots → hN h0 ≤ hN h → hZ h0 ≤ hZ h →
      (∀ (H' : Heap) (locs' : List Loc) (ls' : Array Slot) (st' : List Value), ls'[0]? = ls[0]? → rLs sz L' ls' → rSt sz S' st' → L'.length = M.2.2.1 → rH D sz h2 H' → (∀ q ∈ locs', sz ≤ q.base ∨ q ∈ locs) → (∀ q : Nat, q < sz → H'[q]? = H[q]?) →
        W p l e R s m args below meth c H' locs' (hN h2 - hN h0) (hZ h2 - hZ h0) Qw (F0 m pc' ls' st')) → W p l e R s m args below meth c H locs (hN h - hN h0) (hZ h - hZ h0) Qw (F0 m pc ls st)) : G pc L S h := by
  obtain ⟨D, sz, p, l, e, s, m, args, below, meth, c, Qw, z, C, rfl⟩ := g
  intro H locs ls st A hz0
  obtain ⟨a1, a2, a3, a4, a5, a6, a7, a8⟩ := A
  refine f D sz h0 p l e R s m args below meth c _ C H locs ls st a2 a3 a4 a1 rm.1 rm.2 a7 a8 (fun H' locs' ls' st' b0 b2 b3 b4 b1 b5 b6 => k H' locs' ls' st' ⟨b1, b2, b3, b4, ?_, fun q hq => (b6 q hq).trans (a6 q hq), by omega, by omega⟩ (b0.trans hz0))
  intro q hq
  rcases b5 q hq with z | z
  · exact z
  · exact a5 q z
theorem Gd.after {h1 : mH} {v : Option mV} {pc' : Nat} {S0 : List mV} (g : Gd M (d + 1) h0 R G) (k : G pc' L (v.toList ++ S) h1) (hle : hN h ≤ hN h1 ∧ hZ h ≤ hZ h1) (rm : hN h1 - hN h0 ≤ R.cells ∧ hZ h1 - hZ h0 ≤ R.slots)
    (f : ∀ (D : mD) (sz : Nat) (h0 : mH) (p : Program) (l : Launch) (e : Env) (R : Room) (s : State) (m : MethodId) (args : Array Value) (below : List Frame) (meth : Method) (c : Code),
      cX M (d + 1) D sz h0 p R s m args meth c → ∀ (H : Heap) (locs : List Loc) (ls : Array Slot) (st : List Value), rLs sz L ls → rSt sz S0 st → L.length = M.2.2.1 → rH D sz h H → (hN h - hN h0) + (hN h1 - hN h) ≤ R.cells → (hZ h - hZ h0) + (hZ h1 - hZ h) ≤ R.slots →
      ∃ (st' : List Value) (args' : Array Value), rSt sz S st' ∧ ∀ T : State, T.heap = H → Stand p l e R s m args below meth c T locs (hN h - hN h0) (hZ h - hZ h0) → ∃ (x : Option Value) (st₀ t T' : State) (L' : List Loc), st₀.heap = H ∧ Stand p l e R s m args below meth c T' (locs ++ L') (hN h - hN h0 + (hN h1 - hN h)) (hZ h - hZ h0 + (hZ h1 - hZ h)) ∧ (∀ q ∈ L', sz ≤ q.base) ∧ T'.heap = t.heap ∧ qM D sz v h1 args' st₀ (.returned x) t ∧
        Goes p e below T (F0 m pc ls st) T' (F0 m pc' ls (x.toList ++ st'))) : G pc L S0 h := by
  obtain ⟨D, sz, p, l, e, s, m, args, below, meth, c, Qw, z, C, rfl⟩ := g
  intro H locs ls st A hz0
  obtain ⟨a1, a2, a3, a4, a5, a6, a7, a8⟩ := A
  obtain ⟨st', args', b3, f⟩ := f D sz h0 p l e R s m args below meth c C H locs ls st a2 a3 a4 a1 (by omega) (by omega)
  intro T hT X
  obtain ⟨x, st₀, t, T', L', g1, g2, g3, g4, g5, g6⟩ := f T hT X
  obtain ⟨⟨x', hx', hxr⟩, hH1, hold⟩ := g5
  cases hx'
  have hst : rSt sz (v.toList ++ S) (x.toList ++ st') := by
    cases v with
    | none =>
      cases x with
      | none => exact b3
      | some _ => exact hxr.elim
    | some v =>
      cases x with
      | none => exact hxr.elim
      | some x => exact ⟨hxr, b3⟩
  have hk := k t.heap (locs ++ L') ls (x.toList ++ st') ⟨hH1, a2, hst, a4, fun q hq => ?_, fun q hq => by rw [hold q hq, g1]; exact a6 q hq, by omega, by omega⟩ hz0
  · have hk2 := W.cs (show hN h - hN h0 + (hN h1 - hN h) = hN h1 - hN h0 by omega) (show hZ h - hZ h0 + (hZ h1 - hZ h) = hZ h1 - hZ h0 by omega) hk
    obtain ⟨t2, t3, t4⟩ := hk2 T' g4 g2
    exact ⟨t2, g6 t2 t3, t4⟩
  · rcases List.mem_append.mp hq with z | z
    · exact a5 q z
    · exact g3 q z
/-- the first local stays where another one is stored -/
theorem st_keep {ls ls' : Array Slot} {i : Nat} {x : Value} (hwf : lv_wf ls) (hi : i < ls.size) (hc : x.category = 1) (hi0 : i ≠ 0) (e : storeLocals ls i x = some ls') : ∀ z : Nat, ls[0]? = some (.val (.ref z)) → ls'[0]? = some (.val (.ref z)) := by
  intro z hz
  have hk : lv_has ls ls.size [(0, .ref z)] := ⟨rfl, hwf, fun q hq => by
    rcases List.mem_cons.mp hq with rfl | h
    · exact hz
    · exact absurd h List.not_mem_nil⟩
  obtain ⟨l2, e1, e2⟩ := lv_store1 hk hi hc
  cases e.symm.trans e1
  refine e2.2.2 (0, .ref z) (List.mem_cons_of_mem _ (List.mem_filter.mpr ⟨List.mem_cons_self, ?_⟩))
  have h0 : (0 : Nat) ≠ i := fun q => hi0 q.symm
  simp [h0, Value.category]
theorem Gx.iconst (g : Gd M d h0 R G) {n : Int} (hd : decode M.2.1 pc = .ok (.iconst n, 1)) (hr : w32 n = n) (k : G (pc + 1) L ((0, n) :: S) h) : G pc L S h := by
  refine g.step k ?_
  intro D sz h0 p l e R s m args below meth c Qw C H locs cells slots ls st a2 a3 a4 a1 kk
  exact lv_iconst C.1 C.2.1 hd rfl (kk ls _ (fun _ q => q) a2 ⟨mI ((t32 n).trans hr), a3⟩ a4)
theorem Gx.bipush (g : Gd M d h0 R G) {n : Int} (hd : decode M.2.1 pc = .ok (.bipush n, 2)) (hr : (Int8.ofInt n).toInt32.toInt = n) (k : G (pc + 2) L ((0, n) :: S) h) : G pc L S h := by
  refine g.step k ?_
  intro D sz h0 p l e R s m args below meth c Qw C H locs cells slots ls st a2 a3 a4 a1 kk
  exact lv_bipush C.1 C.2.1 hd rfl (kk ls _ (fun _ q => q) a2 ⟨mI hr, a3⟩ a4)
theorem Gx.ldc2 (g : Gd M d h0 R G) {ix : Nat} {v : Int64} {z : Int} (hw : Cond.constantLong M.1.cls ix v ∈ tW) (hz : v.toInt = z) (hd : decode M.2.1 pc = .ok (.ldc2_w ix, 3)) (k : G (pc + 3) L ((1, z) :: S) h) : G pc L S h := by
  refine g.step k ?_
  intro D sz h0 p l e R s m args below meth c Qw C H locs cells slots ls st a2 a3 a4 a1 kk
  obtain ⟨hx, hb, -, ho, ht, -⟩ := C
  exact lv_ldc2 hx hb ho (ht _ hw) hd (kk ls _ (fun _ q => q) a2 ⟨mL hz, a3⟩ a4)
theorem Gx.ild_n (g : Gd M d h0 R G) {j : Fin 4} {x : Int} (hl : L[(j : Nat)]? = some (0, x)) (hd : decode M.2.1 pc = .ok (.iload_n j, 1)) (k : G (pc + 1) L ((0, x) :: S) h) : G pc L S h := by
  refine g.step k ?_
  intro D sz h0 p l e R s m args below meth c Qw C H locs cells slots ls st a2 a3 a4 a1 kk
  obtain ⟨v, hv, q⟩ := a2.2.2 _ _ hl (show 0 < 3 by decide)
  obtain ⟨y, rfl, ey⟩ := rV_i q
  exact lv_iload_n C.1 C.2.1 hd rfl hv (kk ls _ (fun _ q => q) a2 ⟨q, a3⟩ a4)
theorem Gx.ild (g : Gd M d h0 R G) {j : Nat} {x : Int} (hl : L[j]? = some (0, x)) (hd : decode M.2.1 pc = .ok (.iload j, 2)) (k : G (pc + 2) L ((0, x) :: S) h) : G pc L S h := by
  refine g.step k ?_
  intro D sz h0 p l e R s m args below meth c Qw C H locs cells slots ls st a2 a3 a4 a1 kk
  obtain ⟨v, hv, q⟩ := a2.2.2 _ _ hl (show 0 < 3 by decide)
  obtain ⟨y, rfl, ey⟩ := rV_i q
  exact lv_iload C.1 C.2.1 hd hv (kk ls _ (fun _ q => q) a2 ⟨q, a3⟩ a4)
theorem Gx.ald_n (g : Gd M d h0 R G) {j : Fin 4} {x : Int} (hl : L[(j : Nat)]? = some (2, x)) (hd : decode M.2.1 pc = .ok (.aload_n j, 1)) (k : G (pc + 1) L ((2, x) :: S) h) : G pc L S h := by
  refine g.step k ?_
  intro D sz h0 p l e R s m args below meth c Qw C H locs cells slots ls st a2 a3 a4 a1 kk
  obtain ⟨v, hv, q⟩ := a2.2.2 _ _ hl (show 2 < 3 by decide)
  rcases rV_r q with ⟨-, rfl⟩ | ⟨-, rfl⟩
  · exact lv_aload_nN C.1 C.2.1 hd rfl hv (kk ls _ (fun _ q => q) a2 ⟨q, a3⟩ a4)
  · exact lv_aload_n C.1 C.2.1 hd rfl hv (kk ls _ (fun _ q => q) a2 ⟨q, a3⟩ a4)
theorem Gx.iadd (g : Gd M d h0 R G) {a b : Int} (hd : decode M.2.1 pc = .ok (.iadd, 1)) (k : G (pc + 1) L ((0, w32 (a + b)) :: S) h) : G pc L ((0, b) :: (0, a) :: S) h := by
  refine g.step k ?_
  intro D sz h0 p l e R s m args below meth c Qw C H locs cells slots ls st a2 a3 a4 a1 kk
  obtain ⟨_, r0, rfl, q0, b0⟩ := rSt_c a3
  obtain ⟨x0, rfl, e0⟩ := rV_i q0
  obtain ⟨_, r1, rfl, q1, b1⟩ := rSt_c b0
  obtain ⟨x1, rfl, e1⟩ := rV_i q1
  exact lv_iadd C.1 C.2.1 hd (kk ls _ (fun _ q => q) a2 ⟨mI (add32 e1 e0), b1⟩ a4)
theorem Gx.isub (g : Gd M d h0 R G) {a b : Int} (hd : decode M.2.1 pc = .ok (.isub, 1)) (k : G (pc + 1) L ((0, w32 (a - b)) :: S) h) : G pc L ((0, b) :: (0, a) :: S) h := by
  refine g.step k ?_
  intro D sz h0 p l e R s m args below meth c Qw C H locs cells slots ls st a2 a3 a4 a1 kk
  obtain ⟨_, r0, rfl, q0, b0⟩ := rSt_c a3
  obtain ⟨x0, rfl, e0⟩ := rV_i q0
  obtain ⟨_, r1, rfl, q1, b1⟩ := rSt_c b0
  obtain ⟨x1, rfl, e1⟩ := rV_i q1
  exact lv_isub C.1 C.2.1 hd (kk ls _ (fun _ q => q) a2 ⟨mI (sub32 e1 e0), b1⟩ a4)
theorem Gx.iand (g : Gd M d h0 R G) {a b : Int} (hd : decode M.2.1 pc = .ok (.iand, 1)) (k : G (pc + 1) L ((0, kand a b) :: S) h) : G pc L ((0, b) :: (0, a) :: S) h := by
  refine g.step k ?_
  intro D sz h0 p l e R s m args below meth c Qw C H locs cells slots ls st a2 a3 a4 a1 kk
  obtain ⟨_, r0, rfl, q0, b0⟩ := rSt_c a3
  obtain ⟨x0, rfl, e0⟩ := rV_i q0
  obtain ⟨_, r1, rfl, q1, b1⟩ := rSt_c b0
  obtain ⟨x1, rfl, e1⟩ := rV_i q1
  exact lv_iand C.1 C.2.1 hd (kk ls _ (fun _ q => q) a2 ⟨mI (by unfold kand; rw [o32 e1, o32 e0]), b1⟩ a4)
theorem Gx.i2l (g : Gd M d h0 R G) {a : Int} (hd : decode M.2.1 pc = .ok (.i2l, 1)) (k : G (pc + 1) L ((1, a) :: S) h) : G pc L ((0, a) :: S) h := by
  refine g.step k ?_
  intro D sz h0 p l e R s m args below meth c Qw C H locs cells slots ls st a2 a3 a4 a1 kk
  obtain ⟨_, r0, rfl, q0, b0⟩ := rSt_c a3
  obtain ⟨x0, rfl, e0⟩ := rV_i q0
  exact lv_i2l C.1 C.2.1 hd rfl (kk ls _ (fun _ q => q) a2 ⟨mL (by rw [Int32.toInt_toInt64]; exact e0), b0⟩ a4)
theorem Gx.lshl (g : Gd M d h0 R G) {a b : Int} (hd : decode M.2.1 pc = .ok (.lshl, 1)) (k : G (pc + 1) L ((1, qshl a b) :: S) h) : G pc L ((0, b) :: (1, a) :: S) h := by
  refine g.step k ?_
  intro D sz h0 p l e R s m args below meth c Qw C H locs cells slots ls st a2 a3 a4 a1 kk
  obtain ⟨_, r0, rfl, q0, b0⟩ := rSt_c a3
  obtain ⟨x0, rfl, e0⟩ := rV_i q0
  obtain ⟨_, r1, rfl, q1, b1⟩ := rSt_c b0
  obtain ⟨x1, rfl, e1⟩ := rV_l q1
  exact lv_lshl C.1 C.2.1 hd rfl (kk ls _ (fun _ q => q) a2 ⟨mL (by unfold qshl; rw [o64 e1, o32 e0]), b1⟩ a4)
theorem Gx.land (g : Gd M d h0 R G) {a b : Int} (hd : decode M.2.1 pc = .ok (.land, 1)) (k : G (pc + 1) L ((1, qand a b) :: S) h) : G pc L ((1, b) :: (1, a) :: S) h := by
  refine g.step k ?_
  intro D sz h0 p l e R s m args below meth c Qw C H locs cells slots ls st a2 a3 a4 a1 kk
  obtain ⟨_, r0, rfl, q0, b0⟩ := rSt_c a3
  obtain ⟨x0, rfl, e0⟩ := rV_l q0
  obtain ⟨_, r1, rfl, q1, b1⟩ := rSt_c b0
  obtain ⟨x1, rfl, e1⟩ := rV_l q1
  exact lv_land C.1 C.2.1 hd (kk ls _ (fun _ q => q) a2 ⟨mL (by unfold qand; rw [o64 e1, o64 e0]), b1⟩ a4)
theorem Gx.lor (g : Gd M d h0 R G) {a b : Int} (hd : decode M.2.1 pc = .ok (.lor, 1)) (k : G (pc + 1) L ((1, qor a b) :: S) h) : G pc L ((1, b) :: (1, a) :: S) h := by
  refine g.step k ?_
  intro D sz h0 p l e R s m args below meth c Qw C H locs cells slots ls st a2 a3 a4 a1 kk
  obtain ⟨_, r0, rfl, q0, b0⟩ := rSt_c a3
  obtain ⟨x0, rfl, e0⟩ := rV_l q0
  obtain ⟨_, r1, rfl, q1, b1⟩ := rSt_c b0
  obtain ⟨x1, rfl, e1⟩ := rV_l q1
  exact lv_lor C.1 C.2.1 hd (kk ls _ (fun _ q => q) a2 ⟨mL (by unfold qor; rw [o64 e1, o64 e0]), b1⟩ a4)
theorem Gx.lcmp (g : Gd M d h0 R G) {a b : Int} (hd : decode M.2.1 pc = .ok (.lcmp, 1)) (k : G (pc + 1) L ((0, cmpL a b) :: S) h) : G pc L ((1, b) :: (1, a) :: S) h := by
  refine g.step k ?_
  intro D sz h0 p l e R s m args below meth c Qw C H locs cells slots ls st a2 a3 a4 a1 kk
  obtain ⟨_, r0, rfl, q0, b0⟩ := rSt_c a3
  obtain ⟨x0, rfl, e0⟩ := rV_l q0
  obtain ⟨_, r1, rfl, q1, b1⟩ := rSt_c b0
  obtain ⟨x1, rfl, e1⟩ := rV_l q1
  exact W.lcmp C.1 C.2.1 hd (kk ls _ (fun _ q => q) a2 ⟨mI (cmpL_of e1 e0), b1⟩ a4)
theorem Gx.dup (g : Gd M d h0 R G) {v : mV} (hd : decode M.2.1 pc = .ok (.dup, 1)) (ht : v.1 = 0 ∨ v.1 = 2) (k : G (pc + 1) L (v :: v :: S) h) : G pc L (v :: S) h := by
  refine g.step k ?_
  intro D sz h0 p l e R s m args below meth c Qw C H locs cells slots ls st a2 a3 a4 a1 kk
  obtain ⟨x, r, rfl, q, b0⟩ := rSt_c a3
  exact lv_dup C.1 C.2.1 hd (rV_cat1 q ht) (kk ls _ (fun _ q => q) a2 ⟨q, q, b0⟩ a4)
theorem Gx.pop (g : Gd M d h0 R G) {v : mV} (hd : decode M.2.1 pc = .ok (.pop, 1)) (ht : v.1 = 0 ∨ v.1 = 2) (k : G (pc + 1) L S h) : G pc L (v :: S) h := by
  refine g.step k ?_
  intro D sz h0 p l e R s m args below meth c Qw C H locs cells slots ls st a2 a3 a4 a1 kk
  obtain ⟨x, r, rfl, q, b0⟩ := rSt_c a3
  exact lv_pop C.1 C.2.1 hd (rV_cat1 q ht) (kk ls _ (fun _ q => q) a2 b0 a4)
theorem Gx.pop2 (g : Gd M d h0 R G) {v : mV} (hd : decode M.2.1 pc = .ok (.pop2, 1)) (ht : v.1 = 1) (k : G (pc + 1) L S h) : G pc L (v :: S) h := by
  refine g.step k ?_
  intro D sz h0 p l e R s m args below meth c Qw C H locs cells slots ls st a2 a3 a4 a1 kk
  obtain ⟨x, r, rfl, q, b0⟩ := rSt_c a3
  exact lv_pop2_2 C.1 C.2.1 hd (rV_cat2 q ht) (kk ls _ (fun _ q => q) a2 b0 a4)
theorem Gx.iceq (g : Gd M d h0 R G) {a b : Int} {off : Int} {tgt : Nat} (hd : decode M.2.1 pc = .ok (.if_icmp .eq off, 3)) (ht : (pc : Int) + off = (tgt : Int)) (kt : a = b → G tgt L S h) (kf : ¬ a = b → G (pc + 3) L S h) : G pc L ((0, b) :: (0, a) :: S) h := by
  by_cases hc : a = b
  · refine g.step (kt hc) ?_
    intro D sz h0 p l e R s m args below meth c Qw C H locs cells slots ls st a2 a3 a4 a1 kk
    obtain ⟨_, r0, rfl, q0, b0⟩ := rSt_c a3
    obtain ⟨x0, rfl, e0⟩ := rV_i q0
    obtain ⟨_, r1, rfl, q1, b1⟩ := rSt_c b0
    obtain ⟨x1, rfl, e1⟩ := rV_i q1
    have hq : a = b ↔ x1 = x0 := by rw [← e1, ← e0]; exact Int32.toInt_inj
    exact lv_icmp_eq C.1 C.2.1 hd ht (fun _ => kk ls _ (fun _ q => q) a2 b1 a4) (fun z => absurd (hq.mp hc) z)
  · refine g.step (kf hc) ?_
    intro D sz h0 p l e R s m args below meth c Qw C H locs cells slots ls st a2 a3 a4 a1 kk
    obtain ⟨_, r0, rfl, q0, b0⟩ := rSt_c a3
    obtain ⟨x0, rfl, e0⟩ := rV_i q0
    obtain ⟨_, r1, rfl, q1, b1⟩ := rSt_c b0
    obtain ⟨x1, rfl, e1⟩ := rV_i q1
    have hq : a = b ↔ x1 = x0 := by rw [← e1, ← e0]; exact Int32.toInt_inj
    exact lv_icmp_eq C.1 C.2.1 hd ht (fun z => absurd (hq.mpr z) hc) (fun _ => kk ls _ (fun _ q => q) a2 b1 a4)
theorem Gx.ifeq (g : Gd M d h0 R G) {a : Int} {off : Int} {tgt : Nat} (hd : decode M.2.1 pc = .ok (.ifCond .eq off, 3)) (ht : (pc : Int) + off = (tgt : Int)) (kt : a = 0 → G tgt L S h) (kf : ¬ a = 0 → G (pc + 3) L S h) : G pc L ((0, a) :: S) h := by
  by_cases hc : a = 0
  · refine g.step (kt hc) ?_
    intro D sz h0 p l e R s m args below meth c Qw C H locs cells slots ls st a2 a3 a4 a1 kk
    obtain ⟨_, r0, rfl, q0, b0⟩ := rSt_c a3
    obtain ⟨x0, rfl, e0⟩ := rV_i q0
    have hq : a = 0 ↔ x0 = 0 := by rw [← e0]; exact Int32.toInt_inj (x := x0) (y := 0)
    exact lv_if_eq C.1 C.2.1 hd ht (fun _ => kk ls _ (fun _ q => q) a2 b0 a4) (fun z => absurd (hq.mp hc) z)
  · refine g.step (kf hc) ?_
    intro D sz h0 p l e R s m args below meth c Qw C H locs cells slots ls st a2 a3 a4 a1 kk
    obtain ⟨_, r0, rfl, q0, b0⟩ := rSt_c a3
    obtain ⟨x0, rfl, e0⟩ := rV_i q0
    have hq : a = 0 ↔ x0 = 0 := by rw [← e0]; exact Int32.toInt_inj (x := x0) (y := 0)
    exact lv_if_eq C.1 C.2.1 hd ht (fun z => absurd (hq.mpr z) hc) (fun _ => kk ls _ (fun _ q => q) a2 b0 a4)
theorem Gx.iclt (g : Gd M d h0 R G) {a b : Int} {off : Int} {tgt : Nat} (hd : decode M.2.1 pc = .ok (.if_icmp .lt off, 3)) (ht : (pc : Int) + off = (tgt : Int)) (kt : a < b → G tgt L S h) (kf : ¬ a < b → G (pc + 3) L S h) : G pc L ((0, b) :: (0, a) :: S) h := by
  by_cases hc : a < b
  · refine g.step (kt hc) ?_
    intro D sz h0 p l e R s m args below meth c Qw C H locs cells slots ls st a2 a3 a4 a1 kk
    obtain ⟨_, r0, rfl, q0, b0⟩ := rSt_c a3
    obtain ⟨x0, rfl, e0⟩ := rV_i q0
    obtain ⟨_, r1, rfl, q1, b1⟩ := rSt_c b0
    obtain ⟨x1, rfl, e1⟩ := rV_i q1
    have hq : a < b ↔ x1 < x0 := by rw [← e1, ← e0]; exact Int32.lt_iff_toInt_lt.symm
    exact lv_icmp_lt C.1 C.2.1 hd ht (fun _ => kk ls _ (fun _ q => q) a2 b1 a4) (fun z => absurd (hq.mp hc) z)
  · refine g.step (kf hc) ?_
    intro D sz h0 p l e R s m args below meth c Qw C H locs cells slots ls st a2 a3 a4 a1 kk
    obtain ⟨_, r0, rfl, q0, b0⟩ := rSt_c a3
    obtain ⟨x0, rfl, e0⟩ := rV_i q0
    obtain ⟨_, r1, rfl, q1, b1⟩ := rSt_c b0
    obtain ⟨x1, rfl, e1⟩ := rV_i q1
    have hq : a < b ↔ x1 < x0 := by rw [← e1, ← e0]; exact Int32.lt_iff_toInt_lt.symm
    exact lv_icmp_lt C.1 C.2.1 hd ht (fun z => absurd (hq.mpr z) hc) (fun _ => kk ls _ (fun _ q => q) a2 b1 a4)
theorem Gx.iflt (g : Gd M d h0 R G) {a : Int} {off : Int} {tgt : Nat} (hd : decode M.2.1 pc = .ok (.ifCond .lt off, 3)) (ht : (pc : Int) + off = (tgt : Int)) (kt : a < 0 → G tgt L S h) (kf : ¬ a < 0 → G (pc + 3) L S h) : G pc L ((0, a) :: S) h := by
  by_cases hc : a < 0
  · refine g.step (kt hc) ?_
    intro D sz h0 p l e R s m args below meth c Qw C H locs cells slots ls st a2 a3 a4 a1 kk
    obtain ⟨_, r0, rfl, q0, b0⟩ := rSt_c a3
    obtain ⟨x0, rfl, e0⟩ := rV_i q0
    have hq : a < 0 ↔ x0 < 0 := by rw [← e0]; exact (Int32.lt_iff_toInt_lt (x := x0) (y := 0)).symm
    exact lv_if_lt C.1 C.2.1 hd ht (fun _ => kk ls _ (fun _ q => q) a2 b0 a4) (fun z => absurd (hq.mp hc) z)
  · refine g.step (kf hc) ?_
    intro D sz h0 p l e R s m args below meth c Qw C H locs cells slots ls st a2 a3 a4 a1 kk
    obtain ⟨_, r0, rfl, q0, b0⟩ := rSt_c a3
    obtain ⟨x0, rfl, e0⟩ := rV_i q0
    have hq : a < 0 ↔ x0 < 0 := by rw [← e0]; exact (Int32.lt_iff_toInt_lt (x := x0) (y := 0)).symm
    exact lv_if_lt C.1 C.2.1 hd ht (fun z => absurd (hq.mpr z) hc) (fun _ => kk ls _ (fun _ q => q) a2 b0 a4)
theorem Gx.icgt (g : Gd M d h0 R G) {a b : Int} {off : Int} {tgt : Nat} (hd : decode M.2.1 pc = .ok (.if_icmp .gt off, 3)) (ht : (pc : Int) + off = (tgt : Int)) (kt : b < a → G tgt L S h) (kf : ¬ b < a → G (pc + 3) L S h) : G pc L ((0, b) :: (0, a) :: S) h := by
  by_cases hc : b < a
  · refine g.step (kt hc) ?_
    intro D sz h0 p l e R s m args below meth c Qw C H locs cells slots ls st a2 a3 a4 a1 kk
    obtain ⟨_, r0, rfl, q0, b0⟩ := rSt_c a3
    obtain ⟨x0, rfl, e0⟩ := rV_i q0
    obtain ⟨_, r1, rfl, q1, b1⟩ := rSt_c b0
    obtain ⟨x1, rfl, e1⟩ := rV_i q1
    have hq : b < a ↔ x0 < x1 := by rw [← e1, ← e0]; exact Int32.lt_iff_toInt_lt.symm
    exact lv_icmp_gt C.1 C.2.1 hd ht (fun _ => kk ls _ (fun _ q => q) a2 b1 a4) (fun z => absurd (hq.mp hc) z)
  · refine g.step (kf hc) ?_
    intro D sz h0 p l e R s m args below meth c Qw C H locs cells slots ls st a2 a3 a4 a1 kk
    obtain ⟨_, r0, rfl, q0, b0⟩ := rSt_c a3
    obtain ⟨x0, rfl, e0⟩ := rV_i q0
    obtain ⟨_, r1, rfl, q1, b1⟩ := rSt_c b0
    obtain ⟨x1, rfl, e1⟩ := rV_i q1
    have hq : b < a ↔ x0 < x1 := by rw [← e1, ← e0]; exact Int32.lt_iff_toInt_lt.symm
    exact lv_icmp_gt C.1 C.2.1 hd ht (fun z => absurd (hq.mpr z) hc) (fun _ => kk ls _ (fun _ q => q) a2 b1 a4)
theorem Gx.goto (g : Gd M d h0 R G) {off : Int} {tgt : Nat} (hd : decode M.2.1 pc = .ok (.goto off, 3)) (ht : (pc : Int) + off = (tgt : Int)) (k : G tgt L S h) : G pc L S h := by
  refine g.step k ?_
  intro D sz h0 p l e R s m args below meth c Qw C H locs cells slots ls st a2 a3 a4 a1 kk
  exact lv_goto C.1 C.2.1 hd ht (kk ls _ (fun _ q => q) a2 a3 a4)
theorem Gx.tabOut (g : Gd M d h0 R G) {a dflt lo hi : Int} {offs : Array Int} {len tgt : Nat} (hd : decode M.2.1 pc = .ok (.tableswitch dflt lo hi offs, len)) (hc : a < lo ∨ hi < a) (ht : (pc : Int) + dflt = (tgt : Int)) (k : G tgt L S h) : G pc L ((0, a) :: S) h := by
  refine g.step k ?_
  intro D sz h0 p l e R s m args below meth c Qw C H locs cells slots ls st a2 a3 a4 a1 kk
  obtain ⟨_, r0, rfl, q0, b0⟩ := rSt_c a3
  obtain ⟨x0, rfl, e0⟩ := rV_i q0
  exact lv_tableOut C.1 C.2.1 hd (by rw [e0]; exact hc) ht (kk ls _ (fun _ q => q) a2 b0 a4)
theorem Gx.tabIn (g : Gd M d h0 R G) {a dflt lo hi off : Int} {offs : Array Int} {len tgt : Nat} (hd : decode M.2.1 pc = .ok (.tableswitch dflt lo hi offs, len)) (h1 : ¬ a < lo) (h2 : ¬ hi < a) (ho : offs[(a - lo).toNat]? = some off) (ht : (pc : Int) + off = (tgt : Int)) (k : G tgt L S h) : G pc L ((0, a) :: S) h := by
  refine g.step k ?_
  intro D sz h0 p l e R s m args below meth c Qw C H locs cells slots ls st a2 a3 a4 a1 kk
  obtain ⟨_, r0, rfl, q0, b0⟩ := rSt_c a3
  obtain ⟨x0, rfl, e0⟩ := rV_i q0
  exact lv_tableIn C.1 C.2.1 hd (by rw [e0]; exact h1) (by rw [e0]; exact h2) (by rw [e0]; exact ho) ht (kk ls _ (fun _ q => q) a2 b0 a4)
theorem Gx.ist (g : Gd M d h0 R G) {L' : List mV} {i len : Nat} {x : Int} (hd : dSt M.2.1 pc i len Instr.istore_n Instr.istore) (hs : stO L L' i) (hi : i < L.length) (hv : L'[i]? = some (0, x)) (hi0 : i ≠ 0) (k : G (pc + len) L' S h) : G pc L ((0, x) :: S) h := by
  refine g.step k ?_
  intro D sz h0 p l e R s m args below meth c Qw C H locs cells slots ls st a2 a3 a4 a1 kk
  obtain ⟨_, r0, rfl, q0, b0⟩ := rSt_c a3
  obtain ⟨x0, rfl, e0⟩ := rV_i q0
  obtain ⟨ls', e', h'⟩ := st_one a2 hs hi hv q0 rfl
  have kk2 := kk ls' _ (st_keep a2.2.1 (by rw [a2.1]; exact hi) rfl hi0 e') h' b0 (hs.1.trans a4)
  intro T hT X
  obtain ⟨t, a, b⟩ := kk2 T hT X
  refine ⟨t, ?_, b⟩
  obtain ⟨hexec, hb, -⟩ := C
  rcases hd with ⟨j, rfl, hdg, rfl⟩ | ⟨hdg, rfl⟩
  · jvm_step X.here [X.here.top, ↓top_set X.here.top, hexec, hb, hdg, e']
    exact a
  · jvm_step X.here [X.here.top, ↓top_set X.here.top, hexec, hb, hdg, e']
    exact a
theorem Gx.ast (g : Gd M d h0 R G) {L' : List mV} {i len : Nat} {x : Int} (hd : dSt M.2.1 pc i len Instr.astore_n Instr.astore) (hs : stO L L' i) (hi : i < L.length) (hv : L'[i]? = some (2, x)) (hi0 : i ≠ 0) (k : G (pc + len) L' S h) : G pc L ((2, x) :: S) h := by
  refine g.step k ?_
  intro D sz h0 p l e R s m args below meth c Qw C H locs cells slots ls st a2 a3 a4 a1 kk
  obtain ⟨_, r0, rfl, q0, b0⟩ := rSt_c a3
  obtain ⟨ls', e', h'⟩ := st_one a2 hs hi hv q0 (rV_cat1 q0 (Or.inr rfl))
  have kk2 := kk ls' _ (st_keep a2.2.1 (by rw [a2.1]; exact hi) (rV_cat1 q0 (Or.inr rfl)) hi0 e') h' b0 (hs.1.trans a4)
  intro T hT X
  obtain ⟨t, a, b⟩ := kk2 T hT X
  refine ⟨t, ?_, b⟩
  obtain ⟨hexec, hb, -⟩ := C
  rcases rV_r q0 with ⟨-, rfl⟩ | ⟨-, rfl⟩ <;> rcases hd with ⟨j, rfl, hdg, rfl⟩ | ⟨hdg, rfl⟩ <;>
  · jvm_step X.here [X.here.top, ↓top_set X.here.top, hexec, hb, hdg, e', Value.isRef]
    exact a
theorem Gx.iinc (g : Gd M d h0 R G) {L' : List mV} {i : Nat} {x n : Int} (hl : L[i]? = some (0, x)) (hd : decode M.2.1 pc = .ok (.iinc i n, 3)) (hs : stO L L' i) (hv : L'[i]? = some (0, w32 (x + n))) (hi0 : i ≠ 0) (k : G (pc + 3) L' S h) : G pc L S h := by
  refine g.step k ?_
  intro D sz h0 p l e R s m args below meth c Qw C H locs cells slots ls st a2 a3 a4 a1 kk
  obtain ⟨v, hg, q⟩ := a2.2.2 _ _ hl (show 0 < 3 by decide)
  obtain ⟨y, rfl, ey⟩ := rV_i q
  have hi : i < L.length := (List.getElem?_eq_some_iff.mp hl).1
  obtain ⟨ls', e', h'⟩ := st_one a2 hs hi hv (x := .int (y + Int32.ofInt n)) (mI ((add32 ey (t32 n)).trans (by rw [w32_add]))) rfl
  have kk2 := kk ls' _ (st_keep a2.2.1 (by rw [a2.1]; exact hi) rfl hi0 e') h' a3 (hs.1.trans a4)
  intro T hT X
  obtain ⟨t, a, b⟩ := kk2 T hT X
  refine ⟨t, ?_, b⟩
  obtain ⟨hexec, hb, -⟩ := C
  jvm_step X.here [X.here.top, ↓top_set X.here.top, hexec, hb, hd, hg, e']
  exact a
theorem Gx.getf (g : Gd M d h0 R G) {a x : Int} {c k ix tg N : Nat} {C : String} {T : u_T} (hc : kC c C T N) (hk : k < N) (htg : fTg c k = tg) (hw : Cond.fieldLink M.1.cls ix C (T k).2.1 (T k).2.2.1 ∈ tW) (hd : decode M.2.1 pc = .ok (.getfield ix, 3)) (ha : hK h a = c) (hv : hF h a k = x) (k0 : G (pc + 3) L ((tg, x) :: S) h) : G pc L ((2, a) :: S) h := by
  subst htg
  subst hv
  refine g.step k0 ?_
  intro D sz h0 p l e R s m args below meth c0 Qw C H locs cells slots ls st a2 a3 a4 a1 kk
  obtain ⟨hx, hb, -, ho, ht, hnw, -, -, -, -, -, hkD, -⟩ := C
  obtain ⟨v, r, rfl, q, b0⟩ := rSt_c a3
  obtain ⟨hc1, hc2, hc3, hc4, hc5, hc6, hc7, -⟩ := hc
  obtain ⟨n, cell, rfl, hn, g1, g2, g3, g4⟩ := rC_obj a1 ha hc3
  have := rV_obj q
  subst this
  obtain ⟨hS, hfc, kC, hkC, hkind⟩ := hkD.1.1 c _ hc1
  obtain ⟨cf, kf, fi, f, hi, hsl⟩ := hS k hk
  obtain ⟨y, y1, y2⟩ := g4 k (by omega)
  dsimp only at hi hsl
  have hst := (u_facts hfc hkC (u_lays ht hc4 hk) hi).1
  rw [hc7 k hk] at hi
  refine W.getf hx hb ho (ht _ hw) hi hst g1 (by rw [g2]; exact fun z => by cases z) (v := y) (by rw [hsl]; exact y1) rfl rfl hd ?_
  exact kk ls _ (fun _ q => q) a2 ⟨y2, b0⟩ a4
theorem Gx.iaload (g : Gd M d h0 R G) {a i x : Int} (hd : decode M.2.1 pc = .ok (.iaload, 1)) (ha : hK h a = 10) (h1 : 0 ≤ i) (h2 : i < hL h a) (hv : hA h a i = x) (k0 : G (pc + 1) L ((0, x) :: S) h) : G pc L ((0, i) :: (2, a) :: S) h := by
  subst hv
  refine g.step k0 ?_
  intro D sz h0 p l e R s m args below meth c0 Qw C H locs cells slots ls st a2 a3 a4 a1 kk
  obtain ⟨hx, hb, hml, ho, ht, hnw, hrt, hlk, hnm, hfr, hlo, hkD, hsz⟩ := C
  obtain ⟨v, r, rfl, qv, b0⟩ := rSt_c a3
  obtain ⟨v2, r2', rfl, q, b1⟩ := rSt_c b0
  obtain ⟨j, rfl, ej⟩ := rV_i qv
  obtain ⟨n, cell, rfl, hn, g1, g2, g3, g4, g5⟩ := rC_arr a1 ha (by decide) (by decide)
  have := rV_obj q
  subst this
  obtain ⟨i1, i2, i3⟩ := idx32 ej h1 (show i < (cell.slots.size : Int) by omega)
  obtain ⟨y, y1, y2⟩ := g5 i.toNat i3
  rw [show ((i.toNat : Nat) : Int) = i by omega] at y2
  exact W.iald hx hb g1 (arr_is g2 g3 (hkD.1.2 0 _ rfl).1) (by rw [g2]; exact fun z => by cases z) i1 (by rw [i2]; exact y1) rfl rfl hd (kk ls _ (fun _ q => q) a2 ⟨y2, b1⟩ a4)
theorem Gx.lastore (g : Gd M d h0 R G) {a i x : Int} (hd : decode M.2.1 pc = .ok (.lastore, 1)) (ha : hK h a = 11) (h1 : 0 ≤ i) (h2 : i < hL h a) (k0 : G (pc + 1) L S (sE h a i x)) (rm : hN (sE h a i x) - hN h0 ≤ R.cells ∧ hZ (sE h a i x) - hZ h0 ≤ R.slots) : G pc L ((1, x) :: (0, i) :: (2, a) :: S) h := by
  refine g.stepH k0 (Nat.le_refl _) (Nat.le_refl _) rm ?_
  intro D sz h0 p l e R s m args below meth c0 Qw C H locs ls st a2 a3 a4 a1 r1 r2 n1 n2 kk
  obtain ⟨hx, hb', hml, ho, ht, hnw, hrt, hlk, hnm, hfr, hlo, hkD, hsz⟩ := C
  obtain ⟨vv, r, rfl, qx, b0⟩ := rSt_c a3
  obtain ⟨v, r2', rfl, qv, b1⟩ := rSt_c b0
  obtain ⟨v2, r3', rfl, q, b2⟩ := rSt_c b1
  obtain ⟨u, rfl, eu⟩ := rV_l qx
  obtain ⟨j, rfl, ej⟩ := rV_i qv
  obtain ⟨n, cell, rfl, hn, g1, g2, g3, g4, g5⟩ := rC_arr a1 ha (by decide) (by decide)
  have := rV_obj q
  subst this
  obtain ⟨i1, i2, i3⟩ := idx32 ej h1 (show i < (cell.slots.size : Int) by omega)
  refine W.last hx hb' g1 (arr_is g2 g3 (hkD.1.2 1 _ rfl).1) (by rw [g2]; exact fun z => by cases z) i1 rfl rfl hd fun H' e1 e2 e3 => ?_
  rw [i2] at e1 ⊢
  have hrH := rH_elem (i := i.toNat) a1 ha (by decide) (by decide) g2 g3 g4 g5 qx e1 e2 e3
  rw [show ((i.toNat : Nat) : Int) = i by omega] at hrH
  exact kk H' _ ls _ rfl a2 b2 a4 hrH mem_loc (fun q hq => e3 q (Nat.ne_of_lt (Nat.lt_of_lt_of_le hq (Nat.le_add_right _ _))))
theorem Gx.new (g : Gd M d h0 R G) {c ix N : Nat} {C : String} {T : u_T} (hc : kC c C T N) (hw : Cond.classLink M.1.cls ix C ∈ tW) (hd : decode M.2.1 pc = .ok (.new ix, 3)) (k0 : G (pc + 3) L ((2, (hN h : Int)) :: S) (nO h c)) (rm : hN (nO h c) - hN h0 ≤ R.cells ∧ hZ (nO h c) - hZ h0 ≤ R.slots) : G pc L S h := by
  refine g.stepH k0 (Nat.le_succ _) (Nat.le_add_right _ _) rm ?_
  intro D sz h0 p l e R s m args below meth c0 Qw C H locs ls st a2 a3 a4 a1 r1 r2 n1 n2 kk
  obtain ⟨hx, hb, hml, ho, ht, hnw, hrt, hlk, hnm, hfr, hlo, hkD, hsz⟩ := C
  obtain ⟨hc1, hc2, hc3, hc4, hc5, hc6, hc7, hc8, hc9, hc10⟩ := hc
  have hKn := hkD.1.1 c _ hc1
  have e1 : hN (nO h c) = hN h + 1 := rfl
  have e2 : hZ (nO h c) = hZ h + N := by rw [← hc2]; rfl
  rw [e1] at r1
  rw [e2] at r2
  refine W.newcK hx hb ho (ht _ hw) (ht _ hc9) (ht _ hc10) rfl hd (by omega) (by omega) hKn.2.1 rfl fun H1 kC hkC f1 z1 o1 => ?_
  refine W.cs (show hN h - hN h0 + 1 = hN (nO h c) - hN h0 by rw [e1]; omega) (show hZ h - hZ h0 + N = hZ (nO h c) - hZ h0 by rw [e2]; omega) ?_
  have hsz2 : H.size = sz + hN h := a1.1
  refine kk H1 locs ls _ rfl a2 ⟨mR (by rw [hsz2]; omega) (by omega), a3⟩ a4 (rH_push a1 z1 o1 e1 (fun a ha => u1_n _ _ ha) (fun a _ => rfl) (fun a ha => u1_n _ _ ha) (fun a _ => rfl) ?_) (fun q hq => Or.inr hq) (fun q hq => o1 q (by omega))
  obtain ⟨cell, q1, q2, q3, q4⟩ := u_born (cTy c) ht hc4 hKn hkC f1 hc5
  rw [hsz2] at q1
  have hkk : hK (nO h c) (hN h : Int) = c := u1_s _ _ _
  refine ⟨cell, q1, Or.inl ?_⟩
  rw [hkk]
  refine ⟨hc3, q3, q2, fun k hk => ⟨_, q4 k (by omega), ?_⟩⟩
  have hff : hF (nO h c) (hN h : Int) k = dfl (fTg c k) := congrFun (u1_s _ _ _) k
  rw [hff]
  exact pTy_dfl (Or.inl (hc8 k (by omega)))
theorem Gx.newJ (g : Gd M d h0 R G) {n : Int} (hw : Cond.arrayClass .long ∈ tW) (hd : decode M.2.1 pc = .ok (.newarray .long, 2)) (h1 : 0 ≤ n) (h2 : n ≤ 1000000) (k0 : G (pc + 2) L ((2, (hN h : Int)) :: S) (nA h 11 n)) (rm : hN (nA h 11 n) - hN h0 ≤ R.cells ∧ hZ (nA h 11 n) - hZ h0 ≤ R.slots) : G pc L ((0, n) :: S) h := by
  refine g.stepH k0 (Nat.le_succ _) (Nat.le_add_right _ _) rm ?_
  intro D sz h0 p l e R s m args below meth c0 Qw C H locs ls st a2 a3 a4 a1 r1 r2 n1 n2 kk
  obtain ⟨hx, hb, hml, ho, ht, hnw, hrt, hlk, hnm, hfr, hlo, hkD, hsz⟩ := C
  obtain ⟨v, r, rfl, qv, b0⟩ := rSt_c a3
  obtain ⟨j, rfl, ej⟩ := rV_i qv
  have e1 : hN (nA h 11 n) = hN h + 1 := rfl
  have e2 : hZ (nA h 11 n) = hZ h + n.toNat := rfl
  rw [e1] at r1
  rw [e2] at r2
  have hj0 : ¬ j < 0 := fun z => by
    have := Int32.lt_iff_toInt_lt.mp z
    rw [ej] at this
    exact absurd this (by show ¬ n < 0; omega)
  have hjn : j.toNatClampNeg = n.toNat := by show j.toInt.toNat = _; rw [ej]
  have hsz2 : H.size = sz + hN h := a1.1
  refine va_newaK (atype := .long) hx hb (ht _ hw) rfl hd rfl hj0 hjn (by show n.toNat * 8 ≤ _; omega) (by omega) (by omega) hsz2 fun H1 cA f1 z1 o1 hArr hNm => ?_
  refine W.cs (show hN h - hN h0 + 1 = hN (nA h 11 n) - hN h0 by rw [e1]; omega) (show hZ h - hZ h0 + n.toNat = hZ (nA h 11 n) - hZ h0 by rw [e2]; omega) ?_
  have hcA : cA = D.2.2 11 := Option.some.inj (hNm.symm.trans (hkD.1.2 1 _ rfl).2)
  refine kk H1 locs ls _ rfl a2 ⟨mR (by omega) (by omega), b0⟩ a4 (rH_push a1 (by rw [z1, hsz2]) (fun q hq => o1 q (by omega)) e1 (fun a ha => u1_n _ _ ha) (fun a ha => u1_n _ _ ha) (fun a _ => rfl) (fun a ha => u1_n _ _ ha) ?_) (fun q hq => Or.inr hq) (fun q hq => o1 q (by omega))
  have hkk : hK (nA h 11 n) (hN h : Int) = 11 := u1_s _ _ _
  have hll : hL (nA h 11 n) (hN h : Int) = n := u1_s _ _ _
  have haa : hA (nA h 11 n) (hN h : Int) = fun _ => dfl (aTg 11) := u1_s _ _ _
  refine ⟨_, f1, Or.inr (Or.inl ?_)⟩
  rw [hkk, hll, haa, arrV_size]
  refine ⟨by decide, by decide, rfl, hcA, by omega, fun i hi => ⟨_, arrV_read _ _ hi, ?_⟩⟩
  exact pTy_dfl (ty := .long) (by first | exact Or.inl rfl | exact Or.inr (Or.inl rfl) | exact Or.inr (Or.inr rfl))
theorem Gx.callV (g : Gd M (d + 1) h0 R G) {M' : mM} {av S0 : List mV} {a : Int} {h1 : mH} {v : Option mV} {c ix n N : Nat} {T : u_T} (hF : Ct M' d ((2, a) :: av) h v h1) (hw : wC M.1.cls M' ix n) (hin : Cond.instanceMethod M'.1 ∈ tW) (hse : Cond.selects M'.1.cls M'.1 M'.1 ∈ tW) (hc : kC c M'.1.cls T N) (ha : hK h a = c) (hd : decode M.2.1 pc = .ok (.invokevirtual ix, 3)) (hn : av.length = n) (hl : (eS ((2, a) :: av)).length ≤ M'.2.2.1) (hst : S0 = av.reverse ++ (2, a) :: S) (h8 : wSt S ≤ 8) (k : G (pc + 3) L (v.toList ++ S) h1) (rm : hN h1 - hN h0 ≤ R.cells ∧ hZ h1 - hZ h0 ≤ R.slots) : G pc L S0 h := by
  subst hst
  refine g.after k hF.1 rm ?_
  intro D sz h0 p l e R s m args below meth c0 C H locs ls st a2 a3 a4 a1 r1 r2
  obtain ⟨hx, hb, hml, ho, ht, hnw, hrt, hlk, hnm, hfr, hlo, hkD, hsz⟩ := C
  obtain ⟨s1, s2, rfl, b1, b2⟩ := rSt_app a3
  obtain ⟨x, st', rfl, q, b3⟩ := rSt_c b2
  obtain ⟨na, cell, rfl, hna, g1, g2, g3, -⟩ := rC_obj a1 ha hc.2.2.1
  have := rV_obj q
  subst this
  have hav : rSt sz ((2, (na : Int)) :: av) (.ref (sz + na) :: s1.reverse) := ⟨q, by have := rSt_rev b1; rwa [List.reverse_reverse] at this⟩
  refine ⟨st', (Value.ref (sz + na) :: s1.reverse).toArray, b3, ?_⟩
  have hcls : s.vm.findClass M'.1.cls = some cell.cls := by rw [g3]; exact (hkD.1.1 c _ hc.1).2.1
  exact W.runV (Ts := tW) ⟨hx, hb, hml, ho, ht⟩ (hF.met hl hw.2.2.2.2.2.2 l D sz) ⟨callB_my hw ht hfr hlo, ht _ hin, ht _ hse⟩ ⟨pM_blind, ⟨cell, g1, by rw [g2]; rfl, hcls⟩, pM_pre hav a1 hkD hnw⟩ rfl (by rw [List.length_reverse, ← rSt_len b1, List.length_reverse]; exact hn) (by rw [a2.1, a4]) (by rw [List.reverse_reverse]) (by rw [wSt_cat b3]; exact Nat.le_trans (by show 2 * 0 + _ ≤ _; omega) h8) hd ⟨r1, r2⟩
theorem Gx.callI (g : Gd M (d + 1) h0 R G) {M' : mM} {av S0 : List mV} {a : Int} {h1 : mH} {c ix n : Nat} (hF : Ct M' d ((2, a) :: av) h none h1) (hw : wC M.1.cls M' ix n) (hr : M'.2.2.2 = none) (hin : Cond.instanceMethod M'.1 ∈ tW) (hni : M'.1.name = "<init>") (ha : hK h a = c) (hc7 : c < 7) (hd : decode M.2.1 pc = .ok (.invokespecial ix, 3)) (hn : av.length = n) (hl : (eS ((2, a) :: av)).length ≤ M'.2.2.1) (hst : S0 = av.reverse ++ (2, a) :: S) (h8 : wSt S ≤ 8) (k : G (pc + 3) L S h1) (rm : hN h1 - hN h0 ≤ R.cells ∧ hZ h1 - hZ h0 ≤ R.slots) : G pc L S0 h := by
  subst hst
  refine Gd.after (v := none) (S := S) g k hF.1 rm ?_
  intro D sz h0 p l e R s m args below meth c0 C H locs ls st a2 a3 a4 a1 r1 r2
  obtain ⟨hx, hb, hml, ho, ht, hnw, hrt, hlk, hnm, hfr, hlo, hkD, hsz⟩ := C
  obtain ⟨s1, s2, rfl, b1, b2⟩ := rSt_app a3
  obtain ⟨x, st', rfl, q, b3⟩ := rSt_c b2
  obtain ⟨na, cell, rfl, hna, g1, g2, g3, -⟩ := rC_obj a1 ha hc7
  have := rV_obj q
  subst this
  have hav : rSt sz ((2, (na : Int)) :: av) (.ref (sz + na) :: s1.reverse) := ⟨q, by have := rSt_rev b1; rwa [List.reverse_reverse] at this⟩
  refine ⟨st', (Value.ref (sz + na) :: s1.reverse).toArray, b3, ?_⟩
  have cb := callB_my (h := h) (h1 := h1) hw ht hfr hlo
  rw [hr] at cb
  exact W.runI (Ts := tW) ⟨hx, hb, hml, ho, ht⟩ (hF.met hl hw.2.2.2.2.2.2 l D sz) ⟨cb, hni, ht _ hin⟩ ⟨pM_blind, pM_pre hav a1 hkD hnw⟩ rfl (by rw [List.length_reverse, ← rSt_len b1, List.length_reverse]; exact hn) (by rw [a2.1, a4]) (by rw [List.reverse_reverse]) (by rw [wSt_cat b3]; exact Nat.le_trans (by show 2 * 0 + _ ≤ _; omega) h8) hd ⟨r1, r2⟩
end GDX
