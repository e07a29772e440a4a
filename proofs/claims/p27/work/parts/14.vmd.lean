section VMD
variable {M : mM} {d pc : Nat} {L S : List mV} {h : mH} {Q : Option mV → mH → Prop}
/-- a row that changes the heap -/
theorem Wp.stepH {pc' : Nat} {L' S' : List mV} {h2 : mH} (k : Wp M d pc' L' S' h2 Q) (hn : hN h ≤ hN h2) (hz : hZ h ≤ hZ h2)
    (f : ∀ (D : mD) (sz : Nat) (h0 : mH) (p : Program) (l : Launch) (e : Env) (R : Room) (s : State) (m : MethodId) (args : Array Value) (below : List Frame) (meth : Method) (c : Code) (Qw : State → Prop),
      cX M d D sz h0 p R s m args meth c → ∀ (H : Heap) (locs : List Loc) (ls : Array Slot) (st : List Value), rLs sz L ls → rSt sz S st → L.length = M.2.2.1 → rH D sz h H → hN h2 - hN h0 ≤ R.cells → hZ h2 - hZ h0 ≤ R.slots → hN h0 ≤ hN h → hZ h0 ≤ hZ h →
      (∀ (H' : Heap) (locs' : List Loc) (ls' : Array Slot) (st' : List Value), rLs sz L' ls' → rSt sz S' st' → L'.length = M.2.2.1 → rH D sz h2 H' → (∀ q ∈ locs', sz ≤ q.base ∨ q ∈ locs) → (∀ q : Nat, q < sz → H'[q]? = H[q]?) →
        W p l e R s m args below meth c H' locs' (hN h2 - hN h0) (hZ h2 - hZ h0) Qw (F0 m pc' ls' st')) → W p l e R s m args below meth c H locs (hN h - hN h0) (hZ h - hZ h0) Qw (F0 m pc ls st)) : Wp M d pc L S h Q := by
  obtain ⟨v, h', ⟨hle, k⟩, q⟩ := k
  refine ⟨v, h', ⟨⟨Nat.le_trans hn hle.1, Nat.le_trans hz hle.2⟩, ?_⟩, q⟩
  intro D sz h0 p l e R s m args below meth c C r1 r2 H locs ls st A
  obtain ⟨a1, a2, a3, a4, a5, a6, a7, a8⟩ := A
  refine f D sz h0 p l e R s m args below meth c _ C H locs ls st a2 a3 a4 a1 (by omega) (by omega) a7 a8 (fun H' locs' ls' st' b2 b3 b4 b1 b5 b6 => k D sz h0 p l e R s m args below meth c C r1 r2 H' locs' ls' st' ⟨b1, b2, b3, b4, ?_, fun q hq => (b6 q hq).trans (a6 q hq), by omega, by omega⟩)
  intro q hq
  rcases b5 q hq with z | z
  · exact z
  · exact a5 q z
theorem rH_at {D : mD} {sz : Nat} {h : mH} {H : Heap} (hr : rH D sz h H) {a : Int} (hk : hK h a ≠ 98) : ∃ n : Nat, a = n ∧ n < hN h ∧ rC D sz h n H := by
  by_cases h1 : a < 0 ∨ (hN h : Int) ≤ a
  · exact absurd (hr.2.2 a h1) hk
  · exact ⟨a.toNat, by omega, by omega, hr.2.1 _ (by omega)⟩
/-- a cell is changed, the others stay: the heap's picture with that cell's told anew -/
theorem rH_set {D : mD} {sz : Nat} {h h2 : mH} {H H' : Heap} {n : Nat} (hr : rH D sz h H) (e2 : H'.size = H.size) (e3 : ∀ q, q ≠ sz + n → H'[q]? = H[q]?) (hN2 : hN h2 = hN h) (hK2 : hK h2 = hK h) (hL2 : hL h2 = hL h) (hF2 : ∀ a : Nat, a ≠ n → hF h2 a = hF h a) (hA2 : ∀ a : Nat, a ≠ n → hA h2 a = hA h a) (hc : rC D sz h2 n H') : rH D sz h2 H' := by
  refine ⟨by rw [e2, hr.1, hN2], fun a ha => ?_, fun a ha => ?_⟩
  · by_cases hz : a = n
    · subst hz
      exact hc
    · obtain ⟨cell, c1, c2⟩ := hr.2.1 a (by omega)
      refine ⟨cell, (e3 (sz + a) (by omega)).trans c1, ?_⟩
      rw [hK2, hL2, hF2 a hz, hA2 a hz]
      exact c2
  · rw [hK2]
    exact hr.2.2 a (by omega)
/-- a new cell -/
theorem rH_push {D : mD} {sz : Nat} {h h2 : mH} {H H' : Heap} (hr : rH D sz h H) (z1 : H'.size = H.size + 1) (o1 : ∀ q, q < H.size → H'[q]? = H[q]?) (hN2 : hN h2 = hN h + 1) (hK2 : ∀ a : Int, a ≠ hN h → hK h2 a = hK h a) (hL2 : ∀ a : Int, a ≠ hN h → hL h2 a = hL h a) (hF2 : ∀ a : Int, a ≠ hN h → hF h2 a = hF h a) (hA2 : ∀ a : Int, a ≠ hN h → hA h2 a = hA h a) (hc : rC D sz h2 (hN h) H') : rH D sz h2 H' := by
  refine ⟨by rw [z1, hr.1, hN2]; omega, fun a ha => ?_, fun a ha => ?_⟩
  · by_cases hz : a = hN h
    · subst hz
      exact hc
    · obtain ⟨cell, c1, c2⟩ := hr.2.1 a (by omega)
      refine ⟨cell, (o1 (sz + a) (by rw [hr.1]; omega)).trans c1, ?_⟩
      have hne : (a : Int) ≠ (hN h : Int) := by omega
      rw [hK2 a hne, hL2 a hne, hF2 a hne, hA2 a hne]
      exact c2
  · rw [hK2 a (by omega)]
    exact hr.2.2 a (by omega)
def pTy : FieldType → Bool
  | .int => true
  | .long => true
  | .object _ => true
  | .array _ => true
  | _ => false
theorem pTy_fits {sz : Nat} {ty : FieldType} {i : Int} {x : Value} (hp : pTy ty = true) (hx : rV sz (tgT ty, i) x) : narrow ty x = x ∧ fits ty x = true := by
  cases ty <;> first | (simp [pTy] at hp; done) | skip
  all_goals
    cases x <;> first | exact ⟨rfl, rfl⟩ | (exact absurd (Prod.mk.inj hx).1 (by simp [tgT])) | (exact absurd (Prod.mk.inj hx.2).1 (by simp [tgT])) | exact hx.elim
theorem pTy_dfl {sz : Nat} {ty : FieldType} (hp : pTy ty = true ∨ ty = .boolean ∨ ty = .byte) : rV sz (tgT ty, dfl (tgT ty)) (defaultValue ty) := by
  rcases hp with hp | rfl | rfl
  · cases ty <;> first | (simp [pTy] at hp; done) | rfl
  · rfl
  · rfl
/-- what is known of an object's kind -/
def kC (c : Nat) (C : String) (T : u_T) (N : Nat) : Prop := vwCl[c]? = some (C, T, N) ∧ cNf c = N ∧ c < 7 ∧ (∀ w ∈ u_ws C T N, w ∈ tW) ∧ (∀ k, k < N → parseFieldDescriptor (T k).2.2.1 = some (cTy c k)) ∧ (∀ a, a < N → ∀ b, b < N → a ≠ b → (T a).2.1 ≠ (T b).2.1) ∧ (∀ k, k < N → (T k).1 = C) ∧ (∀ k, k < N → pTy (cTy c k) = true) ∧ Cond.instantiable C N ∈ tW ∧ Cond.initialized C ∈ tW
theorem kC_in {c N : Nat} {C : String} {T : u_T} (h : (u_ws C T N).all (fun w => decide (w ∈ lw_tbl) && goodWord w) = true) : ∀ w ∈ u_ws C T N, w ∈ tW := by
  intro w hw
  have h1 := List.all_eq_true.mp h w hw
  simp only [Bool.and_eq_true, decide_eq_true_eq] at h1
  exact List.mem_filter.mpr h1
theorem tW_d {w : Cond} (h : (decide (w ∈ lw_tbl) && goodWord w) = true) : w ∈ tW := by
  simp only [Bool.and_eq_true, decide_eq_true_eq] at h
  exact List.mem_filter.mpr h
/-- an object's cell -/
theorem rC_obj {D : mD} {sz : Nat} {h : mH} {H : Heap} {a : Int} {c : Nat} (hr : rH D sz h H) (ha : hK h a = c) (hc : c < 7) : ∃ (n : Nat) (cell : Cell), a = n ∧ n < hN h ∧ H[sz + n]? = some cell ∧ cell.vm = .none ∧ cell.cls = D.1 c ∧ ∀ k, k < cNf c → ∃ x, cell.slots[D.2.1 c k]? = some x ∧ rV sz (fTg c k, hF h a k) x := by
  obtain ⟨n, rfl, hn, cell, c1, c2⟩ := rH_at hr (a := a) (by omega)
  rw [ha] at c2
  rcases c2 with ⟨-, g1, g2, g3⟩ | ⟨z, -⟩ | z
  · exact ⟨n, cell, rfl, hn, c1, g1, g2, g3⟩
  · omega
  · omega
/-- an array's cell -/
theorem rC_arr {D : mD} {sz : Nat} {h : mH} {H : Heap} {a : Int} {t : Nat} (hr : rH D sz h H) (ha : hK h a = t) (h10 : 10 ≤ t) (h16 : t < 16) : ∃ (n : Nat) (cell : Cell), a = n ∧ n < hN h ∧ H[sz + n]? = some cell ∧ cell.vm = .none ∧ cell.cls = D.2.2 t ∧ (cell.slots.size : Int) = hL h a ∧ ∀ i : Nat, i < cell.slots.size → ∃ x, cell.slots[i]? = some x ∧ rV sz (aTg t, hA h a i) x := by
  obtain ⟨n, rfl, hn, cell, c1, c2⟩ := rH_at hr (a := a) (by omega)
  rw [ha] at c2
  rcases c2 with ⟨z, -⟩ | ⟨-, -, g1, g2, g3, g4⟩ | z
  · omega
  · exact ⟨n, cell, rfl, hn, c1, g1, g2, g3, g4⟩
  · omega
/-- a reference that is no null, as the machine has it -/
theorem rV_obj {sz : Nat} {n : Nat} {x : Value} (hx : rV sz (2, (n : Int)) x) : x = .ref (sz + n) := by
  rcases rV_r hx with ⟨z, -⟩ | ⟨-, z⟩
  · omega
  · exact z
theorem Wp.getf {a x : Int} {c k ix tg N : Nat} {C : String} {T : u_T} (hc : kC c C T N) (hk : k < N) (htg : fTg c k = tg) (hw : Cond.fieldLink M.1.cls ix C (T k).2.1 (T k).2.2.1 ∈ tW) (hd : decode M.2.1 pc = .ok (.getfield ix, 3)) (ha : hK h a = c) (hv : hF h a k = x) (k0 : Wp M d (pc + 3) L ((tg, x) :: S) h Q) : Wp M d pc L ((2, a) :: S) h Q := by
  subst htg
  subst hv
  refine k0.step ?_
  intro D sz h0 p l e R s m args below meth c0 Qw C H locs cells slots ls st a2 a3 a4 a1 kk
  obtain ⟨hx, hb, -, ho, ht, hnw, -, -, -, -, -, hkD, -⟩ := C
  obtain ⟨v, r, rfl, q, b0⟩ := rSt_c a3
  obtain ⟨hc1, hc2, hc3, hc4, hc5, hc6, hc7, -⟩ := hc
  obtain ⟨n, cell, rfl, hn, g1, g2, g3, g4⟩ := rC_obj a1 ha hc3
  have := rV_obj q
  subst this
  obtain ⟨hS, hfc, kC, hkC, hkind⟩ := hkD.1.1 c _ hc1
  obtain ⟨cf, kf, fi, f, hi, hsl⟩ := hS k hk
  obtain ⟨y, y1, y2⟩ := g4 k (by omega)
  dsimp only at hi hsl
  have hst := (u_facts hfc hkC (u_lays ht hc4 hk) hi).1
  rw [hc7 k hk] at hi
  refine W.getf hx hb ho (ht _ hw) hi hst g1 (by rw [g2]; exact fun z => by cases z) (v := y) (by rw [hsl]; exact y1) rfl rfl hd ?_
  exact kk ls _ a2 ⟨y2, b0⟩ a4
theorem Wp.getfN {a x : Int} {c k ix tg N : Nat} {C : String} {T : u_T} {host : String} (hc : kC c C T N) (hk : k < N) (htg : fTg c k = tg) (hw : Cond.fieldLinkNest M.1.cls ix C (T k).2.1 (T k).2.2.1 host ∈ nW) (hd : decode M.2.1 pc = .ok (.getfield ix, 3)) (ha : hK h a = c) (hv : hF h a k = x) (k0 : Wp M d (pc + 3) L ((tg, x) :: S) h Q) : Wp M d pc L ((2, a) :: S) h Q := by
  subst htg
  subst hv
  refine k0.step ?_
  intro D sz h0 p l e R s m args below meth c0 Qw C H locs cells slots ls st a2 a3 a4 a1 kk
  obtain ⟨hx, hb, -, ho, ht, hnw, -, -, -, -, -, hkD, -⟩ := C
  obtain ⟨v, r, rfl, q, b0⟩ := rSt_c a3
  obtain ⟨hc1, hc2, hc3, hc4, hc5, hc6, hc7, -⟩ := hc
  obtain ⟨n, cell, rfl, hn, g1, g2, g3, g4⟩ := rC_obj a1 ha hc3
  have := rV_obj q
  subst this
  obtain ⟨hS, hfc, kC, hkC, hkind⟩ := hkD.1.1 c _ hc1
  obtain ⟨cf, kf, fi, f, hi, hsl⟩ := hS k hk
  obtain ⟨y, y1, y2⟩ := g4 k (by omega)
  dsimp only at hi hsl
  have hst := (u_facts hfc hkC (u_lays ht hc4 hk) hi).1
  rw [hc7 k hk] at hi
  refine va_Wgetf hx hb ho (va_Nw.use rfl (hnw _ hw)) hi hst g1 (by rw [g2]; exact fun z => by cases z) (v := y) (by rw [hsl]; exact y1) rfl rfl hd ?_
  exact kk ls _ a2 ⟨y2, b0⟩ a4
end VMD
