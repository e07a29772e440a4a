section OXB
def bZ (h : mH) (n : Nat) : mH := ((h.1.1, h.1.2 + n), h.2)
/-- one cell more, of no kind that is told -/
def nX (h : mH) : mH := ((h.1.1 + 1, h.1.2 + 6), u1 h.2.1 (h.1.1 : Int) 99, h.2.2)
theorem rH_nX {D : mD} {sz : Nat} {h : mH} {H H' : Heap} (hr : rH D sz h H) (z1 : H'.size = H.size + 1) (o1 : ∀ q, q < H.size → H'[q]? = H[q]?) : rH D sz (nX h) H' := by
  refine rH_push hr z1 o1 rfl (fun a ha => u1_n _ _ ha) (fun a _ => rfl) (fun a _ => rfl) (fun a _ => rfl) ?_
  have hlt : sz + hN h < H'.size := by rw [z1, hr.1]; omega
  exact ⟨H'[sz + hN h], Array.getElem?_eq_getElem hlt, Or.inr (Or.inr (u1_s _ _ _))⟩
/-- what a throw needs of the world -/
def EX (sz sa : Nat) (U : State) (H : Heap) : Prop := vx_Zq Bundle.tN "UNASSIGNED_STACK" Bundle.steD (fun q => sz ≤ q) U H ∧ vx_Zq Bundle.tN "SUPPRESSED_SENTINEL" Bundle.listD (fun q => sz ≤ q) U H ∧ vk_R RX5 290 "OUT has no such byte" sa U ∧ ∀ w ∈ oxB, va_Nw w U
theorem EX.moved {sz sa : Nat} {s U : State} {H H1 : Heap} (hW : s.WarmedH U.vm) (hq : ∀ q : Nat, q < sz → H1[q]? = H[q]?) (ex : EX sz sa s H) : EX sz sa U H1 := by
  refine ⟨vx_Zq.moved hW.alike (ex.1.kept (fun a _ ha => hq a (by omega))), vx_Zq.moved hW.alike (ex.2.1.kept (fun a _ ha => hq a (by omega))), vk_R.warm hW ex.2.2.1, fun w hw => ?_⟩
  have h1 := ex.2.2.2 w hw
  simp only [oxB, List.mem_cons, List.not_mem_nil, or_false] at hw
  rcases hw with rfl | rfl | rfl | rfl
  · exact va_Nw.warmC hW h1
  · exact va_Nw.warmD hW h1
  · exact va_Nw.warmD hW h1
  · exact va_Nw.warmD hW h1
theorem oxB_on : ∀ w ∈ oxB, w.onTables = true := by decide +kernel
def oP (D : mD) (sz sa : Nat) (av : List mV) (h : mH) : Array Value → State → Prop := fun a U => pM D sz av h a U ∧ EX sz sa U U.heap
theorem oP_blind {D : mD} {sz sa : Nat} {av : List mV} {h : mH} : FrameBlind (oP D sz sa av h) := fun a U g mk q => ⟨pM_blind a U g mk q.1, q.2.moved (s := U) (U := U.calling g mk a) (State.WarmedH.refl U) (fun _ _ => rfl)⟩
def oR (d : Nat) : Room := { frames := d, cells := 1, slots := 6, locals := 34 * d }
def oQ (D : mD) (sz : Nat) (h : mH) : Array Value → State → Outcome → State → Prop := fun a st o t => ∃ y : Int, qM D sz (some (0, y)) h a st o t
def oX (D : mD) (sz : Nat) (h : mH) : String → State → State → Prop := fun E st t => E = nSE ∧ rH D sz (nX h) t.heap ∧ ∀ q : Nat, q < sz → t.heap[q]? = st.heap[q]?
def noX : String → State → State → Prop := fun _ _ _ => False
theorem stand_tight {p : Program} {l : Launch} {e : Env} {R : Room} {s : State} {m : MethodId} {args : Array Value} {below : List Frame} {meth : Method} {c : Code} {T : State} {locs : List Loc} {cells slots n : Nat} (X : Stand p l e R s m args below meth c T locs cells slots) (hn : T.heap.size = s.heap.size + n) : Stand p l e R s m args below meth c T locs n slots :=
  ⟨X.admits, X.cas, X.clock, X.frames, X.room, X.hears, X.method, X.code, X.here, X.tail, X.warmed, X.limits, X.bytes, ⟨X.same.1, X.same.2.1, Nat.le_of_eq hn, X.same.2.2.2.1, X.same.2.2.2.2.1, X.same.2.2.2.2.2⟩⟩
theorem st_any {sz : Nat} {L L' : List mV} {ls : Array Slot} {i : Nat} {v : mV} {x : Value} (hr : rLs sz L ls) (hs : stO L L' i) (hi : i < L.length) (hv : L'[i]? = some v) (hx : ¬ v.1 < 3) (hc : x.category = 1) : ∃ ls', storeLocals ls i x = some ls' ∧ rLs sz L' ls' := by
  obtain ⟨kn, hk, hkn⟩ := rLs_known hr
  obtain ⟨ls', e1, e2⟩ := lv_store1 hk hi hc
  refine ⟨ls', e1, by rw [e2.1, hs.1], e2.2.1, fun j u hu ht => ?_⟩
  by_cases hj : j = i
  · subst hj
    cases hv.symm.trans hu
    exact absurd ht hx
  · obtain ⟨h1, h2⟩ := hs.2 j u hj hu ht
    obtain ⟨y, hy, q⟩ := hkn j u h1 ht
    refine ⟨y, e2.2.2 (j, y) (List.mem_cons_of_mem _ (List.mem_filter.mpr ⟨hy, ?_⟩)), q⟩
    have hcat : j + 1 = i → ¬ y.category = 2 := fun hz hy2 => by
      have h3 : ¬ u.1 = 1 := fun z => h2 ⟨hz, z⟩
      have h4 : u.1 = 0 ∨ u.1 = 2 := by omega
      rw [rV_cat1 q h4] at hy2
      cases hy2
    simp only [Bool.and_eq_true, Bool.not_eq_true', beq_eq_false_iff_ne, ne_eq, Bool.and_eq_false_imp, beq_iff_eq]
    exact ⟨hj, fun hz => hcat hz⟩
theorem callB_o {M M' : mM} {d ix n : Nat} {R : Room} {s : State} {args : Array Value} (hw : wC M.1.cls M' ix n) (ht : ∀ w ∈ tW, w.before args s = true) (hfr : d + 1 ≤ R.frames) (hlo : 34 * (d + 1) ≤ R.locals) : CallB R s args M.1.cls ix M'.1 M'.2.1 M'.2.2.1 M'.2.2.2 (wY M') (oR d) 1 6 n := by
  obtain ⟨w1, w2, w3, w4, w5, w6, w7⟩ := hw
  refine ⟨rfl, rfl, hfr, by show 8 + (M'.2.2.1 + 11) + 34 * d ≤ _; omega, fun w hw a' U hW => ?_, List.mem_cons_self, ht _ w2, ht _ w3, w4, fun sig hs => ?_, ht _ w1⟩
  · rcases List.mem_cons.mp hw with rfl | hw
    · exact word_at hW (tW_good _ w2) (ht _ w2)
    · exact word_at hW (tW_good _ hw) (ht _ hw)
  · rw [hs] at w5
    exact (Option.some.inj w5).symm
theorem rV_at {sz : Nat} {n : Nat} {x : Value} (h : rV sz (2, (n : Int)) x) : x = .ref (sz + n) := by
  rcases rV_r h with ⟨z, -⟩ | ⟨-, z⟩
  · omega
  · rw [z, Int.toNat_natCast]
theorem ox_met (l : Launch) (hl : l.stackTraces = false) (D : mD) (sz sa : Nat) {h : mH} {k : Int} (k0 : hK h 0 = 5) (f8 : hF h 0 8 = 32) (k32 : hK h 32 = 10) (n9 : hF h 0 9 ≤ hL h 32) :
    vx_Met l yX5_out (wY m_X5_out) (oR 8) (oP D sz sa [(2, 0), (0, k)] h) (oQ D sz h) (oX D sz h) 1 6 (fun q => sz ≤ q) := by
  refine vx_ofW (cc := cX5_out) (maxL := 2) (ret := some .int) (ws' := tW) (by decide +kernel) rfl ?_
  intro p e s m args below meth c s₁ B hml htab hP
  obtain ⟨⟨xs, rfl, hxs, hH, hkd, hnw⟩, ex⟩ := hP
  have hts := atoms_spec (ws := wY m_X5_out) B.pre
  have C : cX m_X5_out 8 D sz h p (oR 8) s m xs.toArray meth c := ⟨B.exec, B.bytes, hml, findClass_of_methodNamed B.named, fun w hw => hts w (List.mem_cons_of_mem _ hw), hnw, B.returns, B.notSynchronized, (name_of_methodNamed B.named B.method).1, Nat.le_refl _, Nat.le_refl _, hkd, hH.1⟩
  obtain ⟨hx, hb, -, ho, ht, -, hrt, hlk, -, -, -, -, hsz⟩ := id C
  have hz0 : ((lg_sl xs ++ List.replicate (2 - (lg_sl xs).length) Slot.unset).toArray)[0]? = some (.val (.ref sz)) := by
    obtain ⟨x0, r0, rfl, q0, b0⟩ := rSt_c hxs
    have := rV_at (n := 0) q0
    subst this
    simp [lg_sl, Value.category]
  obtain ⟨G, hG⟩ : ∃ G : Nat → List mV → List mV → mH → Prop, G = fun pc L S h' => ∀ (H : Heap) (locs : List Loc) (ls : Array Slot) (st : List Value), aX m_X5_out D sz h s L S h' H locs ls st → ls[0]? = some (.val (.ref sz)) → W p l e (oR 8) s m xs.toArray below meth c H locs (hN h' - hN h) (hZ h' - hZ h) (vx_MQ below (oQ D sz h) (oX D sz h) xs.toArray s 1 6 (fun q => sz ≤ q)) (F0 m pc ls st) := ⟨_, rfl⟩
  have g : Gd m_X5_out 8 h (oR 8) G := ⟨D, sz, p, l, e, s, m, _, below, meth, c, _, sz, C, hG⟩
  have t12 : ∀ L, G 12 L [] h := by
    intro L
    rw [hG]
    intro H locs ls st A hz
    obtain ⟨a1, a2, a3, a4, a5, a6, a7, a8⟩ := A
    rw [Nat.sub_self, Nat.sub_self]
    cases st with
    | cons _ _ => exact a3.elim
    | nil =>
      refine ox_throw (A := fun q => sz ≤ q) hx hb hl ho (ht _ ox_k) (ht _ ox_i) ex.2.2.1 (vx_hat (B := oxB) (fun w hw => ht w (ox_good w hw)) ox_bad (fun w hw => va_Nw.use (oxB_on w hw) (ex.2.2.2 w hw))) ex.1 ex.2.1 ⟨by rw [a1.1, hsz]; exact Nat.le_refl _, fun q h1 h2 => a6 q (by omega), a5⟩ (by rw [a2.1, a4, hml]) (fun x hx => (htab x hx).elim) (by show 5 < 8; decide) (by show 0 + 82 ≤ 34 * 8; decide) (by show 0 + 1 ≤ 1; decide) (by show 0 + 6 ≤ 6; decide) hlk (fun t hv z1 o1 => ⟨rfl, rH_nX a1 z1 o1, fun q hq => (o1 q (by rw [a1.1]; omega)).trans (a6 q hq)⟩) a5 (by decide) (by decide)
  have t29 : ∀ L y, G 29 L [(0, y)] h := by
    intro L y
    rw [hG]
    intro H locs ls st A hz
    obtain ⟨a1, a2, a3, a4, a5, a6, a7, a8⟩ := A
    obtain ⟨v, r, rfl, qv, b0⟩ := rSt_c a3
    obtain ⟨j, rfl, ej⟩ := rV_i qv
    cases r with
    | cons _ _ => exact b0.elim
    | nil => exact vx_ret (W.widen (k := 1) (n := 6) (by omega) (by omega) (W.iret hx hb hrt (fun t ht hw => ⟨y, ⟨_, rfl, qv⟩, by rw [ht]; exact a1, fun q hq => by rw [ht]; exact a6 q hq⟩) a5 dX5_out_29 hlk))
  have key : G 0 [(2, 0), (0, k)] [] h := by
    refine Gx.ild_n g rfl dX5_out_0 ?_
    refine Gx.iflt (tgt := 12) g dX5_out_1 rfl (fun _ => t12 _) (fun c1 => ?_)
    refine Gx.ild_n g rfl dX5_out_4 ?_
    refine Gx.ald_n g rfl dX5_out_5 ?_
    refine Gx.getf g kC5 (by decide) rfl lf_X5_57 dX5_out_6 k0 rfl ?_
    refine Gx.iclt (tgt := 23) g dX5_out_9 rfl (fun c2 => ?_) (fun _ => t12 _)
    refine Gx.ald_n g rfl dX5_out_23 ?_
    refine Gx.getf g kC5 (by decide) rfl lf_X5_54 dX5_out_24 k0 f8 ?_
    refine Gx.ild_n g rfl dX5_out_27 ?_
    exact Gx.iaload g dX5_out_28 k32 (by omega) (by omega) rfl (t29 _ _)
  rw [hG] at key
  have k9 := key s.heap [] _ [] ⟨hH, enL_rls (n := 2) hxs (Nat.le_refl 2), trivial, rfl, fun q hq => absurd hq List.not_mem_nil, fun _ _ => rfl, Nat.le_refl _, Nat.le_refl _⟩ hz0
  rw [Nat.sub_self, Nat.sub_self] at k9
  rw [lg_entry_eq]
  exact k9
abbrev wLo : List Cond := Cond.codeWith yL_out cL_out 4 (some .int) [(0, 9, 12, 13)] :: tW
def lQ (D : mD) (sz : Nat) (h : mH) : Array Value → State → Outcome → State → Prop := fun a st o t => ∃ (y : Int) (h1 : mH), (h1 = nX h ∨ ∃ v, h1 = bZ (sE h 73 0 v) 6) ∧ qM D sz (some (0, y)) h1 a st o t
theorem lx_met (l : Launch) (hl : l.stackTraces = false) (D : mD) (sz sa : Nat) {h : mH} {k : Int} (k0 : hK h 0 = 5) (f8 : hF h 0 8 = 32) (k32 : hK h 32 = 10) (n9 : hF h 0 9 ≤ hL h 32) (k73 : hK h 73 = 11) (l73 : hL h 73 = 1) :
    vx_Met l yL_out wLo (oR 9) (oP D sz sa [(2, 0), (0, k), (2, 73)] h) (lQ D sz h) noX 1 6 (fun q => sz ≤ q) := by
  refine vx_ofWH (cc := cL_out) (maxL := 4) (ret := some .int) (hh := [(0, 9, 12, 13)]) (ws' := tW) (by decide +kernel) rfl ?_
  intro p e s m args below meth c s₁ B hml hP
  obtain ⟨⟨xs, rfl, hxs, hH, hkd, hnw⟩, ex⟩ := hP
  have hts := atoms_spec (ws := wLo) B.pre
  have htab := vx_table (x := yL_out) B (hts _ List.mem_cons_self)
  have C : cX m_L_out 9 D sz h p (oR 9) s m xs.toArray meth c := ⟨B.exec, B.bytes, hml, findClass_of_methodNamed B.named, fun w hw => hts w (List.mem_cons_of_mem _ hw), hnw, B.returns, B.notSynchronized, (name_of_methodNamed B.named B.method).1, Nat.le_refl _, Nat.le_refl _, hkd, hH.1⟩
  obtain ⟨hx, hb, -, ho, ht, -, hrt, hlk, -, -, -, -, hsz⟩ := id C
  have hz0 : ((lg_sl xs ++ List.replicate (4 - (lg_sl xs).length) Slot.unset).toArray)[0]? = some (.val (.ref sz)) := by
    obtain ⟨x0, r0, rfl, q0, b0⟩ := rSt_c hxs
    have := rV_at (n := 0) q0
    subst this
    simp [lg_sl, Value.category]
  obtain ⟨G, hG⟩ : ∃ G : Nat → List mV → List mV → mH → Prop, G = fun pc L S h' => ∀ (H : Heap) (locs : List Loc) (ls : Array Slot) (st : List Value), aX m_L_out D sz h s L S h' H locs ls st → ls[0]? = some (.val (.ref sz)) → W p l e (oR 9) s m xs.toArray below meth c H locs (hN h' - hN h) (hZ h' - hZ h) (vx_MQ below (lQ D sz h) noX xs.toArray s 1 6 (fun q => sz ≤ q)) (F0 m pc ls st) := ⟨_, rfl⟩
  have g : Gd m_L_out 9 h (oR 9) G := ⟨D, sz, p, l, e, s, m, _, below, meth, c, _, sz, C, hG⟩
  have leaf : ∀ pc L y h1, decode cL_out pc = .ok (.ireturn, 1) → hN h1 - hN h ≤ 1 → hZ h1 - hZ h ≤ 6 → (h1 = nX h ∨ ∃ v, h1 = bZ (sE h 73 0 v) 6) → G pc L [(0, y)] h1 := by
    intro pc L y h1 hd r1 r2 hh
    rw [hG]
    intro H locs ls st A hz
    obtain ⟨a1, a2, a3, a4, a5, a6, a7, a8⟩ := A
    obtain ⟨v, r, rfl, qv, b0⟩ := rSt_c a3
    obtain ⟨j, rfl, ej⟩ := rV_i qv
    cases r with
    | cons _ _ => exact b0.elim
    | nil => exact vx_ret (W.widen (k := 1) (n := 6) r1 r2 (W.iret hx hb hrt (fun t ht hw => ⟨y, h1, hh, ⟨_, rfl, qv⟩, by rw [ht]; exact a1, fun q hq => by rw [ht]; exact a6 q hq⟩) a5 hd hlk))
  have k7 : ∀ L y, G 7 L [(0, y), (0, 0), (2, 73)] (bZ h 6) := by
    intro L y
    refine Gx.i2l g dL_out_7 ?_
    refine Gx.lastore g dL_out_8 k73 (by decide) (show (0 : Int) < hL h 73 by rw [l73]; decide) ?_ ⟨by show hN h - hN h ≤ 1; omega, by show hZ h + 6 - hZ h ≤ 6; omega⟩
    refine Gx.goto (tgt := 15) g dL_out_9 rfl ?_
    refine Gx.iconst g dL_out_15 (by decide) ?_
    exact leaf _ _ _ _ dL_out_16 (by show hN h - hN h ≤ 1; omega) (by show hZ h + 6 - hZ h ≤ 6; omega) (Or.inr ⟨y, rfl⟩)
  have k13 : ∀ L, G 13 L [] (nX h) := by
    intro L
    refine Gx.iconst g dL_out_13 (by decide) ?_
    exact leaf _ _ _ _ dL_out_14 (by show hN h + 1 - hN h ≤ 1; omega) (by show hZ h + 6 - hZ h ≤ 6; omega) (Or.inl rfl)
  have key : G 0 [(2, 0), (0, k), (2, 73), (9, 0)] [] h := by
    refine Gx.ald_n g rfl dL_out_0 ?_
    refine Gx.iconst g dL_out_1 (by decide) ?_
    refine Gx.ald_n g rfl dL_out_2 ?_
    refine Gx.ild_n g rfl dL_out_3 ?_
    rw [hG]
    intro H locs ls st A hz
    obtain ⟨a1, a2, a3, a4, a5, a6, a7, a8⟩ := A
    obtain ⟨v1, s1, rfl, q1, b1⟩ := rSt_c a3
    obtain ⟨v2, s2, rfl, q2, b2⟩ := rSt_c b1
    have e2 := rV_at (n := 0) q2
    subst e2
    obtain ⟨na, cell, ena, hna, g1, g2, g3, -⟩ := rC_obj a1 k0 (by decide)
    have ena' : na = 0 := by omega
    subst ena'
    have hcls : s.vm.findClass RX5 = some cell.cls := by rw [g3]; exact (hkd.1.1 5 _ kC5.1).2.1
    have hr := vx_runV (p := p) (l := l) (e := e) (R := oR 9) (s := s) (m := m) (args := xs.toArray) (below := below) (meth := meth) (c := c) (H := H) (locs := locs) (cells := hN h - hN h) (slots := hZ h - hZ h) (Ts := tW) (own := RL) (C := RX5) (b := sz + 0) (As := [v1]) (rest := s2) (g := F0 m 4 ls (v1 :: .ref (sz + 0) :: s2)) (n := 1) (index := 7)
      ⟨hx, hb, hml, ho, ht⟩ (ox_met l hl D sz sa (k := k) k0 f8 k32 n9) ⟨callB_o (M := m_L_out) (d := 8) wc_L_7 ht (Nat.le_refl _) (Nat.le_refl _), ht _ iM_X5_out, ht _ se_X5_out⟩
      ⟨oP_blind, ⟨cell, g1, by rw [g2]; rfl, hcls⟩, fun U hU hW => ⟨pM_pre (sz := sz) (av := [(2, 0), (0, k)]) (xs := [.ref (sz + 0), v1]) ⟨q2, q1, trivial⟩ a1 hkd hnw U hU hW, ex.moved hW (fun q hq => by rw [hU]; exact a6 q hq)⟩⟩ rfl rfl (by show ls.size = _; rw [a2.1, a4]) rfl (by show 2 * 0 + _ ≤ 8; rw [wSt_cat b2]; decide) dL_out_4 ⟨by show hN h - hN h + 1 ≤ 1; omega, by show hZ h - hZ h + 6 ≤ 6; omega⟩
    intro T hT X
    rcases hr T hT X with ⟨v, st₀, t, T', L', h1, X', hL', e1, e2, ⟨y, ⟨x', hx', hxr⟩, hH1, hold⟩, st⟩ | ⟨q, st₀, t, T', L', E, ce, h1, X', hL', e1, e2, ⟨rfl, hr1, hold⟩, hce, hcv, hcl, st⟩
    · cases hx'
      cases v with
      | none => exact hxr.elim
      | some x =>
        have k9 := k7 [(2, 0), (0, k), (2, 73), (9, 0)] y
        rw [hG] at k9
        have hsz' : T'.heap.size = s.heap.size + 0 := by rw [e1, hH1.1, hsz]; rfl
        have kW := k9 T'.heap (locs ++ L') ls (x :: s2) ⟨by rw [e1]; exact hH1, a2, ⟨hxr, b2⟩, a4, fun z hz' => ?_, fun z hz' => by rw [e1, hold z hz', h1]; exact a6 z hz', Nat.le_refl _, Nat.le_add_right _ _⟩ hz
        · have kW2 := W.cs (show 0 = hN (bZ h 6) - hN h by show 0 = hN h - hN h; omega) (show hZ h - hZ h + 6 = hZ (bZ h 6) - hZ h by show _ = hZ h + 6 - hZ h; omega) kW
          obtain ⟨t2, t3, t4⟩ := kW2 T' rfl (stand_tight X' hsz')
          exact ⟨t2, st t2 t3, t4⟩
        · rcases List.mem_append.mp hz' with w | w
          · exact a5 z w
          · exact hL' z w
    · have kW : W p l e (oR 9) s m xs.toArray below meth c T'.heap (locs ++ L') (hN h - hN h + 1) (hZ h - hZ h + 6) (vx_MQ below (lQ D sz h) noX xs.toArray s 1 6 (fun q => sz ≤ q)) (F0 m 12 ls [.ref q]) := by
        have hL0 : ([(2, 0), (0, k), (2, 73), (9, 0)] : List mV).length = 4 := rfl
        obtain ⟨ls', e', h'⟩ := st_any (L' := [(2, 0), (0, k), (2, 73), (9, 0)]) (i := 3) (v := (9, 0)) (x := .ref q) a2 (stO_set (i := 3) (v := (9, 0)) (fun u _ hu => by cases hu; decide)) (show 3 < 4 by decide) rfl (by decide) rfl
        have k9 := k13 [(2, 0), (0, k), (2, 73), (9, 0)]
        rw [hG] at k9
        have k10 := k9 T'.heap (locs ++ L') ls' [] ⟨by rw [e1]; exact hr1, h', trivial, a4, fun z hz' => ?_, fun z hz' => by rw [e1, hold z hz', h1]; exact a6 z hz', Nat.le_add_right _ _, Nat.le_add_right _ _⟩ (st_keep a2.2.1 (by rw [a2.1]; exact (show 3 < 4 by decide)) rfl (by decide) e' _ hz)
        · have kk2 := W.cs (show hN h - hN h + 1 = hN (nX h) - hN h by show _ = hN h + 1 - hN h; omega) (show hZ h - hZ h + 6 = hZ (nX h) - hZ h by show _ = hZ h + 6 - hZ h; omega) k10
          intro T2 hT2 X2
          obtain ⟨t2, t3, t4⟩ := kk2 T2 hT2 X2
          refine ⟨t2, ?_, t4⟩
          have hdg : decode c.code 12 = .ok (.astore_n 3, 1) := by rw [hb]; exact dL_out_12
          jvm_step X2.here [X2.here.top, ↓top_set X2.here.top, hx, hdg, e', Value.isRef]
          exact t3
        · rcases List.mem_append.mp hz' with w | w
          · exact a5 z w
          · exact hL' z w
      have hcat := vx_catch (p := p) (l := l) (e := e) (R := oR 9) (s := s) (m := m) (args := xs.toArray) (below := below) (meth := meth) (c := c) (H := T'.heap) (locs := locs ++ L') (cells := hN h - hN h + 1) (slots := hZ h - hZ h + 6) (pc := 4) (ls := ls) (rest := s2) (own := RL) (name := nSE) (E := nSE) (ce := ce) (q := q) ho [] ⟨0, 9, 12, 13⟩ [] (by rw [htab]; rfl) (fun z hz => absurd hz List.not_mem_nil) (by decide) (by decide) (ht _ lc_L_13) (va_Nw.use (oxB_on _ List.mem_cons_self) (ex.2.2.2 _ List.mem_cons_self)) (by rw [e1]; exact hce) hcv hcl kW
      obtain ⟨t2, t3, t4⟩ := hcat T' rfl X'
      exact ⟨t2, st.trans t3, t4⟩
  rw [hG] at key
  have k9 := key s.heap [] _ [] ⟨hH, enL_rls (n := 4) hxs (show 3 ≤ 4 by decide), trivial, rfl, fun q hq => absurd hq List.not_mem_nil, fun _ _ => rfl, Nat.le_refl _, Nat.le_refl _⟩ hz0
  rw [Nat.sub_self, Nat.sub_self] at k9
  rw [lg_entry_eq]
  exact k9
end OXB
