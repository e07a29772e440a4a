section GLX
/-- the law's frame at hand, with its script -/
def Gl (Ln : Nat) (xs : Nat → Int32) (R : Room) (G : Nat → List mV → List mV → mH → Prop) : Prop :=
  ∃ (D : mD) (sz : Nat) (p : Program) (l : Launch) (e : Env) (s : State) (m : MethodId) (args : Array Value) (below : List Frame) (meth : Method) (c : Code) (Qw : State → Prop) (b sa : Nat),
    cX m_L_law 10 D sz e9_0 p R s m args meth c ∧ l.stackTraces = false ∧ EX sz sa s s.heap ∧ va_X b Ln xs s s.heap ∧ b < sz ∧
    G = fun pc L S h => ∀ (H : Heap) (locs : List Loc) (ls : Array Slot) (st : List Value), aX m_L_law D sz e9_0 s L S h H locs ls st → ls[0]? = some (.val (.ref b)) → W p l e R s m args below meth c H locs (hN h - hN e9_0) (hZ h - hZ e9_0) Qw (F0 m pc ls st)
variable {Ln : Nat} {xs : Nat → Int32} {R : Room} {G : Nat → List mV → List mV → mH → Prop} {pc : Nat} {L S : List mV} {h : mH}
theorem Gl.gd (g : Gl Ln xs R G) : Gd m_L_law 10 e9_0 R G := by
  obtain ⟨D, sz, p, l, e, s, m, args, below, meth, c, Qw, b, sa, C, hl, ex, hX, hb, hG⟩ := g
  exact ⟨D, sz, p, l, e, s, m, args, below, meth, c, Qw, b, C, hG⟩
def sX (xs : Nat → Int32) (j : Int) : Int := (xs j.toNat).toInt
theorem sX_r (xs : Nat → Int32) (j : Int) : I32 (sX xs j) := rng32 _
theorem Gl.scr {i k : Int} (g : Gl Ln xs R G) (hL : L[4]? = some (0, i)) (i0 : 0 ≤ i) (k0 : 0 ≤ k) (k5 : k ≤ 5) (ik : i + k < (Ln : Int)) (hLn : Ln ≤ 3072)
    (d0 : decode cL_law pc = .ok (.aload_n 0, 1)) (d1 : decode cL_law (pc + 1) = .ok (.iload 4, 2)) (d3 : decode cL_law (pc + 3) = .ok (.iconst k, 1)) (d4 : decode cL_law (pc + 4) = .ok (.iadd, 1)) (d5 : decode cL_law (pc + 5) = .ok (.iaload, 1))
    (kk : G (pc + 6) L ((0, sX xs (i + k)) :: S) h) : G pc L S h := by
  obtain ⟨D, sz, p, l, e, s, m, args, below, meth, c, Qw, b, sa, C, hl, ex, hX, hbz, rfl⟩ := g
  intro H locs ls st A hz
  obtain ⟨a1, a2, a3, a4, a5, a6, a7, a8⟩ := id A
  obtain ⟨v, hv, q⟩ := a2.2.2 _ _ hL (show 0 < 3 by decide)
  obtain ⟨y, rfl, ey⟩ := rV_i q
  have hsz : s.heap.size = sz := C.2.2.2.2.2.2.2.2.2.2.2.2
  refine lv_aload_n C.1 C.2.1 d0 rfl hz ?_
  refine lv_iload C.1 C.2.1 d1 hv ?_
  refine lv_iconst C.1 C.2.1 d3 rfl ?_
  refine lv_iadd C.1 C.2.1 d4 ?_
  have e9 : (y + Int32.ofInt k).toInt = i + k := by
    rw [add32 ey (t32 k), w32_of (by rw [w32_of (by omega) (by omega)]; omega) (by rw [w32_of (by omega) (by omega)]; omega), w32_of (by omega) (by omega)]
  obtain ⟨i1, i2, i3⟩ := idx32 e9 (by omega) ik
  refine va_sld C.1 C.2.1 hX (by omega) (A := fun q => sz ≤ q) (by show ¬ sz ≤ b; omega) ⟨by rw [a1.1]; omega, fun q h1 h2 => a6 q (by omega), a5⟩ i1 d5 ?_
  rw [i2]
  exact kk H locs ls _ ⟨a1, a2, ⟨mI rfl, a3⟩, a4, a5, a6, a7, a8⟩ hz
theorem Gl.scr0 {i : Int} (g : Gl Ln xs R G) (hL : L[4]? = some (0, i)) (i0 : 0 ≤ i) (ik : i < (Ln : Int))
    (d0 : decode cL_law pc = .ok (.aload_n 0, 1)) (d1 : decode cL_law (pc + 1) = .ok (.iload 4, 2)) (d3 : decode cL_law (pc + 3) = .ok (.iaload, 1))
    (kk : G (pc + 4) L ((0, sX xs i) :: S) h) : G pc L S h := by
  obtain ⟨D, sz, p, l, e, s, m, args, below, meth, c, Qw, b, sa, C, hl, ex, hX, hbz, rfl⟩ := g
  intro H locs ls st A hz
  obtain ⟨a1, a2, a3, a4, a5, a6, a7, a8⟩ := id A
  obtain ⟨v, hv, q⟩ := a2.2.2 _ _ hL (show 0 < 3 by decide)
  obtain ⟨y, rfl, ey⟩ := rV_i q
  have hsz : s.heap.size = sz := C.2.2.2.2.2.2.2.2.2.2.2.2
  refine lv_aload_n C.1 C.2.1 d0 rfl hz ?_
  refine lv_iload C.1 C.2.1 d1 hv ?_
  obtain ⟨i1, i2, i3⟩ := idx32 ey i0 ik
  refine va_sld C.1 C.2.1 hX (by omega) (A := fun q => sz ≤ q) (by show ¬ sz ≤ b; omega) ⟨by rw [a1.1]; omega, fun q h1 h2 => a6 q (by omega), a5⟩ i1 d3 ?_
  rw [i2]
  exact kk H locs ls _ ⟨a1, a2, ⟨mI rfl, a3⟩, a4, a5, a6, a7, a8⟩ hz
theorem Gl.slen (g : Gl Ln xs R G) (hLn : Ln ≤ 3072) (d0 : decode cL_law pc = .ok (.aload_n 0, 1)) (d1 : decode cL_law (pc + 1) = .ok (.arraylength, 1))
    (kk : G (pc + 2) L ((0, (Ln : Int)) :: S) h) : G pc L S h := by
  obtain ⟨D, sz, p, l, e, s, m, args, below, meth, c, Qw, b, sa, C, hl, ex, hX, hbz, rfl⟩ := g
  intro H locs ls st A hz
  obtain ⟨a1, a2, a3, a4, a5, a6, a7, a8⟩ := id A
  have hsz : s.heap.size = sz := C.2.2.2.2.2.2.2.2.2.2.2.2
  refine lv_aload_n C.1 C.2.1 d0 rfl hz ?_
  refine va_slen C.1 C.2.1 hX (by omega) (A := fun q => sz ≤ q) (by show ¬ sz ≤ b; omega) ⟨by rw [a1.1]; omega, fun q h1 h2 => a6 q (by omega), a5⟩ d1 ?_
  exact kk H locs ls _ ⟨a1, a2, ⟨mI (Int32.toInt_ofNat_of_lt (by omega)), a3⟩, a4, a5, a6, a7, a8⟩ hz
theorem Gd.weak {M : mM} {d : Nat} {h0 : mH} {L' : List mV} (g : Gd M d h0 R G) (hl : L'.length = L.length) (hw : ∀ (j : Nat) (v : mV), L'[j]? = some v → v.1 < 3 → L[j]? = some v) (k : G pc L' S h) : G pc L S h := by
  refine g.step k ?_
  intro D sz h0 p l e R s m args below meth c Qw C H locs cells slots ls st a2 a3 a4 a1 kk
  exact kk ls st (fun _ q => q) ⟨a2.1.trans hl.symm, a2.2.1, fun i v hv ht => a2.2.2 i v (hw i v hv ht) ht⟩ a3 (hl.trans a4)
theorem Gl.out {k : Int} (g : Gl Ln xs R G) (k0 : hK h 0 = 5) (f8 : hF h 0 8 = 32) (k32 : hK h 32 = 10) (n9 : hF h 0 9 ≤ hL h 32) (k73 : hK h 73 = 11) (l73 : hL h 73 = 1)
    (d0 : decode cL_law pc = .ok (.invokestatic 169, 3)) (h8 : wSt S ≤ 8) (rm : hN h + 1 ≤ R.cells ∧ hZ h + 6 ≤ R.slots)
    (kk : ∀ (y : Int) (h1 : mH), (h1 = nX h ∨ ∃ v, h1 = bZ (sE h 73 0 v) 6) → G (pc + 3) L ((0, y) :: S) h1) : G pc L ((2, 73) :: (0, k) :: (2, 0) :: S) h := by
  obtain ⟨D, sz, p, l, e, s, m, args, below, meth, c, Qw, b, sa, C, hl, ex, hX, hbz, hG⟩ := g
  obtain ⟨hx, hb, hml, ho, ht, hnw, hrt, hlk, hnm, hfr, hlo, hkD, hsz⟩ := id C
  rw [hG]
  intro H locs ls st A hz
  obtain ⟨a1, a2, a3, a4, a5, a6, a7, a8⟩ := id A
  obtain ⟨v1, s1, rfl, q1, b1⟩ := rSt_c a3
  obtain ⟨v2, s2, rfl, q2, b2⟩ := rSt_c b1
  obtain ⟨v3, s3, rfl, q3, b3⟩ := rSt_c b2
  have cw : vx_CSW R s args RL 169 yL_out cL_out 4 (some .int) [(0, 9, 12, 13)] wLo (oR 9) 1 6 3 := by
    refine ⟨⟨rfl, rfl, hfr, by show 8 + (4 + 11) + 34 * 9 ≤ _; omega, fun w hw a' U hW => ?_, List.mem_cons_self⟩, ht _ cd_L_out, ht _ in_L, ⟨by decide +kernel, by decide +kernel⟩, fun sig hs => ?_, ht _ ml_L_out, ht _ sM_L_out⟩
    · rcases List.mem_cons.mp hw with rfl | hw
      · exact word_at hW (tW_good _ cd_L_out) (ht _ cd_L_out)
      · exact word_at hW (tW_good _ hw) (ht _ hw)
    · have w5 : (parseMethodDescriptor yL_out.desc).map (fun d => d.parameters.length) = some 3 := by decide +kernel
      rw [hs] at w5
      exact (Option.some.inj w5).symm
  have hr := vx_runSX (p := p) (l := l) (e := e) (R := R) (s := s) (m := m) (args := args) (below := below) (meth := meth) (c := c) (H := H) (locs := locs) (cells := hN h - hN e9_0) (slots := hZ h - hZ e9_0) (Ts := tW) (own := RL) (As := [v3, v2, v1]) (rest := s3) (g := F0 m pc ls (v1 :: v2 :: v3 :: s3)) (n := 3) (index := 169)
    ⟨hx, hb, hml, ho, ht⟩ (lx_met l hl D sz sa (k := k) k0 f8 k32 n9 k73 l73) cw
    ⟨oP_blind, fun U hU hW => ⟨pM_pre (sz := sz) (av := [(2, 0), (0, k), (2, 73)]) (xs := [v3, v2, v1]) ⟨q3, q2, q1, trivial⟩ a1 hkD hnw U hU hW, ex.moved hW (fun q hq => by rw [hU]; exact a6 q hq)⟩⟩ rfl rfl (by show ls.size = _; rw [a2.1, a4]) rfl (by show 2 * 0 + _ ≤ 8; rw [wSt_cat b3]; omega) d0 ⟨by show hN h - 0 + 1 ≤ _; omega, by show hZ h - 0 + 6 ≤ _; omega⟩
  intro T hT X
  rcases hr T hT X with ⟨v, st₀, t, T', L', g1, X', hL', e1, e2, ⟨y, h1, hh, ⟨x', hx', hxr⟩, hH1, hold⟩, st⟩ | ⟨q, st₀, t, T', L', E, ce, g1, X', hL', e1, e2, hno, -⟩
  · cases hx'
    cases v with
    | none => exact hxr.elim
    | some x =>
      have hs1 : hN e9_0 ≤ hN h1 ∧ hZ e9_0 ≤ hZ h1 ∧ hZ h1 - hZ e9_0 = hZ h - hZ e9_0 + 6 := by
        rcases hh with rfl | ⟨v, rfl⟩
        · exact ⟨Nat.zero_le _, Nat.zero_le _, by show hZ h + 6 - 0 = hZ h - 0 + 6; omega⟩
        · exact ⟨Nat.zero_le _, Nat.zero_le _, by show hZ h + 6 - 0 = hZ h - 0 + 6; omega⟩
      have k9 := kk y h1 hh
      rw [hG] at k9
      have hsz' : T'.heap.size = s.heap.size + (hN h1 - hN e9_0) := by rw [e1, hH1.1, hsz]; show sz + hN h1 = sz + 0 + (hN h1 - 0); omega
      have kW := k9 T'.heap (locs ++ L') ls (x :: s3) ⟨by rw [e1]; exact hH1, a2, ⟨hxr, b3⟩, a4, fun z hz' => ?_, fun z hz' => by rw [e1, hold z hz', g1]; exact a6 z hz', hs1.1, hs1.2.1⟩ hz
      · have kW2 := W.cs rfl hs1.2.2.symm kW
        obtain ⟨t2, t3, t4⟩ := kW2 T' rfl (stand_tight X' hsz')
        exact ⟨t2, st t2 t3, t4⟩
      · rcases List.mem_append.mp hz' with w | w
        · exact a5 z w
        · exact hL' z w
  · exact (hno : False).elim
end GLX
/-! what out leaves -/
theorem KP.out {h t : mH} {K : Int} (kp : KP h (K + 1)) (h74 : 74 ≤ hN h) (fq : Fq (fun a => a = 73) [] h t) (hn : hN t ≤ hN h + 1) (hz : hZ t ≤ hZ h + 6) : KP t K := by
  obtain ⟨hd, lk, wd, nh, nl, nw, af, ho, bs, rw, na, nr, ob, n9, mn, nv, w9, tr, en, ob9, hm, h1, ⟨h2, h3, h4⟩, h5, h6, h7⟩ := kp
  have oo := ob9.2.2.2.1
  have ok := ob9.2.1
  refine ⟨hd, lk, wd, nh, nl, nw, af, ho, bs, rw, na, nr, ob, n9, mn, nv, if w9 = 0 then 1 else if w9 = 2 then 3 else w9, tr.fq fq h74 (by simp) (by simp) (by simp), en.fq fq h74 (by simp) (by simp) (by simp) (by simp), ob9.fq fq h74 (by simp) (fun z => by have z9 : ob = 73 := z; omega), (fq.2.2.2.2.1 17 4 (by omega) (by simp)).trans hm, h1, ⟨h2, ?_, ?_⟩, ?_, ?_, ?_⟩
  · split
    · omega
    · split <;> omega
  · rw [← h4]
    split
    · omega
    · split <;> omega
  · intro z
    split at z
    · omega
    · split at z <;> omega
  · have hp := psR_call (K := K) (w9 := w9) (w' := if w9 = 0 then 1 else if w9 = 2 then 3 else w9) (nr := nr) (nv := nv) (by split; omega; split <;> omega)
    omega
  · omega
theorem CK.out {h t : mH} {K : Int} (ck : CK h (K + 1)) (fq : Fq (fun a => a = 73) [] h t) (hn : hN t ≤ hN h + 1) (hz : hZ t ≤ hZ h + 6) : CK t K := by
  have h74 := ck.1.2.2.2.2
  refine ⟨ck.1.fq fq (by decide +kernel) (by decide), ck.2.1.fq fq h74 (by decide) (by decide) (by simp) (by simp) (by simp), ck.2.2.1.fq fq h74 (fun _ _ => by simp), ?_, ?_, fun i i0 i1 => ?_, ck.2.2.2.2.2.2.out h74 fq hn hz⟩
  · rw [fq.2.2.2.2.1 0 7 (by omega) (by simp)]
    exact ck.2.2.2.1
  · rw [fq.2.2.2.2.1 0 9 (by omega) (by simp)]
    exact ck.2.2.2.2.1
  · rw [fq.2.2.2.2.1 (33 + 2 * i) 1 (by omega) (by simp)]
    exact ck.2.2.2.2.2.1 i i0 i1
theorem MI.out {h t : mH} (mi : MI h) (h74 : 74 ≤ hN h) (fq : Fq (fun a => a = 73) [] h t) : MI t := by
  have f := fun k => fq.2.2.2.2.1 41 k (by omega) (by simp)
  have a := fun (x : Int) (hx : x < 73) => fq.2.2.2.2.2 x (by omega) (by show ¬ x = 73; omega)
  unfold MI MB MS MT ME at mi ⊢
  rw [f 5, f 6, f 8, f 30, f 27, f 28, f 39, a 46 (by decide), a 47 (by decide), a 43 (by decide), a 64 (by decide)]
  exact mi
theorem out_fq {h h1 : mH} (hh : h1 = nX h ∨ ∃ v, h1 = bZ (sE h 73 0 v) 6) : Fq (fun a => a = 73) [] h h1 ∧ hN h1 ≤ hN h + 1 ∧ hZ h1 ≤ hZ h + 6 := by
  rcases hh with rfl | ⟨v, rfl⟩
  · exact ⟨⟨Nat.le_add_right _ _, Nat.le_add_right _ _, fun a ha => u1_n _ _ (show a ≠ (hN h : Int) by omega), fun _ _ => rfl, fun _ _ _ _ => rfl, fun _ _ _ => rfl⟩, Nat.le_refl _, Nat.le_refl _⟩
  · exact ⟨⟨Nat.le_refl _, Nat.le_add_right _ _, fun _ _ => rfl, fun _ _ => rfl, fun _ _ _ _ => rfl, fun a _ hna => u1_n _ _ hna⟩, Nat.le_add_right _ _, Nat.le_refl _⟩
theorem thr_n9 (n k : Int) (k0 : 0 ≤ k) : 0 ≤ thr n k := by unfold thr; split <;> omega
theorem CK.rm {h : mH} {K : Int} (ck : CK h K) (k0 : 0 ≤ K) : hN h + 2 * K.toNat ≤ 601024 ∧ hZ h + 8 * K.toNat ≤ 7250000 := by
  obtain ⟨hd, lk, wd, nh, nl, nw, af, ho, bs, rw, na, nr, ob, n9, mn, nv, w9, tr, en, ob9, hm, ⟨h1, -⟩, ⟨h2, ⟨h3, h3'⟩, h4⟩, h5, h6, h7⟩ := ck.2.2.2.2.2.2
  have t1 : 0 ≤ psT nh nl nw := by
    have e1 := tr.2.2.2.2.2.2.2.2.2.2.2.2.2.1
    have e2 := tr.2.2.2.2.2.2.2.2.2.2.2.2.2.2
    unfold psT psH psL psW
    have q1 := thr_n9 nw 20001 (by decide)
    have q2 := thr_n9 nw 40002 (by decide)
    have q3 := thr_n9 nw 60003 (by decide)
    have q4 := thr_n9 nw 80004 (by decide)
    have q5 := thr_n9 nw 100005 (by decide)
    split <;> split <;> omega
  have t2 : 0 ≤ psA na := by unfold psA; split <;> omega
  have t3 : 0 ≤ psO n9 := by unfold psO; split <;> omega
  have t4 : 0 ≤ psR K w9 nr nv := by
    unfold psR
    have m1 : min nr 46656 ≤ 46656 := Int.min_le_right _ _
    have m2 : min nv 46656 ≤ 46656 := Int.min_le_right _ _
    split <;> omega
  omega
theorem cq_mstatus (h : mH) (sh : Sh h) (mi : MI h) : Cq m_X6_status 9 [(2, 41)] h (fun r t => (∃ y, r = some (0, y)) ∧ MI t ∧ Fr mAq mGq h t) :=
  ⟨_, _, ct_mstatus 9 h (sK41 (h := h) sh), ⟨_, rfl⟩, mi.fr (Fr.f (by decide)), Fr.f (by decide)⟩
