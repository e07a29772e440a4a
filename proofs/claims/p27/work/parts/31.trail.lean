/-- what may have changed, where cells may have been made -/
def Fq (A : Int → Prop) (G : List (Int × Nat)) (h h' : mH) : Prop := hN h ≤ hN h' ∧ hZ h ≤ hZ h' ∧ (∀ a : Int, a < hN h → hK h' a = hK h a) ∧ (∀ a : Int, a < hN h → hL h' a = hL h a) ∧ (∀ (a : Int) (k : Nat), a < hN h → (a, k) ∉ G → hF h' a k = hF h a k) ∧ ∀ a : Int, a < hN h → ¬ A a → hA h' a = hA h a
theorem Fq.rf {A : Int → Prop} {G : List (Int × Nat)} {h : mH} : Fq A G h h := ⟨Nat.le_refl _, Nat.le_refl _, fun _ _ => rfl, fun _ _ => rfl, fun _ _ _ _ => rfl, fun _ _ _ => rfl⟩
theorem Fq.tr {A : Int → Prop} {G : List (Int × Nat)} {h h1 h2 : mH} (a : Fq A G h h1) (b : Fq A G h1 h2) : Fq A G h h2 := ⟨Nat.le_trans a.1 b.1, Nat.le_trans a.2.1 b.2.1, fun x hx => (b.2.2.1 x (by have := a.1; omega)).trans (a.2.2.1 x hx), fun x hx => (b.2.2.2.1 x (by have := a.1; omega)).trans (a.2.2.2.1 x hx), fun x k hx hk => (b.2.2.2.2.1 x k (by have := a.1; omega) hk).trans (a.2.2.2.2.1 x k hx hk), fun x hx hn => (b.2.2.2.2.2 x (by have := a.1; omega) hn).trans (a.2.2.2.2.2 x hx hn)⟩
/-- .. where the second may change cells that the first has made -/
theorem Fq.tr2 {A B : Int → Prop} {G : List (Int × Nat)} {h h1 h2 : mH} (a : Fq A G h h1) (b : Fq B G h1 h2) (hb : ∀ x : Int, x < hN h → B x → A x) : Fq A G h h2 := ⟨Nat.le_trans a.1 b.1, Nat.le_trans a.2.1 b.2.1, fun x hx => (b.2.2.1 x (by have := a.1; omega)).trans (a.2.2.1 x hx), fun x hx => (b.2.2.2.1 x (by have := a.1; omega)).trans (a.2.2.2.1 x hx), fun x k hx hk => (b.2.2.2.2.1 x k (by have := a.1; omega) hk).trans (a.2.2.2.2.1 x k hx hk), fun x hx hn => (b.2.2.2.2.2 x (by have := a.1; omega) (fun z => hn (hb x hx z))).trans (a.2.2.2.2.2 x hx hn)⟩
theorem Fq.mono {A A' : Int → Prop} {G G' : List (Int × Nat)} {h h' : mH} (a : Fq A G h h') (hA : ∀ x : Int, x < hN h → A x → A' x) (hG : ∀ x ∈ G, x ∈ G') : Fq A' G' h h' := ⟨a.1, a.2.1, a.2.2.1, a.2.2.2.1, fun x k hx hk => a.2.2.2.2.1 x k hx (fun z => hk (hG _ z)), fun x hx hn => a.2.2.2.2.2 x hx (fun z => hn (hA x hx z))⟩
theorem Fq.a {A : Int → Prop} {G : List (Int × Nat)} {h : mH} {a : Int} {f : Int → Int} (ha : a < hN h → A a) : Fq A G h (sA h a f) := ⟨Nat.le_refl _, Nat.le_refl _, fun _ _ => rfl, fun _ _ => rfl, fun _ _ _ _ => rfl, fun x hx hn => u1_n _ _ (fun q => hn (by rw [q]; exact ha (by omega)))⟩
theorem Fq.e {A : Int → Prop} {G : List (Int × Nat)} {h : mH} {a i v : Int} (ha : a < hN h → A a) : Fq A G h (sE h a i v) := Fq.a ha
theorem Fq.f {A : Int → Prop} {G : List (Int × Nat)} {h : mH} {a v : Int} {k : Nat} (ha : (a, k) ∈ G) : Fq A G h (sF h a k v) := ⟨Nat.le_refl _, Nat.le_refl _, fun _ _ => rfl, fun _ _ => rfl, fun x j _ hx => if_neg (fun q => hx (by rw [q.1, q.2]; exact ha)), fun _ _ _ => rfl⟩
theorem Fq.n {A : Int → Prop} {G : List (Int × Nat)} {h : mH} {t : Nat} {n : Int} : Fq A G h (nA h t n) := ⟨Nat.le_succ _, Nat.le_add_right _ _, fun _ hx => nA_K hx, fun _ hx => nA_L hx, fun _ _ _ _ => rfl, fun _ hx _ => nA_A hx⟩
theorem Fq.fr {A : Int → Prop} {L : List Int} {G : List (Int × Nat)} {h h' : mH} (a : Fr L G h h') (hL : ∀ x ∈ L, A x) : Fq A G h h' := ⟨Nat.le_of_eq a.1.symm, Nat.le_of_eq a.2.1.symm, fun _ _ => by rw [a.2.2.1], fun _ _ => by rw [a.2.2.2.1], fun x k _ hk => a.2.2.2.2.1 x k hk, fun x _ hn => a.2.2.2.2.2 x (fun z => hn (hL x z))⟩
theorem Sh.fq {A : Int → Prop} {G : List (Int × Nat)} {h h' : mH} (sh : Sh h) (a : Fq A G h h') (hG : okG G = true) (h1 : ¬ A 1) : Sh h' := by
  have h74 := sh.2.2.2.2
  have hs : ∀ q ∈ shK, q.1 < 74 := by decide +kernel
  have hs2 : ∀ q ∈ shL, q.1 < 74 := by decide +kernel
  have hs3 : ∀ q ∈ shF, q.1.1 < 74 := by decide +kernel
  refine sh.of (fun q hq => a.2.2.1 _ (by have := hs q hq; omega)) (fun q hq => a.2.2.2.1 _ (by have := hs2 q hq; omega)) (fun q hq => a.2.2.2.2.1 q.1.1 q.1.2 (by have := hs3 q hq; omega) (fun z => ?_)) (a.2.2.2.2.2 1 (by omega) h1) a.1
  have := List.all_eq_true.mp hG q hq
  simp only [Bool.not_eq_true', List.contains_eq_mem, decide_eq_false_iff_not] at this
  exact this z
/-- the rooms of the walk's book: heads, links, words -/
def TR (h : mH) (hd lk wd nh nl nw : Int) : Prop := hF h 13 0 = hd ∧ hK h hd = 10 ∧ hL h hd = nh ∧ hF h 13 1 = lk ∧ hK h lk = 10 ∧ hL h lk = nl ∧ hF h 13 2 = wd ∧ hK h wd = 11 ∧ hL h wd = nw ∧ hd ≠ lk ∧ ((hd = 14 ∨ 74 ≤ hd) ∧ (lk = 15 ∨ 74 ≤ lk) ∧ (wd = 16 ∨ 74 ≤ wd)) ∧ (hd < hN h ∧ lk < hN h ∧ wd < hN h) ∧ (nh = 0 ∨ nh = 4096) ∧ (0 ≤ nl ∧ nl ≤ 20001) ∧ (0 ≤ nw ∧ nw ≤ 100005)
theorem TR.fq {A : Int → Prop} {G : List (Int × Nat)} {h h' : mH} {hd lk wd nh nl nw : Int} (t : TR h hd lk wd nh nl nw) (a : Fq A G h h') (h13 : 74 ≤ hN h) (g0 : ((13 : Int), 0) ∉ G) (g1 : ((13 : Int), 1) ∉ G) (g2 : ((13 : Int), 2) ∉ G) : TR h' hd lk wd nh nl nw := by
  obtain ⟨t0, k0, l0, t1, k1, l1, t2, k2, l2, hne, hy, ⟨z0, z1, z2⟩, hb⟩ := t
  have hn := a.1
  exact ⟨(a.2.2.2.2.1 13 0 (by omega) g0).trans t0, (a.2.2.1 hd z0).trans k0, (a.2.2.2.1 hd z0).trans l0, (a.2.2.2.2.1 13 1 (by omega) g1).trans t1, (a.2.2.1 lk z1).trans k1, (a.2.2.2.1 lk z1).trans l1, (a.2.2.2.2.1 13 2 (by omega) g2).trans t2, (a.2.2.1 wd z2).trans k2, (a.2.2.2.1 wd z2).trans l2, hne, hy, ⟨by omega, by omega, by omega⟩, hb⟩
/-- what rooms may still be made -/
def psL (n : Int) : Int := if n < 20001 then 60067 - 2 * n else 0
def thr (n c : Int) : Int := if n < c then c + 64 else 0
theorem thr_mono {a b : Int} (c : Int) (h : a ≤ b) (c0 : 0 ≤ c) : thr b c ≤ thr a c := by
  unfold thr
  split <;> split <;> omega
theorem thr_lt {a c : Int} (h : a < c) : thr a c = c + 64 := if_pos h
theorem thr_ge {a c : Int} (h : c ≤ a) : thr a c = 0 := if_neg (by omega)
def psW (n : Int) : Int := 2 * (100005 - n) + (thr n 20001 + (thr n 40002 + (thr n 60003 + (thr n 80004 + thr n 100005))))
def psH (n : Int) : Int := if n < 4096 then 4096 else 0
def aC (h h' : mH) (p p' : Int) : Prop := (hZ h' : Int) + p' ≤ hZ h + p ∧ 2 * (hN h' : Int) + p' ≤ 2 * hN h + p
theorem aC.rf {h : mH} {p : Int} : aC h h p p := ⟨Int.le_refl _, Int.le_refl _⟩
theorem aC.tr {h h1 h2 : mH} {p p1 p2 : Int} (a : aC h h1 p p1) (b : aC h1 h2 p1 p2) : aC h h2 p p2 := ⟨by have := a.1; have := b.1; omega, by have := a.2; have := b.2; omega⟩
def psT (nh nl nw : Int) : Int := psH nh + psL nl + psW nw
theorem aC.same {h h' : mH} {p : Int} (hn : hN h' = hN h) (hz : hZ h' = hZ h) : aC h h' p p := ⟨by rw [hz]; omega, by rw [hn]; omega⟩
theorem psL_up {a b n : Int} (h1 : a ≤ n) (h2 : n ≤ 20000) (hb : b = min 20001 (2 * n + 64)) (h0 : 0 ≤ a) : b + 64 + psL b ≤ psL a ∧ n < b := by
  unfold psL
  rw [if_pos (show a < 20001 by omega)]
  split <;> omega
theorem psW_up {a b n w : Int} (w0 : 0 ≤ w) (w1 : w ≤ 5) (n0 : 0 ≤ n) (n1 : n ≤ 20000) (h1 : a < n * w + w) (hb : b = min (20001 * w) (2 * (n * w + w) + 64)) (h0 : 0 ≤ a) : b + 64 + psW b ≤ psW a ∧ n * w + w ≤ b ∧ b ≤ 100005 := by
  unfold psW
  have hab : a ≤ b := by
    have hw : w = 0 ∨ w = 1 ∨ w = 2 ∨ w = 3 ∨ w = 4 ∨ w = 5 := by omega
    rcases hw with rfl | rfl | rfl | rfl | rfl | rfl <;> omega
  have m1 := thr_mono 20001 hab (by decide)
  have m2 := thr_mono 40002 hab (by decide)
  have m3 := thr_mono 60003 hab (by decide)
  have m4 := thr_mono 80004 hab (by decide)
  have m5 := thr_mono 100005 hab (by decide)
  by_cases hc : b = 20001 * w
  · have hb2 : n * w + w ≤ 20001 * w ∧ b ≤ 2 * (n * w + w) + 64 := by
      refine ⟨?_, by omega⟩
      have := Int.mul_le_mul_of_nonneg_right n1 w0
      omega
    clear hb
    have hw : w = 0 ∨ w = 1 ∨ w = 2 ∨ w = 3 ∨ w = 4 ∨ w = 5 := by omega
    rcases hw with rfl | rfl | rfl | rfl | rfl | rfl
    · omega
    · have e1 := thr_lt (a := a) (c := 20001) (by omega)
      have e2 := thr_ge (a := b) (c := 20001) (by omega)
      omega
    · have e1 := thr_lt (a := a) (c := 40002) (by omega)
      have e2 := thr_ge (a := b) (c := 40002) (by omega)
      omega
    · have e1 := thr_lt (a := a) (c := 60003) (by omega)
      have e2 := thr_ge (a := b) (c := 60003) (by omega)
      omega
    · have e1 := thr_lt (a := a) (c := 80004) (by omega)
      have e2 := thr_ge (a := b) (c := 80004) (by omega)
      omega
    · have e1 := thr_lt (a := a) (c := 100005) (by omega)
      have e2 := thr_ge (a := b) (c := 100005) (by omega)
      omega
  · have hb2 : b = 2 * (n * w + w) + 64 := by omega
    have hb3 : b ≤ 20001 * w := by omega
    clear hb
    omega
theorem TR.lk {h : mH} {hd lk wd nh nl nw N : Int} {f : Int → Int} (tr : TR h hd lk wd nh nl nw) (h74 : 74 ≤ hN h) (N0 : 0 ≤ N) (N1 : N ≤ 20001) : TR (sF (sA (nA h 10 N) (hN h : Int) f) 13 1 (hN h : Int)) hd (hN h : Int) wd nh N nw := by
  obtain ⟨t0, k0, l0, t1, k1, l1, t2, k2, l2, hne, ⟨y0, y1, y2⟩, ⟨z0, z1, z2⟩, b0, b1, b2⟩ := tr
  exact ⟨t0, (nA_K (h := h) (t := 10) (n := N) z0).trans k0, (nA_L (h := h) (t := 10) (n := N) z0).trans l0, rfl, (nA_Kn (h := h) (t := 10) (n := N)), (nA_Ln (h := h) (t := 10) (n := N)), t2, (nA_K (h := h) (t := 10) (n := N) z2).trans k2, (nA_L (h := h) (t := 10) (n := N) z2).trans l2, by omega, ⟨y0, Or.inr (by omega), y2⟩, ⟨by show hd < ((hN h + 1 : Nat) : Int); omega, by show (hN h : Int) < ((hN h + 1 : Nat) : Int); omega, by show wd < ((hN h + 1 : Nat) : Int); omega⟩, b0, ⟨N0, N1⟩, b2⟩
theorem TR.wd {h : mH} {hd lk wd nh nl nw N : Int} {f : Int → Int} (tr : TR h hd lk wd nh nl nw) (h74 : 74 ≤ hN h) (N0 : 0 ≤ N) (N1 : N ≤ 100005) : TR (sF (sA (nA h 11 N) (hN h : Int) f) 13 2 (hN h : Int)) hd lk (hN h : Int) nh nl N := by
  obtain ⟨t0, k0, l0, t1, k1, l1, t2, k2, l2, hne, ⟨y0, y1, y2⟩, ⟨z0, z1, z2⟩, b0, b1, b2⟩ := tr
  exact ⟨t0, (nA_K (h := h) (t := 11) (n := N) z0).trans k0, (nA_L (h := h) (t := 11) (n := N) z0).trans l0, t1, (nA_K (h := h) (t := 11) (n := N) z1).trans k1, (nA_L (h := h) (t := 11) (n := N) z1).trans l1, rfl, (nA_Kn (h := h) (t := 11) (n := N)), (nA_Ln (h := h) (t := 11) (n := N)), hne, ⟨y0, y1, Or.inr (by omega)⟩, ⟨by show hd < ((hN h + 1 : Nat) : Int); omega, by show lk < ((hN h + 1 : Nat) : Int); omega, by show (hN h : Int) < ((hN h + 1 : Nat) : Int); omega⟩, b0, b1, ⟨N0, N1⟩⟩
theorem Fq.cp {A : Int → Prop} {G : List (Int × Nat)} {h : mH} {t k : Nat} {N a : Int} {f : Int → Int} (hg : (a, k) ∈ G) : Fq A G h (sF (sA (nA h t N) (hN h : Int) f) a k (hN h : Int)) := by
  refine Fq.tr2 (B := fun x => x = (hN h : Int)) (Fq.n (t := t) (n := N)) ((Fq.a (A := fun x => x = (hN h : Int)) (fun _ => rfl)).tr (Fq.f hg)) (fun x hx hz => ?_)
  exact absurd hz (by omega)
theorem aC.cp {h : mH} {t k : Nat} {N a p p' : Int} {f : Int → Int} (N0 : 0 ≤ N) (hp : N + 64 + p' ≤ p) : aC h (sF (sA (nA h t N) (hN h : Int) f) a k (hN h : Int)) p p' := by
  refine ⟨?_, ?_⟩
  · show ((hZ h + N.toNat : Nat) : Int) + _ ≤ _
    omega
  · show 2 * ((hN h + 1 : Nat) : Int) + _ ≤ _
    omega
theorem us52 (u : UInt64) : 0 ≤ (u >>> (52 : UInt64)).toInt64.toInt ∧ (u >>> (52 : UInt64)).toInt64.toInt < 4096 := by
  have h1 : (u >>> (52 : UInt64)).toNat = u.toNat / 2 ^ 52 := by
    rw [UInt64.toNat_shiftRight, Nat.shiftRight_eq_div_pow]
    rfl
  have h2 : u.toNat < 2 ^ 64 := u.toNat_lt
  have h3 : (u >>> (52 : UInt64)).toNat < 4096 := by
    rw [h1]
    omega
  have h4 : (u >>> (52 : UInt64)).toInt64.toInt = ((u >>> (52 : UInt64)).toNat : Int) := by
    show (u >>> (52 : UInt64)).toBitVec.toInt = _
    rw [BitVec.toInt_eq_toNat_cond]
    have h5 : (u >>> (52 : UInt64)).toBitVec.toNat = (u >>> (52 : UInt64)).toNat := rfl
    rw [h5, if_pos (by omega)]
  rw [h4]
  omega
theorem qushr52 (a : Int) : 0 ≤ qushr a 52 ∧ qushr a 52 < 4096 := us52 (Int64.ofInt a).toUInt64
theorem pack_tail (d : Nat) (h : mH) (sh : Sh h) (wd nw w n j b x la k : Int) (t2 : hF h 13 2 = wd) (k2 : hK h wd = 11) (l2 : hL h wd = nw) (j0 : 0 ≤ j) (j1 : j < w) (hp0 : 0 ≤ n * w) (hp : n * w + w ≤ nw) (hq : nw ≤ 100005) (Q : Option mV → mH → Prop) (kq : Wp m_X4_pack (d + 1) 13 [(2, 13), (2, 11), (0, b), (0, n * w), (0, j + 1), (1, x), (9, 0), (0, la), (0, k)] [] (sE h wd (n * w + j) x) Q) : Wp m_X4_pack (d + 1) 69 [(2, 13), (2, 11), (0, b), (0, (n * w)), (0, j), (1, x), (9, 0), (0, la), (0, k)] [] h Q := by
  refine Wp.ald_n (j := 0) rfl dX4_pack_69 ?_
  refine Wp.getf (k := 2) (tg := 2) kC4 (by decide) rfl lf_X4_18 dX4_pack_70 (sK13 (h := h) sh) t2 ?_
  refine Wp.ild_n (j := 3) rfl dX4_pack_73 ?_
  refine Wp.ild (j := 4) rfl dX4_pack_74 ?_
  refine Wp.iaddE dX4_pack_76 (by first | exact w32_of (by omega) (by omega) | rfl) ?_
  refine Wp.lld (j := 5) rfl dX4_pack_77 ?_
  refine Wp.lastore dX4_pack_79 k2 (by omega) (ilt l2 (by omega)) ?_
  refine inc_9_4 rfl dX4_pack_80 (by first | exact w32_of (by omega) (by omega) | rfl) ?_
  refine Wp.goto (tgt := 13) dX4_pack_83 (by decide) ?_
  exact kq

