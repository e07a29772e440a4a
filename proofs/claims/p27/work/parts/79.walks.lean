theorem BI.fq {A : Int → Prop} {G : List (Int × Nat)} {h t : mH} (bi : BI h) (fq : Fq A G h t) (h74 : 74 ≤ hN h) (a4 : ¬ A 4) (a7 : ¬ A 7) (g0 : ((2 : Int), 0) ∉ G) (g1 : ((2 : Int), 1) ∉ G) (g8 : ((2 : Int), 8) ∉ G) : BI t := by
  unfold BI
  rw [fq.2.2.2.2.1 2 0 (by omega) g0, fq.2.2.2.2.1 2 1 (by omega) g1, fq.2.2.2.2.1 2 8 (by omega) g8, fq.2.2.2.2.2 4 (by omega) a4, fq.2.2.2.2.2 7 (by omega) a7]
  exact bi
theorem ccf_fq {A : Int → Prop} {G : List (Int × Nat)} {h t : mH} (fq : Fq A G h t) (h74 : 74 ≤ hN h) (a3 : ¬ A 3) (a6 : ¬ A 6) (a7 : ¬ A 7) (g0 : ((2 : Int), 0) ∉ G) (g1 : ((2 : Int), 1) ∉ G) (g8 : ((2 : Int), 8) ∉ G) : ccf t = ccf h := by
  unfold ccf
  rw [fq.2.2.2.2.1 2 0 (by omega) g0, fq.2.2.2.2.1 2 1 (by omega) g1, fq.2.2.2.2.1 2 8 (by omega) g8, fq.2.2.2.2.2 3 (by omega) a3, fq.2.2.2.2.2 6 (by omega) a6, fq.2.2.2.2.2 7 (by omega) a7]
theorem SPx.fq {A : Int → Prop} {G : List (Int × Nat)} {h t : mH} (s : SPx h) (fq : Fq A G h t) (h74 : 74 ≤ hN h) (hG : ∀ k ∈ [0, 2, 3, 5, 6, 10, 11], ((22 : Int), k) ∉ G) : SPx t := by
  obtain ⟨pw, sp, rr, sr, hs⟩ := s
  refine ⟨pw, sp, rr, sr, ?_⟩
  unfold SP at hs ⊢
  have e := fun k (hk : k ∈ [0, 2, 3, 5, 6, 10, 11]) => fq.2.2.2.2.1 22 k (by omega) (hG k hk)
  rw [e 0 (by decide), e 2 (by decide), e 3 (by decide), e 5 (by decide), e 6 (by decide), e 10 (by decide), e 11 (by decide)]
  exact hs
theorem KQ.next {h t : mH} {K : Int} {hd lk wd nh nl nw af ho bs rw na nr ob n9 mn nv w9 hd' lk' wd' nh' nl' nw' af' ho' bs' na' ob' n9' : Int} (kq : KQ h (K + 1) hd lk wd nh nl nw af ho bs rw na nr ob n9 mn nv w9) (tr' : TR t hd' lk' wd' nh' nl' nw') (en' : EN t af' ho' bs' rw na' nr) (ob9' : OB t ob' n9') (hm' : hF t 17 4 = mn) (ac : aC h t (psT nh nl nw + psA na + psO n9) (psT nh' nl' nw' + psA na' + psO n9')) (dj : rw ≠ hd' ∧ rw ≠ lk') : KP t K := by
  obtain ⟨tr, en, ob9, hm, h1, ⟨h2, h3, h4⟩, h5, h6, h7⟩ := kq
  have hp := psR_call (K := K) (w9 := w9) (w' := if w9 = 0 then 1 else if w9 = 2 then 3 else w9) (nr := nr) (nv := nv) (by split; omega; split <;> omega)
  have a1 := ac.1
  have a2 := ac.2
  refine ⟨hd', lk', wd', nh', nl', nw', af', ho', bs', rw, na', nr, ob', n9', mn, nv, if w9 = 0 then 1 else if w9 = 2 then 3 else w9, tr', en', ob9', hm', ⟨h1.1, h1.2.1, h1.2.2.1, dj⟩, ⟨h2, ?_, ?_⟩, ?_, ?_, ?_⟩
  · split
    · omega
    · split <;> omega
  · rw [← h4]
    split
    · omega
    · split <;> omega
  · intro z
    split at z
    · omega
    · split at z <;> omega
  · omega
  · omega
theorem CK.fq0 {A : Int → Prop} {G : List (Int × Nat)} {h t : mH} {K K' : Int} (ck : CK h K') (fq : Fq A G h t) (hG : okG G = true) (a1 : ¬ A 1) (bi : BI t) (sp : SPx t) (g7 : ((0 : Int), 7) ∉ G) (g9 : ((0 : Int), 9) ∉ G) (gs : ∀ i, 0 ≤ i → i < 4 → ((33 + 2 * i : Int), 1) ∉ G) (hA : ∀ a, 41 ≤ a → a < 74 → ¬ A a) (hG2 : ∀ k, ((41 : Int), k) ∉ G) (kp : KP t K) (hA3 : ∀ a, ((3 ≤ a ∧ a ≤ 7) ∨ (31 ≤ a ∧ a < 41)) → ¬ A a) (hG3 : ∀ q ∈ G, q.1 ≠ 2 ∧ q.1 < 33) : CK t K ∧ Kp h t ∧ Cn h t ∧ Kl h t := by
  have h74 := ck.1.2.2.2.2
  refine ⟨⟨ck.1.fq fq hG a1, bi, sp, ?_, ?_, fun i i0 i1 => ?_, kp⟩, ⟨fun k => fq.2.2.2.2.1 41 k (by omega) (hG2 k), fun a a0 a1 => fq.2.2.2.2.2 a (by omega) (hA a a0 a1), fq.2.2.1 73 (by omega), fq.2.2.2.1 73 (by omega)⟩, Cn.fq fq h74 hA3 hG3, fq.2.2.2.2.1 0 7 (by omega) g7, fq.2.2.2.2.2 31 (by omega) (hA3 31 (by decide))⟩
  · rw [fq.2.2.2.2.1 0 7 (by omega) g7]
    exact ck.2.2.2.1
  · rw [fq.2.2.2.2.1 0 9 (by omega) g9]
    exact ck.2.2.2.2.1
  · rw [fq.2.2.2.2.1 (33 + 2 * i) 1 (by omega) (gs i i0 i1)]
    exact ck.2.2.2.2.2.1 i i0 i1
theorem CK.fq {A : Int → Prop} {G : List (Int × Nat)} {h t : mH} {K K' : Int} (ck : CK h K') (fq : Fq A G h t) (hG : okG G = true) (a1 : ¬ A 1) (bi : BI t) (sp : SPx t) (g7 : ((0 : Int), 7) ∉ G) (g9 : ((0 : Int), 9) ∉ G) (gs : ∀ i, 0 ≤ i → i < 4 → ((33 + 2 * i : Int), 1) ∉ G) (hA : ∀ a, 41 ≤ a → a < 74 → ¬ A a) (hG2 : ∀ k, ((41 : Int), k) ∉ G) (kp : KP t K) (hA3 : ∀ a, ((3 ≤ a ∧ a ≤ 7) ∨ (31 ≤ a ∧ a < 41)) → ¬ A a) (hG3 : ∀ q ∈ G, q.1 ≠ 2 ∧ q.1 < 33) (ar : ¬ A (hF h 17 3)) (g3 : ((17 : Int), 3) ∉ G) (g4 : ((17 : Int), 4) ∉ G) : CK t K ∧ Kp h t ∧ Cn h t ∧ Kl h t ∧ Kr h t := by
  have z := ck.fq0 fq hG a1 bi sp g7 g9 gs hA hG2 kp hA3 hG3
  have h74 := ck.1.2.2.2.2
  exact ⟨z.1, z.2.1, z.2.2.1, z.2.2.2, fq.2.2.2.2.1 17 3 (by omega) g3, fq.2.2.2.2.1 17 4 (by omega) g4, fq.2.2.2.2.2 _ ck.rx.2.1 ar⟩
theorem kx_again (h : mH) (K : Int) (ck : CK h (K + 1)) (x : Int) : Cq m_X5_again 9 [(2, 0), (0, x)] h (QX 0 K h) := by
  have h74 := ck.1.2.2.2.2
  obtain ⟨hd, lk, wd, nh, nl, nw, af, ho, bs, rw, na, nr, ob, n9, mn, nv, w9, kq⟩ := id ck.2.2.2.2.2.2
  obtain ⟨tr, en, ob9, hm, -⟩ := id kq
  obtain ⟨_, t, ct, ⟨y, rfl⟩, sp, ⟨ob', n', ob9', ac⟩, fq⟩ := cq_again 4 h ck.1 ck.2.2.1 ob n9 ob9 x
  have hl : ∀ x ∈ sAr, x < 30 ∧ x > 22 := by decide
  have a1 := ac.1
  have a2 := ac.2
  refine ⟨_, t, ct, ⟨y, rfl⟩, ck.fq fq (by decide +kernel) (by rintro (z | z); exact absurd z (by decide); exact absurd z.1 (by decide)) (ck.2.1.fq fq h74 (by rintro (z | z); exact absurd z (by decide); exact absurd z.1 (by decide)) (by rintro (z | z); exact absurd z (by decide); exact absurd z.1 (by decide)) (by decide) (by decide) (by decide)) sp (by decide) (by decide) (fun i i0 i1 => by simp) (fun a a0 a1 z => by rcases z with z | z; have := hl a z; omega; omega) (fun k => by simp) (kq.next (tr.fq fq h74 (by decide) (by decide) (by decide)) (en.fq fq h74 (by decide) (by decide) (by decide) (by decide)) ob9' ((fq.2.2.2.2.1 17 4 (by omega) (by decide)).trans hm) ⟨by omega, by omega⟩ kq.dj) (fun a a0 z => by rcases z with z | z; have := hl a z; omega; omega) (by decide) (fun z => by rcases z with z | z; have := hl _ z; have := ck.rx.1; omega; have := ck.rx.2.2; omega) (by decide) (by decide)⟩
/-! a walk under way -/
def A9 (h : mH) : Int → Prop := fun a => a ∈ [8, 9, 11, 12, 14, 15, 16] ∨ (74 ≤ a ∧ hK h a ≠ 15 ∧ a ≠ hF h 17 3)
abbrev G9f : List (Int × Nat) := [(0, 0), (13, 0), (13, 1), (13, 2), (13, 3), (13, 4)]
def W9 (h t : mH) (P : Int) : Prop := Sh t ∧ BI t ∧ (∃ hd lk wd nl nw, TR t hd lk wd 4096 nl nw ∧ aC h t P (psT 4096 nl nw)) ∧ Fq (A9 h) G9f h t ∧ (0 ≤ hF t 13 4 ∧ hF t 13 4 ≤ 20001) ∧ (0 ≤ hF t 13 3 ∧ hF t 13 3 ≤ 5) ∧ (∀ k, 0 ≤ k → k < hF t 2 1 → 0 ≤ hA t 11 k ∧ hA t 11 k < hF t 2 0) ∧ (hF t 13 0 ≠ hF h 17 3 ∧ hF t 13 1 ≠ hF h 17 3)
theorem TR.in9 {h t : mH} {hd lk wd nh nl nw : Int} (tr : TR t hd lk wd nh nl nw) (hk : ∀ x : Int, x < hN h → hK t x = hK h x) (r10 : hK h (hF h 17 3) = 10) (d0 : hd ≠ hF h 17 3) (d1 : lk ≠ hF h 17 3) : ∀ x : Int, x < hN h → (x = hd ∨ x = lk ∨ x = wd) → A9 h x := by
  obtain ⟨t0, k0, l0, t1, k1, l1, t2, k2, l2, hne, ⟨y0, y1, y2⟩, -⟩ := tr
  intro x hx hz
  rcases hz with rfl | rfl | rfl
  · rcases y0 with z | z
    · exact Or.inl (by rw [z]; decide)
    · exact Or.inr ⟨z, by rw [← hk x hx, k0]; decide, d0⟩
  · rcases y1 with z | z
    · exact Or.inl (by rw [z]; decide)
    · exact Or.inr ⟨z, by rw [← hk x hx, k1]; decide, d1⟩
  · rcases y2 with z | z
    · exact Or.inl (by rw [z]; decide)
    · refine Or.inr ⟨z, by rw [← hk x hx, k2]; decide, fun e => ?_⟩
      rw [hk x hx, e, r10] at k2
      exact absurd k2 (by decide)
theorem A9_no {h : mH} {a : Int} (h1 : a < 74) (h2 : a ∉ [8, 9, 11, 12, 14, 15, 16]) : ¬ A9 h a := fun z => z.elim h2 (fun y => by omega)
/-- the state behind i ticks -/
def X9 (h : mH) (i : Int) : Int → Int := cI9 (ccf h) (hA h 4) i.toNat
theorem cI9_rg {h : mH} (sh : Sh h) (bi : BI h) : ∀ (i : Nat) (k : Int), 0 ≤ k → k < hF h 2 1 → 0 ≤ cI9 (ccf h) (hA h 4) i k ∧ cI9 (ccf h) (hA h 4) i k < hF h 2 0
  | 0 => bi.2.2.2.1
  | i + 1 => cT9_rgf sh bi (cI9_rg sh bi i)
/-- the book of the walk: u states stored, the walker behind v ticks -/
def W9B (h t : mH) (u v : Int) : Prop := hF t 13 4 = u ∧ hF t 2 1 ≤ 5 * hF t 13 3 ∧ u ≤ hL t (hF t 13 1) ∧ u * hF t 13 3 ≤ hL t (hF t 13 2) ∧ TQ (hA t (hF t 13 2)) (hA t (hF t 13 0)) (hA t (hF t 13 1)) u (hF t 13 3) (hF t 2 1) (X9 h) ∧ ∀ k, 0 ≤ k → k < hF t 2 1 → hA t 11 k = X9 h v k
abbrev AL9 (h : mH) (i j : Int) : Prop := ∀ k, 0 ≤ k → k < hF h 2 1 → X9 h i k = X9 h j k
theorem w9_stepOf (d : Nat) {h t : mH} {P : Int} (shh : Sh h) (bih : BI h) (rx : (hF h 17 3 = 21 ∨ 74 ≤ hF h 17 3) ∧ hF h 17 3 < hN h ∧ hK h (hF h 17 3) = 10) (w9 : W9 h t P) {u : Int} (wb : W9B h t u u) (u0 : 0 ≤ u) (u1 : u ≤ 20000) : ∃ y t', Ct m_X4_stepOf (d + 3) [(2, 13), (2, 11), (0, hF t 2 1)] t (some (0, y)) t' ∧ W9 h t' P ∧ ((y = -1 ∧ W9B h t' (u + 1) u ∧ ∀ i, 0 ≤ i → i < u → ¬ AL9 h i u) ∨ (0 ≤ y ∧ y < u ∧ AL9 h y u)) ∧ hF t' 2 1 = hF t 2 1 := by
  obtain ⟨sht, bit, ⟨hd, lk, wd, nl, nw, tr, ac⟩, fq, h4, h3, hr, dj⟩ := w9
  have h74 := sht.2.2.2.2
  have h74h := shh.2.2.2.2
  obtain ⟨e4, hb5, hul, huw, tq, hx⟩ := wb
  have f0 : hF t 2 0 = hF h 2 0 := fq.2.2.2.2.1 2 0 (by omega) (by decide)
  have f1 : hF t 2 1 = hF h 2 1 := fq.2.2.2.2.1 2 1 (by omega) (by decide)
  obtain ⟨t0, -, -, t1, -, l1, t2, -, l2, -⟩ := id tr
  rw [t0, t1, t2] at tq
  rw [t1, l1] at hul
  rw [t2, l2] at huw
  have hrg : ∀ i j, 0 ≤ j → j < hF t 2 1 → 0 ≤ X9 h i j ∧ X9 h i j < 4096 := fun i j j0 j1 => by
    have z := cI9_rg shh bih i.toNat j j0 (by omega)
    have r1 := bih.1.2
    exact ⟨z.1, by unfold X9; omega⟩
  have hv : ∀ j, 0 ≤ j → j < hF t 2 1 → 0 ≤ hA t 11 j ∧ hA t 11 j < 4096 := fun j j0 j1 => by
    have z := hr j j0 j1
    have r1 := bit.1.2
    omega
  obtain ⟨_, t', ct, ⟨y, rfl, hy⟩, ⟨lk', wd', nl', nw', tr', hlk, hwd, ac', hbk⟩, fq', c1, c2⟩ := cq_stepOfX d t sht hd lk wd nl nw tr (hF t 13 3) u rfl e4 h3.1 h3.2 u0 u1 (hF t 2 1) bit.2.1.1 bit.2.1.2 hv (X9 h) tq hx hul huw
  have hno : ∀ a : Int, a < 74 → a ∉ [14, 15, 16] → ¬ (a = hd ∨ a = lk ∨ a = wd) := fun a a1 a2 z => by
    obtain ⟨y0, y1, y2⟩ := tr.2.2.2.2.2.2.2.2.2.2.1
    simp only [List.mem_cons, List.not_mem_nil, or_false] at a2
    omega
  have sh' : Sh t' := sht.fq fq' (by decide +kernel) (hno 1 (by decide) (by decide))
  have e20 : hF t' 2 0 = hF t 2 0 := fq'.2.2.2.2.1 2 0 (by omega) (by decide)
  have e21 : hF t' 2 1 = hF t 2 1 := fq'.2.2.2.2.1 2 1 (by omega) (by decide)
  have e11 : hA t' 11 = hA t 11 := fq'.2.2.2.2.2 11 (by omega) (hno 11 (by decide) (by decide))
  have e33 : hF t' 13 3 = hF t 13 3 := fq'.2.2.2.2.1 13 3 (by omega) (by decide)
  have dj' : hF t' 13 0 ≠ hF h 17 3 ∧ hF t' 13 1 ≠ hF h 17 3 := by
    refine ⟨by rw [tr'.1, ← t0]; exact dj.1, ?_⟩
    rw [tr'.2.2.2.1]
    have hn := fq.1
    rcases hlk with z | z
    · rw [z, ← t1]
      exact dj.2
    · omega
  refine ⟨y, t', ct, ⟨sh', bit.fq fq' h74 (hno 4 (by decide) (by decide)) (hno 7 (by decide) (by decide)) (by decide) (by decide) (by decide), ⟨hd, lk', wd', nl', nw', tr', ac.tr ac'⟩, fq.tr2 (fq'.mono (A' := fun a => a = hd ∨ a = lk ∨ a = wd) (G' := G9f) (fun x _ z => z) (by decide)) (fun x hx hz => tr.in9 (fun x hx => fq.2.2.1 x hx) rx.2.2 (by rw [← t0]; exact dj.1) (by rw [← t1]; exact dj.2) x hx hz), ⟨by omega, c2⟩, by rw [e33]; exact h3, by rw [e20, e21, e11]; exact hr, dj'⟩, ?_, e21⟩
  rcases hy with ⟨z, un⟩ | ⟨z0, z1, wl⟩
  · refine Or.inl ⟨z, ?_, fun i i0 i1 al => un i i0 i1 (fun q q0 q1 => pw9_cg (fun j j0 j1 => al j j0 (by omega)) q0)⟩
    obtain ⟨b4, bl, bw, btq⟩ := hbk (by rw [z])
    obtain ⟨s0, -, -, s1, -, m1, s2, -, m2, -⟩ := tr'
    refine ⟨b4, by rw [e21, e33]; exact hb5, by rw [s1, m1]; exact bl, by rw [s2, m2, e33]; exact bw, by rw [s0, s1, s2, e33, e21]; exact btq, by rw [e21, e11]; exact hx⟩
  · refine Or.inr ⟨z0, z1, fun k k0 k1 => ?_⟩
    exact pw9_inj hb5 (hrg y) (hrg u) wl k k0 (by omega)
theorem w9_walk (d : Nat) {h t : mH} {P : Int} (shh : Sh h) (w9 : W9 h t P) {u v : Int} (v0 : 0 ≤ v) (wb : W9B h t u v) : ∃ t', Ct m_X0_walk (d + 3) [(2, 2)] t none t' ∧ W9 h t' P ∧ W9B h t' u (v + 1) ∧ hF t' 2 1 = hF t 2 1 := by
  obtain ⟨sht, bit, ⟨hd, lk, wd, nl, nw, tr, ac⟩, fq, h4, h3, hr, dj⟩ := w9
  have h74 := sht.2.2.2.2
  have h74h := shh.2.2.2.2
  obtain ⟨_, t', ct, rfl, fr, hrx⟩ := cq_walkX d t sht bit hr
  have hr' : ∀ j, 0 ≤ j → j < hF t 2 1 → 0 ≤ hA t' 11 j ∧ hA t' 11 j < hF t 2 0 := fun j j0 j1 => (hrx j j0 j1).2
  have ec : ccf t = ccf h := ccf_fq fq h74h (A9_no (by decide) (by decide)) (A9_no (by decide) (by decide)) (A9_no (by decide) (by decide)) (by decide) (by decide) (by decide)
  have f1 : hF t 2 1 = hF h 2 1 := fq.2.2.2.2.1 2 1 (by omega) (by decide)
  obtain ⟨b4, bn, bl, bw, btq, bx⟩ := wb
  obtain ⟨t0, -, -, t1, -, -, t2, -, -, -, ⟨y0, y1, y2⟩, -⟩ := id tr
  have fq' : Fq (A9 h) G9f t t' := (Fq.fr (A := A9 h) fr (fun x z => Or.inl (by revert x; decide))).mono (fun x _ z => z) (by simp)
  have e20 : hF t' 2 0 = hF t 2 0 := fr.2.2.2.2.1 2 0 (by decide)
  have e21 : hF t' 2 1 = hF t 2 1 := fr.2.2.2.2.1 2 1 (by decide)
  refine ⟨t', ct, ⟨sht.fr fr (by decide +kernel) (by decide), bit.fr fr (by decide) (by decide) (by decide) (by decide) (by decide), ⟨hd, lk, wd, nl, nw, tr.fq (Fq.fr (A := fun a => a ∈ [8, 9, 12, 11]) fr (fun x z => z)) h74 (by decide) (by decide) (by decide), ac.tr (aC.same fr.1 fr.2.1)⟩, fq.tr fq', ?_, ?_, by rw [e20, e21]; exact hr', by rw [fr.2.2.2.2.1 13 0 (by decide), fr.2.2.2.2.1 13 1 (by decide)]; exact dj⟩, ?_, e21⟩
  · rw [fr.2.2.2.2.1 13 4 (by decide)]
    exact h4
  · rw [fr.2.2.2.2.1 13 3 (by decide)]
    exact h3
  · have g := fun k => fr.2.2.2.2.1 13 k (by simp)
    have a := fun (x : Int) (hx : x = 14 ∨ x = 15 ∨ x = 16 ∨ 74 ≤ x) => fr.2.2.2.2.2 x (by simp only [List.mem_cons, List.not_mem_nil, or_false]; omega)
    unfold W9B
    rw [g 0, g 1, g 2, g 3, g 4, e21, fr.2.2.2.1, t0, t1, t2, a hd (by omega), a lk (by omega), a wd (by omega)]
    rw [t1] at bl
    rw [t2] at bw
    rw [t0, t1, t2] at btq
    refine ⟨b4, bn, bl, bw, btq, fun k k0 k1 => ?_⟩
    rw [(hrx k k0 k1).1, ec, cT9_eq (c := ccf h) (f := hA t 11) (g := X9 h v) (fun i i0 i1 => bx i i0 (by rw [f1]; exact i1))]
    show _ = cI9 (ccf h) (hA h 4) (v + 1).toNat k
    rw [show (v + 1).toNat = v.toNat + 1 by omega]
    rfl
theorem w9_start (d : Nat) {h : mH} (sh : Sh h) (bi : BI h) (rx : (hF h 17 3 = 21 ∨ 74 ≤ hF h 17 3) ∧ hF h 17 3 < hN h ∧ hK h (hF h 17 3) = 10) {hd lk wd nh nl nw : Int} (tr : TR h hd lk wd nh nl nw) (dj : hF h 17 3 ≠ hd ∧ hF h 17 3 ≠ lk) : ∃ t1 t2, Ct m_X0_startWalk (d + 1) [(2, 2)] h none t1 ∧ hF t1 2 1 = hF h 2 1 ∧ Sh t1 ∧ Ct m_X4_start (d + 1) [(2, 13), (0, hF h 2 1)] t1 none t2 ∧ W9 h t2 (psT nh nl nw) ∧ W9B h t2 0 0 ∧ hF t2 2 1 = hF h 2 1 := by
  have h74 := sh.2.2.2.2
  have ct1 := ct_startWalk d h sh bi.2.1.1 bi.2.1.2
  have f1 : Fr [11] [] h (sA h 11 (cpF (hA h 4) (hA h 11) 0 0 (hF h 2 1))) := Fr.a (by decide)
  have sh1 := sh.fr f1 (by decide +kernel) (by decide)
  obtain ⟨_, t2, ct2, rfl, hd', tr2, e3, e4, fq2, ac2, hdn, hm1⟩ := cq_tstartX d (sA h 11 (cpF (hA h 4) (hA h 11) 0 0 (hF h 2 1))) sh1 hd lk wd nh nl nw (tr.fq (Fq.fr (A := fun a => a ∈ [11]) f1 (fun x z => z)) h74 (by decide) (by decide) (by decide)) (hF h 2 1) bi.2.1.1 bi.2.1.2
  have hno : ∀ a : Int, a < 74 → a ≠ 14 → ¬ a = hd := fun a a1 a2 z => by
    obtain ⟨y0, y1, y2⟩ := tr.2.2.2.2.2.2.2.2.2.2.1
    omega
  have sh2 : Sh t2 := sh1.fq fq2 (by decide +kernel) (hno 1 (by decide) (by decide))
  have e20 : hF t2 2 0 = hF h 2 0 := fq2.2.2.2.2.1 2 0 (by show (2 : Int) < ((hN h : Nat) : Int); omega) (by decide)
  have e21 : hF t2 2 1 = hF h 2 1 := fq2.2.2.2.2.1 2 1 (by show (2 : Int) < ((hN h : Nat) : Int); omega) (by decide)
  have e11 : hA t2 11 = cpF (hA h 4) (hA h 11) 0 0 (hF h 2 1) := (fq2.2.2.2.2.2 11 (by show (11 : Int) < ((hN h : Nat) : Int); omega) (hno 11 (by decide) (by decide))).trans hA_sAs
  have fqh : Fq (A9 h) G9f h (sA h 11 (cpF (hA h 4) (hA h 11) 0 0 (hF h 2 1))) := (Fq.fr (A := A9 h) f1 (fun x z => Or.inl (by revert x; decide))).mono (fun x _ z => z) (by simp)
  have hb := tdn (a := hF h 2 1 + 4) (b := 5) (by have := bi.2.1.1; omega) (by decide)
  refine ⟨_, t2, ct1, rfl, sh1, ct2, ⟨sh2, ?_, ⟨hd', lk, wd, nl, nw, tr2, (aC.same rfl rfl).tr ac2⟩, fqh.tr2 (fq2.mono (A' := fun a => a = hd) (G' := G9f) (fun x _ z => z) (by decide)) (fun x hx hz => tr.in9 (h := h) (fun _ _ => rfl) rx.2.2 (fun z => dj.1 z.symm) (fun z => dj.2 z.symm) x hx (Or.inl hz)), by rw [e4]; decide, ?_, ?_, ?_⟩, ?_, e21⟩
  · exact BI.fq (h := sA h 11 (cpF (hA h 4) (hA h 11) 0 0 (hF h 2 1))) bi fq2 h74 (hno 4 (by decide) (by decide)) (hno 7 (by decide) (by decide)) (by decide) (by decide) (by decide)
  · rw [e3]
    have h5 : (hF h 2 1 + 4).tdiv 5 ≤ 5 := by
      rw [Int.tdiv_eq_ediv_of_nonneg (by have := bi.2.1.1; omega)]
      have := bi.2.1.2
      omega
    exact ⟨hb.1, h5⟩
  · rw [e20, e21, e11]
    intro k k0 k1
    unfold cpF
    rw [if_pos (by omega), show (0 : Int) + (k - 0) = k by omega]
    exact bi.2.2.2.1 k k0 k1
  · rw [tr2.1, tr2.2.2.2.1]
    refine ⟨?_, fun z => dj.2 z.symm⟩
    rcases hdn with z | z
    · rw [z]
      exact fun z => dj.1 z.symm
    · have z' : ((hN h : Nat) : Int) ≤ hd' := z
      have := rx.2.1
      omega
  · obtain ⟨s0, -, -, s1, -, m1, s2, -, m2, -, -, -, -, ⟨b1, -⟩, b2, -⟩ := id tr2
    refine ⟨e4, ?_, by rw [s1, m1]; exact b1, by rw [s2, m2, Int.zero_mul]; exact b2, TQ.nil (by rw [s0]; exact hm1), fun k k0 k1 => ?_⟩
    · rw [e21, e3, Int.tdiv_eq_ediv_of_nonneg (by have := bi.2.1.1; omega)]
      omega
    · rw [e11]
      unfold cpF
      rw [if_pos (by omega), show (0 : Int) + (k - 0) = k by omega]
      rfl
theorem W9.done {h t : mH} {K v : Int} (ck : CK h (K + 1)) {hd lk wd nh nl nw af ho bs rw na nr ob n9 mn nv w9 : Int} (kq : KQ h (K + 1) hd lk wd nh nl nw af ho bs rw na nr ob n9 mn nv w9) (w : W9 h t (psT nh nl nw)) : CK (sF t 0 0 v) K ∧ Kp h (sF t 0 0 v) ∧ Cn h (sF t 0 0 v) ∧ Kl h (sF t 0 0 v) ∧ Kr h (sF t 0 0 v) := by
  obtain ⟨sht, bit, ⟨hd', lk', wd', nl', nw', tr', ac⟩, fq, -, -, -, dj⟩ := w
  have h74 := ck.1.2.2.2.2
  have h74t := sht.2.2.2.2
  obtain ⟨tr, en, ob9, hm, -⟩ := id kq
  have fqz : Fq (A9 h) G9f h (sF t 0 0 v) := fq.tr (Fq.f (by decide))
  have a1 := ac.1
  have a2 := ac.2
  have oo := ob9.2.2.2.1
  have ok := ob9.2.1
  refine ck.fq fqz (by decide +kernel) (A9_no (by decide) (by decide)) bit (ck.2.2.1.fq fqz h74 (by decide)) (by decide) (by decide) (fun i i0 i1 => by simp; omega) (fun a a0 a1 => A9_no a1 (by simp; omega)) (fun k => by simp) (kq.next (tr'.fq (A := fun _ => False) (G := [(0, 0)]) (Fq.f (by decide)) h74t (by decide) (by decide) (by decide)) (en.fq fqz h74 (by decide) (by decide) (by decide) (by decide)) (ob9.fq fqz h74 (by decide) (fun z => ?_)) ((fqz.2.2.2.2.1 17 4 (by omega) (by decide)).trans hm) ⟨by show ((hZ t : Nat) : Int) + _ ≤ _; omega, by show 2 * ((hN t : Nat) : Int) + _ ≤ _; omega⟩ (by rw [tr'.1, tr'.2.2.2.1, en.2.2.2.1.1] at dj; exact ⟨fun z => dj.1 z.symm, fun z => dj.2 z.symm⟩)) (fun a a0 => A9_no (by omega) (by simp; omega)) (by decide) (fun z => ?_) (by decide) (by decide)
  · rcases z with z | z
    · have : ∀ x ∈ [8, 9, 11, 12, 14, 15, 16], (x : Int) < 30 := by decide
      have := this ob z
      omega
    · exact z.2.1 ok
  · rcases z with z | z
    · have := ck.rx.1
      have hl : ∀ x ∈ [8, 9, 11, 12, 14, 15, 16], (x : Int) < 21 := by decide
      have := hl _ z
      omega
    · exact z.2.2 rfl
