/-! ===== the class's invariant, with room for K calls ===== -/
/-- what the rows of ends may still take: by calls, by their length now and ahead of it -/
def psR (K w9 nr nv : Int) : Int := 11664 * (K + w9) + 2 * (46656 - min nr 46656) + 2 * (46656 - min nv 46656) + (if nr ≤ 46656 then 62208 else 0)
/-- how many ends the bench has -/
def FNd (h : mH) : Int := ((cR (hom9 (G9 (ccf h)) (hF h 2 0 ^ (hF h 2 1).toNat)) (hF h 2 0 ^ (hF h 2 1).toNat).toNat : Nat) : Int)
def KQ (h : mH) (K : Int) (hd lk wd nh nl nw af ho bs rw na nr ob n9 mn nv w9 : Int) : Prop := TR h hd lk wd nh nl nw ∧ EN h af ho bs rw na nr ∧ OB h ob n9 ∧ hF h 17 4 = mn ∧ ((0 ≤ mn ∧ mn ≤ 15552) ∧ 3 * mn ≤ nr ∧ nv ≤ nr) ∧ (0 ≤ nv ∧ (0 ≤ w9 ∧ w9 ≤ 3) ∧ (w9 ≤ 1 ↔ nv < 3 * mn)) ∧ ((w9 = 0 ∨ w9 = 2) → FNd h = mn) ∧ (hZ h : Int) + (psT nh nl nw + psA na + psO n9) + psR K w9 nr nv + 8 * K ≤ 7250000 ∧ 2 * (hN h : Int) + (psT nh nl nw + psA na + psO n9) + 4 * K ≤ 1202048
def KP (h : mH) (K : Int) : Prop := ∃ hd lk wd nh nl nw af ho bs rw na nr ob n9 mn nv w9, KQ h K hd lk wd nh nl nw af ho bs rw na nr ob n9 mn nv w9
def SHs (h : mH) : Prop := ∀ i, 0 ≤ i → i < 4 → hF h (33 + 2 * i) 1 ≤ 100
def CK (h : mH) (K : Int) : Prop := Sh h ∧ BI h ∧ SPx h ∧ (0 ≤ hF h 0 7 ∧ hF h 0 7 ≤ 24) ∧ (0 ≤ hF h 0 9 ∧ hF h 0 9 ≤ 10) ∧ SHs h ∧ KP h K
/-- the reference's cells stay -/
def Kp (h t : mH) : Prop := (∀ k, hF t 41 k = hF h 41 k) ∧ (∀ a, 41 ≤ a → a < 74 → hA t a = hA h a) ∧ hK t 73 = hK h 73 ∧ hL t 73 = hL h 73
theorem Kp.mi {h t : mH} (k : Kp h t) (mi : MI h) : MI t := by
  unfold MI MB MS MT ME at mi ⊢
  rw [k.1 5, k.1 6, k.1 8, k.1 30, k.1 27, k.1 28, k.1 39, k.2.1 46 (by decide) (by decide), k.2.1 47 (by decide) (by decide), k.2.1 43 (by decide) (by decide), k.2.1 64 (by decide) (by decide)]
  exact mi
/-- the sheets stay; the bench and the sheets stay; ring, many and the sheets stay -/
def Csh (h t : mH) : Prop := ∀ a, 33 ≤ a → a < 41 → (∀ k, hF t a k = hF h a k) ∧ hA t a = hA h a
def Cn (h t : mH) : Prop := (∀ k, hF t 2 k = hF h 2 k) ∧ (∀ a, 3 ≤ a → a ≤ 7 → hA t a = hA h a) ∧ Csh h t
def Cs (h t : mH) : Prop := (hF t 2 0 = hF h 2 0 ∧ hF t 2 1 = hF h 2 1) ∧ Csh h t
theorem Cn.cs {h t : mH} (c : Cn h t) : Cs h t := ⟨⟨c.1 0, c.1 1⟩, c.2.2⟩
theorem Csh.fr {A : List Int} {G : List (Int × Nat)} {h t : mH} (fr : Fr A G h t) (hA : ∀ x ∈ A, x < 33) (hG : ∀ q ∈ G, q.1 < 33) : Csh h t := fun a a0 a1 => ⟨fun k => fr.2.2.2.2.1 a k (fun z => by have := hG _ z; omega), fr.2.2.2.2.2 a (fun z => by have := hA _ z; omega)⟩
theorem Cn.fr {A : List Int} {G : List (Int × Nat)} {h t : mH} (fr : Fr A G h t) (hA : ∀ x ∈ A, (x < 3 ∨ 7 < x) ∧ x < 33) (hG : ∀ q ∈ G, q.1 ≠ 2 ∧ q.1 < 33) : Cn h t := ⟨fun k => fr.2.2.2.2.1 2 k (fun z => (hG _ z).1 rfl), fun a a0 a1 => fr.2.2.2.2.2 a (fun z => by have := hA _ z; omega), Csh.fr fr (fun x z => (hA x z).2) (fun q z => (hG q z).2)⟩
theorem Cs.fr {A : List Int} {G : List (Int × Nat)} {h t : mH} (fr : Fr A G h t) (g0 : ((2 : Int), 0) ∉ G) (g1 : ((2 : Int), 1) ∉ G) (hA : ∀ x ∈ A, x < 33) (hG : ∀ q ∈ G, q.1 < 33) : Cs h t := ⟨⟨fr.2.2.2.2.1 2 0 g0, fr.2.2.2.2.1 2 1 g1⟩, Csh.fr fr hA hG⟩
theorem Cn.fq {A : Int → Prop} {G : List (Int × Nat)} {h t : mH} (fq : Fq A G h t) (h74 : 74 ≤ hN h) (hA : ∀ a, ((3 ≤ a ∧ a ≤ 7) ∨ (33 ≤ a ∧ a < 41)) → ¬ A a) (hG : ∀ q ∈ G, q.1 ≠ 2 ∧ q.1 < 33) : Cn h t := ⟨fun k => fq.2.2.2.2.1 2 k (by omega) (fun z => (hG _ z).1 rfl), fun a a0 a1 => fq.2.2.2.2.2 a (by omega) (hA a (Or.inl ⟨a0, a1⟩)), fun a a0 a1 => ⟨fun k => fq.2.2.2.2.1 a k (by omega) (fun z => by have := hG _ z; omega), fq.2.2.2.2.2 a (by omega) (hA a (Or.inr ⟨a0, a1⟩))⟩⟩
theorem psR_call {K w9 w' nr nv : Int} (h : w' ≤ w9 + 1) : psR K w' nr nv ≤ psR (K + 1) w9 nr nv := by
  unfold psR
  omega
def gK9 : List (Int × Nat) := [(13, 0), (13, 1), (13, 2), (17, 0), (17, 1), (17, 2), (17, 3), (17, 4), (22, 8)]
theorem KP.call {A : Int → Prop} {G : List (Int × Nat)} {h t : mH} {K : Int} (kp : KP h (K + 1)) (h74 : 74 ≤ hN h) (fq : Fq A G h t) (hn : hN t = hN h) (hz : hZ t = hZ h) (hG : ∀ q ∈ gK9, q ∉ G) (hA : ∀ a, A a → a < 74 ∧ a ≠ 30) : KP t K := by
  obtain ⟨hd, lk, wd, nh, nl, nw, af, ho, bs, rw, na, nr, ob, n9, mn, nv, w9, tr, en, ob9, hm, h1, ⟨h2, h3, h4⟩, h5, h6, h7⟩ := kp
  have oo := ob9.2.2.2.1
  refine ⟨hd, lk, wd, nh, nl, nw, af, ho, bs, rw, na, nr, ob, n9, mn, nv, if w9 = 0 then 1 else if w9 = 2 then 3 else w9, tr.fq fq h74 (hG _ (by decide)) (hG _ (by decide)) (hG _ (by decide)), en.fq fq h74 (hG _ (by decide)) (hG _ (by decide)) (hG _ (by decide)) (hG _ (by decide)), ob9.fq fq h74 (hG _ (by decide)) (fun z => by have := hA _ z; omega), (fq.2.2.2.2.1 17 4 (by omega) (hG _ (by decide))).trans hm, h1, ⟨h2, ?_, ?_⟩, ?_, ?_, ?_⟩
  · split
    · omega
    · split <;> omega
  · rw [← h4]
    split
    · omega
    · split <;> omega
  · intro z
    split at z
    · omega
    · split at z <;> omega
  · have hp := psR_call (K := K) (w9 := w9) (w' := if w9 = 0 then 1 else if w9 = 2 then 3 else w9) (nr := nr) (nv := nv) (by split; omega; split <;> omega)
    rw [hz]
    omega
  · rw [hn]
    omega
theorem KP.model {h t : mH} {K : Int} (kp : KP h K) (h74 : 74 ≤ hN h) (fr : Fr mAr mGf h t) : KP t K := by
  obtain ⟨hd, lk, wd, nh, nl, nw, af, ho, bs, rw, na, nr, ob, n9, mn, nv, w9, tr, en, ob9, hm, h1, h2, h5, h6, h7⟩ := kp
  have oo := ob9.2.2.2.1
  have fq := Fq.fr (A := fun a => a ∈ mAr) fr (fun x z => z)
  have ef : FNd t = FNd h := by
    unfold FNd
    rw [ccf_fr fr (by decide) (by decide) (by decide) (by decide) (by decide) (by decide), fr.2.2.2.2.1 2 0 (by decide), fr.2.2.2.2.1 2 1 (by decide)]
  have hl : ∀ x ∈ mAr, x < 74 ∧ x ≠ 30 := by decide
  refine ⟨hd, lk, wd, nh, nl, nw, af, ho, bs, rw, na, nr, ob, n9, mn, nv, w9, tr.fq fq h74 (by decide) (by decide) (by decide), en.fq fq h74 (by decide) (by decide) (by decide) (by decide), ob9.fq fq h74 (by decide) (fun z => by have := hl _ z; omega), (fr.2.2.2.2.1 17 4 (by decide)).trans hm, h1, h2, by rw [ef]; exact h5, by rw [fr.2.1]; exact h6, by rw [fr.1]; exact h7⟩
abbrev cAr : List Int := [3, 4, 5, 6, 7, 8, 9, 10, 11, 12, 23, 24, 25, 26, 27, 28, 29, 31, 32, 34, 36, 38, 40]
abbrev cGf : List (Int × Nat) := [(0, 0), (0, 7), (0, 9), (2, 0), (2, 1), (2, 2), (2, 8), (22, 0), (22, 2), (22, 3), (22, 5), (22, 6), (22, 9), (22, 10), (22, 11), (22, 12), (22, 13), (33, 0), (33, 1), (35, 0), (35, 1), (37, 0), (37, 1), (39, 0), (39, 1)]
theorem Kp.fr {A : List Int} {G : List (Int × Nat)} {h t : mH} (fr : Fr A G h t) (hA : ∀ x ∈ A, x < 41) (hG : ∀ q ∈ G, q.1 ≠ 41) : Kp h t := ⟨fun k => fr.2.2.2.2.1 41 k (fun z => hG _ z rfl), fun a a0 a1 => fr.2.2.2.2.2 a (fun z => by have := hA a z; omega), by rw [fr.2.2.1], by rw [fr.2.2.2.1]⟩
theorem CK.fr {h t : mH} {K : Int} (ck : CK h (K + 1)) (fr : Fr cAr cGf h t) (bi : BI t) (sp : SPx t) (h7 : 0 ≤ hF t 0 7 ∧ hF t 0 7 ≤ 24) (h9 : 0 ≤ hF t 0 9 ∧ hF t 0 9 ≤ 10) (hs : SHs t) : CK t K ∧ Kp h t := by
  have hl : ∀ x ∈ cAr, x < 74 ∧ x ≠ 30 := by decide
  exact ⟨⟨ck.1.fr fr (by decide +kernel) (by decide), bi, sp, h7, h9, hs, ck.2.2.2.2.2.2.call ck.1.2.2.2.2 (Fq.fr (A := fun a => a ∈ cAr) fr (fun x z => z)) fr.1 fr.2.1 (by decide) hl⟩, Kp.fr fr (by decide) (by decide)⟩
theorem CK.model {h t : mH} {K : Int} (ck : CK h K) (fr : Fr mAr mGf h t) : CK t K := by
  refine ⟨ck.1.m fr, ck.2.1.fr fr (by decide) (by decide) (by decide) (by decide) (by decide), ck.2.2.1.fr fr (by decide), ?_, ?_, fun i i0 i1 => ?_, ck.2.2.2.2.2.2.model ck.1.2.2.2.2 fr⟩
  · rw [fr.2.2.2.2.1 0 7 (by decide)]
    exact ck.2.2.2.1
  · rw [fr.2.2.2.2.1 0 9 (by decide)]
    exact ck.2.2.2.2.1
  · rw [fr.2.2.2.2.1 (33 + 2 * i) 1 (by simp; omega)]
    exact ck.2.2.2.2.2.1 i i0 i1
/-- a call that touches the bench alone -/
theorem CK.bench0 {h t : mH} {K : Int} (ck : CK h (K + 1)) (fr : Fr bAr bGf h t) (bi : BI t) : CK t K ∧ Kp h t := by
  refine ck.fr (fr.mono (by decide) (by decide)) bi (ck.2.2.1.fr fr (by decide)) ?_ ?_ (fun i i0 i1 => ?_)
  · rw [fr.2.2.2.2.1 0 7 (by decide)]
    exact ck.2.2.2.1
  · rw [fr.2.2.2.2.1 0 9 (by decide)]
    exact ck.2.2.2.2.1
  · rw [fr.2.2.2.2.1 (33 + 2 * i) 1 (by simp; omega)]
    exact ck.2.2.2.2.2.1 i i0 i1
theorem CK.bench {h t : mH} {K : Int} (ck : CK h (K + 1)) (fr : Fr bAr bGk h t) (bi : BI t) : CK t K ∧ Kp h t ∧ Cs h t := by
  have z := ck.bench0 (fr.mono (fun _ z => z) (by decide)) bi
  exact ⟨z.1, z.2, Cs.fr fr (by decide) (by decide) (by decide) (by decide)⟩
/-- a call that touches the spans alone -/
theorem CK.spans {h t : mH} {K : Int} (ck : CK h (K + 1)) (fr : Fr (32 :: sAr) ((0, 0) :: (0, 9) :: sGf) h t) (sp : SPx t) (h9 : 0 ≤ hF t 0 9 ∧ hF t 0 9 ≤ 10) : CK t K ∧ Kp h t ∧ Cn h t := by
  suffices z : CK t K ∧ Kp h t from ⟨z.1, z.2, Cn.fr fr (by decide) (by decide)⟩
  refine ck.fr (fr.mono (by decide) (by decide)) (ck.2.1.fr fr (by decide) (by decide) (by decide) (by decide) (by decide)) sp ?_ h9 (fun i i0 i1 => ?_)
  · rw [fr.2.2.2.2.1 0 7 (by decide)]
    exact ck.2.2.2.1
  · rw [fr.2.2.2.2.1 (33 + 2 * i) 1 (by simp)]
    exact ck.2.2.2.2.2.1 i i0 i1
/-- the end of a call -/
def QX (tg : Nat) (K : Int) (h : mH) : Option mV → mH → Prop := fun r t => (∃ y, r = some (tg, y)) ∧ CK t K ∧ Kp h t ∧ Cn h t
/-- .. with a yes just where A holds -/
def QY (C : mH → mH → Prop) (A : Prop) (K : Int) (h : mH) : Option mV → mH → Prop := fun r t => (∃ y, r = some (0, y) ∧ ((y = 0 ∧ ¬ A) ∨ (y = 1 ∧ A))) ∧ CK t K ∧ Kp h t ∧ C h t
/-- .. that changes what both sides share, as E tells -/
def QC (no yes : Int) (A : Prop) (E : mH → mH → Prop) (K : Int) (h : mH) : Option mV → mH → Prop := fun r t => (∃ y, r = some (0, y) ∧ ((y = no ∧ ¬ A ∧ Cn h t) ∨ (y = yes ∧ A ∧ E h t))) ∧ CK t K ∧ Kp h t
/-! ===== the tie ===== -/
def TI (h : mH) : Prop := (hF h 2 0 = hF h 41 5 ∧ hF h 2 1 = hF h 41 6) ∧ TS (cTb h) (mTb h)
theorem Csh.ss {h t : mH} (c : Csh h t) : SS (cTb h) (cTb t) := fun i i0 i1 => ⟨(c (33 + 2 * i) (by omega) (by omega)).1 0, (c (33 + 2 * i) (by omega) (by omega)).1 1, fun k _ _ => congrFun (c (34 + 2 * i) (by omega) (by omega)).2 k⟩
theorem Kp.ss {h t : mH} (k : Kp h t) : SS (mTb h) (mTb t) := fun i _ _ => ⟨congrFun (k.2.1 42 (by decide) (by decide)) i, congrFun (k.2.1 43 (by decide) (by decide)) i, fun j _ _ => congrFun (k.2.1 44 (by decide) (by decide)) _⟩
theorem ms_fr {A : List Int} {G : List (Int × Nat)} {h t : mH} (fr : Fr A G h t) (a2 : (42 : Int) ∉ A) (a3 : (43 : Int) ∉ A) (a4 : (44 : Int) ∉ A) : SS (mTb h) (mTb t) := fun i _ _ => ⟨congrFun (fr.2.2.2.2.2 42 a2) i, congrFun (fr.2.2.2.2.2 43 a3) i, fun j _ _ => congrFun (fr.2.2.2.2.2 44 a4) _⟩
theorem cs_fr {h t : mH} (fr : Fr mAr mGf h t) : (hF t 2 0 = hF h 2 0 ∧ hF t 2 1 = hF h 2 1) ∧ SS (cTb h) (cTb t) := by
  have hl : ∀ x ∈ mAr, 42 ≤ x := by decide
  have hg : ∀ q ∈ mGf, q.1 = 41 := by decide
  exact ⟨⟨fr.2.2.2.2.1 2 0 (by decide), fr.2.2.2.2.1 2 1 (by decide)⟩, fun i i0 i1 => ⟨fr.2.2.2.2.1 _ 0 (fun z => by have := hg _ z; omega), fr.2.2.2.2.1 _ 1 (fun z => by have := hg _ z; omega), fun k _ _ => congrFun (fr.2.2.2.2.2 _ (fun z => by have := hl _ z; omega)) k⟩⟩
/-- a pair of calls, the class's from h to t1, the reference's from t1 to t2 -/
theorem TI.gen {t1 t2 : mH} (fr : Fr mAr mGf t1 t2) (e0 : hF t1 2 0 = hF t2 41 5) (e1 : hF t1 2 1 = hF t2 41 6) (ts : TS (cTb t1) (mTb t2)) : TI t2 :=
  ⟨⟨(cs_fr fr).1.1.trans e0, (cs_fr fr).1.2.trans e1⟩, ts.ss (cs_fr fr).2 SS.rf⟩
theorem TI.keep {h t1 t2 : mH} {A : List Int} {G : List (Int × Nat)} (ti : TI h) (kp : Kp h t1) (cs : Cs h t1) (fr : Fr A G t1 t2) (hA : ∀ x ∈ A, x ∈ mAk) (hG : ∀ q ∈ G, q ∈ mGk) : TI t2 := by
  have fr' := fr.mono hA hG
  refine TI.gen (t1 := t1) (fr'.mono (by decide) (by decide)) ?_ ?_ (ti.2.ss cs.2.ss (fun i i0 i1 => ?_))
  · rw [fr'.2.2.2.2.1 41 5 (by decide), kp.1 5, cs.1.1]
    exact ti.1.1
  · rw [fr'.2.2.2.2.1 41 6 (by decide), kp.1 6, cs.1.2]
    exact ti.1.2
  · have z1 := kp.ss i i0 i1
    have z2 := ms_fr fr' (by decide) (by decide) (by decide) i i0 i1
    exact ⟨z2.1.trans z1.1, z2.2.1.trans z1.2.1, fun k k0 k1 => (z2.2.2 k k0 k1).trans (z1.2.2 k k0 k1)⟩
theorem TI.no {h t1 t2 : mH} (ti : TI h) (kp : Kp h t1) (cn : Cn h t1) (fr : Fr [] [(41, 0), (41, 1)] t1 t2) : TI t2 := ti.keep kp cn.cs fr (by decide) (by decide)
/-- the sheets' tie between the class ahead and the reference at t1 -/
theorem TI.mid {h t1 : mH} (ti : TI h) (kp : Kp h t1) : TS (cTb h) (mTb t1) ∧ hF h 2 0 = hF t1 41 5 ∧ hF h 2 1 = hF t1 41 6 := ⟨ti.2.ss SS.rf kp.ss, ti.1.1.trans (kp.1 5).symm, ti.1.2.trans (kp.1 6).symm⟩
theorem TS.at {h t1 : mH} {s : Int} (ts : TS (cTb h) (mTb t1)) (s0 : 0 ≤ s ∧ s < 4) : hF h (33 + 2 * s) 0 = hA t1 42 s ∧ hF h (33 + 2 * s) 1 = hA t1 43 s ∧ (-1 ≤ hF h (33 + 2 * s) 1 ∧ hF h (33 + 2 * s) 1 ≤ 100) ∧ ∀ k, 0 ≤ k → k < hF h (33 + 2 * s) 1 → hA h (34 + 2 * s) k = hA t1 44 (100 * s + k) := ts s s0.1 s0.2
section TIE
variable {h t1 t2 : mH} {y1 y2 : Int}
theorem TI.ring {p : Int} {A : Prop} (ti : TI h) (kp : Kp h t1) (fr : Fr mAr mGf t1 t2) (h1 : (y1 = 0 ∧ ¬ A ∧ Cn h t1) ∨ (y1 = 1 ∧ A ∧ hF t1 2 0 = p ∧ hF t1 2 1 = 0 ∧ Csh h t1)) (h2 : (y2 = 0 ∧ ¬ A ∧ Fr [] [(41, 0), (41, 1)] t1 t2) ∨ (y2 = 1 ∧ A ∧ hF t2 41 5 = p ∧ hF t2 41 6 = 0 ∧ Fr [49] [(41, 0), (41, 1), (41, 5), (41, 6)] t1 t2)) : y1 = y2 ∧ TI t2 := by
  rcases h1 with ⟨e1, a1, c1⟩ | ⟨e1, a1, c1, c2, c3⟩ <;> rcases h2 with ⟨e2, a2, d1⟩ | ⟨e2, a2, d1, d2, d3⟩
  · exact ⟨by omega, ti.no kp c1 d1⟩
  · exact absurd a2 a1
  · exact absurd a1 a2
  · exact ⟨by omega, TI.gen fr (by rw [c1, d1]) (by rw [c2, d2]) ((ti.mid kp).1.ss c3.ss (ms_fr d3 (by decide) (by decide) (by decide)))⟩
theorem TI.beater {k p : Int} (ti : TI h) (kp : Kp h t1) (fr : Fr mAr mGf t1 t2) (h1 : (y1 = -1 ∧ ¬ ((0 ≤ k ∧ k < 4) ∧ (0 ≤ p ∧ p < hF h 2 0) ∧ hF h 2 1 < 24) ∧ Cn h t1) ∨ (y1 = hF h 2 1 ∧ ((0 ≤ k ∧ k < 4) ∧ (0 ≤ p ∧ p < hF h 2 0) ∧ hF h 2 1 < 24) ∧ hF t1 2 0 = hF h 2 0 ∧ hF t1 2 1 = hF h 2 1 + 1 ∧ Csh h t1)) (h2 : (y2 = -1 ∧ ¬ ((0 ≤ k ∧ k < 4) ∧ (0 ≤ p ∧ p < hF t1 41 5) ∧ hF t1 41 6 < 24) ∧ Fr [] [(41, 0), (41, 1)] t1 t2) ∨ (y2 = hF t1 41 6 ∧ ((0 ≤ k ∧ k < 4) ∧ (0 ≤ p ∧ p < hF t1 41 5) ∧ hF t1 41 6 < 24) ∧ hF t2 41 5 = hF t1 41 5 ∧ hF t2 41 6 = hF t1 41 6 + 1 ∧ Fr [45, 46, 48] [(41, 0), (41, 1), (41, 6)] t1 t2)) : y1 = y2 ∧ TI t2 := by
  obtain ⟨ts, m0, m1⟩ := ti.mid kp
  rw [← m0, ← m1] at h2
  rcases h1 with ⟨e1, a1, c1⟩ | ⟨e1, a1, c1, c2, c3⟩ <;> rcases h2 with ⟨e2, a2, d1⟩ | ⟨e2, a2, d1, d2, d3⟩
  · exact ⟨by omega, ti.no kp c1 d1⟩
  · exact absurd a2 a1
  · exact absurd a1 a2
  · exact ⟨by omega, TI.gen fr (by rw [c1, d1]) (by rw [c2, d2]) (ts.ss c3.ss (ms_fr d3 (by decide) (by decide) (by decide)))⟩
theorem TI.sheet {s so mn : Int} {A : Prop} (hA : A → 0 ≤ mn ∧ mn ≤ 100) (ti : TI h) (kp : Kp h t1) (fr : Fr mAr mGf t1 t2) (h1 : (y1 = 0 ∧ ¬ A ∧ Cn h t1) ∨ (y1 = 1 ∧ A ∧ (hF t1 2 0 = hF h 2 0 ∧ hF t1 2 1 = hF h 2 1) ∧ SEe s so mn (cTb h) (cTb t1))) (h2 : (y2 = 0 ∧ ¬ A ∧ Fr [] [(41, 0), (41, 1)] t1 t2) ∨ (y2 = 1 ∧ A ∧ (hF t2 41 5 = hF t1 41 5 ∧ hF t2 41 6 = hF t1 41 6) ∧ SEe s so mn (mTb t1) (mTb t2))) : y1 = y2 ∧ TI t2 := by
  obtain ⟨ts, m0, m1⟩ := ti.mid kp
  rcases h1 with ⟨e1, a1, c1⟩ | ⟨e1, a1, c1, c2⟩ <;> rcases h2 with ⟨e2, a2, d1⟩ | ⟨e2, a2, d1, d2⟩
  · exact ⟨by omega, ti.no kp c1 d1⟩
  · exact absurd a2 a1
  · exact absurd a1 a2
  · exact ⟨by omega, TI.gen fr (by rw [c1.1, d1.1, m0]) (by rw [c1.2, d1.2, m1]) (ts.sheet (hA a1) c2 d2)⟩
theorem TI.write {s p v : Int} (ti : TI h) (kp : Kp h t1) (fr : Fr mAr mGf t1 t2) (h1 : (y1 = 0 ∧ ¬ ((0 ≤ s ∧ s < 4) ∧ 0 ≤ p ∧ p < hF h (33 + 2 * s) 1) ∧ Cn h t1) ∨ (y1 = 1 ∧ ((0 ≤ s ∧ s < 4) ∧ 0 ≤ p ∧ p < hF h (33 + 2 * s) 1) ∧ (hF t1 2 0 = hF h 2 0 ∧ hF t1 2 1 = hF h 2 1) ∧ WEe s p v (cTb h) (cTb t1))) (h2 : (y2 = 0 ∧ ¬ ((0 ≤ s ∧ s < 4) ∧ 0 ≤ p ∧ p < hA t1 43 s) ∧ Fr [] [(41, 0), (41, 1)] t1 t2) ∨ (y2 = 1 ∧ ((0 ≤ s ∧ s < 4) ∧ 0 ≤ p ∧ p < hA t1 43 s) ∧ (hF t2 41 5 = hF t1 41 5 ∧ hF t2 41 6 = hF t1 41 6) ∧ WEe s p v (mTb t1) (mTb t2))) : y1 = y2 ∧ TI t2 := by
  obtain ⟨ts, m0, m1⟩ := ti.mid kp
  have hc : ((0 ≤ s ∧ s < 4) ∧ 0 ≤ p ∧ p < hF h (33 + 2 * s) 1) ↔ ((0 ≤ s ∧ s < 4) ∧ 0 ≤ p ∧ p < hA t1 43 s) := and_congr_right (fun s0 => by rw [(ts.at s0).2.1])
  rw [← hc] at h2
  rcases h1 with ⟨e1, a1, c1⟩ | ⟨e1, a1, c1, c2⟩ <;> rcases h2 with ⟨e2, a2, d1⟩ | ⟨e2, a2, d1, d2⟩
  · exact ⟨by omega, ti.no kp c1 d1⟩
  · exact absurd a2 a1
  · exact absurd a1 a2
  · exact ⟨by omega, TI.gen fr (by rw [c1.1, d1.1, m0]) (by rw [c1.2, d1.2, m1]) (ts.write a1.1 c2 d2)⟩
theorem TI.pour {s i t9 j mn : Int} (ti : TI h) (kp : Kp h t1) (fr : Fr mAr mGf t1 t2) (h1 : (y1 = 0 ∧ ¬ (((0 ≤ s ∧ s < 4) ∧ (0 ≤ t9 ∧ t9 < 4)) ∧ (hF h (33 + 2 * s) 1 ≠ -1 ∧ hF h (33 + 2 * t9) 1 ≠ -1) ∧ hF h (33 + 2 * s) 0 = hF h (33 + 2 * t9) 0 ∧ 0 ≤ mn ∧ 0 ≤ i ∧ 0 ≤ j ∧ i + mn ≤ hF h (33 + 2 * s) 1 ∧ j + mn ≤ hF h (33 + 2 * t9) 1) ∧ Cn h t1) ∨ (y1 = 1 ∧ (((0 ≤ s ∧ s < 4) ∧ (0 ≤ t9 ∧ t9 < 4)) ∧ (hF h (33 + 2 * s) 1 ≠ -1 ∧ hF h (33 + 2 * t9) 1 ≠ -1) ∧ hF h (33 + 2 * s) 0 = hF h (33 + 2 * t9) 0 ∧ 0 ≤ mn ∧ 0 ≤ i ∧ 0 ≤ j ∧ i + mn ≤ hF h (33 + 2 * s) 1 ∧ j + mn ≤ hF h (33 + 2 * t9) 1) ∧ (hF t1 2 0 = hF h 2 0 ∧ hF t1 2 1 = hF h 2 1) ∧ PEe s i t9 j mn (cTb h) (cTb t1))) (h2 : (y2 = 0 ∧ ¬ (((0 ≤ s ∧ s < 4) ∧ (0 ≤ t9 ∧ t9 < 4)) ∧ (0 ≤ hA t1 43 s ∧ 0 ≤ hA t1 43 t9) ∧ hA t1 42 s = hA t1 42 t9 ∧ 0 ≤ mn ∧ 0 ≤ i ∧ 0 ≤ j ∧ i + mn ≤ hA t1 43 s ∧ j + mn ≤ hA t1 43 t9) ∧ Fr [] [(41, 0), (41, 1)] t1 t2) ∨ (y2 = 1 ∧ (((0 ≤ s ∧ s < 4) ∧ (0 ≤ t9 ∧ t9 < 4)) ∧ (0 ≤ hA t1 43 s ∧ 0 ≤ hA t1 43 t9) ∧ hA t1 42 s = hA t1 42 t9 ∧ 0 ≤ mn ∧ 0 ≤ i ∧ 0 ≤ j ∧ i + mn ≤ hA t1 43 s ∧ j + mn ≤ hA t1 43 t9) ∧ (hF t2 41 5 = hF t1 41 5 ∧ hF t2 41 6 = hF t1 41 6) ∧ PEe s i t9 j mn (mTb t1) (mTb t2))) : y1 = y2 ∧ TI t2 := by
  obtain ⟨ts, m0, m1⟩ := ti.mid kp
  have hc : (((0 ≤ s ∧ s < 4) ∧ (0 ≤ t9 ∧ t9 < 4)) ∧ (hF h (33 + 2 * s) 1 ≠ -1 ∧ hF h (33 + 2 * t9) 1 ≠ -1) ∧ hF h (33 + 2 * s) 0 = hF h (33 + 2 * t9) 0 ∧ 0 ≤ mn ∧ 0 ≤ i ∧ 0 ≤ j ∧ i + mn ≤ hF h (33 + 2 * s) 1 ∧ j + mn ≤ hF h (33 + 2 * t9) 1) ↔ (((0 ≤ s ∧ s < 4) ∧ (0 ≤ t9 ∧ t9 < 4)) ∧ (0 ≤ hA t1 43 s ∧ 0 ≤ hA t1 43 t9) ∧ hA t1 42 s = hA t1 42 t9 ∧ 0 ≤ mn ∧ 0 ≤ i ∧ 0 ≤ j ∧ i + mn ≤ hA t1 43 s ∧ j + mn ≤ hA t1 43 t9) := and_congr_right (fun s0 => by
    obtain ⟨q1, q2, q3, -⟩ := ts.at s0.1
    obtain ⟨w1, w2, w3, -⟩ := ts.at s0.2
    omega)
  rw [← hc] at h2
  rcases h1 with ⟨e1, a1, c1⟩ | ⟨e1, a1, c1, c2⟩ <;> rcases h2 with ⟨e2, a2, d1⟩ | ⟨e2, a2, d1, d2⟩
  · exact ⟨by omega, ti.no kp c1 d1⟩
  · exact absurd a2 a1
  · exact absurd a1 a2
  · exact ⟨by omega, TI.gen fr (by rw [c1.1, d1.1, m0]) (by rw [c1.2, d1.2, m1]) (ts.pour a1.1.1 ⟨a1.2.2.2.2.1, a1.2.2.2.2.2.2.1⟩ c2 d2)⟩
theorem TI.read {s p : Int} (ti : TI h) (kp : Kp h t1) (h1 : (y1 = -1 ∧ ¬ ((0 ≤ s ∧ s < 4) ∧ 0 ≤ p ∧ p < hF h (33 + 2 * s) 1)) ∨ (y1 = hA h (34 + 2 * s) p ∧ ((0 ≤ s ∧ s < 4) ∧ 0 ≤ p ∧ p < hF h (33 + 2 * s) 1))) (h2 : (y2 = -1 ∧ ¬ ((0 ≤ s ∧ s < 4) ∧ 0 ≤ p ∧ p < hA t1 43 s)) ∨ (y2 = hA t1 44 (100 * s + p) ∧ ((0 ≤ s ∧ s < 4) ∧ 0 ≤ p ∧ p < hA t1 43 s))) : y1 = y2 := by
  obtain ⟨ts, m0, m1⟩ := ti.mid kp
  have hc : ((0 ≤ s ∧ s < 4) ∧ 0 ≤ p ∧ p < hF h (33 + 2 * s) 1) ↔ ((0 ≤ s ∧ s < 4) ∧ 0 ≤ p ∧ p < hA t1 43 s) := and_congr_right (fun s0 => by rw [(ts.at s0).2.1])
  rw [← hc] at h2
  rcases h1 with ⟨e1, a1⟩ | ⟨e1, a1⟩ <;> rcases h2 with ⟨e2, a2⟩ | ⟨e2, a2⟩
  · omega
  · exact absurd a2 a1
  · exact absurd a1 a2
  · rw [e1, e2]
    exact (ts.at a1.1).2.2.2 p a1.2.1 a1.2.2
theorem yes_eq {A B : Prop} (h1 : (y1 = 0 ∧ ¬ A) ∨ (y1 = 1 ∧ A)) (h2 : (y2 = 0 ∧ ¬ B) ∨ (y2 = 1 ∧ B)) (e : A ↔ B) : y1 = y2 := by
  rcases h1 with ⟨e1, a1⟩ | ⟨e1, a1⟩ <;> rcases h2 with ⟨e2, a2⟩ | ⟨e2, a2⟩
  · omega
  · exact absurd (e.mpr a2) a1
  · exact absurd (e.mp a1) a2
  · omega
theorem TI.phases {s : Int} (ti : TI h) (kp : Kp h t1) : ((0 ≤ s ∧ s < 4) ∧ hF h (33 + 2 * s) 1 ≠ -1 ∧ hF h 2 1 ≤ hF h (33 + 2 * s) 1 ∧ ∀ k, 0 ≤ k → k < hF h 2 1 → 0 ≤ hA h (34 + 2 * s) k ∧ hA h (34 + 2 * s) k ≤ hF h 2 0 - 1) ↔ ((0 ≤ s ∧ s < 4) ∧ 0 ≤ hA t1 43 s ∧ hF t1 41 6 ≤ hA t1 43 s ∧ ∀ j, 0 ≤ j → j < hF t1 41 6 → 0 ≤ hA t1 44 (100 * s + j) ∧ hA t1 44 (100 * s + j) < hF t1 41 5) := by
  obtain ⟨ts, m0, m1⟩ := ti.mid kp
  refine and_congr_right (fun s0 => ?_)
  obtain ⟨q1, q2, q3, q4⟩ := ts.at s0
  rw [← m0, ← m1, ← q2]
  refine ⟨fun z => ⟨by have := z.1; omega, z.2.1, fun k k0 k1 => ?_⟩, fun z => ⟨by have := z.1; omega, z.2.1, fun k k0 k1 => ?_⟩⟩
  · have e := z.2.2 k k0 k1
    rw [q4 k k0 (by have := z.2.1; omega)] at e
    omega
  · have e := z.2.2 k k0 k1
    rw [q4 k k0 (by have := z.2.1; omega)]
    omega
theorem TI.push {s mn : Int} (ti : TI h) (kp : Kp h t1) : ((0 ≤ s ∧ s < 4) ∧ hF h (33 + 2 * s) 1 ≠ -1 ∧ (1 ≤ mn ∧ mn ≤ 16) ∧ mn ≤ hF h (33 + 2 * s) 1 ∧ ∀ k, 0 ≤ k → k < mn → 0 ≤ hA h (34 + 2 * s) k ∧ hA h (34 + 2 * s) k ≤ 4096) ↔ ((0 ≤ s ∧ s < 4) ∧ 0 ≤ hA t1 43 s ∧ (1 ≤ mn ∧ mn ≤ 16) ∧ mn ≤ hA t1 43 s ∧ ∀ j, 0 ≤ j → j < mn → 0 ≤ hA t1 44 (100 * s + j) ∧ hA t1 44 (100 * s + j) ≤ 4096) := by
  obtain ⟨ts, m0, m1⟩ := ti.mid kp
  refine and_congr_right (fun s0 => ?_)
  obtain ⟨q1, q2, q3, q4⟩ := ts.at s0
  rw [← q2]
  refine ⟨fun z => ⟨by have := z.1; omega, z.2.1, z.2.2.1, fun k k0 k1 => ?_⟩, fun z => ⟨by have := z.1; omega, z.2.1, z.2.2.1, fun k k0 k1 => ?_⟩⟩
  · rw [← q4 k k0 (by have := z.2.2.1; omega)]
    exact z.2.2.2 k k0 k1
  · rw [q4 k k0 (by have := z.2.2.1; omega)]
    exact z.2.2.2 k k0 k1
end TIE
