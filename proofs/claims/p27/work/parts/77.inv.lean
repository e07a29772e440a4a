/-! ===== the class's invariant, with room for K calls ===== -/
/-- what the rows of ends may still take: by calls, by their length now and ahead of it -/
def psR (K w9 nr nv : Int) : Int := 11664 * (K + w9) + 2 * (46656 - min nr 46656) + 2 * (46656 - min nv 46656) + (if nr ≤ 46656 then 62208 else 0)
/-- how many ends the bench has -/
def FNd (h : mH) : Int := ((cR (hom9 (G9 (ccf h)) (hF h 2 0 ^ (hF h 2 1).toNat)) (hF h 2 0 ^ (hF h 2 1).toNat).toNat : Nat) : Int)
def KQ (h : mH) (K : Int) (hd lk wd nh nl nw af ho bs rw na nr ob n9 mn nv w9 : Int) : Prop := TR h hd lk wd nh nl nw ∧ EN h af ho bs rw na nr ∧ OB h ob n9 ∧ hF h 17 4 = mn ∧ ((0 ≤ mn ∧ mn ≤ 15552) ∧ 3 * mn ≤ nr ∧ nv ≤ nr ∧ rw ≠ hd ∧ rw ≠ lk) ∧ (0 ≤ nv ∧ (0 ≤ w9 ∧ w9 ≤ 3) ∧ (w9 ≤ 1 ↔ nv < 3 * mn)) ∧ ((w9 = 0 ∨ w9 = 2) → FNd h = mn) ∧ (hZ h : Int) + (psT nh nl nw + psA na + psO n9) + psR K w9 nr nv + 8 * K ≤ 7250000 ∧ 2 * (hN h : Int) + (psT nh nl nw + psA na + psO n9) + 4 * K ≤ 1202048
def KP (h : mH) (K : Int) : Prop := ∃ hd lk wd nh nl nw af ho bs rw na nr ob n9 mn nv w9, KQ h K hd lk wd nh nl nw af ho bs rw na nr ob n9 mn nv w9
def SHs (h : mH) : Prop := ∀ i, 0 ≤ i → i < 4 → hF h (33 + 2 * i) 1 ≤ 100
def CK (h : mH) (K : Int) : Prop := Sh h ∧ BI h ∧ SPx h ∧ (0 ≤ hF h 0 7 ∧ hF h 0 7 ≤ 24) ∧ (0 ≤ hF h 0 9 ∧ hF h 0 9 ≤ 10) ∧ SHs h ∧ KP h K
/-- the reference's cells stay -/
def Kp (h t : mH) : Prop := (∀ k, hF t 41 k = hF h 41 k) ∧ (∀ a, 41 ≤ a → a < 74 → hA t a = hA h a) ∧ hK t 73 = hK h 73 ∧ hL t 73 = hL h 73
theorem Kp.mi {h t : mH} (k : Kp h t) (mi : MI h) : MI t := by
  unfold MI MB MS MT ME at mi ⊢
  rw [k.1 5, k.1 6, k.1 8, k.1 30, k.1 27, k.1 28, k.1 39, k.2.1 46 (by decide) (by decide), k.2.1 47 (by decide) (by decide), k.2.1 43 (by decide) (by decide), k.2.1 64 (by decide) (by decide)]
  exact mi
/-- the sheets stay; the bench and the sheets stay; ring, many and the sheets stay -/
def Csh (h t : mH) : Prop := ∀ a, 33 ≤ a → a < 41 → (∀ k, hF t a k = hF h a k) ∧ hA t a = hA h a
def Cn (h t : mH) : Prop := (∀ k, hF t 2 k = hF h 2 k) ∧ (∀ a, 3 ≤ a → a ≤ 7 → hA t a = hA h a) ∧ Csh h t
def Cs (h t : mH) : Prop := (hF t 2 0 = hF h 2 0 ∧ hF t 2 1 = hF h 2 1) ∧ Csh h t
theorem Csh.fr {A : List Int} {G : List (Int × Nat)} {h t : mH} (fr : Fr A G h t) (hA : ∀ x ∈ A, x < 33) (hG : ∀ q ∈ G, q.1 < 33) : Csh h t := fun a a0 a1 => ⟨fun k => fr.2.2.2.2.1 a k (fun z => by have := hG _ z; omega), fr.2.2.2.2.2 a (fun z => by have := hA _ z; omega)⟩
/-- .. but for these rows and fields of the bench -/
def Cx (A : List Int) (G : List Nat) (h t : mH) : Prop := (∀ k, k ∉ G → hF t 2 k = hF h 2 k) ∧ (∀ a, 3 ≤ a → a ≤ 7 → a ∉ A → hA t a = hA h a) ∧ Csh h t
/-- the bench stays -/
def Cb (h t : mH) : Prop := (∀ k, hF t 2 k = hF h 2 k) ∧ ∀ a, 3 ≤ a → a ≤ 7 → hA t a = hA h a
theorem Cx.cs {A : List Int} {G : List Nat} {h t : mH} (c : Cx A G h t) (g0 : 0 ∉ G) (g1 : 1 ∉ G) : Cs h t := ⟨⟨c.1 0 g0, c.1 1 g1⟩, c.2.2⟩
theorem Cx.fr {A A' : List Int} {G : List (Int × Nat)} {G' : List Nat} {h t : mH} (fr : Fr A G h t) (hA : ∀ x ∈ A, (x ∈ A' ∨ x < 3 ∨ 7 < x) ∧ x < 33) (hG : ∀ q ∈ G, (q.1 = 2 → q.2 ∈ G') ∧ q.1 < 33) : Cx A' G' h t := ⟨fun k hk => fr.2.2.2.2.1 2 k (fun z => hk ((hG _ z).1 rfl)), fun a a0 a1 ha => fr.2.2.2.2.2 a (fun z => by have := (hA _ z).1; rcases this with y | y | y; exact ha y; omega; omega), Csh.fr fr (fun x z => (hA x z).2) (fun q z => (hG q z).2)⟩
theorem Cb.fr {A : List Int} {G : List (Int × Nat)} {h t : mH} (fr : Fr A G h t) (hG : ∀ k, ((2 : Int), k) ∉ G) (hA : ∀ x, 3 ≤ x → x ≤ 7 → x ∉ A) : Cb h t := ⟨fun k => fr.2.2.2.2.1 2 k (hG k), fun a a0 a1 => fr.2.2.2.2.2 a (hA a a0 a1)⟩
theorem Cn.cs {h t : mH} (c : Cn h t) : Cs h t := ⟨⟨c.1 0, c.1 1⟩, c.2.2⟩
theorem Cn.fr {A : List Int} {G : List (Int × Nat)} {h t : mH} (fr : Fr A G h t) (hA : ∀ x ∈ A, (x < 3 ∨ 7 < x) ∧ x < 33) (hG : ∀ q ∈ G, q.1 ≠ 2 ∧ q.1 < 33) : Cn h t := ⟨fun k => fr.2.2.2.2.1 2 k (fun z => (hG _ z).1 rfl), fun a a0 a1 => fr.2.2.2.2.2 a (fun z => by have := hA _ z; omega), Csh.fr fr (fun x z => (hA x z).2) (fun q z => (hG q z).2)⟩
theorem Cs.fr {A : List Int} {G : List (Int × Nat)} {h t : mH} (fr : Fr A G h t) (g0 : ((2 : Int), 0) ∉ G) (g1 : ((2 : Int), 1) ∉ G) (hA : ∀ x ∈ A, x < 33) (hG : ∀ q ∈ G, q.1 < 33) : Cs h t := ⟨⟨fr.2.2.2.2.1 2 0 g0, fr.2.2.2.2.1 2 1 g1⟩, Csh.fr fr hA hG⟩
theorem Cn.fq {A : Int → Prop} {G : List (Int × Nat)} {h t : mH} (fq : Fq A G h t) (h74 : 74 ≤ hN h) (hA : ∀ a, ((3 ≤ a ∧ a ≤ 7) ∨ (31 ≤ a ∧ a < 41)) → ¬ A a) (hG : ∀ q ∈ G, q.1 ≠ 2 ∧ q.1 < 33) : Cn h t := ⟨fun k => fq.2.2.2.2.1 2 k (by omega) (fun z => (hG _ z).1 rfl), fun a a0 a1 => fq.2.2.2.2.2 a (by omega) (hA a (Or.inl ⟨a0, a1⟩)), fun a a0 a1 => ⟨fun k => fq.2.2.2.2.1 a k (by omega) (fun z => by have := hG _ z; omega), fq.2.2.2.2.2 a (by omega) (hA a (Or.inr ⟨by omega, a1⟩))⟩⟩
/-- the leaders stay -/
def Kl (h t : mH) : Prop := hF t 0 7 = hF h 0 7 ∧ hA t 31 = hA h 31
theorem Kl.fr {A : List Int} {G : List (Int × Nat)} {h t : mH} (fr : Fr A G h t) (a : (31 : Int) ∉ A) (g : ((0 : Int), 7) ∉ G) : Kl h t := ⟨fr.2.2.2.2.1 0 7 g, fr.2.2.2.2.2 31 a⟩
/-- the rows of the kept ends stay -/
def Kr (h t : mH) : Prop := hF t 17 3 = hF h 17 3 ∧ hF t 17 4 = hF h 17 4 ∧ hA t (hF h 17 3) = hA h (hF h 17 3)
theorem KQ.dj {h : mH} {K : Int} {hd lk wd nh nl nw af ho bs rw na nr ob n9 mn nv w9 : Int} (kq : KQ h K hd lk wd nh nl nw af ho bs rw na nr ob n9 mn nv w9) : rw ≠ hd ∧ rw ≠ lk := kq.2.2.2.2.1.2.2.2
theorem CK.rx {h : mH} {K : Int} (ck : CK h K) : (hF h 17 3 = 21 ∨ 74 ≤ hF h 17 3) ∧ hF h 17 3 < hN h ∧ hK h (hF h 17 3) = 10 := by
  obtain ⟨hd, lk, wd, nh, nl, nw, af, ho, bs, rw, na, nr, ob, n9, mn, nv, w9, kq⟩ := ck.2.2.2.2.2.2
  have en := kq.2.1
  rw [en.2.2.2.1.1]
  exact ⟨en.2.2.2.2.2.1.2.2.2, en.2.2.2.2.2.2.1.2.2.2, en.2.2.2.1.2.1⟩
theorem Kr.fr {A : List Int} {G : List (Int × Nat)} {h t : mH} {K : Int} (ck : CK h K) (fr : Fr A G h t) (hA : ∀ x ∈ A, x < 74 ∧ x ≠ 21) (g3 : ((17 : Int), 3) ∉ G) (g4 : ((17 : Int), 4) ∉ G) : Kr h t := ⟨fr.2.2.2.2.1 17 3 g3, fr.2.2.2.2.1 17 4 g4, fr.2.2.2.2.2 _ (fun z => by have := hA _ z; have := ck.rx.1; omega)⟩
theorem psR_call {K w9 w' nr nv : Int} (h : w' ≤ w9 + 1) : psR K w' nr nv ≤ psR (K + 1) w9 nr nv := by
  unfold psR
  omega
def gK9 : List (Int × Nat) := [(13, 0), (13, 1), (13, 2), (17, 0), (17, 1), (17, 2), (17, 3), (17, 4), (22, 8)]
theorem KP.call {A : Int → Prop} {G : List (Int × Nat)} {h t : mH} {K : Int} (kp : KP h (K + 1)) (h74 : 74 ≤ hN h) (fq : Fq A G h t) (hn : hN t = hN h) (hz : hZ t = hZ h) (hG : ∀ q ∈ gK9, q ∉ G) (hA : ∀ a, A a → a < 74 ∧ a ≠ 30) : KP t K := by
  obtain ⟨hd, lk, wd, nh, nl, nw, af, ho, bs, rw, na, nr, ob, n9, mn, nv, w9, tr, en, ob9, hm, h1, ⟨h2, h3, h4⟩, h5, h6, h7⟩ := kp
  have oo := ob9.2.2.2.1
  refine ⟨hd, lk, wd, nh, nl, nw, af, ho, bs, rw, na, nr, ob, n9, mn, nv, if w9 = 0 then 1 else if w9 = 2 then 3 else w9, tr.fq fq h74 (hG _ (by decide)) (hG _ (by decide)) (hG _ (by decide)), en.fq fq h74 (hG _ (by decide)) (hG _ (by decide)) (hG _ (by decide)) (hG _ (by decide)), ob9.fq fq h74 (hG _ (by decide)) (fun z => by have := hA _ z; omega), (fq.2.2.2.2.1 17 4 (by omega) (hG _ (by decide))).trans hm, h1, ⟨h2, ?_, ?_⟩, ?_, ?_, ?_⟩
  · split
    · omega
    · split <;> omega
  · rw [← h4]
    split
    · omega
    · split <;> omega
  · intro z
    split at z
    · omega
    · split at z <;> omega
  · have hp := psR_call (K := K) (w9 := w9) (w' := if w9 = 0 then 1 else if w9 = 2 then 3 else w9) (nr := nr) (nv := nv) (by split; omega; split <;> omega)
    rw [hz]
    omega
  · rw [hn]
    omega
theorem KP.model {h t : mH} {K : Int} (kp : KP h K) (h74 : 74 ≤ hN h) (fr : Fr mAr mGf h t) : KP t K := by
  obtain ⟨hd, lk, wd, nh, nl, nw, af, ho, bs, rw, na, nr, ob, n9, mn, nv, w9, tr, en, ob9, hm, h1, h2, h5, h6, h7⟩ := kp
  have oo := ob9.2.2.2.1
  have fq := Fq.fr (A := fun a => a ∈ mAr) fr (fun x z => z)
  have ef : FNd t = FNd h := by
    unfold FNd
    rw [ccf_fr fr (by decide) (by decide) (by decide) (by decide) (by decide) (by decide), fr.2.2.2.2.1 2 0 (by decide), fr.2.2.2.2.1 2 1 (by decide)]
  have hl : ∀ x ∈ mAr, x < 74 ∧ x ≠ 30 := by decide
  refine ⟨hd, lk, wd, nh, nl, nw, af, ho, bs, rw, na, nr, ob, n9, mn, nv, w9, tr.fq fq h74 (by decide) (by decide) (by decide), en.fq fq h74 (by decide) (by decide) (by decide) (by decide), ob9.fq fq h74 (by decide) (fun z => by have := hl _ z; omega), (fr.2.2.2.2.1 17 4 (by decide)).trans hm, h1, h2, by rw [ef]; exact h5, by rw [fr.2.1]; exact h6, by rw [fr.1]; exact h7⟩
abbrev cAr : List Int := [3, 4, 5, 6, 7, 8, 9, 10, 11, 12, 23, 24, 25, 26, 27, 28, 29, 31, 32, 34, 36, 38, 40]
abbrev cGf : List (Int × Nat) := [(0, 0), (0, 7), (0, 9), (2, 0), (2, 1), (2, 2), (2, 8), (22, 0), (22, 2), (22, 3), (22, 5), (22, 6), (22, 9), (22, 10), (22, 11), (22, 12), (22, 13), (33, 0), (33, 1), (35, 0), (35, 1), (37, 0), (37, 1), (39, 0), (39, 1)]
theorem Kp.fr {A : List Int} {G : List (Int × Nat)} {h t : mH} (fr : Fr A G h t) (hA : ∀ x ∈ A, x < 41) (hG : ∀ q ∈ G, q.1 ≠ 41) : Kp h t := ⟨fun k => fr.2.2.2.2.1 41 k (fun z => hG _ z rfl), fun a a0 a1 => fr.2.2.2.2.2 a (fun z => by have := hA a z; omega), by rw [fr.2.2.1], by rw [fr.2.2.2.1]⟩
theorem CK.fr {h t : mH} {K : Int} (ck : CK h (K + 1)) (fr : Fr cAr cGf h t) (bi : BI t) (sp : SPx t) (h7 : 0 ≤ hF t 0 7 ∧ hF t 0 7 ≤ 24) (h9 : 0 ≤ hF t 0 9 ∧ hF t 0 9 ≤ 10) (hs : SHs t) : CK t K ∧ Kp h t := by
  have hl : ∀ x ∈ cAr, x < 74 ∧ x ≠ 30 := by decide
  exact ⟨⟨ck.1.fr fr (by decide +kernel) (by decide), bi, sp, h7, h9, hs, ck.2.2.2.2.2.2.call ck.1.2.2.2.2 (Fq.fr (A := fun a => a ∈ cAr) fr (fun x z => z)) fr.1 fr.2.1 (by decide) hl⟩, Kp.fr fr (by decide) (by decide)⟩
theorem CK.model {h t : mH} {K : Int} (ck : CK h K) (fr : Fr mAr mGf h t) : CK t K := by
  refine ⟨ck.1.m fr, ck.2.1.fr fr (by decide) (by decide) (by decide) (by decide) (by decide), ck.2.2.1.fr fr (by decide), ?_, ?_, fun i i0 i1 => ?_, ck.2.2.2.2.2.2.model ck.1.2.2.2.2 fr⟩
  · rw [fr.2.2.2.2.1 0 7 (by decide)]
    exact ck.2.2.2.1
  · rw [fr.2.2.2.2.1 0 9 (by decide)]
    exact ck.2.2.2.2.1
  · rw [fr.2.2.2.2.1 (33 + 2 * i) 1 (by simp; omega)]
    exact ck.2.2.2.2.2.1 i i0 i1
/-- a call that touches the bench alone -/
theorem CK.bench0 {h t : mH} {K : Int} (ck : CK h (K + 1)) (fr : Fr bAr bGf h t) (bi : BI t) : CK t K ∧ Kp h t ∧ Kl h t ∧ Kr h t := by
  suffices z : CK t K ∧ Kp h t from ⟨z.1, z.2, Kl.fr fr (by decide) (by decide), Kr.fr ck fr (by decide) (by decide) (by decide)⟩
  refine ck.fr (fr.mono (by decide) (by decide)) bi (ck.2.2.1.fr fr (by decide)) ?_ ?_ (fun i i0 i1 => ?_)
  · rw [fr.2.2.2.2.1 0 7 (by decide)]
    exact ck.2.2.2.1
  · rw [fr.2.2.2.2.1 0 9 (by decide)]
    exact ck.2.2.2.2.1
  · rw [fr.2.2.2.2.1 (33 + 2 * i) 1 (by simp; omega)]
    exact ck.2.2.2.2.2.1 i i0 i1
theorem CK.bench {h t : mH} {K : Int} (ck : CK h (K + 1)) (fr : Fr bAr bGk h t) (bi : BI t) : CK t K ∧ Kp h t ∧ Cs h t := by
  have z := ck.bench0 (fr.mono (fun _ z => z) (by decide)) bi
  exact ⟨z.1, z.2.1, Cs.fr fr (by decide) (by decide) (by decide) (by decide)⟩
/-- a call that touches the spans alone -/
theorem CK.spans {h t : mH} {K : Int} (ck : CK h (K + 1)) (fr : Fr (32 :: sAr) ((0, 0) :: (0, 9) :: sGf) h t) (sp : SPx t) (h9 : 0 ≤ hF t 0 9 ∧ hF t 0 9 ≤ 10) : CK t K ∧ Kp h t ∧ Cn h t ∧ Kl h t ∧ Kr h t := by
  suffices z : CK t K ∧ Kp h t from ⟨z.1, z.2, Cn.fr fr (by decide) (by decide), Kl.fr fr (by decide) (by decide), Kr.fr ck fr (by decide) (by decide) (by decide)⟩
  refine ck.fr (fr.mono (by decide) (by decide)) (ck.2.1.fr fr (by decide) (by decide) (by decide) (by decide) (by decide)) sp ?_ h9 (fun i i0 i1 => ?_)
  · rw [fr.2.2.2.2.1 0 7 (by decide)]
    exact ck.2.2.2.1
  · rw [fr.2.2.2.2.1 (33 + 2 * i) 1 (by simp)]
    exact ck.2.2.2.2.2.1 i i0 i1
/-- the end of a call -/
def QX (tg : Nat) (K : Int) (h : mH) : Option mV → mH → Prop := fun r t => (∃ y, r = some (tg, y)) ∧ CK t K ∧ Kp h t ∧ Cn h t ∧ Kl h t ∧ Kr h t
/-- .. with a yes just where A holds -/
def QY (C : mH → mH → Prop) (A : Prop) (K : Int) (h : mH) : Option mV → mH → Prop := fun r t => (∃ y, r = some (0, y) ∧ ((y = 0 ∧ ¬ A) ∨ (y = 1 ∧ A))) ∧ CK t K ∧ Kp h t ∧ C h t ∧ Kl h t ∧ Kr h t
/-- .. that changes what both sides share, as E tells -/
def QC (no yes : Int) (A : Prop) (E : mH → mH → Prop) (K : Int) (h : mH) : Option mV → mH → Prop := fun r t => (∃ y, r = some (0, y) ∧ ((y = no ∧ ¬ A ∧ Cn h t) ∨ (y = yes ∧ A ∧ E h t))) ∧ CK t K ∧ Kp h t ∧ Kl h t ∧ Kr h t
/-! ===== the tie ===== -/
def TI (h : mH) : Prop := (hF h 2 0 = hF h 41 5 ∧ hF h 2 1 = hF h 41 6) ∧ TS (cTb h) (mTb h)
theorem Csh.ss {h t : mH} (c : Csh h t) : SS (cTb h) (cTb t) := fun i i0 i1 => ⟨(c (33 + 2 * i) (by omega) (by omega)).1 0, (c (33 + 2 * i) (by omega) (by omega)).1 1, fun k _ _ => congrFun (c (34 + 2 * i) (by omega) (by omega)).2 k⟩
theorem Kp.ss {h t : mH} (k : Kp h t) : SS (mTb h) (mTb t) := fun i _ _ => ⟨congrFun (k.2.1 42 (by decide) (by decide)) i, congrFun (k.2.1 43 (by decide) (by decide)) i, fun j _ _ => congrFun (k.2.1 44 (by decide) (by decide)) _⟩
theorem ms_fr {A : List Int} {G : List (Int × Nat)} {h t : mH} (fr : Fr A G h t) (a2 : (42 : Int) ∉ A) (a3 : (43 : Int) ∉ A) (a4 : (44 : Int) ∉ A) : SS (mTb h) (mTb t) := fun i _ _ => ⟨congrFun (fr.2.2.2.2.2 42 a2) i, congrFun (fr.2.2.2.2.2 43 a3) i, fun j _ _ => congrFun (fr.2.2.2.2.2 44 a4) _⟩
theorem cs_fr {h t : mH} (fr : Fr mAr mGf h t) : (hF t 2 0 = hF h 2 0 ∧ hF t 2 1 = hF h 2 1) ∧ SS (cTb h) (cTb t) := by
  have hl : ∀ x ∈ mAr, 42 ≤ x := by decide
  have hg : ∀ q ∈ mGf, q.1 = 41 := by decide
  exact ⟨⟨fr.2.2.2.2.1 2 0 (by decide), fr.2.2.2.2.1 2 1 (by decide)⟩, fun i i0 i1 => ⟨fr.2.2.2.2.1 _ 0 (fun z => by have := hg _ z; omega), fr.2.2.2.2.1 _ 1 (fun z => by have := hg _ z; omega), fun k _ _ => congrFun (fr.2.2.2.2.2 _ (fun z => by have := hl _ z; omega)) k⟩⟩
/-- a pair of calls, the class's from h to t1, the reference's from t1 to t2 -/
theorem TI.gen {t1 t2 : mH} (fr : Fr mAr mGf t1 t2) (e0 : hF t1 2 0 = hF t2 41 5) (e1 : hF t1 2 1 = hF t2 41 6) (ts : TS (cTb t1) (mTb t2)) : TI t2 :=
  ⟨⟨(cs_fr fr).1.1.trans e0, (cs_fr fr).1.2.trans e1⟩, ts.ss (cs_fr fr).2 SS.rf⟩
theorem TI.keep {h t1 t2 : mH} {A : List Int} {G : List (Int × Nat)} (ti : TI h) (kp : Kp h t1) (cs : Cs h t1) (fr : Fr A G t1 t2) (hA : ∀ x ∈ A, x ∈ mAk) (hG : ∀ q ∈ G, q ∈ mGk) : TI t2 := by
  have fr' := fr.mono hA hG
  refine TI.gen (t1 := t1) (fr'.mono (by decide) (by decide)) ?_ ?_ (ti.2.ss cs.2.ss (fun i i0 i1 => ?_))
  · rw [fr'.2.2.2.2.1 41 5 (by decide), kp.1 5, cs.1.1]
    exact ti.1.1
  · rw [fr'.2.2.2.2.1 41 6 (by decide), kp.1 6, cs.1.2]
    exact ti.1.2
  · have z1 := kp.ss i i0 i1
    have z2 := ms_fr fr' (by decide) (by decide) (by decide) i i0 i1
    exact ⟨z2.1.trans z1.1, z2.2.1.trans z1.2.1, fun k k0 k1 => (z2.2.2 k k0 k1).trans (z1.2.2 k k0 k1)⟩
theorem TI.no {h t1 t2 : mH} (ti : TI h) (kp : Kp h t1) (cn : Cn h t1) (fr : Fr [] [(41, 0), (41, 1)] t1 t2) : TI t2 := ti.keep kp cn.cs fr (by decide) (by decide)
/-- the sheets' tie between the class ahead and the reference at t1 -/
theorem TI.mid {h t1 : mH} (ti : TI h) (kp : Kp h t1) : TS (cTb h) (mTb t1) ∧ hF h 2 0 = hF t1 41 5 ∧ hF h 2 1 = hF t1 41 6 := ⟨ti.2.ss SS.rf kp.ss, ti.1.1.trans (kp.1 5).symm, ti.1.2.trans (kp.1 6).symm⟩
theorem TS.at {h t1 : mH} {s : Int} (ts : TS (cTb h) (mTb t1)) (s0 : 0 ≤ s ∧ s < 4) : hF h (33 + 2 * s) 0 = hA t1 42 s ∧ hF h (33 + 2 * s) 1 = hA t1 43 s ∧ (-1 ≤ hF h (33 + 2 * s) 1 ∧ hF h (33 + 2 * s) 1 ≤ 100) ∧ ∀ k, 0 ≤ k → k < hF h (33 + 2 * s) 1 → hA h (34 + 2 * s) k = hA t1 44 (100 * s + k) := ts s s0.1 s0.2
/-- the bench of the class at x, of the reference at y -/
def TJ2 (x y : mH) : Prop := (hF x 2 2 = hF y 41 7 ∧ hF x 2 8 = hF y 41 8) ∧ (∀ k, 0 ≤ k → k < hF x 2 1 → hA x 3 k = hA y 45 k) ∧ (∀ k, 0 ≤ k → k < hF x 2 1 → hA x 4 k = hA y 46 k) ∧ hA x 7 = hA y 47 ∧ TSe (hF x 2 1) (hA x 6) (hA y 49) ∧ ∀ k, 0 ≤ k → k < hF x 2 1 → hA x 5 k = w32 (hA y 48 k)
def TJ (h : mH) : Prop := TJ2 h h
theorem TJ2.mv {x y x' y' : mH} (tj : TJ2 x y) (c1 : hF x' 2 1 = hF x 2 1) (c2 : hF x' 2 2 = hF x 2 2) (c8 : hF x' 2 8 = hF x 2 8) (a3 : hA x' 3 = hA x 3) (a4 : hA x' 4 = hA x 4) (a5 : hA x' 5 = hA x 5) (a6 : hA x' 6 = hA x 6) (a7 : hA x' 7 = hA x 7) (m7 : hF y' 41 7 = hF y 41 7) (m8 : hF y' 41 8 = hF y 41 8) (b5 : hA y' 45 = hA y 45) (b6 : hA y' 46 = hA y 46) (b7 : hA y' 47 = hA y 47) (b8 : hA y' 48 = hA y 48) (b9 : hA y' 49 = hA y 49) : TJ2 x' y' := by
  unfold TJ2
  rw [c1, c2, c8, a3, a4, a5, a6, a7, m7, m8, b5, b6, b7, b8, b9]
  exact tj
theorem TJ.mid {h t1 : mH} (tj : TJ h) (kp : Kp h t1) : TJ2 h t1 := TJ2.mv tj rfl rfl rfl rfl rfl rfl rfl rfl (kp.1 7) (kp.1 8) (kp.2.1 45 (by decide) (by decide)) (kp.2.1 46 (by decide) (by decide)) (kp.2.1 47 (by decide) (by decide)) (kp.2.1 48 (by decide) (by decide)) (kp.2.1 49 (by decide) (by decide))
theorem TJ.fin {t1 t2 : mH} (fr : Fr mAr mGf t1 t2) (z : TJ2 t1 t2) : TJ t2 := TJ2.mv z (fr.2.2.2.2.1 2 1 (by decide)) (fr.2.2.2.2.1 2 2 (by decide)) (fr.2.2.2.2.1 2 8 (by decide)) (fr.2.2.2.2.2 3 (by decide)) (fr.2.2.2.2.2 4 (by decide)) (fr.2.2.2.2.2 5 (by decide)) (fr.2.2.2.2.2 6 (by decide)) (fr.2.2.2.2.2 7 (by decide)) rfl rfl rfl rfl rfl rfl rfl
/-- where the reference's bench stays -/
theorem TJ.stay {h t1 t2 : mH} {A : List Int} {G : List (Int × Nat)} (tj : TJ h) (kp : Kp h t1) (cb : Cb h t1) (fr0 : Fr mAr mGf t1 t2) (fr : Fr A G t1 t2) (hA : ∀ x ∈ A, x < 45 ∨ 49 < x) (hG : ∀ q ∈ G, q.1 = 41 → (q.2 ≠ 7 ∧ q.2 ≠ 8)) : TJ t2 := by
  have f := fun k (hk : k = 7 ∨ k = 8) => fr.2.2.2.2.1 41 k (fun z => by have := hG _ z rfl; omega)
  have a := fun (x : Int) (hx : 45 ≤ x ∧ x ≤ 49) => fr.2.2.2.2.2 x (fun z => by have := hA _ z; omega)
  exact TJ.fin fr0 ((tj.mid kp).mv (cb.1 1) (cb.1 2) (cb.1 8) (cb.2 3 (by decide) (by decide)) (cb.2 4 (by decide) (by decide)) (cb.2 5 (by decide) (by decide)) (cb.2 6 (by decide) (by decide)) (cb.2 7 (by decide) (by decide)) (f 7 (Or.inl rfl)) (f 8 (Or.inr rfl)) (a 45 (by decide)) (a 46 (by decide)) (a 47 (by decide)) (a 48 (by decide)) (a 49 (by decide)))
theorem Cn.cb {h t : mH} (c : Cn h t) : Cb h t := ⟨c.1, c.2.1⟩
theorem TJ.keep {h t1 t2 : mH} {A : List Int} {G : List (Int × Nat)} (tj : TJ h) (kp : Kp h t1) (cn : Cn h t1) (fr : Fr A G t1 t2) (hA : ∀ x ∈ A, x ∈ mAn) (hG : ∀ q ∈ G, q ∈ mGn) : TJ t2 := by
  have fr' := fr.mono hA hG
  exact tj.stay kp cn.cb (fr'.mono (by decide) (by decide)) fr' (by decide) (by decide)
theorem TB.of {h t1 t2 : mH} {A A' E E' : Prop} {y1 y2 n v1 v2 : Int} (e : A ↔ A') (hv : A → v1 = v2) (ti : TI h) (tj : TJ h) (kp : Kp h t1) (h1 : (y1 = n ∧ ¬ A ∧ Cn h t1) ∨ (y1 = v1 ∧ A ∧ E)) (h2 : (y2 = n ∧ ¬ A' ∧ Fr [] [(41, 0), (41, 1)] t1 t2) ∨ (y2 = v2 ∧ A' ∧ E')) (k : A → E → E' → TI t2 ∧ TJ t2) : y1 = y2 ∧ TI t2 ∧ TJ t2 := by
  rcases h1 with ⟨e1, a1, c1⟩ | ⟨e1, a1, c1⟩ <;> rcases h2 with ⟨e2, a2, d1⟩ | ⟨e2, a2, d1⟩
  · exact ⟨by omega, ti.no kp c1 d1, tj.keep kp c1 d1 (by decide) (by decide)⟩
  · exact absurd (e.mpr a2) a1
  · exact absurd (e.mp a1) a2
  · exact ⟨by have := hv a1; omega, k a1 c1 d1⟩
def TLd (h : mH) : Prop := hF h 0 7 = hF h 41 28 ∧ ∀ k, 0 ≤ k → k < hF h 0 7 → hA h 31 k = hA h 63 k
theorem TLd.keep {h t1 t2 : mH} {A : List Int} {G : List (Int × Nat)} (tl : TLd h) (kp : Kp h t1) (kl : Kl h t1) (fr : Fr A G t1 t2) (a3 : (31 : Int) ∉ A) (a6 : (63 : Int) ∉ A) (g7 : ((0 : Int), 7) ∉ G) (g8 : ((41 : Int), 28) ∉ G) : TLd t2 := by
  unfold TLd
  rw [fr.2.2.2.2.1 0 7 g7, fr.2.2.2.2.1 41 28 g8, fr.2.2.2.2.2 31 a3, fr.2.2.2.2.2 63 a6, kl.1, kl.2, kp.1 28, kp.2.1 63 (by decide) (by decide)]
  exact tl
/-- the kept ends of both sides -/
def TE (h : mH) : Prop := hF h 17 4 = hF h 41 27 ∧ ∀ k, 0 ≤ k → k < hF h 17 4 → hA h (hF h 17 3) (3 * k) = hA h 60 k ∧ hA h (hF h 17 3) (3 * k + 1) = hA h 61 k ∧ hA h (hF h 17 3) (3 * k + 2) = hA h 62 k
theorem TE.keep {h t1 t2 : mH} {A : List Int} {G : List (Int × Nat)} (te : TE h) (rx : hF h 17 3 = 21 ∨ 74 ≤ hF h 17 3) (kp : Kp h t1) (kr : Kr h t1) (fr : Fr A G t1 t2) (hA9 : ∀ x ∈ A, (41 < x ∧ x < 74) ∧ (x < 60 ∨ 62 < x)) (g3 : ((17 : Int), 3) ∉ G) (g4 : ((17 : Int), 4) ∉ G) (g7 : ((41 : Int), 27) ∉ G) : TE t2 := by
  have e3 : hF t2 17 3 = hF h 17 3 := (fr.2.2.2.2.1 17 3 g3).trans kr.1
  have er : hA t2 (hF h 17 3) = hA h (hF h 17 3) := (fr.2.2.2.2.2 _ (fun z => by have := hA9 _ z; omega)).trans kr.2.2
  have ea := fun (x : Int) (hx : 60 ≤ x ∧ x ≤ 62) => fr.2.2.2.2.2 x (fun z => by have := hA9 _ z; omega)
  unfold TE
  rw [e3, er, fr.2.2.2.2.1 17 4 g4, kr.2.1, fr.2.2.2.2.1 41 27 g7, kp.1 27, ea 60 (by decide), ea 61 (by decide), ea 62 (by decide), kp.2.1 60 (by decide) (by decide), kp.2.1 61 (by decide) (by decide), kp.2.1 62 (by decide) (by decide)]
  exact te
def TLE (h : mH) : Prop := TLd h ∧ TE h
theorem TLE.keep {h t1 t2 : mH} {A : List Int} {G : List (Int × Nat)} (tl : TLE h) (rx : hF h 17 3 = 21 ∨ 74 ≤ hF h 17 3) (kp : Kp h t1) (kl : Kl h t1 ∧ Kr h t1) (fr : Fr A G t1 t2) (hA9 : ∀ x ∈ A, x ∈ mAs) (hG9 : ∀ q ∈ G, q ∈ mGs) : TLE t2 := by
  have fr' := fr.mono hA9 hG9
  exact ⟨tl.1.keep kp kl.1 fr' (by decide) (by decide) (by decide) (by decide), tl.2.keep rx kp kl.2 fr' (by decide) (by decide) (by decide) (by decide)⟩
section TIE
variable {h t1 t2 : mH} {y1 y2 : Int}
theorem TB.ring {p : Int} {A : Prop} (ti : TI h) (tj : TJ h) (kp : Kp h t1) (fr : Fr mAr mGf t1 t2) (h1 : (y1 = 0 ∧ ¬ A ∧ Cn h t1) ∨ (y1 = 1 ∧ A ∧ hF t1 2 0 = p ∧ hF t1 2 1 = 0 ∧ Cx [] [0, 1] h t1)) (h2 : (y2 = 0 ∧ ¬ A ∧ Fr [] [(41, 0), (41, 1)] t1 t2) ∨ (y2 = 1 ∧ A ∧ hF t2 41 5 = p ∧ hF t2 41 6 = 0 ∧ (∀ x, 0 ≤ x → x < 576 → hA t2 49 x = 0) ∧ Fr [49] [(41, 0), (41, 1), (41, 5), (41, 6)] t1 t2)) : y1 = y2 ∧ TI t2 ∧ TJ t2 := by
  refine TB.of Iff.rfl (fun _ => rfl) ti tj kp h1 h2 (fun _ c d => ?_)
  obtain ⟨c1, c2, c3⟩ := c
  obtain ⟨d1, d2, d3, d4⟩ := d
  have m := tj.mid kp
  refine ⟨TI.gen fr (by rw [c1, d1]) (by rw [c2, d2]) ((ti.mid kp).1.ss c3.2.2.ss (ms_fr d4 (by decide) (by decide) (by decide))), TJ.fin fr ⟨⟨?_, ?_⟩, fun k k0 k1 => ?_, fun k k0 k1 => ?_, ?_, ?_, fun k k0 k1 => ?_⟩⟩
  · rw [c3.1 2 (by decide), d4.2.2.2.2.1 41 7 (by decide)]
    exact m.1.1
  · rw [c3.1 8 (by decide), d4.2.2.2.2.1 41 8 (by decide)]
    exact m.1.2
  · rw [c2] at k1
    omega
  · rw [c2] at k1
    omega
  · rw [c3.2.1 7 (by decide) (by decide) (by decide), d4.2.2.2.2.2 47 (by decide)]
    exact m.2.2.2.1
  · rw [c2]
    exact TSe.ring d3
  · rw [c2] at k1
    omega
theorem TB.beater {k p : Int} (n0 : 0 ≤ hF h 2 1) (ti : TI h) (tj : TJ h) (kp : Kp h t1) (fr : Fr mAr mGf t1 t2) (h1 : (y1 = -1 ∧ ¬ ((0 ≤ k ∧ k < 4) ∧ (0 ≤ p ∧ p < hF h 2 0) ∧ hF h 2 1 < 24) ∧ Cn h t1) ∨ (y1 = hF h 2 1 ∧ ((0 ≤ k ∧ k < 4) ∧ (0 ≤ p ∧ p < hF h 2 0) ∧ hF h 2 1 < 24) ∧ hF t1 2 1 = hF h 2 1 + 1 ∧ (hA t1 3 = u1 (hA h 3) (hF h 2 1) k ∧ hA t1 4 = u1 (hA h 4) (hF h 2 1) p ∧ hA t1 6 = u1 (hA h 6) (hF h 2 1) 0 ∧ hA t1 5 = u1 (hA h 5) (hF h 2 1) 0) ∧ Cx [3, 4, 5, 6] [1] h t1)) (h2 : (y2 = -1 ∧ ¬ ((0 ≤ k ∧ k < 4) ∧ (0 ≤ p ∧ p < hF t1 41 5) ∧ hF t1 41 6 < 24) ∧ Fr [] [(41, 0), (41, 1)] t1 t2) ∨ (y2 = hF t1 41 6 ∧ ((0 ≤ k ∧ k < 4) ∧ (0 ≤ p ∧ p < hF t1 41 5) ∧ hF t1 41 6 < 24) ∧ hF t2 41 5 = hF t1 41 5 ∧ hF t2 41 6 = hF t1 41 6 + 1 ∧ (hA t2 45 = u1 (hA t1 45) (hF t1 41 6) k ∧ hA t2 46 = u1 (hA t1 46) (hF t1 41 6) p ∧ hA t2 48 = u1 (hA t1 48) (hF t1 41 6) 0) ∧ Fr [45, 46, 48] [(41, 0), (41, 1), (41, 6)] t1 t2)) : y1 = y2 ∧ TI t2 ∧ TJ t2 := by
  obtain ⟨ts, m0, m1⟩ := ti.mid kp
  have m := tj.mid kp
  rw [← m0, ← m1] at h2
  refine TB.of Iff.rfl (fun _ => rfl) ti tj kp h1 h2 (fun a c d => ?_)
  obtain ⟨c2, ⟨c3, c4, c6, c5⟩, c⟩ := c
  obtain ⟨d1, d2, ⟨d3, d4, d8⟩, d⟩ := d
  have hu : ∀ (f g : Int → Int) (v : Int), (∀ i, 0 ≤ i → i < hF h 2 1 → f i = g i) → ∀ i, 0 ≤ i → i < hF h 2 1 + 1 → u1 f (hF h 2 1) v i = u1 g (hF h 2 1) v i := fun f g v hfg i i0 i1 => u1_cg (fun e => hfg i i0 (by omega))
  refine ⟨TI.gen fr (by rw [c.1 0 (by decide), d1]) (by rw [c2, d2]) (ts.ss c.2.2.ss (ms_fr d (by decide) (by decide) (by decide))), TJ.fin fr ⟨⟨?_, ?_⟩, fun i i0 i1 => ?_, fun i i0 i1 => ?_, ?_, ?_, fun i i0 i1 => ?_⟩⟩
  · rw [c.1 2 (by decide), d.2.2.2.2.1 41 7 (by decide)]
    exact m.1.1
  · rw [c.1 8 (by decide), d.2.2.2.2.1 41 8 (by decide)]
    exact m.1.2
  · rw [c2] at i1
    rw [c3, d3]
    exact hu _ _ _ m.2.1 i i0 i1
  · rw [c2] at i1
    rw [c4, d4]
    exact hu _ _ _ m.2.2.1 i i0 i1
  · rw [c.2.1 7 (by decide) (by decide) (by decide), d.2.2.2.2.2 47 (by decide)]
    exact m.2.2.2.1
  · rw [c2, c6, d.2.2.2.2.2 49 (by decide)]
    exact m.2.2.2.2.1.beater n0 a.2.2
  · rw [c2] at i1
    rw [c5, d8]
    by_cases e : i = hF h 2 1
    · rw [e, u1_s, u1_s]
      decide
    · rw [u1_n _ _ e, u1_n _ _ e]
      exact m.2.2.2.2.2 i i0 (by omega)
theorem TB.sheet {s so mn : Int} {A : Prop} (hA : A → 0 ≤ mn ∧ mn ≤ 100) (ti : TI h) (tj : TJ h) (kp : Kp h t1) (fr : Fr mAr mGf t1 t2) (h1 : (y1 = 0 ∧ ¬ A ∧ Cn h t1) ∨ (y1 = 1 ∧ A ∧ Cb h t1 ∧ SEe s so mn (cTb h) (cTb t1))) (h2 : (y2 = 0 ∧ ¬ A ∧ Fr [] [(41, 0), (41, 1)] t1 t2) ∨ (y2 = 1 ∧ A ∧ Fr [42, 43, 44] [(41, 0), (41, 1)] t1 t2 ∧ SEe s so mn (mTb t1) (mTb t2))) : y1 = y2 ∧ TI t2 ∧ TJ t2 := by
  obtain ⟨ts, m0, m1⟩ := ti.mid kp
  refine TB.of Iff.rfl (fun _ => rfl) ti tj kp h1 h2 (fun a c d => ⟨TI.gen fr ?_ ?_ (ts.sheet (hA a) c.2 d.2), tj.stay kp c.1 fr d.1 (by decide) (by decide)⟩)
  · rw [c.1.1 0, d.1.2.2.2.2.1 41 5 (by decide), m0]
  · rw [c.1.1 1, d.1.2.2.2.2.1 41 6 (by decide), m1]
theorem TB.write {s p v : Int} (ti : TI h) (tj : TJ h) (kp : Kp h t1) (fr : Fr mAr mGf t1 t2) (h1 : (y1 = 0 ∧ ¬ ((0 ≤ s ∧ s < 4) ∧ 0 ≤ p ∧ p < hF h (33 + 2 * s) 1) ∧ Cn h t1) ∨ (y1 = 1 ∧ ((0 ≤ s ∧ s < 4) ∧ 0 ≤ p ∧ p < hF h (33 + 2 * s) 1) ∧ Cb h t1 ∧ WEe s p v (cTb h) (cTb t1))) (h2 : (y2 = 0 ∧ ¬ ((0 ≤ s ∧ s < 4) ∧ 0 ≤ p ∧ p < hA t1 43 s) ∧ Fr [] [(41, 0), (41, 1)] t1 t2) ∨ (y2 = 1 ∧ ((0 ≤ s ∧ s < 4) ∧ 0 ≤ p ∧ p < hA t1 43 s) ∧ Fr [42, 43, 44] [(41, 0), (41, 1)] t1 t2 ∧ WEe s p v (mTb t1) (mTb t2))) : y1 = y2 ∧ TI t2 ∧ TJ t2 := by
  obtain ⟨ts, m0, m1⟩ := ti.mid kp
  refine TB.of (and_congr_right (fun s0 => by rw [(ts.at s0).2.1])) (fun _ => rfl) ti tj kp h1 h2 (fun a c d => ⟨TI.gen fr ?_ ?_ (ts.write a.1 c.2 d.2), tj.stay kp c.1 fr d.1 (by decide) (by decide)⟩)
  · rw [c.1.1 0, d.1.2.2.2.2.1 41 5 (by decide), m0]
  · rw [c.1.1 1, d.1.2.2.2.2.1 41 6 (by decide), m1]
theorem TB.pour {s i t9 j mn : Int} (ti : TI h) (tj : TJ h) (kp : Kp h t1) (fr : Fr mAr mGf t1 t2) (h1 : (y1 = 0 ∧ ¬ (((0 ≤ s ∧ s < 4) ∧ (0 ≤ t9 ∧ t9 < 4)) ∧ (hF h (33 + 2 * s) 1 ≠ -1 ∧ hF h (33 + 2 * t9) 1 ≠ -1) ∧ hF h (33 + 2 * s) 0 = hF h (33 + 2 * t9) 0 ∧ 0 ≤ mn ∧ 0 ≤ i ∧ 0 ≤ j ∧ i + mn ≤ hF h (33 + 2 * s) 1 ∧ j + mn ≤ hF h (33 + 2 * t9) 1) ∧ Cn h t1) ∨ (y1 = 1 ∧ (((0 ≤ s ∧ s < 4) ∧ (0 ≤ t9 ∧ t9 < 4)) ∧ (hF h (33 + 2 * s) 1 ≠ -1 ∧ hF h (33 + 2 * t9) 1 ≠ -1) ∧ hF h (33 + 2 * s) 0 = hF h (33 + 2 * t9) 0 ∧ 0 ≤ mn ∧ 0 ≤ i ∧ 0 ≤ j ∧ i + mn ≤ hF h (33 + 2 * s) 1 ∧ j + mn ≤ hF h (33 + 2 * t9) 1) ∧ Cb h t1 ∧ PEe s i t9 j mn (cTb h) (cTb t1))) (h2 : (y2 = 0 ∧ ¬ (((0 ≤ s ∧ s < 4) ∧ (0 ≤ t9 ∧ t9 < 4)) ∧ (0 ≤ hA t1 43 s ∧ 0 ≤ hA t1 43 t9) ∧ hA t1 42 s = hA t1 42 t9 ∧ 0 ≤ mn ∧ 0 ≤ i ∧ 0 ≤ j ∧ i + mn ≤ hA t1 43 s ∧ j + mn ≤ hA t1 43 t9) ∧ Fr [] [(41, 0), (41, 1)] t1 t2) ∨ (y2 = 1 ∧ (((0 ≤ s ∧ s < 4) ∧ (0 ≤ t9 ∧ t9 < 4)) ∧ (0 ≤ hA t1 43 s ∧ 0 ≤ hA t1 43 t9) ∧ hA t1 42 s = hA t1 42 t9 ∧ 0 ≤ mn ∧ 0 ≤ i ∧ 0 ≤ j ∧ i + mn ≤ hA t1 43 s ∧ j + mn ≤ hA t1 43 t9) ∧ Fr [42, 43, 44] [(41, 0), (41, 1)] t1 t2 ∧ PEe s i t9 j mn (mTb t1) (mTb t2))) : y1 = y2 ∧ TI t2 ∧ TJ t2 := by
  obtain ⟨ts, m0, m1⟩ := ti.mid kp
  refine TB.of (and_congr_right (fun s0 => by
    obtain ⟨q1, q2, q3, -⟩ := ts.at s0.1
    obtain ⟨w1, w2, w3, -⟩ := ts.at s0.2
    omega)) (fun _ => rfl) ti tj kp h1 h2 (fun a c d => ⟨TI.gen fr ?_ ?_ (ts.pour a.1.1 ⟨a.2.2.2.2.1, a.2.2.2.2.2.2.1⟩ c.2 d.2), tj.stay kp c.1 fr d.1 (by decide) (by decide)⟩)
  · rw [c.1.1 0, d.1.2.2.2.2.1 41 5 (by decide), m0]
  · rw [c.1.1 1, d.1.2.2.2.2.1 41 6 (by decide), m1]
theorem TI.read {s p : Int} (ti : TI h) (kp : Kp h t1) (h1 : (y1 = -1 ∧ ¬ ((0 ≤ s ∧ s < 4) ∧ 0 ≤ p ∧ p < hF h (33 + 2 * s) 1)) ∨ (y1 = hA h (34 + 2 * s) p ∧ ((0 ≤ s ∧ s < 4) ∧ 0 ≤ p ∧ p < hF h (33 + 2 * s) 1))) (h2 : (y2 = -1 ∧ ¬ ((0 ≤ s ∧ s < 4) ∧ 0 ≤ p ∧ p < hA t1 43 s)) ∨ (y2 = hA t1 44 (100 * s + p) ∧ ((0 ≤ s ∧ s < 4) ∧ 0 ≤ p ∧ p < hA t1 43 s))) : y1 = y2 := by
  obtain ⟨ts, m0, m1⟩ := ti.mid kp
  have hc : ((0 ≤ s ∧ s < 4) ∧ 0 ≤ p ∧ p < hF h (33 + 2 * s) 1) ↔ ((0 ≤ s ∧ s < 4) ∧ 0 ≤ p ∧ p < hA t1 43 s) := and_congr_right (fun s0 => by rw [(ts.at s0).2.1])
  rw [← hc] at h2
  rcases h1 with ⟨e1, a1⟩ | ⟨e1, a1⟩ <;> rcases h2 with ⟨e2, a2⟩ | ⟨e2, a2⟩
  · omega
  · exact absurd a2 a1
  · exact absurd a1 a2
  · rw [e1, e2]
    exact (ts.at a1.1).2.2.2 p a1.2.1 a1.2.2
theorem TI.phases {s : Int} (ti : TI h) (kp : Kp h t1) : ((0 ≤ s ∧ s < 4) ∧ hF h (33 + 2 * s) 1 ≠ -1 ∧ hF h 2 1 ≤ hF h (33 + 2 * s) 1 ∧ ∀ k, 0 ≤ k → k < hF h 2 1 → 0 ≤ hA h (34 + 2 * s) k ∧ hA h (34 + 2 * s) k ≤ hF h 2 0 - 1) ↔ ((0 ≤ s ∧ s < 4) ∧ 0 ≤ hA t1 43 s ∧ hF t1 41 6 ≤ hA t1 43 s ∧ ∀ j, 0 ≤ j → j < hF t1 41 6 → 0 ≤ hA t1 44 (100 * s + j) ∧ hA t1 44 (100 * s + j) < hF t1 41 5) := by
  obtain ⟨ts, m0, m1⟩ := ti.mid kp
  refine and_congr_right (fun s0 => ?_)
  obtain ⟨q1, q2, q3, q4⟩ := ts.at s0
  rw [← m0, ← m1, ← q2]
  refine ⟨fun z => ⟨by have := z.1; omega, z.2.1, fun k k0 k1 => ?_⟩, fun z => ⟨by have := z.1; omega, z.2.1, fun k k0 k1 => ?_⟩⟩
  · have e := z.2.2 k k0 k1
    rw [q4 k k0 (by have := z.2.1; omega)] at e
    omega
  · have e := z.2.2 k k0 k1
    rw [q4 k k0 (by have := z.2.1; omega)]
    omega
theorem TI.push {s mn : Int} (ti : TI h) (kp : Kp h t1) : ((0 ≤ s ∧ s < 4) ∧ hF h (33 + 2 * s) 1 ≠ -1 ∧ (1 ≤ mn ∧ mn ≤ 16) ∧ mn ≤ hF h (33 + 2 * s) 1 ∧ ∀ k, 0 ≤ k → k < mn → 0 ≤ hA h (34 + 2 * s) k ∧ hA h (34 + 2 * s) k ≤ 4096) ↔ ((0 ≤ s ∧ s < 4) ∧ 0 ≤ hA t1 43 s ∧ (1 ≤ mn ∧ mn ≤ 16) ∧ mn ≤ hA t1 43 s ∧ ∀ j, 0 ≤ j → j < mn → 0 ≤ hA t1 44 (100 * s + j) ∧ hA t1 44 (100 * s + j) ≤ 4096) := by
  obtain ⟨ts, m0, m1⟩ := ti.mid kp
  refine and_congr_right (fun s0 => ?_)
  obtain ⟨q1, q2, q3, q4⟩ := ts.at s0
  rw [← q2]
  refine ⟨fun z => ⟨by have := z.1; omega, z.2.1, z.2.2.1, fun k k0 k1 => ?_⟩, fun z => ⟨by have := z.1; omega, z.2.1, z.2.2.1, fun k k0 k1 => ?_⟩⟩
  · rw [← q4 k k0 (by have := z.2.2.1; omega)]
    exact z.2.2.2 k k0 k1
  · rw [q4 k k0 (by have := z.2.2.1; omega)]
    exact z.2.2.2 k k0 k1
/-- a call that changes one row of the bench, the ring, many and the sheets as they are -/
theorem TB.k {A : List Int} {G : List Nat} {A' : List Int} {G' : List (Int × Nat)} (ti : TI h) (kp : Kp h t1) (c : Cx A G h t1) (d : Fr A' G' t1 t2) (g0 : 0 ∉ G) (g1 : 1 ∉ G) (hA : ∀ x ∈ A', x ∈ mAk) (hG : ∀ q ∈ G', q ∈ mGk) : TI t2 := ti.keep kp (c.cs g0 g1) d hA hG
theorem TB.kind {b k : Int} (ti : TI h) (tj : TJ h) (kp : Kp h t1) (fr : Fr mAr mGf t1 t2) (h1 : (y1 = 0 ∧ ¬ ((0 ≤ b ∧ b < hF h 2 1) ∧ (0 ≤ k ∧ k < 4)) ∧ Cn h t1) ∨ (y1 = 1 ∧ ((0 ≤ b ∧ b < hF h 2 1) ∧ (0 ≤ k ∧ k < 4)) ∧ hA t1 3 = u1 (hA h 3) b k ∧ Cx [3] [] h t1)) (h2 : (y2 = 0 ∧ ¬ ((0 ≤ b ∧ b < hF t1 41 6) ∧ (0 ≤ k ∧ k < 4)) ∧ Fr [] [(41, 0), (41, 1)] t1 t2) ∨ (y2 = 1 ∧ ((0 ≤ b ∧ b < hF t1 41 6) ∧ (0 ≤ k ∧ k < 4)) ∧ hA t2 45 = u1 (hA t1 45) b k ∧ Fr [45] [(41, 0), (41, 1)] t1 t2)) : y1 = y2 ∧ TI t2 ∧ TJ t2 := by
  obtain ⟨ts, m0, m1⟩ := ti.mid kp
  have m := tj.mid kp
  refine TB.of (by rw [m1]) (fun _ => rfl) ti tj kp h1 h2 (fun a c d => ⟨TB.k ti kp c.2 d.2 (by decide) (by decide) (by decide) (by decide), TJ.fin fr ⟨⟨?_, ?_⟩, fun i i0 i1 => ?_, ?_, ?_, ?_, ?_⟩⟩)
  · rw [c.2.1 2 (by decide), d.2.2.2.2.2.1 41 7 (by decide)]
    exact m.1.1
  · rw [c.2.1 8 (by decide), d.2.2.2.2.2.1 41 8 (by decide)]
    exact m.1.2
  · rw [c.2.1 1 (by decide)] at i1
    rw [c.1, d.1]
    exact u1_cg (fun _ => m.2.1 i i0 i1)
  · rw [c.2.1 1 (by decide), c.2.2.1 4 (by decide) (by decide) (by decide), d.2.2.2.2.2.2 46 (by decide)]
    exact m.2.2.1
  · rw [c.2.2.1 7 (by decide) (by decide) (by decide), d.2.2.2.2.2.2 47 (by decide)]
    exact m.2.2.2.1
  · rw [c.2.1 1 (by decide), c.2.2.1 6 (by decide) (by decide) (by decide), d.2.2.2.2.2.2 49 (by decide)]
    exact m.2.2.2.2.1
  · rw [c.2.1 1 (by decide), c.2.2.1 5 (by decide) (by decide) (by decide), d.2.2.2.2.2.2 48 (by decide)]
    exact m.2.2.2.2.2
/-- .. its phases -/
theorem TB.ph {c4 c46 : Int → Int} (ti : TI h) (tj : TJ h) (kp : Kp h t1) (fr : Fr mAr mGf t1 t2) (c : hA t1 4 = c4 ∧ Cx [4] [] h t1) (d : Fr [46] [(41, 0), (41, 1)] t1 t2) (hv : ∀ i, 0 ≤ i → i < hF h 2 1 → c4 i = hA t2 46 i) : TI t2 ∧ TJ t2 := by
  have m := tj.mid kp
  refine ⟨TB.k ti kp c.2 d (by decide) (by decide) (by decide) (by decide), TJ.fin fr ⟨⟨?_, ?_⟩, ?_, fun i i0 i1 => ?_, ?_, ?_, ?_⟩⟩
  · rw [c.2.1 2 (by decide), d.2.2.2.2.1 41 7 (by decide)]
    exact m.1.1
  · rw [c.2.1 8 (by decide), d.2.2.2.2.1 41 8 (by decide)]
    exact m.1.2
  · rw [c.2.1 1 (by decide), c.2.2.1 3 (by decide) (by decide) (by decide), d.2.2.2.2.2 45 (by decide)]
    exact m.2.1
  · rw [c.2.1 1 (by decide)] at i1
    rw [c.1]
    exact hv i i0 i1
  · rw [c.2.2.1 7 (by decide) (by decide) (by decide), d.2.2.2.2.2 47 (by decide)]
    exact m.2.2.2.1
  · rw [c.2.1 1 (by decide), c.2.2.1 6 (by decide) (by decide) (by decide), d.2.2.2.2.2 49 (by decide)]
    exact m.2.2.2.2.1
  · rw [c.2.1 1 (by decide), c.2.2.1 5 (by decide) (by decide) (by decide), d.2.2.2.2.2 48 (by decide)]
    exact m.2.2.2.2.2
theorem TB.turn {b p : Int} (ti : TI h) (tj : TJ h) (kp : Kp h t1) (fr : Fr mAr mGf t1 t2) (h1 : (y1 = 0 ∧ ¬ ((0 ≤ b ∧ b < hF h 2 1) ∧ (0 ≤ p ∧ p < hF h 2 0)) ∧ Cn h t1) ∨ (y1 = 1 ∧ ((0 ≤ b ∧ b < hF h 2 1) ∧ (0 ≤ p ∧ p < hF h 2 0)) ∧ hA t1 4 = u1 (hA h 4) b p ∧ Cx [4] [] h t1)) (h2 : (y2 = 0 ∧ ¬ ((0 ≤ b ∧ b < hF t1 41 6) ∧ (0 ≤ p ∧ p < hF t1 41 5)) ∧ Fr [] [(41, 0), (41, 1)] t1 t2) ∨ (y2 = 1 ∧ ((0 ≤ b ∧ b < hF t1 41 6) ∧ (0 ≤ p ∧ p < hF t1 41 5)) ∧ hA t2 46 = u1 (hA t1 46) b p ∧ Fr [46] [(41, 0), (41, 1)] t1 t2)) : y1 = y2 ∧ TI t2 ∧ TJ t2 := by
  obtain ⟨ts, m0, m1⟩ := ti.mid kp
  exact TB.of (by rw [m0, m1]) (fun _ => rfl) ti tj kp h1 h2 (fun a c d => TB.ph (c46 := hA t2 46) ti tj kp fr c d.2 (fun i i0 i1 => by rw [d.1]; exact u1_cg (fun _ => (tj.mid kp).2.2.1 i i0 i1)))
theorem TB.phases {s : Int} (ti : TI h) (tj : TJ h) (kp : Kp h t1) (fr : Fr mAr mGf t1 t2) (r1 : hF h 2 0 ≤ 4096) (h1 : (y1 = 0 ∧ ¬ ((0 ≤ s ∧ s < 4) ∧ hF h (33 + 2 * s) 1 ≠ -1 ∧ hF h 2 1 ≤ hF h (33 + 2 * s) 1 ∧ ∀ k, 0 ≤ k → k < hF h 2 1 → 0 ≤ hA h (34 + 2 * s) k ∧ hA h (34 + 2 * s) k ≤ hF h 2 0 - 1) ∧ Cn h t1) ∨ (y1 = 1 ∧ ((0 ≤ s ∧ s < 4) ∧ hF h (33 + 2 * s) 1 ≠ -1 ∧ hF h 2 1 ≤ hF h (33 + 2 * s) 1 ∧ ∀ k, 0 ≤ k → k < hF h 2 1 → 0 ≤ hA h (34 + 2 * s) k ∧ hA h (34 + 2 * s) k ≤ hF h 2 0 - 1) ∧ hA t1 4 = ciF (hA h (34 + 2 * s)) (hA h 4) (hF h 2 1) ∧ Cx [4] [] h t1)) (h2 : (y2 = 0 ∧ ¬ ((0 ≤ s ∧ s < 4) ∧ 0 ≤ hA t1 43 s ∧ hF t1 41 6 ≤ hA t1 43 s ∧ ∀ j, 0 ≤ j → j < hF t1 41 6 → 0 ≤ hA t1 44 (100 * s + j) ∧ hA t1 44 (100 * s + j) < hF t1 41 5) ∧ Fr [] [(41, 0), (41, 1)] t1 t2) ∨ (y2 = 1 ∧ ((0 ≤ s ∧ s < 4) ∧ 0 ≤ hA t1 43 s ∧ hF t1 41 6 ≤ hA t1 43 s ∧ ∀ j, 0 ≤ j → j < hF t1 41 6 → 0 ≤ hA t1 44 (100 * s + j) ∧ hA t1 44 (100 * s + j) < hF t1 41 5) ∧ (∀ j, 0 ≤ j → j < hF t1 41 6 → hA t2 46 j = hA t1 44 (100 * s + j)) ∧ Fr [46] [(41, 0), (41, 1)] t1 t2)) : y1 = y2 ∧ TI t2 ∧ TJ t2 := by
  obtain ⟨ts, m0, m1⟩ := ti.mid kp
  refine TB.of (ti.phases kp) (fun _ => rfl) ti tj kp h1 h2 (fun a c d => TB.ph (c46 := hA t2 46) ti tj kp fr c d.2 (fun i i0 i1 => ?_))
  have hr := a.2.2.2 i i0 i1
  rw [d.1 i i0 (by omega), ← (ts.at a.1).2.2.2 i i0 (by have := a.2.2.1; omega)]
  unfold ciF
  rw [if_pos ⟨i0, i1⟩, w32_of (by omega) (by omega)]
theorem TB.se {c6 : Int → Int} (ti : TI h) (tj : TJ h) (kp : Kp h t1) (fr : Fr mAr mGf t1 t2) (c : hA t1 6 = c6 ∧ Cx [6] [] h t1) (d : Fr [49] [(41, 0), (41, 1)] t1 t2) (hv : TSe (hF h 2 1) c6 (hA t2 49)) : TI t2 ∧ TJ t2 := by
  have m := tj.mid kp
  refine ⟨TB.k ti kp c.2 d (by decide) (by decide) (by decide) (by decide), TJ.fin fr ⟨⟨?_, ?_⟩, ?_, ?_, ?_, ?_, ?_⟩⟩
  · rw [c.2.1 2 (by decide), d.2.2.2.2.1 41 7 (by decide)]
    exact m.1.1
  · rw [c.2.1 8 (by decide), d.2.2.2.2.1 41 8 (by decide)]
    exact m.1.2
  · rw [c.2.1 1 (by decide), c.2.2.1 3 (by decide) (by decide) (by decide), d.2.2.2.2.2 45 (by decide)]
    exact m.2.1
  · rw [c.2.1 1 (by decide), c.2.2.1 4 (by decide) (by decide) (by decide), d.2.2.2.2.2 46 (by decide)]
    exact m.2.2.1
  · rw [c.2.2.1 7 (by decide) (by decide) (by decide), d.2.2.2.2.2 47 (by decide)]
    exact m.2.2.2.1
  · rw [c.2.1 1 (by decide), c.1]
    exact hv
  · rw [c.2.1 1 (by decide), c.2.2.1 5 (by decide) (by decide) (by decide), d.2.2.2.2.2 48 (by decide)]
    exact m.2.2.2.2.2
theorem TB.road {a b on : Int} (ti : TI h) (tj : TJ h) (kp : Kp h t1) (fr : Fr mAr mGf t1 t2) (n1 : hF h 2 1 ≤ 24) (h1 : (y1 = 0 ∧ ¬ ((0 ≤ a ∧ a < hF h 2 1) ∧ (0 ≤ b ∧ b < hF h 2 1)) ∧ Cn h t1) ∨ (y1 = 1 ∧ ((0 ≤ a ∧ a < hF h 2 1) ∧ (0 ≤ b ∧ b < hF h 2 1)) ∧ hA t1 6 = u1 (hA h 6) a (if on = 0 then kand (hA h 6 a) (kxor (kshl 1 b) (-1)) else kor (hA h 6 a) (kshl 1 b)) ∧ Cx [6] [] h t1)) (h2 : (y2 = 0 ∧ ¬ ((0 ≤ a ∧ a < hF t1 41 6) ∧ (0 ≤ b ∧ b < hF t1 41 6)) ∧ Fr [] [(41, 0), (41, 1)] t1 t2) ∨ (y2 = 1 ∧ ((0 ≤ a ∧ a < hF t1 41 6) ∧ (0 ≤ b ∧ b < hF t1 41 6)) ∧ hA t2 49 = u1 (hA t1 49) (24 * a + b) on ∧ Fr [49] [(41, 0), (41, 1)] t1 t2)) : y1 = y2 ∧ TI t2 ∧ TJ t2 := by
  obtain ⟨ts, m0, m1⟩ := ti.mid kp
  exact TB.of (by rw [m1]) (fun _ => rfl) ti tj kp h1 h2 (fun q c d => TB.se ti tj kp fr c d.2 (by rw [d.1]; exact (tj.mid kp).2.2.2.2.1.road n1 q.1.1 q.1.2 q.2.1 q.2.2))
theorem TB.roads {x : Int} {A : Prop} (ti : TI h) (tj : TJ h) (kp : Kp h t1) (fr : Fr mAr mGf t1 t2) (n0 : 0 ≤ hF h 2 1) (n1 : hF h 2 1 ≤ 24) (h1 : (y1 = 0 ∧ ¬ A ∧ Cn h t1) ∨ (y1 = 1 ∧ A ∧ hA t1 6 = gF (rdF x (hF h 2 1)) (hA h 6) (hF h 2 1) ∧ Cx [6] [] h t1)) (h2 : (y2 = 0 ∧ ¬ A ∧ Fr [] [(41, 0), (41, 1)] t1 t2) ∨ (y2 = 1 ∧ A ∧ ((∀ i j, 0 ≤ i → i < hF t1 41 6 → 0 ≤ j → j < hF t1 41 6 → (hA t2 49 (24 * i + j) ≠ 0 ↔ RWx x i j (hF t1 41 6))) ∧ (∀ i j, 0 ≤ i → i < 24 → 0 ≤ j → j < 24 → (hF t1 41 6 ≤ i ∨ hF t1 41 6 ≤ j) → hA t2 49 (24 * i + j) = hA t1 49 (24 * i + j))) ∧ Fr [49] [(41, 0), (41, 1)] t1 t2)) : y1 = y2 ∧ TI t2 ∧ TJ t2 := by
  obtain ⟨ts, m0, m1⟩ := ti.mid kp
  rw [← m1] at h2
  exact TB.of Iff.rfl (fun _ => rfl) ti tj kp h1 h2 (fun q c d => TB.se ti tj kp fr c d.2 ((tj.mid kp).2.2.2.2.1.roads n0 n1 d.1.1 d.1.2))
theorem TB.push {s mn : Int} (ti : TI h) (tj : TJ h) (kp : Kp h t1) (fr : Fr mAr mGf t1 t2) (h1 : (y1 = 0 ∧ ¬ ((0 ≤ s ∧ s < 4) ∧ hF h (33 + 2 * s) 1 ≠ -1 ∧ (1 ≤ mn ∧ mn ≤ 16) ∧ mn ≤ hF h (33 + 2 * s) 1 ∧ ∀ k, 0 ≤ k → k < mn → 0 ≤ hA h (34 + 2 * s) k ∧ hA h (34 + 2 * s) k ≤ 4096) ∧ Cn h t1) ∨ (y1 = 1 ∧ ((0 ≤ s ∧ s < 4) ∧ hF h (33 + 2 * s) 1 ≠ -1 ∧ (1 ≤ mn ∧ mn ≤ 16) ∧ mn ≤ hF h (33 + 2 * s) 1 ∧ ∀ k, 0 ≤ k → k < mn → 0 ≤ hA h (34 + 2 * s) k ∧ hA h (34 + 2 * s) k ≤ 4096) ∧ hA t1 7 = ciF (hA h (34 + 2 * s)) (hA h 7) mn ∧ hF t1 2 8 = mn ∧ Cx [7] [8] h t1)) (h2 : (y2 = 0 ∧ ¬ ((0 ≤ s ∧ s < 4) ∧ 0 ≤ hA t1 43 s ∧ (1 ≤ mn ∧ mn ≤ 16) ∧ mn ≤ hA t1 43 s ∧ ∀ j, 0 ≤ j → j < mn → 0 ≤ hA t1 44 (100 * s + j) ∧ hA t1 44 (100 * s + j) ≤ 4096) ∧ Fr [] [(41, 0), (41, 1)] t1 t2) ∨ (y2 = 1 ∧ ((0 ≤ s ∧ s < 4) ∧ 0 ≤ hA t1 43 s ∧ (1 ≤ mn ∧ mn ≤ 16) ∧ mn ≤ hA t1 43 s ∧ ∀ j, 0 ≤ j → j < mn → 0 ≤ hA t1 44 (100 * s + j) ∧ hA t1 44 (100 * s + j) ≤ 4096) ∧ hF t2 41 8 = mn ∧ (∀ j, hA t2 47 j = if 0 ≤ j ∧ j < mn then hA t1 44 (100 * s + j) else hA t1 47 j) ∧ Fr [47] [(41, 0), (41, 1), (41, 8)] t1 t2)) : y1 = y2 ∧ TI t2 ∧ TJ t2 := by
  obtain ⟨ts, m0, m1⟩ := ti.mid kp
  have m := tj.mid kp
  refine TB.of (ti.push kp) (fun _ => rfl) ti tj kp h1 h2 (fun a c d => ?_)
  obtain ⟨c1, c2, c⟩ := c
  obtain ⟨d1, d2, d⟩ := d
  refine ⟨TB.k ti kp c d (by decide) (by decide) (by decide) (by decide), TJ.fin fr ⟨⟨?_, ?_⟩, ?_, ?_, ?_, ?_, ?_⟩⟩
  · rw [c.1 2 (by decide), d.2.2.2.2.1 41 7 (by decide)]
    exact m.1.1
  · rw [c2, d1]
  · rw [c.1 1 (by decide), c.2.1 3 (by decide) (by decide) (by decide), d.2.2.2.2.2 45 (by decide)]
    exact m.2.1
  · rw [c.1 1 (by decide), c.2.1 4 (by decide) (by decide) (by decide), d.2.2.2.2.2 46 (by decide)]
    exact m.2.2.1
  · funext i
    rw [c1, d2 i]
    unfold ciF
    by_cases z : 0 ≤ i ∧ i < mn
    · have hr := a.2.2.2.2 i z.1 z.2
      rw [if_pos z, if_pos z, w32_of (by omega) (by omega)]
      exact (ts.at a.1).2.2.2 i z.1 (by have := a.2.2.2.1; omega)
    · rw [if_neg z, if_neg z]
      exact congrFun m.2.2.2.1 i
  · rw [c.1 1 (by decide), c.2.1 6 (by decide) (by decide) (by decide), d.2.2.2.2.2 49 (by decide)]
    exact m.2.2.2.2.1
  · rw [c.1 1 (by decide), c.2.1 5 (by decide) (by decide) (by decide), d.2.2.2.2.2 48 (by decide)]
    exact m.2.2.2.2.2
theorem TB.clear (ti : TI h) (tj : TJ h) (kp : Kp h t1) (fr : Fr mAr mGf t1 t2) (n1 : hF h 2 1 ≤ 24) (c : hF t1 2 2 = 0 ∧ Cx [5] [2] h t1) (d : hF t2 41 7 = 0 ∧ Fr [48] [(41, 0), (41, 1), (41, 7)] t1 t2) (c5 : hA t1 5 = flF (hA h 5) 24 0) (d8 : ∀ k, 0 ≤ k → k < 24 → hA t2 48 k = 0) : TI t2 ∧ TJ t2 := by
  have m := tj.mid kp
  refine ⟨TB.k ti kp c.2 d.2 (by decide) (by decide) (by decide) (by decide), TJ.fin fr ⟨⟨?_, ?_⟩, ?_, ?_, ?_, ?_, fun k k0 k1 => ?_⟩⟩
  · rw [c.1, d.1]
  · rw [c.2.1 8 (by decide), d.2.2.2.2.2.1 41 8 (by decide)]
    exact m.1.2
  · rw [c.2.1 1 (by decide), c.2.2.1 3 (by decide) (by decide) (by decide), d.2.2.2.2.2.2 45 (by decide)]
    exact m.2.1
  · rw [c.2.1 1 (by decide), c.2.2.1 4 (by decide) (by decide) (by decide), d.2.2.2.2.2.2 46 (by decide)]
    exact m.2.2.1
  · rw [c.2.2.1 7 (by decide) (by decide) (by decide), d.2.2.2.2.2.2 47 (by decide)]
    exact m.2.2.2.1
  · rw [c.2.1 1 (by decide), c.2.2.1 6 (by decide) (by decide) (by decide), d.2.2.2.2.2.2 49 (by decide)]
    exact m.2.2.2.2.1
  · rw [c.2.1 1 (by decide)] at k1
    rw [c5, d8 k k0 (by omega)]
    unfold flF
    rw [if_pos (by omega)]
    decide
theorem TJ.cm (ti : TI h) (tj : TJ h) (kp : Kp h t1) : CM (ccf h) (mcf t1) := by
  obtain ⟨ts, m0, m1⟩ := ti.mid kp
  have m := tj.mid kp
  refine ⟨?_, m.2.2.2.1, m.2.1, m.2.2.2.2.1.1⟩
  show (hF h 2 1, hF h 2 0, hF h 2 8) = (hF t1 41 6, hF t1 41 5, hF t1 41 8)
  rw [m0, m1, m.1.2]
theorem TB.go {n : Int} {A : Prop} (sh : Sh h) (bi : BI h) (ti : TI h) (tj : TJ h) (kp : Kp h t1) (fr : Fr mAr mGf t1 t2) (h1 : (y1 = 0 ∧ ¬ A ∧ Cn h t1) ∨ (y1 = 1 ∧ A ∧ hF t1 2 2 = w32 (hF h 2 2 + n) ∧ (∀ j, 0 ≤ j → j < hF h 2 1 → hA t1 4 j = cI9 (ccf h) (hA h 4) n.toNat j) ∧ (∀ j, 0 ≤ j → j < hF h 2 1 → hA t1 5 j = cB9 (ccf h) (hA h 4) (hA h 5) n.toNat j) ∧ Cx [4, 5] [2] h t1)) (h2 : (y2 = 0 ∧ ¬ A ∧ Fr [] [(41, 0), (41, 1)] t1 t2) ∨ (y2 = 1 ∧ A ∧ hF t2 41 7 = w32 (hF t1 41 7 + n) ∧ (∀ j, 0 ≤ j → j < hF t1 41 6 → hA t2 46 j = mI9 (mcf t1) (hA t1 46) n.toNat j) ∧ (∀ j, 0 ≤ j → j < hF t1 41 6 → hA t2 48 j = mB9 (mcf t1) (hA t1 46) (hA t1 48) n.toNat j) ∧ Fr [46, 48, 50, 51, 52, 53] [(41, 0), (41, 1), (41, 7)] t1 t2)) : y1 = y2 ∧ TI t2 ∧ TJ t2 := by
  obtain ⟨ts, m0, m1⟩ := ti.mid kp
  have m := tj.mid kp
  have cm := TJ.cm ti tj kp
  refine TB.of Iff.rfl (fun _ => rfl) ti tj kp h1 h2 (fun a c d => ?_)
  obtain ⟨c1, c2, c5, c⟩ := c
  obtain ⟨d1, d2, d8, d⟩ := d
  have hI := I9_eq cm bi.2.1.2 bi.1.1 (fun f hf => cT9_rgf sh bi hf) bi.2.2.2.1 (fun i i0 i1 => m.2.2.1 i i0 i1)
  refine ⟨TB.k ti kp c d (by decide) (by decide) (by decide) (by decide), TJ.fin fr ⟨⟨?_, ?_⟩, ?_, fun j j0 j1 => ?_, ?_, ?_, fun j j0 j1 => ?_⟩⟩
  · rw [c1, d1, m.1.1]
  · rw [c.1 8 (by decide), d.2.2.2.2.1 41 8 (by decide)]
    exact m.1.2
  · rw [c.1 1 (by decide), c.2.1 3 (by decide) (by decide) (by decide), d.2.2.2.2.2 45 (by decide)]
    exact m.2.1
  · rw [c.1 1 (by decide)] at j1
    rw [c2 j j0 j1, d2 j j0 (by omega)]
    exact (hI n.toNat j j0 j1).1
  · rw [c.2.1 7 (by decide) (by decide) (by decide), d.2.2.2.2.2 47 (by decide)]
    exact m.2.2.2.1
  · rw [c.1 1 (by decide), c.2.1 6 (by decide) (by decide) (by decide), d.2.2.2.2.2 49 (by decide)]
    exact m.2.2.2.2.1
  · rw [c.1 1 (by decide)] at j1
    rw [c5 j j0 j1, d8 j j0 (by omega)]
    exact B9_eq cm bi.2.1.2 bi.1.1 hI (fun i i0 i1 => m.2.2.2.2.2 i i0 i1) n.toNat j j0 j1
theorem TB.count {x : Int} (bi : BI h) (ti : TI h) (tj : TJ h) (kp : Kp h t1) (h1 : (x = 0 → y1 = hF h 2 2) ∧ (x = 1 → y1 = hF h 2 0) ∧ (x = 2 → y1 = hF h 2 1) ∧ (x = 3 → y1 = rs9 (hA h 6) (hF h 2 1).toNat) ∧ ((x < 0 ∨ 3 < x) → y1 = -1)) (h2 : ((x = 0 → y2 = hF t1 41 7) ∧ (x = 1 → y2 = hF t1 41 5) ∧ (x = 2 → y2 = hF t1 41 6) ∧ (x = 3 → y2 = ms9 (hA t1 49) (hF t1 41 6).toNat (hF t1 41 6).toNat)) ∧ ((x < 0 ∨ 3 < x) → y2 = -1)) : y1 = y2 := by
  obtain ⟨ts, m0, m1⟩ := ti.mid kp
  have m := tj.mid kp
  obtain ⟨a0, a1, a2, a3, a4⟩ := h1
  obtain ⟨⟨b0, b1, b2, b3⟩, b4⟩ := h2
  rcases (show x = 0 ∨ x = 1 ∨ x = 2 ∨ x = 3 ∨ (x < 0 ∨ 3 < x) by omega) with z | z | z | z | z
  · rw [a0 z, b0 z, m.1.1]
  · rw [a1 z, b1 z, m0]
  · rw [a2 z, b2 z, m1]
  · rw [a3 z, b3 z, ← m1]
    exact rs_ms m.2.2.2.2.1 bi.2.1.1 bi.2.1.2 _ (by have := bi.2.1.1; omega)
  · rw [a4 z, b4 z]
theorem TB.set {x : Int} (bi : BI h) (ti : TI h) (kp : Kp h t1) (rx : -2147483648 ≤ x ∧ x < 2147483648) : kand x (kxor (w32 (kshl 1 (hF h 2 1) - 1)) (-1)) = 0 ↔ (0 ≤ x ∧ x < kshl 1 (hF t1 41 6)) := by
  obtain ⟨ts, m0, m1⟩ := ti.mid kp
  rw [← m1]
  exact set_iff bi.2.1.1 bi.2.1.2 rx
theorem TB.step {x : Int} (rx : -2147483648 ≤ x ∧ x < 2147483648) (bi : BI h) (ti : TI h) (tj : TJ h) (kp : Kp h t1) (h1 : (¬ kand x (kxor (w32 (kshl 1 (hF h 2 1) - 1)) (-1)) = 0 ∧ y1 = -1) ∨ (kand x (kxor (w32 (kshl 1 (hF h 2 1) - 1)) (-1)) = 0 ∧ (y1 = 0 ∨ y1 = 1) ∧ (y1 = 1 ↔ sp9 (hA h 4) (hF h 2 1) x))) (h2 : (¬ (0 ≤ x ∧ x < kshl 1 (hF t1 41 6)) ∧ y2 = -1) ∨ ((0 ≤ x ∧ x < kshl 1 (hF t1 41 6)) ∧ (y2 = 0 ∨ y2 = 1) ∧ (y2 = 1 ↔ sp9 (hA t1 46) (hF t1 41 6) x))) : y1 = y2 := by
  have e := TB.set bi ti kp rx
  obtain ⟨ts, m0, m1⟩ := ti.mid kp
  have m := tj.mid kp
  rcases h1 with ⟨a, b⟩ | ⟨a, b, c⟩ <;> rcases h2 with ⟨p, q⟩ | ⟨p, q, r⟩
  · omega
  · exact absurd (e.mpr p) a
  · exact absurd (e.mp a) p
  · rw [← m1, ← sp9_eq m.2.2.1] at r
    have := c.trans r.symm
    omega
theorem TB.arc {x : Int} (rx : -2147483648 ≤ x ∧ x < 2147483648) (bi : BI h) (ti : TI h) (tj : TJ h) (kp : Kp h t1) (h1 : ((¬ kand x (kxor (w32 (kshl 1 (hF h 2 1) - 1)) (-1)) = 0 ∨ x = 0) ∧ y1 = -1) ∨ ((kand x (kxor (w32 (kshl 1 (hF h 2 1) - 1)) (-1)) = 0 ∧ x ≠ 0) ∧ y1 = la9 (hA h 4) (hF h 2 0) x (hF h 2 1).toNat (hF h 2 1).toNat)) (h2 : ((¬ (0 ≤ x ∧ x < kshl 1 (hF t1 41 6)) ∨ x = 0) ∧ y2 = -1) ∨ (((0 ≤ x ∧ x < kshl 1 (hF t1 41 6)) ∧ x ≠ 0) ∧ y2 = la9 (hA t1 46) (hF t1 41 5) x (hF t1 41 6).toNat (hF t1 41 6).toNat)) : y1 = y2 := by
  have e := TB.set bi ti kp rx
  obtain ⟨ts, m0, m1⟩ := ti.mid kp
  have m := tj.mid kp
  rw [e] at h1
  rcases h1 with ⟨a, b⟩ | ⟨a, b⟩ <;> rcases h2 with ⟨p, q⟩ | ⟨p, q⟩
  · omega
  · exact absurd p (fun z => a.elim (fun y => y z.1) z.2)
  · exact absurd a (fun z => p.elim (fun y => y z.1) z.2)
  · rw [b, q, ← m0, ← m1]
    exact la9_eq (fun j j0 j1 => m.2.2.1 j j0 (by have := bi.2.1.1; omega)) _ (Nat.le_refl _)
theorem TB.round {x : Int} (sh : Sh h) (bi : BI h) (ti : TI h) (tj : TJ h) (kp : Kp h t1) (h1 : (¬ ((0 ≤ x ∧ x ≤ 1) ∧ hF h 2 1 ≠ 0) ∧ y1 = -1) ∨ (((0 ≤ x ∧ x ≤ 1) ∧ hF h 2 1 ≠ 0) ∧ RD9 (hF h 2 1) (cI9 (ccf h) (hA h 4)) x y1)) (h2 : (¬ ((0 ≤ x ∧ x ≤ 1) ∧ hF t1 41 6 ≠ 0) ∧ y2 = -1) ∨ (((0 ≤ x ∧ x ≤ 1) ∧ hF t1 41 6 ≠ 0) ∧ RD9 (hF t1 41 6) (mI9 (mcf t1) (hA t1 46)) x y2)) : y1 = y2 := by
  obtain ⟨ts, m0, m1⟩ := ti.mid kp
  have m := tj.mid kp
  have hI := I9_eq (TJ.cm ti tj kp) bi.2.1.2 bi.1.1 (fun f hf => cT9_rgf sh bi hf) bi.2.2.2.1 (fun i i0 i1 => m.2.2.1 i i0 i1)
  rw [← m1] at h2
  rcases h1 with ⟨a, b⟩ | ⟨a, b⟩ <;> rcases h2 with ⟨p, q⟩ | ⟨p, q⟩
  · omega
  · exact absurd p a
  · exact absurd a p
  · exact RD9.uniq (fun k j j0 j1 => (hI k j j0 j1).1) b q
theorem TB.meet {x : Int} (rx : -2147483648 ≤ x ∧ x < 2147483648) (sh : Sh h) (bi : BI h) (ti : TI h) (tj : TJ h) (kp : Kp h t1) (h1 : (¬ kand x (kxor (w32 (kshl 1 (hF h 2 1) - 1)) (-1)) = 0 ∧ y1 = -1) ∨ (kand x (kxor (w32 (kshl 1 (hF h 2 1) - 1)) (-1)) = 0 ∧ MT9 (hF h 2 1) (cI9 (ccf h) (hA h 4)) (fun i => sp9 ((cI9 (ccf h) (hA h 4)) i) (hF h 2 1) x) y1)) (h2 : (¬ (0 ≤ x ∧ x < kshl 1 (hF t1 41 6)) ∧ y2 = -1) ∨ ((0 ≤ x ∧ x < kshl 1 (hF t1 41 6)) ∧ MT9 (hF t1 41 6) (mI9 (mcf t1) (hA t1 46)) (fun i => sp9 ((mI9 (mcf t1) (hA t1 46)) i) (hF t1 41 6) x) y2)) : y1 = y2 := by
  have e := TB.set bi ti kp rx
  obtain ⟨ts, m0, m1⟩ := ti.mid kp
  have m := tj.mid kp
  have hI := I9_eq (TJ.cm ti tj kp) bi.2.1.2 bi.1.1 (fun f hf => cT9_rgf sh bi hf) bi.2.2.2.1 (fun i i0 i1 => m.2.2.1 i i0 i1)
  rcases h1 with ⟨a, b⟩ | ⟨a, b⟩ <;> rcases h2 with ⟨p, q⟩ | ⟨p, q⟩
  · omega
  · exact absurd (e.mpr p) a
  · exact absurd (e.mp a) p
  · rw [← m1] at q
    exact MT9.uniq (fun k j j0 j1 => (hI k j j0 j1).1) (fun i => sp9_eq (fun j j0 j1 => (hI i j j0 j1).1)) b q
theorem TB.beats {b x : Int} (bi : BI h) (ti : TI h) (tj : TJ h) (kp : Kp h t1) (h1 : (¬ (0 ≤ b ∧ b < hF h 2 1) ∧ y1 = -1) ∨ ((0 ≤ b ∧ b < hF h 2 1) ∧ (x = 0 → y1 = hA h 4 b) ∧ (x = 1 → y1 = hA h 5 b) ∧ (x = 2 → y1 = hA h 3 b) ∧ (x = 3 → y1 = kbc (hA h 6 b)) ∧ ((x < 0 ∨ 3 < x) → y1 = -1))) (h2 : (¬ ((0 ≤ b ∧ b < hF t1 41 6) ∧ 0 ≤ x ∧ x ≤ 3) ∧ y2 = -1) ∨ (((0 ≤ b ∧ b < hF t1 41 6) ∧ 0 ≤ x ∧ x ≤ 3) ∧ (x = 0 → y2 = hA t1 46 b) ∧ (x = 1 → y2 = w32 (hA t1 48 b)) ∧ (x = 2 → y2 = hA t1 45 b) ∧ (x = 3 → y2 = cnt9 (hA t1 49) b (hF t1 41 6).toNat))) : y1 = y2 := by
  obtain ⟨ts, m0, m1⟩ := ti.mid kp
  have m := tj.mid kp
  rw [← m1] at h2
  rcases h1 with ⟨a, c⟩ | ⟨a, c0, c1, c2, c3, c4⟩ <;> rcases h2 with ⟨p, q⟩ | ⟨p, q0, q1, q2, q3⟩
  · omega
  · exact absurd p.1 a
  · have := c4 (by omega)
    omega
  · rcases (show x = 0 ∨ x = 1 ∨ x = 2 ∨ x = 3 by omega) with z | z | z | z
    · rw [c0 z, q0 z]
      exact m.2.2.1 b a.1 a.2
    · rw [c1 z, q1 z]
      exact m.2.2.2.2.2 b a.1 a.2
    · rw [c2 z, q2 z]
      exact m.2.1 b a.1 a.2
    · rw [c3 z, q3 z]
      exact kbc_cnt bi.2.1.1 bi.2.1.2 (fun i i0 i1 => m.2.2.2.2.1.1 b i a.1 a.2 i0 i1) (fun i i0 i1 => m.2.2.2.2.1.2.1 b a.1 a.2 i i0 i1)
/-- the leaders of both sides -/
theorem TB.ls {g0 : Int → Int} (bi : BI h) (ti : TI h) (tj : TJ h) (kp : Kp h t1) (hg : ∀ i, 0 ≤ i → i < hF t1 41 6 → ∀ j, 0 ≤ j → j < 32 → (bt (g0 i) j ↔ (j = i ∨ (j < hF t1 41 6 ∧ hA t1 49 (24 * i + j) ≠ 0)))) : (ls9 (hF h 2 1) (wa2 (hF h 2 1) 25 0 (fun j => kor (hA h 6 j) (kshl 1 j))) (hF h 2 1).toNat) = (ls9 (hF t1 41 6) (wa2 (hF t1 41 6) 25 0 g0) (hF t1 41 6).toNat) := by
  obtain ⟨ts, m0, m1⟩ := ti.mid kp
  have m := tj.mid kp
  rw [← m1] at hg ⊢
  obtain ⟨n0, n1⟩ := bi.2.1
  refine ls9_eq (RB.w2 n1 25 0 _ _ (Int.le_refl _) (fun a a0 a1 j j0 j1 => ?_)) n1 _ (by omega)
  show bt (kor (hA h 6 a) (kshl 1 a)) j ↔ bt (g0 a) j
  rw [bt_or j0 j1, bt_one j0 j1 a0 (by omega), hg a a0 a1 j j0 j1]
  by_cases z : j < hF h 2 1
  · rw [m.2.2.2.2.1.1 a j a0 a1 j0 z]
    exact ⟨fun q => q.elim (fun y => Or.inr ⟨z, y⟩) Or.inl, fun q => q.elim Or.inr (fun y => Or.inl y.2)⟩
  · exact ⟨fun q => q.elim (fun y => absurd y (m.2.2.2.2.1.2.1 a a0 a1 j (by omega) j1)) Or.inl, fun q => q.elim Or.inr (fun y => absurd y.1 z)⟩
theorem TB.lead (bi : BI h) (ti : TI h) (tj : TJ h) (kp : Kp h t1) (h1 : (hF h 2 1 = 0 ∧ y1 = -1 ∧ Fr [] [(0, 0)] h t1) ∨ (hF h 2 1 ≠ 0 ∧ y1 = (ls9 (hF h 2 1) (wa2 (hF h 2 1) 25 0 (fun j => kor (hA h 6 j) (kshl 1 j))) (hF h 2 1).toNat).1 ∧ hF t1 0 7 = (ls9 (hF h 2 1) (wa2 (hF h 2 1) 25 0 (fun j => kor (hA h 6 j) (kshl 1 j))) (hF h 2 1).toNat).1 ∧ (∀ j, 0 ≤ j → j < (ls9 (hF h 2 1) (wa2 (hF h 2 1) 25 0 (fun j => kor (hA h 6 j) (kshl 1 j))) (hF h 2 1).toNat).1 → hA t1 31 j = (ls9 (hF h 2 1) (wa2 (hF h 2 1) 25 0 (fun j => kor (hA h 6 j) (kshl 1 j))) (hF h 2 1).toNat).2 j) ∧ Fr [10, 31] [(0, 0), (0, 7)] h t1)) (h2 : (hF t1 41 6 = 0 ∧ y2 = -1 ∧ Fr [] [(41, 0), (41, 1)] t1 t2) ∨ (hF t1 41 6 ≠ 0 ∧ ∃ g0 : Int → Int, (∀ i, 0 ≤ i → i < hF t1 41 6 → ∀ j, 0 ≤ j → j < 32 → (bt (g0 i) j ↔ (j = i ∨ (j < hF t1 41 6 ∧ hA t1 49 (24 * i + j) ≠ 0)))) ∧ y2 = (ls9 (hF t1 41 6) (wa2 (hF t1 41 6) 25 0 g0) (hF t1 41 6).toNat).1 ∧ hF t2 41 28 = (ls9 (hF t1 41 6) (wa2 (hF t1 41 6) 25 0 g0) (hF t1 41 6).toNat).1 ∧ (∀ j, 0 ≤ j → j < (ls9 (hF t1 41 6) (wa2 (hF t1 41 6) 25 0 g0) (hF t1 41 6).toNat).1 → hA t2 63 j = (ls9 (hF t1 41 6) (wa2 (hF t1 41 6) 25 0 g0) (hF t1 41 6).toNat).2 j))) : y1 = y2 := by
  obtain ⟨ts, m0, m1⟩ := ti.mid kp
  rcases h1 with ⟨a, b, -⟩ | ⟨a, b, -⟩ <;> rcases h2 with ⟨p, q, -⟩ | ⟨p, g0, hg, q, -⟩
  · omega
  · omega
  · omega
  · rw [b, q, TB.ls bi ti tj kp hg]
theorem TB.leadT (tl : TLd h) (fr : Fr mAn mGn t1 t2) (bi : BI h) (ti : TI h) (tj : TJ h) (kp : Kp h t1) (h1 : (hF h 2 1 = 0 ∧ y1 = -1 ∧ Fr [] [(0, 0)] h t1) ∨ (hF h 2 1 ≠ 0 ∧ y1 = (ls9 (hF h 2 1) (wa2 (hF h 2 1) 25 0 (fun j => kor (hA h 6 j) (kshl 1 j))) (hF h 2 1).toNat).1 ∧ hF t1 0 7 = (ls9 (hF h 2 1) (wa2 (hF h 2 1) 25 0 (fun j => kor (hA h 6 j) (kshl 1 j))) (hF h 2 1).toNat).1 ∧ (∀ j, 0 ≤ j → j < (ls9 (hF h 2 1) (wa2 (hF h 2 1) 25 0 (fun j => kor (hA h 6 j) (kshl 1 j))) (hF h 2 1).toNat).1 → hA t1 31 j = (ls9 (hF h 2 1) (wa2 (hF h 2 1) 25 0 (fun j => kor (hA h 6 j) (kshl 1 j))) (hF h 2 1).toNat).2 j) ∧ Fr [10, 31] [(0, 0), (0, 7)] h t1)) (h2 : (hF t1 41 6 = 0 ∧ y2 = -1 ∧ Fr [] [(41, 0), (41, 1)] t1 t2) ∨ (hF t1 41 6 ≠ 0 ∧ ∃ g0 : Int → Int, (∀ i, 0 ≤ i → i < hF t1 41 6 → ∀ j, 0 ≤ j → j < 32 → (bt (g0 i) j ↔ (j = i ∨ (j < hF t1 41 6 ∧ hA t1 49 (24 * i + j) ≠ 0)))) ∧ y2 = (ls9 (hF t1 41 6) (wa2 (hF t1 41 6) 25 0 g0) (hF t1 41 6).toNat).1 ∧ hF t2 41 28 = (ls9 (hF t1 41 6) (wa2 (hF t1 41 6) 25 0 g0) (hF t1 41 6).toNat).1 ∧ (∀ j, 0 ≤ j → j < (ls9 (hF t1 41 6) (wa2 (hF t1 41 6) 25 0 g0) (hF t1 41 6).toNat).1 → hA t2 63 j = (ls9 (hF t1 41 6) (wa2 (hF t1 41 6) 25 0 g0) (hF t1 41 6).toNat).2 j))) : TLd t2 := by
  obtain ⟨ts, m0, m1⟩ := ti.mid kp
  rcases h1 with ⟨a, b, f⟩ | ⟨a, b, c, e, f⟩ <;> rcases h2 with ⟨p, q, g⟩ | ⟨p, g0, hg, q, u, v⟩
  · exact tl.keep kp (Kl.fr f (by decide) (by decide)) g (by decide) (by decide) (by decide) (by decide)
  · omega
  · omega
  · have ls := TB.ls bi ti tj kp hg
    unfold TLd
    rw [fr.2.2.2.2.1 0 7 (by decide), fr.2.2.2.2.2 31 (by decide), u, c, ls]
    refine ⟨rfl, fun k k0 k1 => ?_⟩
    rw [v k k0 k1, e k k0 (by rw [ls]; exact k1), ls]
theorem TB.leader {k : Int} (tl : TLd h) (kp : Kp h t1) (h1 : (¬ (0 ≤ k ∧ k < hF h 0 7) ∧ y1 = -1) ∨ ((0 ≤ k ∧ k < hF h 0 7) ∧ y1 = hA h 31 k)) (h2 : (¬ (0 ≤ k ∧ k < hF t1 41 28) ∧ y2 = -1) ∨ ((0 ≤ k ∧ k < hF t1 41 28) ∧ y2 = hA t1 63 k)) : y1 = y2 := by
  rw [kp.1 28, kp.2.1 63 (by decide) (by decide), ← tl.1] at h2
  rcases h1 with ⟨a, b⟩ | ⟨a, b⟩ <;> rcases h2 with ⟨p, q⟩ | ⟨p, q⟩
  · omega
  · exact absurd p a
  · exact absurd a p
  · rw [b, q]
    exact tl.2 k a.1 a.2
theorem G9_eq {c m : mCf} (cm : CM c m) (n0 : 0 ≤ c.1.1) (n1 : c.1.1 ≤ 24) (r0 : 2 ≤ c.1.2.1) (s : Int) : G9 c s = mG9 m s := by
  unfold G9 mG9
  rw [← cm.1]
  exact ec9_cg _ (by omega) (fun j j0 j1 => tick_eq cm n1 r0 (fun i _ _ => dig9_bd r0) (fun _ _ _ => rfl) j j0 j1)
theorem TB.g9 (bi : BI h) (ti : TI h) (tj : TJ h) (kp : Kp h t1) : mG9 (mcf t1) = G9 (ccf h) := funext (fun s => (G9_eq (TJ.cm ti tj kp) bi.2.1.1 bi.2.1.2 bi.1.1 s).symm)
theorem TB.ends0 (bi : BI h) (ti : TI h) (tj : TJ h) (kp : Kp h t1) (h1 : (¬ (hF h 2 1 ≠ 0 ∧ hF h 2 0 ^ (hF h 2 1).toNat ≤ 20736) ∧ y1 = -1 ∧ Kr h t1) ∨ ((hF h 2 1 ≠ 0 ∧ hF h 2 0 ^ (hF h 2 1).toNat ≤ 20736) ∧ ∃ H : Int → Int, HM9 (hF h 2 0 ^ (hF h 2 1).toNat) (G9 (ccf h)) H ∧ RG (hF h 2 0 ^ (hF h 2 1).toNat) (G9 (ccf h)) ∧ y1 = ((cR H (hF h 2 0 ^ (hF h 2 1).toNat).toNat : Nat) : Int) ∧ hF t1 17 4 = y1 ∧ RW9 (G9 (ccf h)) H (fun k => hA t1 (hF t1 17 3) (3 * k)) (fun k => hA t1 (hF t1 17 3) (3 * k + 1)) (fun k => hA t1 (hF t1 17 3) (3 * k + 2)) (hF h 2 0 ^ (hF h 2 1).toNat) (hF h 2 0 ^ (hF h 2 1).toNat))) (h2 : (¬ (hF t1 41 6 ≠ 0 ∧ hF t1 41 5 ^ (hF t1 41 6).toNat ≤ 20736) ∧ y2 = -1 ∧ Fr [] [(41, 0), (41, 1)] t1 t2) ∨ ((hF t1 41 6 ≠ 0 ∧ hF t1 41 5 ^ (hF t1 41 6).toNat ≤ 20736) ∧ ∃ H : Int → Int, HM9 (hF t1 41 5 ^ (hF t1 41 6).toNat) (mG9 (mcf t1)) H ∧ y2 = ((cR H (hF t1 41 5 ^ (hF t1 41 6).toNat).toNat : Nat) : Int) ∧ hF t2 41 27 = y2 ∧ RW9 (mG9 (mcf t1)) H (hA t2 60) (hA t2 61) (hA t2 62) (hF t1 41 5 ^ (hF t1 41 6).toNat) (hF t1 41 5 ^ (hF t1 41 6).toNat))) : y1 = y2 ∧ ((¬ (hF h 2 1 ≠ 0 ∧ hF h 2 0 ^ (hF h 2 1).toNat ≤ 20736) ∧ Kr h t1 ∧ Fr [] [(41, 0), (41, 1)] t1 t2) ∨ (hF t1 17 4 = hF t2 41 27 ∧ ∀ k, 0 ≤ k → k < hF t1 17 4 → hA t1 (hF t1 17 3) (3 * k) = hA t2 60 k ∧ hA t1 (hF t1 17 3) (3 * k + 1) = hA t2 61 k ∧ hA t1 (hF t1 17 3) (3 * k + 2) = hA t2 62 k)) := by
  obtain ⟨ts, m0, m1⟩ := ti.mid kp
  have eg := TB.g9 bi ti tj kp
  rw [← m0, ← m1, eg] at h2
  rcases h1 with ⟨a, b, c⟩ | ⟨a, H, hm1, rg, b, c, d⟩ <;> rcases h2 with ⟨p, q, f⟩ | ⟨p, H', hm2, q, r, f⟩
  · exact ⟨by omega, Or.inl ⟨a, c, f⟩⟩
  · exact absurd p a
  · exact absurd a p
  · have S0 : 0 ≤ hF h 2 0 ^ (hF h 2 1).toNat := Int.le_of_lt (Int.pow_pos (by have := bi.1.1; omega))
    have hH : ∀ x, 0 ≤ x → x < hF h 2 0 ^ (hF h 2 1).toNat → H x = H' x := fun x x0 x1 => hm1.uniq hm2 x0 x1
    have ec : cR H (hF h 2 0 ^ (hF h 2 1).toNat).toNat = cR H' (hF h 2 0 ^ (hF h 2 1).toNat).toNat := cR_cg _ (fun x x0 x1 => hH x x0 (by omega))
    refine ⟨by rw [b, q, ec], Or.inr ⟨by rw [c, r, b, q, ec], fun k k0 k1 => ?_⟩⟩
    exact RW9.uniq (a0 := fun k => hA t1 (hF t1 17 3) (3 * k)) (a1 := fun k => hA t1 (hF t1 17 3) (3 * k + 1)) (a2 := fun k => hA t1 (hF t1 17 3) (3 * k + 2)) S0 rg (fun _ _ _ => rfl) hH d f k0 (by rw [c, b] at k1; exact k1)
theorem TB.ends (bi : BI h) (ti : TI h) (tj : TJ h) (kp : Kp h t1) (h1 : (¬ (hF h 2 1 ≠ 0 ∧ hF h 2 0 ^ (hF h 2 1).toNat ≤ 20736) ∧ y1 = -1 ∧ Kr h t1) ∨ ((hF h 2 1 ≠ 0 ∧ hF h 2 0 ^ (hF h 2 1).toNat ≤ 20736) ∧ ∃ H : Int → Int, HM9 (hF h 2 0 ^ (hF h 2 1).toNat) (G9 (ccf h)) H ∧ RG (hF h 2 0 ^ (hF h 2 1).toNat) (G9 (ccf h)) ∧ y1 = ((cR H (hF h 2 0 ^ (hF h 2 1).toNat).toNat : Nat) : Int) ∧ hF t1 17 4 = y1 ∧ RW9 (G9 (ccf h)) H (fun k => hA t1 (hF t1 17 3) (3 * k)) (fun k => hA t1 (hF t1 17 3) (3 * k + 1)) (fun k => hA t1 (hF t1 17 3) (3 * k + 2)) (hF h 2 0 ^ (hF h 2 1).toNat) (hF h 2 0 ^ (hF h 2 1).toNat))) (h2 : (¬ (hF t1 41 6 ≠ 0 ∧ hF t1 41 5 ^ (hF t1 41 6).toNat ≤ 20736) ∧ y2 = -1 ∧ Fr [] [(41, 0), (41, 1)] t1 t2) ∨ ((hF t1 41 6 ≠ 0 ∧ hF t1 41 5 ^ (hF t1 41 6).toNat ≤ 20736) ∧ ∃ H : Int → Int, HM9 (hF t1 41 5 ^ (hF t1 41 6).toNat) (mG9 (mcf t1)) H ∧ y2 = ((cR H (hF t1 41 5 ^ (hF t1 41 6).toNat).toNat : Nat) : Int) ∧ hF t2 41 27 = y2 ∧ RW9 (mG9 (mcf t1)) H (hA t2 60) (hA t2 61) (hA t2 62) (hF t1 41 5 ^ (hF t1 41 6).toNat) (hF t1 41 5 ^ (hF t1 41 6).toNat))) : y1 = y2 := (TB.ends0 bi ti tj kp h1 h2).1
theorem TB.endsT (tl : TLE h) (rx : hF h 17 3 = 21 ∨ 74 ≤ hF h 17 3) (rx1 : hF t1 17 3 = 21 ∨ 74 ≤ hF t1 17 3) (kl : Kl h t1) (fr : Fr mAe mGe t1 t2) (bi : BI h) (ti : TI h) (tj : TJ h) (kp : Kp h t1) (h1 : (¬ (hF h 2 1 ≠ 0 ∧ hF h 2 0 ^ (hF h 2 1).toNat ≤ 20736) ∧ y1 = -1 ∧ Kr h t1) ∨ ((hF h 2 1 ≠ 0 ∧ hF h 2 0 ^ (hF h 2 1).toNat ≤ 20736) ∧ ∃ H : Int → Int, HM9 (hF h 2 0 ^ (hF h 2 1).toNat) (G9 (ccf h)) H ∧ RG (hF h 2 0 ^ (hF h 2 1).toNat) (G9 (ccf h)) ∧ y1 = ((cR H (hF h 2 0 ^ (hF h 2 1).toNat).toNat : Nat) : Int) ∧ hF t1 17 4 = y1 ∧ RW9 (G9 (ccf h)) H (fun k => hA t1 (hF t1 17 3) (3 * k)) (fun k => hA t1 (hF t1 17 3) (3 * k + 1)) (fun k => hA t1 (hF t1 17 3) (3 * k + 2)) (hF h 2 0 ^ (hF h 2 1).toNat) (hF h 2 0 ^ (hF h 2 1).toNat))) (h2 : (¬ (hF t1 41 6 ≠ 0 ∧ hF t1 41 5 ^ (hF t1 41 6).toNat ≤ 20736) ∧ y2 = -1 ∧ Fr [] [(41, 0), (41, 1)] t1 t2) ∨ ((hF t1 41 6 ≠ 0 ∧ hF t1 41 5 ^ (hF t1 41 6).toNat ≤ 20736) ∧ ∃ H : Int → Int, HM9 (hF t1 41 5 ^ (hF t1 41 6).toNat) (mG9 (mcf t1)) H ∧ y2 = ((cR H (hF t1 41 5 ^ (hF t1 41 6).toNat).toNat : Nat) : Int) ∧ hF t2 41 27 = y2 ∧ RW9 (mG9 (mcf t1)) H (hA t2 60) (hA t2 61) (hA t2 62) (hF t1 41 5 ^ (hF t1 41 6).toNat) (hF t1 41 5 ^ (hF t1 41 6).toNat))) : TLE t2 := by
  refine ⟨tl.1.keep kp kl fr (by decide) (by decide) (by decide) (by decide), ?_⟩
  rcases (TB.ends0 bi ti tj kp h1 h2).2 with ⟨-, kr, f⟩ | ⟨e, z⟩
  · exact tl.2.keep rx kp kr f (by decide) (by decide) (by decide) (by decide)
  · have e3 : hF t2 17 3 = hF t1 17 3 := fr.2.2.2.2.1 17 3 (by decide)
    have hl : ∀ x ∈ mAe, 41 < x ∧ x < 74 := by decide
    have er : hA t2 (hF t1 17 3) = hA t1 (hF t1 17 3) := fr.2.2.2.2.2 _ (fun y => by have := hl _ y; clear h1 h2; omega)
    unfold TE
    rw [e3, er, fr.2.2.2.2.1 17 4 (by decide)]
    exact ⟨e, z⟩
theorem TB.end {k x : Int} (te : TE h) (kp : Kp h t1) (h1 : (¬ ((0 ≤ x ∧ x ≤ 2) ∧ (0 ≤ k ∧ k < hF h 17 4)) ∧ y1 = -1) ∨ (((0 ≤ x ∧ x ≤ 2) ∧ (0 ≤ k ∧ k < hF h 17 4)) ∧ y1 = hA h (hF h 17 3) (3 * k + x))) (h2 : (¬ ((0 ≤ x ∧ x ≤ 2) ∧ (0 ≤ k ∧ k < hF t1 41 27)) ∧ y2 = -1) ∨ (((0 ≤ x ∧ x ≤ 2) ∧ (0 ≤ k ∧ k < hF t1 41 27)) ∧ y2 = if x = 0 then hA t1 60 k else if x = 1 then hA t1 61 k else hA t1 62 k)) : y1 = y2 := by
  rw [kp.1 27, kp.2.1 60 (by decide) (by decide), kp.2.1 61 (by decide) (by decide), kp.2.1 62 (by decide) (by decide), ← te.1] at h2
  rcases h1 with ⟨a, b⟩ | ⟨a, b⟩ <;> rcases h2 with ⟨p, q⟩ | ⟨p, q⟩
  · omega
  · exact absurd p a
  · exact absurd a p
  · have z := te.2 k a.2.1 a.2.2
    rcases (show x = 0 ∨ x = 1 ∨ x = 2 by omega) with e | e | e
    · rw [e, if_pos rfl] at q
      rw [e, Int.add_zero] at b
      rw [b, q]
      exact z.1
    · rw [e, if_neg (by decide), if_pos rfl] at q
      rw [e] at b
      rw [b, q]
      exact z.2.1
    · rw [e, if_neg (by decide), if_neg (by decide)] at q
      rw [e] at b
      rw [b, q]
      exact z.2.2
theorem TB.sure {x : Int} (rx : -2147483648 ≤ x ∧ x < 2147483648) (bi : BI h) (ti : TI h) (tj : TJ h) (kp : Kp h t1) (h1 : (¬ (kand x (kxor (w32 (kshl 1 (hF h 2 1) - 1)) (-1)) = 0 ∧ (hF h 2 1 ≠ 0 ∧ hF h 2 0 ^ (hF h 2 1).toNat ≤ 20736)) ∧ y1 = -1) ∨ ((kand x (kxor (w32 (kshl 1 (hF h 2 1) - 1)) (-1)) = 0 ∧ (hF h 2 1 ≠ 0 ∧ hF h 2 0 ^ (hF h 2 1).toNat ≤ 20736)) ∧ ∃ H p b : Int → Int, HM9 (hF h 2 0 ^ (hF h 2 1).toNat) (G9 (ccf h)) H ∧ PM9 (G9 (ccf h)) H p (hF h 2 0) (hF h 2 1) x (hF h 2 0 ^ (hF h 2 1).toNat) ∧ (∀ l, 0 ≤ l → l < hF h 2 0 ^ (hF h 2 1).toNat → H l = l → b l = bz9 H l (hF h 2 0 ^ (hF h 2 1).toNat).toNat) ∧ y1 = w32 (sc9 H p b (hF h 2 0 ^ (hF h 2 1).toNat).toNat))) (h2 : (¬ ((0 ≤ x ∧ x < kshl 1 (hF t1 41 6)) ∧ (hF t1 41 6 ≠ 0 ∧ hF t1 41 5 ^ (hF t1 41 6).toNat ≤ 20736)) ∧ y2 = -1) ∨ (((0 ≤ x ∧ x < kshl 1 (hF t1 41 6)) ∧ (hF t1 41 6 ≠ 0 ∧ hF t1 41 5 ^ (hF t1 41 6).toNat ≤ 20736)) ∧ ∃ H p : Int → Int, HM9 (hF t1 41 5 ^ (hF t1 41 6).toNat) (mG9 (mcf t1)) H ∧ PM9 (mG9 (mcf t1)) H p (hF t1 41 5) (hF t1 41 6) x (hF t1 41 5 ^ (hF t1 41 6).toNat) ∧ y2 = w32 (sm9 H p (hF t1 41 5 ^ (hF t1 41 6).toNat).toNat))) : y1 = y2 := by
  have e := TB.set bi ti kp rx
  obtain ⟨ts, m0, m1⟩ := ti.mid kp
  have eg := TB.g9 bi ti tj kp
  rw [e] at h1
  rw [eg, ← m0] at h2
  rw [m1] at h1
  have S0 : 0 ≤ hF h 2 0 ^ (hF t1 41 6).toNat := Int.le_of_lt (Int.pow_pos (by have := bi.1.1; omega))
  rcases h1 with ⟨a, b⟩ | ⟨a, H, p, b0, hm1, pm1, hb, b⟩ <;> rcases h2 with ⟨p', q⟩ | ⟨p', H', p2, hm2, pm2, q⟩
  · omega
  · exact absurd p' a
  · exact absurd a p'
  · rw [b, q, sure9_eq S0 hm1 hm2 pm1 pm2 hb]
end TIE
