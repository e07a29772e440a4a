/-! ===== the class's invariant, with room for K calls ===== -/
/-- what the rows of ends may still take: by calls, by their length now and ahead of it -/
def psR (K w9 nr nv : Int) : Int := 11664 * (K + w9) + 2 * (46656 - min nr 46656) + 2 * (46656 - min nv 46656) + (if nr ≤ 46656 then 62208 else 0)
/-- how many ends the bench has -/
def FNd (h : mH) : Int := ((cR (hom9 (G9 (ccf h)) (hF h 2 0 ^ (hF h 2 1).toNat)) (hF h 2 0 ^ (hF h 2 1).toNat).toNat : Nat) : Int)
def KQ (h : mH) (K : Int) (hd lk wd nh nl nw af ho bs rw na nr ob n9 mn nv w9 : Int) : Prop := TR h hd lk wd nh nl nw ∧ EN h af ho bs rw na nr ∧ OB h ob n9 ∧ hF h 17 4 = mn ∧ ((0 ≤ mn ∧ mn ≤ 15552) ∧ 3 * mn ≤ nr ∧ nv ≤ nr) ∧ (0 ≤ nv ∧ (0 ≤ w9 ∧ w9 ≤ 3) ∧ (w9 ≤ 1 ↔ nv < 3 * mn)) ∧ ((w9 = 0 ∨ w9 = 2) → FNd h = mn) ∧ (hZ h : Int) + (psT nh nl nw + psA na + psO n9) + psR K w9 nr nv + 8 * K ≤ 7250000 ∧ 2 * (hN h : Int) + (psT nh nl nw + psA na + psO n9) + 4 * K ≤ 1202048
def KP (h : mH) (K : Int) : Prop := ∃ hd lk wd nh nl nw af ho bs rw na nr ob n9 mn nv w9, KQ h K hd lk wd nh nl nw af ho bs rw na nr ob n9 mn nv w9
def SHs (h : mH) : Prop := ∀ i, 0 ≤ i → i < 4 → hF h (33 + 2 * i) 1 ≤ 100
def CK (h : mH) (K : Int) : Prop := Sh h ∧ BI h ∧ SPx h ∧ (0 ≤ hF h 0 7 ∧ hF h 0 7 ≤ 24) ∧ (0 ≤ hF h 0 9 ∧ hF h 0 9 ≤ 10) ∧ SHs h ∧ KP h K
/-- the reference's cells stay -/
def Kp (h t : mH) : Prop := (∀ k, hF t 41 k = hF h 41 k) ∧ (∀ a, 41 ≤ a → a < 74 → hA t a = hA h a) ∧ hK t 73 = hK h 73 ∧ hL t 73 = hL h 73
theorem Kp.mi {h t : mH} (k : Kp h t) (mi : MI h) : MI t := by
  unfold MI MB MS MT ME at mi ⊢
  rw [k.1 5, k.1 6, k.1 8, k.1 30, k.1 27, k.1 28, k.1 39, k.2.1 46 (by decide) (by decide), k.2.1 47 (by decide) (by decide), k.2.1 43 (by decide) (by decide), k.2.1 64 (by decide) (by decide)]
  exact mi
theorem psR_call {K w9 w' nr nv : Int} (h : w' ≤ w9 + 1) : psR K w' nr nv ≤ psR (K + 1) w9 nr nv := by
  unfold psR
  omega
def gK9 : List (Int × Nat) := [(13, 0), (13, 1), (13, 2), (17, 0), (17, 1), (17, 2), (17, 3), (17, 4), (22, 8)]
theorem KP.call {A : Int → Prop} {G : List (Int × Nat)} {h t : mH} {K : Int} (kp : KP h (K + 1)) (h74 : 74 ≤ hN h) (fq : Fq A G h t) (hn : hN t = hN h) (hz : hZ t = hZ h) (hG : ∀ q ∈ gK9, q ∉ G) (hA : ∀ a, A a → a < 74 ∧ a ≠ 30) : KP t K := by
  obtain ⟨hd, lk, wd, nh, nl, nw, af, ho, bs, rw, na, nr, ob, n9, mn, nv, w9, tr, en, ob9, hm, h1, ⟨h2, h3, h4⟩, h5, h6, h7⟩ := kp
  have oo := ob9.2.2.2.1
  refine ⟨hd, lk, wd, nh, nl, nw, af, ho, bs, rw, na, nr, ob, n9, mn, nv, if w9 = 0 then 1 else if w9 = 2 then 3 else w9, tr.fq fq h74 (hG _ (by decide)) (hG _ (by decide)) (hG _ (by decide)), en.fq fq h74 (hG _ (by decide)) (hG _ (by decide)) (hG _ (by decide)) (hG _ (by decide)), ob9.fq fq h74 (hG _ (by decide)) (fun z => by have := hA _ z; omega), (fq.2.2.2.2.1 17 4 (by omega) (hG _ (by decide))).trans hm, h1, ⟨h2, ?_, ?_⟩, ?_, ?_, ?_⟩
  · split
    · omega
    · split <;> omega
  · rw [← h4]
    split
    · omega
    · split <;> omega
  · intro z
    split at z
    · omega
    · split at z <;> omega
  · have hp := psR_call (K := K) (w9 := w9) (w' := if w9 = 0 then 1 else if w9 = 2 then 3 else w9) (nr := nr) (nv := nv) (by split; omega; split <;> omega)
    rw [hz]
    omega
  · rw [hn]
    omega
theorem KP.model {h t : mH} {K : Int} (kp : KP h K) (h74 : 74 ≤ hN h) (fr : Fr mAr mGf h t) : KP t K := by
  obtain ⟨hd, lk, wd, nh, nl, nw, af, ho, bs, rw, na, nr, ob, n9, mn, nv, w9, tr, en, ob9, hm, h1, h2, h5, h6, h7⟩ := kp
  have oo := ob9.2.2.2.1
  have fq := Fq.fr (A := fun a => a ∈ mAr) fr (fun x z => z)
  have ef : FNd t = FNd h := by
    unfold FNd
    rw [ccf_fr fr (by decide) (by decide) (by decide) (by decide) (by decide) (by decide), fr.2.2.2.2.1 2 0 (by decide), fr.2.2.2.2.1 2 1 (by decide)]
  have hl : ∀ x ∈ mAr, x < 74 ∧ x ≠ 30 := by decide
  refine ⟨hd, lk, wd, nh, nl, nw, af, ho, bs, rw, na, nr, ob, n9, mn, nv, w9, tr.fq fq h74 (by decide) (by decide) (by decide), en.fq fq h74 (by decide) (by decide) (by decide) (by decide), ob9.fq fq h74 (by decide) (fun z => by have := hl _ z; omega), (fr.2.2.2.2.1 17 4 (by decide)).trans hm, h1, h2, by rw [ef]; exact h5, by rw [fr.2.1]; exact h6, by rw [fr.1]; exact h7⟩
abbrev cAr : List Int := [3, 4, 5, 6, 7, 8, 9, 10, 11, 12, 23, 24, 25, 26, 27, 28, 29, 31, 32, 34, 36, 38, 40]
abbrev cGf : List (Int × Nat) := [(0, 0), (0, 7), (0, 9), (2, 0), (2, 1), (2, 2), (2, 8), (22, 0), (22, 2), (22, 3), (22, 5), (22, 6), (22, 9), (22, 10), (22, 11), (22, 12), (22, 13), (33, 0), (33, 1), (35, 0), (35, 1), (37, 0), (37, 1), (39, 0), (39, 1)]
theorem Kp.fr {A : List Int} {G : List (Int × Nat)} {h t : mH} (fr : Fr A G h t) (hA : ∀ x ∈ A, x < 41) (hG : ∀ q ∈ G, q.1 ≠ 41) : Kp h t := ⟨fun k => fr.2.2.2.2.1 41 k (fun z => hG _ z rfl), fun a a0 a1 => fr.2.2.2.2.2 a (fun z => by have := hA a z; omega), by rw [fr.2.2.1], by rw [fr.2.2.2.1]⟩
theorem CK.fr {h t : mH} {K : Int} (ck : CK h (K + 1)) (fr : Fr cAr cGf h t) (bi : BI t) (sp : SPx t) (h7 : 0 ≤ hF t 0 7 ∧ hF t 0 7 ≤ 24) (h9 : 0 ≤ hF t 0 9 ∧ hF t 0 9 ≤ 10) (hs : SHs t) : CK t K ∧ Kp h t := by
  have hl : ∀ x ∈ cAr, x < 74 ∧ x ≠ 30 := by decide
  exact ⟨⟨ck.1.fr fr (by decide +kernel) (by decide), bi, sp, h7, h9, hs, ck.2.2.2.2.2.2.call ck.1.2.2.2.2 (Fq.fr (A := fun a => a ∈ cAr) fr (fun x z => z)) fr.1 fr.2.1 (by decide) hl⟩, Kp.fr fr (by decide) (by decide)⟩
theorem CK.model {h t : mH} {K : Int} (ck : CK h K) (fr : Fr mAr mGf h t) : CK t K := by
  refine ⟨ck.1.m fr, ck.2.1.fr fr (by decide) (by decide) (by decide) (by decide) (by decide), ck.2.2.1.fr fr (by decide), ?_, ?_, fun i i0 i1 => ?_, ck.2.2.2.2.2.2.model ck.1.2.2.2.2 fr⟩
  · rw [fr.2.2.2.2.1 0 7 (by decide)]
    exact ck.2.2.2.1
  · rw [fr.2.2.2.2.1 0 9 (by decide)]
    exact ck.2.2.2.2.1
  · rw [fr.2.2.2.2.1 (33 + 2 * i) 1 (by simp; omega)]
    exact ck.2.2.2.2.2.1 i i0 i1
/-- a call that touches the bench alone -/
theorem CK.bench {h t : mH} {K : Int} (ck : CK h (K + 1)) (fr : Fr bAr bGf h t) (bi : BI t) : CK t K ∧ Kp h t := by
  refine ck.fr (fr.mono (by decide) (by decide)) bi (ck.2.2.1.fr fr (by decide)) ?_ ?_ (fun i i0 i1 => ?_)
  · rw [fr.2.2.2.2.1 0 7 (by decide)]
    exact ck.2.2.2.1
  · rw [fr.2.2.2.2.1 0 9 (by decide)]
    exact ck.2.2.2.2.1
  · rw [fr.2.2.2.2.1 (33 + 2 * i) 1 (by simp; omega)]
    exact ck.2.2.2.2.2.1 i i0 i1
/-- a call that touches the spans alone -/
theorem CK.spans {h t : mH} {K : Int} (ck : CK h (K + 1)) (fr : Fr (32 :: sAr) ((0, 0) :: (0, 9) :: sGf) h t) (sp : SPx t) (h9 : 0 ≤ hF t 0 9 ∧ hF t 0 9 ≤ 10) : CK t K ∧ Kp h t := by
  refine ck.fr (fr.mono (by decide) (by decide)) (ck.2.1.fr fr (by decide) (by decide) (by decide) (by decide) (by decide)) sp ?_ h9 (fun i i0 i1 => ?_)
  · rw [fr.2.2.2.2.1 0 7 (by decide)]
    exact ck.2.2.2.1
  · rw [fr.2.2.2.2.1 (33 + 2 * i) 1 (by simp)]
    exact ck.2.2.2.2.2.1 i i0 i1
/-- the end of a call -/
def QX (tg : Nat) (K : Int) (h : mH) : Option mV → mH → Prop := fun r t => (∃ y, r = some (tg, y)) ∧ CK t K ∧ Kp h t
/-- .. with a yes just where A holds -/
def QY (A : Prop) (K : Int) (h : mH) : Option mV → mH → Prop := fun r t => (∃ y, r = some (0, y) ∧ ((y = 0 ∧ ¬ A) ∨ (y = 1 ∧ A))) ∧ CK t K ∧ Kp h t
