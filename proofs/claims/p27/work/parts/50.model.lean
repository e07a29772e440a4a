/-! ===== the reference: what holds of its cells ===== -/
abbrev mAr : List Int := [42, 43, 44, 45, 46, 47, 48, 49, 50, 51, 52, 53, 54, 55, 56, 57, 58, 59, 60, 61, 62, 63, 64, 65, 66, 67, 68, 69, 70, 71, 72]
abbrev mGf : List (Int × Nat) := [(41, 0), (41, 1), (41, 5), (41, 6), (41, 7), (41, 8), (41, 27), (41, 28), (41, 30), (41, 36), (41, 37), (41, 39), (41, 40), (41, 41)]
abbrev gNO : Int := -9223372036854775808
def MB (h : mH) : Prop := (2 ≤ hF h 41 5 ∧ hF h 41 5 ≤ 4096) ∧ (0 ≤ hF h 41 6 ∧ hF h 41 6 ≤ 24) ∧ (1 ≤ hF h 41 8 ∧ hF h 41 8 ≤ 16) ∧ (∀ k, 0 ≤ k → k < hF h 41 6 → 0 ≤ hA h 46 k ∧ hA h 46 k < hF h 41 5) ∧ ∀ i, 0 ≤ i → i < 16 → 0 ≤ hA h 47 i ∧ hA h 47 i ≤ 4096
def MS (h : mH) : Prop := ∀ i, 0 ≤ i → i < 4 → hA h 43 i ≤ 100
def MT (h : mH) : Prop := (0 ≤ hF h 41 30 ∧ hF h 41 30 ≤ 10) ∧ ∀ k, 0 ≤ k → k < 100 → hA h 64 k = gNO ∨ (-1048576 ≤ hA h 64 k ∧ hA h 64 k ≤ 1048576)
def ME (h : mH) : Prop := (0 ≤ hF h 41 27 ∧ hF h 41 27 ≤ 20736) ∧ (0 ≤ hF h 41 28 ∧ hF h 41 28 ≤ 24) ∧ (0 ≤ hF h 41 39 ∧ hF h 41 39 ≤ 10)
def MI (h : mH) : Prop := MB h ∧ MS h ∧ MT h ∧ ME h
theorem MB.fr {A : List Int} {G : List (Int × Nat)} {h h' : mH} (bi : MB h) (fr : Fr A G h h') (a4 : (46 : Int) ∉ A) (a7 : (47 : Int) ∉ A) (g0 : ((41 : Int), 5) ∉ G) (g1 : ((41 : Int), 6) ∉ G) (g8 : ((41 : Int), 8) ∉ G) : MB h' := by
  unfold MB
  rw [fr.2.2.2.2.1 41 5 g0, fr.2.2.2.2.1 41 6 g1, fr.2.2.2.2.1 41 8 g8, fr.2.2.2.2.2 46 a4, fr.2.2.2.2.2 47 a7]
  exact bi
theorem MS.fr {A : List Int} {G : List (Int × Nat)} {h h' : mH} (bi : MS h) (fr : Fr A G h h') (a4 : (43 : Int) ∉ A) : MS h' := by
  unfold MS
  rw [fr.2.2.2.2.2 43 a4]
  exact bi
theorem MT.fr {A : List Int} {G : List (Int × Nat)} {h h' : mH} (bi : MT h) (fr : Fr A G h h') (a4 : (64 : Int) ∉ A) (g0 : ((41 : Int), 30) ∉ G) : MT h' := by
  unfold MT
  rw [fr.2.2.2.2.1 41 30 g0, fr.2.2.2.2.2 64 a4]
  exact bi
theorem ME.fr {A : List Int} {G : List (Int × Nat)} {h h' : mH} (bi : ME h) (fr : Fr A G h h') (g0 : ((41 : Int), 27) ∉ G) (g1 : ((41 : Int), 28) ∉ G) (g2 : ((41 : Int), 39) ∉ G) : ME h' := by
  unfold ME
  rw [fr.2.2.2.2.1 41 27 g0, fr.2.2.2.2.1 41 28 g1, fr.2.2.2.2.1 41 39 g2]
  exact bi
/-- .. where only cells that nothing is said of have changed -/
abbrev mFree : List Int := [42, 44, 45, 48, 49, 50, 51, 52, 53, 54, 55, 56, 57, 58, 59, 60, 61, 62, 63, 65, 66, 67, 68, 69, 70, 71, 72]
abbrev mFrG : List (Int × Nat) := [(41, 0), (41, 1), (41, 7), (41, 36), (41, 37), (41, 40), (41, 41)]
theorem MI.fr {h h' : mH} (mi : MI h) (fr : Fr mFree mFrG h h') : MI h' := ⟨mi.1.fr fr (by decide) (by decide) (by decide) (by decide) (by decide), mi.2.1.fr fr (by decide), mi.2.2.1.fr fr (by decide) (by decide), mi.2.2.2.fr fr (by decide) (by decide) (by decide)⟩
theorem Fr.mM {h h' : mH} (fr : Fr mFree mFrG h h') : Fr mAr mGf h h' := fr.mono (by decide) (by decide)
theorem Sh.m {h h' : mH} (sh : Sh h) (fr : Fr mAr mGf h h') : Sh h' := sh.fr fr (by decide +kernel) (by decide)
theorem Sh.m0 {h : mH} (sh : Sh h) : Sh (sF (sF h 41 1 0) 41 0 0) := sh.m ((Fr.f (by decide)).tr (Fr.f (by decide)))
theorem Sh.m1 {h : mH} (sh : Sh h) : Sh (sF h 41 1 0) := sh.m (Fr.f (by decide))
/-! ===== what both sides share: the sheets, as functions; how a call changes them ===== -/
abbrev mAn : List Int := [50, 51, 52, 53, 54, 55, 56, 57, 58, 59, 60, 61, 62, 63, 64, 65, 66, 67, 68, 69, 70, 71, 72]
abbrev mGn : List (Int × Nat) := [(41, 0), (41, 1), (41, 27), (41, 28), (41, 30), (41, 36), (41, 37), (41, 39), (41, 40), (41, 41)]
abbrev mAe : List Int := [50, 51, 52, 53, 54, 55, 56, 57, 58, 59, 60, 61, 62, 64, 65, 66, 67, 68, 69, 70, 71, 72]
abbrev mGe : List (Int × Nat) := [(41, 0), (41, 1), (41, 27), (41, 30), (41, 36), (41, 37), (41, 39), (41, 40), (41, 41)]
abbrev mAl : List Int := [50, 51, 52, 53, 54, 55, 56, 57, 58, 59, 63, 64, 65, 66, 67, 68, 69, 70, 71, 72]
abbrev mGl : List (Int × Nat) := [(41, 0), (41, 1), (41, 28), (41, 30), (41, 36), (41, 37), (41, 39), (41, 40), (41, 41)]
abbrev mAq : List Int := [50, 51, 52, 53, 54, 55, 56, 57, 58, 59, 64, 65, 66, 67, 68, 69, 70, 71, 72]
abbrev mGq : List (Int × Nat) := [(41, 0), (41, 1), (41, 30), (41, 36), (41, 37), (41, 39), (41, 40), (41, 41)]
abbrev mAs : List Int := [42, 43, 44, 45, 46, 47, 48, 49, 50, 51, 52, 53, 54, 55, 56, 57, 58, 59, 64, 65, 66, 67, 68, 69, 70, 71, 72]
abbrev mGs : List (Int × Nat) := [(41, 0), (41, 1), (41, 5), (41, 6), (41, 7), (41, 8), (41, 30), (41, 36), (41, 37), (41, 39), (41, 40), (41, 41)]
abbrev mAk : List Int := [45, 46, 47, 48, 49, 50, 51, 52, 53, 54, 55, 56, 57, 58, 59, 60, 61, 62, 63, 64, 65, 66, 67, 68, 69, 70, 71, 72]
abbrev mGk : List (Int × Nat) := [(41, 0), (41, 1), (41, 7), (41, 8), (41, 27), (41, 28), (41, 30), (41, 36), (41, 37), (41, 39), (41, 40), (41, 41)]
abbrev sS : Type := (Int → Int) × (Int → Int) × (Int → Int → Int)
def cTb (h : mH) : sS := (fun i => hF h (33 + 2 * i) 0, fun i => hF h (33 + 2 * i) 1, fun i k => hA h (34 + 2 * i) k)
def mTb (h : mH) : sS := (fun i => hA h 42 i, fun i => hA h 43 i, fun i k => hA h 44 (100 * i + k))
/-- a long cut to a sheet's sort -/
def cutS (so v : Int) : Int := if so = 0 then (w32 v).bmod 256 else if so = 1 then (w32 v).bmod 65536 else if so = 2 then w32 v else v
/-- the sheets stay -/
def SS (a b : sS) : Prop := ∀ i, 0 ≤ i → i < 4 → b.1 i = a.1 i ∧ b.2.1 i = a.2.1 i ∧ ∀ k, 0 ≤ k → k < 100 → b.2.2 i k = a.2.2 i k
/-- a sheet is made -/
def SEe (s so mn : Int) (a b : sS) : Prop := ∀ i, 0 ≤ i → i < 4 → (i = s → b.1 i = so ∧ b.2.1 i = mn ∧ ∀ k, 0 ≤ k → k < mn → b.2.2 i k = 0) ∧ (i ≠ s → b.1 i = a.1 i ∧ b.2.1 i = a.2.1 i ∧ ∀ k, 0 ≤ k → k < 100 → b.2.2 i k = a.2.2 i k)
/-- a number is written -/
def WEe (s p v : Int) (a b : sS) : Prop := ∀ i, 0 ≤ i → i < 4 → b.1 i = a.1 i ∧ b.2.1 i = a.2.1 i ∧ ∀ k, 0 ≤ k → k < 100 → b.2.2 i k = if i = s ∧ k = p then cutS (a.1 s) v else a.2.2 i k
/-- numbers are poured -/
def PEe (s i0 t9 j mn : Int) (a b : sS) : Prop := ∀ i, 0 ≤ i → i < 4 → b.1 i = a.1 i ∧ b.2.1 i = a.2.1 i ∧ ∀ k, 0 ≤ k → k < 100 → b.2.2 i k = if i = t9 ∧ j ≤ k ∧ k < j + mn then a.2.2 s (i0 + (k - j)) else a.2.2 i k
/-- the two sides' sheets are alike -/
def TS (a b : sS) : Prop := ∀ i, 0 ≤ i → i < 4 → a.1 i = b.1 i ∧ a.2.1 i = b.2.1 i ∧ (-1 ≤ a.2.1 i ∧ a.2.1 i ≤ 100) ∧ ∀ k, 0 ≤ k → k < a.2.1 i → a.2.2 i k = b.2.2 i k
theorem SS.rf {a : sS} : SS a a := fun _ _ _ => ⟨rfl, rfl, fun _ _ _ => rfl⟩
theorem TS.ss {a b a' b' : sS} (ts : TS a b) (sa : SS a a') (sb : SS b b') : TS a' b' := by
  intro i i0 i1
  obtain ⟨x1, x2, x3, x5⟩ := ts i i0 i1
  obtain ⟨y1, y2, y3⟩ := sa i i0 i1
  obtain ⟨z1, z2, z3⟩ := sb i i0 i1
  refine ⟨by rw [y1, z1]; exact x1, by rw [y2, z2]; exact x2, by rw [y2]; exact x3, fun k k0 k1 => ?_⟩
  rw [y2] at k1
  rw [y3 k k0 (by omega), z3 k k0 (by omega)]
  exact x5 k k0 k1
theorem TS.sheet {a b a' b' : sS} {s so mn : Int} (n0 : 0 ≤ mn ∧ mn ≤ 100) (ts : TS a b) (sa : SEe s so mn a a') (sb : SEe s so mn b b') : TS a' b' := by
  intro i i0 i1
  obtain ⟨x1, x2, x3, x5⟩ := ts i i0 i1
  by_cases e : i = s
  · obtain ⟨y1, y2, y3⟩ := (sa i i0 i1).1 e
    obtain ⟨z1, z2, z3⟩ := (sb i i0 i1).1 e
    refine ⟨by rw [y1, z1], by rw [y2, z2], by rw [y2]; omega, fun k k0 k1 => ?_⟩
    rw [y2] at k1
    rw [y3 k k0 k1, z3 k k0 k1]
  · obtain ⟨y1, y2, y3⟩ := (sa i i0 i1).2 e
    obtain ⟨z1, z2, z3⟩ := (sb i i0 i1).2 e
    refine ⟨by rw [y1, z1]; exact x1, by rw [y2, z2]; exact x2, by rw [y2]; exact x3, fun k k0 k1 => ?_⟩
    rw [y2] at k1
    rw [y3 k k0 (by omega), z3 k k0 (by omega)]
    exact x5 k k0 k1
theorem TS.write {a b a' b' : sS} {s p v : Int} (s0 : 0 ≤ s ∧ s < 4) (ts : TS a b) (sa : WEe s p v a a') (sb : WEe s p v b b') : TS a' b' := by
  intro i i0 i1
  obtain ⟨x1, x2, x3, x5⟩ := ts i i0 i1
  obtain ⟨y1, y2, y3⟩ := sa i i0 i1
  obtain ⟨z1, z2, z3⟩ := sb i i0 i1
  refine ⟨by rw [y1, z1]; exact x1, by rw [y2, z2]; exact x2, by rw [y2]; exact x3, fun k k0 k1 => ?_⟩
  rw [y2] at k1
  rw [y3 k k0 (by omega), z3 k k0 (by omega)]
  by_cases e : i = s ∧ k = p
  · rw [if_pos e, if_pos e, (ts s s0.1 s0.2).1]
  · rw [if_neg e, if_neg e]
    exact x5 k k0 k1
theorem TS.pour {a b a' b' : sS} {s i0 t9 j mn : Int} (s0 : 0 ≤ s ∧ s < 4) (hb : 0 ≤ i0 ∧ i0 + mn ≤ a.2.1 s) (ts : TS a b) (sa : PEe s i0 t9 j mn a a') (sb : PEe s i0 t9 j mn b b') : TS a' b' := by
  intro q q0 q1
  obtain ⟨x1, x2, x3, x5⟩ := ts q q0 q1
  obtain ⟨y1, y2, y3⟩ := sa q q0 q1
  obtain ⟨z1, z2, z3⟩ := sb q q0 q1
  refine ⟨by rw [y1, z1]; exact x1, by rw [y2, z2]; exact x2, by rw [y2]; exact x3, fun k k0 k1 => ?_⟩
  rw [y2] at k1
  rw [y3 k k0 (by omega), z3 k k0 (by omega)]
  by_cases e : q = t9 ∧ j ≤ k ∧ k < j + mn
  · rw [if_pos e, if_pos e]
    exact (ts s s0.1 s0.2).2.2.2 _ (by omega) (by omega)
  · rw [if_neg e, if_neg e]
    exact x5 k k0 k1
/-- a row while numbers are poured in it, from A on to B on, from its end if up is not 0 -/
def PIe (f g : Int → Int) (A B mn up k : Int) : Prop := ∀ x, (((up ≠ 0 ∧ B + mn - k ≤ x ∧ x < B + mn) ∨ (up = 0 ∧ B ≤ x ∧ x < B + k)) → g x = f (x - B + A)) ∧ (¬ ((up ≠ 0 ∧ B + mn - k ≤ x ∧ x < B + mn) ∨ (up = 0 ∧ B ≤ x ∧ x < B + k)) → g x = f x)
theorem PIe.rf {f : Int → Int} {A B mn up : Int} : PIe f f A B mn up 0 := fun x => ⟨fun z => by omega, fun _ => rfl⟩
theorem PIe.step {f g : Int → Int} {s i t9 j mn up k a b : Int} (p : PIe f g (100 * s + i) (100 * t9 + j) mn up k) (hu : (up ≠ 0 ∧ i < j) ∨ (up = 0 ∧ j ≤ i)) (hb : (0 ≤ s ∧ s < 4) ∧ (0 ≤ t9 ∧ t9 < 4) ∧ 0 ≤ i ∧ 0 ≤ j ∧ i + mn ≤ 100 ∧ j + mn ≤ 100) (k0 : 0 ≤ k ∧ k < mn) (hn : (up ≠ 0 ∧ b = 100 * t9 + j + (mn - 1 - k) ∧ a = 100 * s + i + (mn - 1 - k)) ∨ (up = 0 ∧ b = 100 * t9 + j + k ∧ a = 100 * s + i + k)) : PIe f (u1 g b (g a)) (100 * s + i) (100 * t9 + j) mn up (k + 1) := by
  have ha : g a = f a := by
    refine (p a).2 ?_
    rcases Int.lt_trichotomy s t9 with z | z | z <;> omega
  intro x
  by_cases e : x = b
  · rw [e, u1_s, ha]
    refine ⟨fun _ => congrArg f (by omega), fun z => absurd (by omega) z⟩
  · rw [u1_n _ _ e]
    exact ⟨fun z => (p x).1 (by omega), fun z => (p x).2 (by omega)⟩
theorem PEe_m {h t : mH} {s i t9 j mn up : Int} (hb : (0 ≤ s ∧ s < 4) ∧ (0 ≤ t9 ∧ t9 < 4) ∧ 0 ≤ i ∧ 0 ≤ j ∧ i + mn ≤ 100 ∧ j + mn ≤ 100) (e42 : hA t 42 = hA h 42) (e43 : hA t 43 = hA h 43) (iv : PIe (hA h 44) (hA t 44) (100 * s + i) (100 * t9 + j) mn up mn) : PEe s i t9 j mn (mTb h) (mTb t) := by
  intro q q0 q1
  refine ⟨congrFun e42 q, congrFun e43 q, fun k k0 k1 => ?_⟩
  show hA t 44 (100 * q + k) = if q = t9 ∧ j ≤ k ∧ k < j + mn then hA h 44 (100 * s + (i + (k - j))) else hA h 44 (100 * q + k)
  have hx := iv (100 * q + k)
  by_cases e : q = t9 ∧ j ≤ k ∧ k < j + mn
  · rw [if_pos e, hx.1 (by omega)]
    exact congrArg (hA h 44) (by omega)
  · rw [if_neg e, hx.2 (by omega)]
theorem SEe_m {h t : mH} {s so mn : Int} (n1 : mn ≤ 100) (e42 : hA t 42 = u1 (hA h 42) s so) (e43 : hA t 43 = u1 (hA h 43) s mn) (iv : ∀ x, (100 * s ≤ x ∧ x < 100 * s + mn → hA t 44 x = 0) ∧ (¬ (100 * s ≤ x ∧ x < 100 * s + mn) → hA t 44 x = hA h 44 x)) : SEe s so mn (mTb h) (mTb t) := by
  intro i i0 i1
  refine ⟨fun e => ?_, fun e => ?_⟩
  · refine ⟨?_, ?_, fun k k0 k1 => ?_⟩
    · show hA t 42 i = so
      rw [e42, e, u1_s]
    · show hA t 43 i = mn
      rw [e43, e, u1_s]
    · show hA t 44 (100 * i + k) = 0
      exact (iv _).1 (by omega)
  · refine ⟨?_, ?_, fun k k0 k1 => ?_⟩
    · show hA t 42 i = hA h 42 i
      rw [e42, u1_n _ _ e]
    · show hA t 43 i = hA h 43 i
      rw [e43, u1_n _ _ e]
    · show hA t 44 (100 * i + k) = hA h 44 (100 * i + k)
      exact (iv _).2 (by omega)
theorem WEe_m {h : mH} {s p v st : Int} (p0 : 0 ≤ p ∧ p < 100) : WEe s p v (mTb h) (mTb (sE (sF (sF h 41 1 0) 41 0 st) 44 (100 * s + p) (cutS (hA h 42 s) v))) := by
  intro i i0 i1
  refine ⟨rfl, rfl, fun k k0 k1 => ?_⟩
  show u1 (hA h 44) (100 * s + p) (cutS (hA h 42 s) v) (100 * i + k) = if i = s ∧ k = p then cutS (hA h 42 s) v else hA h 44 (100 * i + k)
  by_cases e : i = s ∧ k = p
  · rw [if_pos e, e.1, e.2, u1_s]
  · rw [if_neg e, u1_n _ _ (by omega)]
theorem SEe_c {h : mH} {s so mn : Int} (s0 : 0 ≤ s ∧ s < 4) (n1 : mn ≤ 100) : SEe s so mn (cTb h) (cTb (sF (sA (sF (sF h (33 + 2 * s) 0 so) (33 + 2 * s) 1 mn) (34 + 2 * s) (flF (hA h (34 + 2 * s)) 100 0)) 0 0 0)) := by
  intro i i0 i1
  refine ⟨fun e => ?_, fun e => ?_⟩
  · refine ⟨?_, ?_, fun k k0 k1 => ?_⟩
    · show (if 0 = 0 ∧ (33 + 2 * i : Int) = 0 then (0 : Int) else if 0 = 1 ∧ (33 + 2 * i : Int) = 33 + 2 * s then mn else if 0 = 0 ∧ (33 + 2 * i : Int) = 33 + 2 * s then so else hF h (33 + 2 * i) 0) = so
      rw [if_neg (by omega), if_neg (by omega), if_pos (by omega)]
    · show (if 1 = 0 ∧ (33 + 2 * i : Int) = 0 then (0 : Int) else if 1 = 1 ∧ (33 + 2 * i : Int) = 33 + 2 * s then mn else if 1 = 0 ∧ (33 + 2 * i : Int) = 33 + 2 * s then so else hF h (33 + 2 * i) 1) = mn
      rw [if_neg (by omega), if_pos (by omega)]
    · show u1 (hA h) (34 + 2 * s) (flF (hA h (34 + 2 * s)) 100 0) (34 + 2 * i) k = 0
      rw [e, u1_s]
      unfold flF
      rw [if_pos (by omega)]
  · refine ⟨?_, ?_, fun k k0 k1 => ?_⟩
    · show (if 0 = 0 ∧ (33 + 2 * i : Int) = 0 then (0 : Int) else if 0 = 1 ∧ (33 + 2 * i : Int) = 33 + 2 * s then mn else if 0 = 0 ∧ (33 + 2 * i : Int) = 33 + 2 * s then so else hF h (33 + 2 * i) 0) = hF h (33 + 2 * i) 0
      rw [if_neg (by omega), if_neg (by omega), if_neg (by omega)]
    · show (if 1 = 0 ∧ (33 + 2 * i : Int) = 0 then (0 : Int) else if 1 = 1 ∧ (33 + 2 * i : Int) = 33 + 2 * s then mn else if 1 = 0 ∧ (33 + 2 * i : Int) = 33 + 2 * s then so else hF h (33 + 2 * i) 1) = hF h (33 + 2 * i) 1
      rw [if_neg (by omega), if_neg (by omega), if_neg (by omega)]
    · show u1 (hA h) (34 + 2 * s) (flF (hA h (34 + 2 * s)) 100 0) (34 + 2 * i) k = hA h (34 + 2 * i) k
      rw [u1_n _ _ (by omega)]
theorem WEe_c {h : mH} {s p v : Int} : WEe s p v (cTb h) (cTb (sF (sE h (34 + 2 * s) p (cutS (hF h (33 + 2 * s) 0) v)) 0 0 0)) := by
  intro i i0 i1
  refine ⟨?_, ?_, fun k k0 k1 => ?_⟩
  · show (if 0 = 0 ∧ (33 + 2 * i : Int) = 0 then (0 : Int) else hF h (33 + 2 * i) 0) = hF h (33 + 2 * i) 0
    rw [if_neg (by omega)]
  · show (if 1 = 0 ∧ (33 + 2 * i : Int) = 0 then (0 : Int) else hF h (33 + 2 * i) 1) = hF h (33 + 2 * i) 1
    rw [if_neg (by omega)]
  · show u1 (hA h) (34 + 2 * s) (u1 (hA h (34 + 2 * s)) p (cutS (hF h (33 + 2 * s) 0) v)) (34 + 2 * i) k = if i = s ∧ k = p then cutS (hF h (33 + 2 * s) 0) v else hA h (34 + 2 * i) k
    by_cases e : i = s
    · rw [e, u1_s]
      by_cases e2 : k = p
      · rw [e2, u1_s, if_pos ⟨rfl, rfl⟩]
      · rw [u1_n _ _ e2, if_neg (fun z => e2 z.2)]
    · rw [u1_n _ _ (by omega), if_neg (fun z => e z.1)]
theorem PEe_c {h : mH} {s i0 t9 j mn : Int} : PEe s i0 t9 j mn (cTb h) (cTb (sF (sA h (34 + 2 * t9) (cpF (hA h (34 + 2 * s)) (hA h (34 + 2 * t9)) i0 j mn)) 0 0 0)) := by
  intro i _ _
  refine ⟨?_, ?_, fun k k0 k1 => ?_⟩
  · show (if 0 = 0 ∧ (33 + 2 * i : Int) = 0 then (0 : Int) else hF h (33 + 2 * i) 0) = hF h (33 + 2 * i) 0
    rw [if_neg (by omega)]
  · show (if 1 = 0 ∧ (33 + 2 * i : Int) = 0 then (0 : Int) else hF h (33 + 2 * i) 1) = hF h (33 + 2 * i) 1
    rw [if_neg (by omega)]
  · show u1 (hA h) (34 + 2 * t9) (cpF (hA h (34 + 2 * s)) (hA h (34 + 2 * t9)) i0 j mn) (34 + 2 * i) k = if i = t9 ∧ j ≤ k ∧ k < j + mn then hA h (34 + 2 * s) (i0 + (k - j)) else hA h (34 + 2 * i) k
    by_cases e : i = t9
    · rw [e, u1_s]
      unfold cpF
      by_cases e2 : j ≤ k ∧ k < j + mn
      · rw [if_pos e2, if_pos ⟨rfl, e2⟩]
      · rw [if_neg e2, if_neg (fun z => e2 z.2)]
    · rw [u1_n _ _ (by omega), if_neg (fun z => e z.1)]
theorem ct_mstatus (d : Nat) (h : mH) (hk : hK h 41 = 6) : Ct m_X6_status d [(2, 41)] h (some (0, hF h 41 0)) (sF h 41 1 0) := by
  refine Ct.of ?_
  show Wp m_X6_status (d) 0 [(2, 41)] [] h _
  refine Wp.ald_n (j := 0) rfl dX6_status_0 ?_
  refine Wp.iconst dX6_status_1 (by decide) ?_
  refine Wp.putf (k := 1) (tg := 0) kC6 (by decide) rfl rfl lf_X6_117 dX6_status_2 hk ?_
  refine Wp.ald_n (j := 0) rfl dX6_status_5 ?_
  refine Wp.getf (k := 0) (tg := 0) kC6 (by decide) rfl lf_X6_120 dX6_status_6 hk (show hF _ 41 0 = hF h 41 0 from rfl) ?_
  refine Wp.iret rfl dX6_status_9 ?_
  exact ⟨rfl, rfl⟩

theorem ct_mrefuse (d : Nat) (h : mH) (hk : hK h 41 = 6) (f : Int) : Ct m_X6_refuse d [(2, 41), (0, f)] h (some (0, -1)) (sF h 41 0 f) := by
  refine Ct.of ?_
  show Wp m_X6_refuse (d) 0 [(2, 41), (0, f)] [] h _
  refine Wp.ald_n (j := 0) rfl dX6_refuse_0 ?_
  refine Wp.ild_n (j := 1) rfl dX6_refuse_1 ?_
  refine Wp.putf (k := 0) (tg := 0) kC6 (by decide) rfl rfl lf_X6_120 dX6_refuse_2 hk ?_
  refine Wp.iconst dX6_refuse_5 (by decide) ?_
  refine Wp.iret rfl dX6_refuse_6 ?_
  exact ⟨rfl, rfl⟩

theorem ct_mno (d : Nat) (h : mH) (hk : hK h 41 = 6) (f : Int) : Ct m_X6_no d [(2, 41), (0, f)] h (some (0, 0)) (sF h 41 0 f) := by
  refine Ct.of ?_
  show Wp m_X6_no (d) 0 [(2, 41), (0, f)] [] h _
  refine Wp.ald_n (j := 0) rfl dX6_no_0 ?_
  refine Wp.ild_n (j := 1) rfl dX6_no_1 ?_
  refine Wp.putf (k := 0) (tg := 0) kC6 (by decide) rfl rfl lf_X6_120 dX6_no_2 hk ?_
  refine Wp.iconst dX6_no_5 (by decide) ?_
  refine Wp.zret rfl dX6_no_6 (by omega) ?_
  exact ⟨rfl, rfl⟩

theorem cq_mcut (d : Nat) (h : mH) (s v : Int) : Cq m_X6_cut d [(0, s), (1, v)] h (fun r t => r = some (1, cutS s v) ∧ t = h) := by
  refine Cq.of ?_
  show Wp m_X6_cut (d) 0 [(0, s), (1, v), (9, 0)] [] h _
  refine Wp.ild_n (j := 0) rfl dX6_cut_0 ?_
  refine Wp.ifne dX6_cut_1 (by decide) (tgt := 11) (fun c1 => ?_) (fun c1 => ?_)
  · refine Wp.ild_n (j := 0) rfl dX6_cut_11 ?_
    refine Wp.iconst dX6_cut_12 (by decide) ?_
    refine Wp.icne dX6_cut_13 (by decide) (tgt := 23) (fun c13 => ?_) (fun c13 => ?_)
    · refine Wp.ild_n (j := 0) rfl dX6_cut_23 ?_
      refine Wp.iconst dX6_cut_24 (by decide) ?_
      refine Wp.icne dX6_cut_25 (by decide) (tgt := 34) (fun c25 => ?_) (fun c25 => ?_)
      · refine Wp.lld_n (j := 1) rfl dX6_cut_34 ?_
        refine Wp.lret rfl dX6_cut_35 ?_
        refine ⟨?_, rfl⟩
        unfold cutS
        first | rw [if_pos (by omega)] | rw [if_neg (by omega), if_pos (by omega)] | rw [if_neg (by omega), if_neg (by omega), if_pos (by omega)] | rw [if_neg (by omega), if_neg (by omega), if_neg (by omega)]
      · refine Wp.lld_n (j := 1) rfl dX6_cut_28 ?_
        refine Wp.l2iE dX6_cut_29 rfl ?_
        refine Wp.i2l dX6_cut_30 ?_
        refine Wp.goto (tgt := 35) dX6_cut_31 (by decide) ?_
        refine Wp.lret rfl dX6_cut_35 ?_
        refine ⟨?_, rfl⟩
        unfold cutS
        first | rw [if_pos (by omega)] | rw [if_neg (by omega), if_pos (by omega)] | rw [if_neg (by omega), if_neg (by omega), if_pos (by omega)] | rw [if_neg (by omega), if_neg (by omega), if_neg (by omega)]
    · refine Wp.lld_n (j := 1) rfl dX6_cut_16 ?_
      refine Wp.l2iE dX6_cut_17 rfl ?_
      refine Wp.i2s dX6_cut_18 ?_
      refine Wp.i2l dX6_cut_19 ?_
      refine Wp.goto (tgt := 35) dX6_cut_20 (by decide) ?_
      refine Wp.lret rfl dX6_cut_35 ?_
      refine ⟨?_, rfl⟩
      unfold cutS
      first | rw [if_pos (by omega)] | rw [if_neg (by omega), if_pos (by omega)] | rw [if_neg (by omega), if_neg (by omega), if_pos (by omega)] | rw [if_neg (by omega), if_neg (by omega), if_neg (by omega)]
  · refine Wp.lld_n (j := 1) rfl dX6_cut_4 ?_
    refine Wp.l2iE dX6_cut_5 rfl ?_
    refine Wp.i2b dX6_cut_6 ?_
    refine Wp.i2l dX6_cut_7 ?_
    refine Wp.goto (tgt := 35) dX6_cut_8 (by decide) ?_
    refine Wp.lret rfl dX6_cut_35 ?_
    refine ⟨?_, rfl⟩
    unfold cutS
    first | rw [if_pos (by omega)] | rw [if_neg (by omega), if_pos (by omega)] | rw [if_neg (by omega), if_neg (by omega), if_pos (by omega)] | rw [if_neg (by omega), if_neg (by omega), if_neg (by omega)]

theorem cq_sheeted (d : Nat) (h : mH) (sh : Sh h) (s : Int) : Cq m_X6_sheeted d [(2, 41), (0, s)] h (fun r t => (∃ y, r = some (0, y) ∧ 0 ≤ y ∧ (y ≤ 0 ↔ (0 ≤ s ∧ s < 4) ∧ 0 ≤ hA h 43 s)) ∧ t = h) := by
  refine Cq.of ?_
  show Wp m_X6_sheeted (d) 0 [(2, 41), (0, s)] [] h _
  refine Wp.ild_n (j := 1) rfl dX6_sheeted_0 ?_
  refine Wp.iflt dX6_sheeted_1 (by decide) (tgt := 9) (fun c1 => ?_) (fun c1 => ?_)
  · refine Wp.iconst dX6_sheeted_9 (by decide) ?_
    refine Wp.goto (tgt := 27) dX6_sheeted_10 (by decide) ?_
    refine Wp.iret rfl dX6_sheeted_27 ?_
    exact ⟨⟨_, rfl, by omega, fun z => by omega, fun z => by omega⟩, rfl⟩
  · refine Wp.ild_n (j := 1) rfl dX6_sheeted_4 ?_
    refine Wp.iconst dX6_sheeted_5 (by decide) ?_
    refine Wp.iclt dX6_sheeted_6 (by decide) (tgt := 13) (fun c6 => ?_) (fun c6 => ?_)
    · refine Wp.ald_n (j := 0) rfl dX6_sheeted_13 ?_
      refine Wp.getf (k := 3) (tg := 2) kC6 (by decide) rfl lf_X6_15 dX6_sheeted_14 (sK41 (h := h) sh) (sF41_3 (h := h) sh) ?_
      refine Wp.ild_n (j := 1) rfl dX6_sheeted_17 ?_
      refine Wp.iaload dX6_sheeted_18 (sK43 (h := h) sh) (by omega) (ilt (sL43 (h := h) sh) (by omega)) (show hA _ 43 _ = hA h 43 _ from rfl) ?_
      refine Wp.ifge dX6_sheeted_19 (by decide) (tgt := 26) (fun c19 => ?_) (fun c19 => ?_)
      · refine Wp.iconst dX6_sheeted_26 (by decide) ?_
        refine Wp.iret rfl dX6_sheeted_27 ?_
        exact ⟨⟨_, rfl, by omega, fun z => by omega, fun z => by omega⟩, rfl⟩
      · refine Wp.iconst dX6_sheeted_22 (by decide) ?_
        refine Wp.goto (tgt := 27) dX6_sheeted_23 (by decide) ?_
        refine Wp.iret rfl dX6_sheeted_27 ?_
        exact ⟨⟨_, rfl, by omega, fun z => by omega, fun z => by omega⟩, rfl⟩
    · refine Wp.iconst dX6_sheeted_9 (by decide) ?_
      refine Wp.goto (tgt := 27) dX6_sheeted_10 (by decide) ?_
      refine Wp.iret rfl dX6_sheeted_27 ?_
      exact ⟨⟨_, rfl, by omega, fun z => by omega, fun z => by omega⟩, rfl⟩

theorem cq_placed (d : Nat) (h : mH) (sh : Sh h) (s p : Int) : Cq m_X6_placed (d + 1) [(2, 41), (0, s), (0, p)] h (fun r t => (∃ y, r = some (0, y) ∧ 0 ≤ y ∧ (y ≤ 0 ↔ (0 ≤ s ∧ s < 4) ∧ 0 ≤ p ∧ p < hA h 43 s)) ∧ t = h) := by
  refine Cq.of ?_
  show Wp m_X6_placed ((d + 1)) 0 [(2, 41), (0, s), (0, p), (9, 0)] [] h _
  refine Wp.ald_n (j := 0) rfl dX6_placed_0 ?_
  refine Wp.ild_n (j := 1) rfl dX6_placed_1 ?_
  obtain ⟨_, t2, ct2, ⟨y2, rfl, hy2, hz2⟩, e2⟩ := cq_sheeted d h sh s
  rw [e2] at ct2
  refine Wp.callV1 (ct2) wc_X6_127 iM_X6_sheeted se_X6_sheeted kC6 (sK41 (h := h) sh) dX6_placed_2 rfl (Nat.le_of_ble_eq_true rfl) rfl (Nat.le_of_ble_eq_true rfl) ?_
  refine sti_4_3 rfl (dSt_n dX6_placed_5) ?_
  refine Wp.ild_n (j := 3) rfl dX6_placed_6 ?_
  refine Wp.ifle dX6_placed_7 (by decide) (tgt := 14) (fun c7 => ?_) (fun c7 => ?_)
  · refine Wp.ild_n (j := 2) rfl dX6_placed_14 ?_
    refine Wp.iflt dX6_placed_15 (by decide) (tgt := 28) (fun c15 => ?_) (fun c15 => ?_)
    · refine Wp.iconst dX6_placed_28 (by decide) ?_
      refine Wp.goto (tgt := 33) dX6_placed_29 (by decide) ?_
      refine Wp.iret rfl dX6_placed_33 ?_
      exact ⟨⟨_, rfl, by omega, fun z => by omega, fun z => by omega⟩, rfl⟩
    · refine Wp.ild_n (j := 2) rfl dX6_placed_18 ?_
      refine Wp.ald_n (j := 0) rfl dX6_placed_19 ?_
      refine Wp.getf (k := 3) (tg := 2) kC6 (by decide) rfl lf_X6_15 dX6_placed_20 (sK41 (h := h) sh) (sF41_3 (h := h) sh) ?_
      refine Wp.ild_n (j := 1) rfl dX6_placed_23 ?_
      refine Wp.iaload dX6_placed_24 (sK43 (h := h) sh) (by omega) (ilt (sL43 (h := h) sh) (by omega)) (show hA _ 43 _ = hA h 43 _ from rfl) ?_
      refine Wp.iclt dX6_placed_25 (by decide) (tgt := 32) (fun c25 => ?_) (fun c25 => ?_)
      · refine Wp.iconst dX6_placed_32 (by decide) ?_
        refine Wp.iret rfl dX6_placed_33 ?_
        exact ⟨⟨_, rfl, by omega, fun z => by omega, fun z => by omega⟩, rfl⟩
      · refine Wp.iconst dX6_placed_28 (by decide) ?_
        refine Wp.goto (tgt := 33) dX6_placed_29 (by decide) ?_
        refine Wp.iret rfl dX6_placed_33 ?_
        exact ⟨⟨_, rfl, by omega, fun z => by omega, fun z => by omega⟩, rfl⟩
  · refine Wp.ild_n (j := 3) rfl dX6_placed_10 ?_
    refine Wp.goto (tgt := 33) dX6_placed_11 (by decide) ?_
    refine Wp.iret rfl dX6_placed_33 ?_
    exact ⟨⟨_, rfl, by omega, fun z => by omega, fun z => by omega⟩, rfl⟩

theorem ct_isBeater (d : Nat) (h : mH) (hk : hK h 41 = 6) (b : Int) : Ct m_X6_isBeater d [(2, 41), (0, b)] h (some (0, if 0 ≤ b ∧ b < hF h 41 6 then 1 else 0)) h := by
  refine Ct.of ?_
  show Wp m_X6_isBeater (d) 0 [(2, 41), (0, b)] [] h _
  refine Wp.ild_n (j := 1) rfl dX6_isBeater_0 ?_
  refine Wp.iflt dX6_isBeater_1 (by decide) (tgt := 16) (fun c1 => ?_) (fun c1 => ?_)
  · refine Wp.iconst dX6_isBeater_16 (by decide) ?_
    refine Wp.zret rfl dX6_isBeater_17 (by omega) ?_
    refine ⟨?_, rfl⟩
    first | rw [if_pos (by omega)] | rw [if_neg (by omega)]
  · refine Wp.ild_n (j := 1) rfl dX6_isBeater_4 ?_
    refine Wp.ald_n (j := 0) rfl dX6_isBeater_5 ?_
    refine Wp.getf (k := 6) (tg := 0) kC6 (by decide) rfl lf_X6_141 dX6_isBeater_6 hk (show hF _ 41 6 = hF h 41 6 from rfl) ?_
    refine Wp.icge dX6_isBeater_9 (by decide) (tgt := 16) (fun c9 => ?_) (fun c9 => ?_)
    · refine Wp.iconst dX6_isBeater_16 (by decide) ?_
      refine Wp.zret rfl dX6_isBeater_17 (by omega) ?_
      refine ⟨?_, rfl⟩
      first | rw [if_pos (by omega)] | rw [if_neg (by omega)]
    · refine Wp.iconst dX6_isBeater_12 (by decide) ?_
      refine Wp.goto (tgt := 17) dX6_isBeater_13 (by decide) ?_
      refine Wp.zret rfl dX6_isBeater_17 (by omega) ?_
      refine ⟨?_, rfl⟩
      first | rw [if_pos (by omega)] | rw [if_neg (by omega)]

theorem ct_misPhase (d : Nat) (h : mH) (hk : hK h 41 = 6) (b : Int) : Ct m_X6_isPhase d [(2, 41), (1, b)] h (some (0, if 0 ≤ b ∧ b < hF h 41 5 then 1 else 0)) h := by
  refine Ct.of ?_
  show Wp m_X6_isPhase (d) 0 [(2, 41), (1, b), (9, 0)] [] h _
  refine Wp.lld_n (j := 1) rfl dX6_isPhase_0 ?_
  refine Wp.lconst (z := 0) dX6_isPhase_1 (by decide) ?_
  refine Wp.lclt dX6_isPhase_2 dX6_isPhase_3 (by decide) (tgt := 20) (fun c2 => ?_) (fun c2 => ?_)
  · refine Wp.iconst dX6_isPhase_20 (by decide) ?_
    refine Wp.zret rfl dX6_isPhase_21 (by omega) ?_
    refine ⟨?_, rfl⟩
    first | rw [if_pos (by omega)] | rw [if_neg (by omega)]
  · refine Wp.lld_n (j := 1) rfl dX6_isPhase_6 ?_
    refine Wp.ald_n (j := 0) rfl dX6_isPhase_7 ?_
    refine Wp.getf (k := 5) (tg := 0) kC6 (by decide) rfl lf_X6_22 dX6_isPhase_8 hk (show hF _ 41 5 = hF h 41 5 from rfl) ?_
    refine Wp.i2l dX6_isPhase_11 ?_
    refine Wp.lcge dX6_isPhase_12 dX6_isPhase_13 (by decide) (tgt := 20) (fun c12 => ?_) (fun c12 => ?_)
    · refine Wp.iconst dX6_isPhase_20 (by decide) ?_
      refine Wp.zret rfl dX6_isPhase_21 (by omega) ?_
      refine ⟨?_, rfl⟩
      first | rw [if_pos (by omega)] | rw [if_neg (by omega)]
    · refine Wp.iconst dX6_isPhase_16 (by decide) ?_
      refine Wp.goto (tgt := 21) dX6_isPhase_17 (by decide) ?_
      refine Wp.zret rfl dX6_isPhase_21 (by omega) ?_
      refine ⟨?_, rfl⟩
      first | rw [if_pos (by omega)] | rw [if_neg (by omega)]

theorem ct_isIn (d : Nat) (h : mH) (hk : hK h 41 = 6) (i j : Int) : Ct m_X6_isIn d [(2, 41), (0, i), (0, j)] h (some (0, if (0 ≤ i ∧ i < hF h 41 30) ∧ (0 ≤ j ∧ j < hF h 41 30) then 1 else 0)) h := by
  refine Ct.of ?_
  show Wp m_X6_isIn (d) 0 [(2, 41), (0, i), (0, j)] [] h _
  refine Wp.ild_n (j := 1) rfl dX6_isIn_0 ?_
  refine Wp.iflt dX6_isIn_1 (by decide) (tgt := 28) (fun c1 => ?_) (fun c1 => ?_)
  · refine Wp.iconst dX6_isIn_28 (by decide) ?_
    refine Wp.zret rfl dX6_isIn_29 (by omega) ?_
    refine ⟨?_, rfl⟩
    first | rw [if_pos (by omega)] | rw [if_neg (by omega)]
  · refine Wp.ild_n (j := 1) rfl dX6_isIn_4 ?_
    refine Wp.ald_n (j := 0) rfl dX6_isIn_5 ?_
    refine Wp.getf (k := 30) (tg := 0) kC6 (by decide) rfl lf_X6_230 dX6_isIn_6 hk (show hF _ 41 30 = hF h 41 30 from rfl) ?_
    refine Wp.icge dX6_isIn_9 (by decide) (tgt := 28) (fun c9 => ?_) (fun c9 => ?_)
    · refine Wp.iconst dX6_isIn_28 (by decide) ?_
      refine Wp.zret rfl dX6_isIn_29 (by omega) ?_
      refine ⟨?_, rfl⟩
      first | rw [if_pos (by omega)] | rw [if_neg (by omega)]
    · refine Wp.ild_n (j := 2) rfl dX6_isIn_12 ?_
      refine Wp.iflt dX6_isIn_13 (by decide) (tgt := 28) (fun c13 => ?_) (fun c13 => ?_)
      · refine Wp.iconst dX6_isIn_28 (by decide) ?_
        refine Wp.zret rfl dX6_isIn_29 (by omega) ?_
        refine ⟨?_, rfl⟩
        first | rw [if_pos (by omega)] | rw [if_neg (by omega)]
      · refine Wp.ild_n (j := 2) rfl dX6_isIn_16 ?_
        refine Wp.ald_n (j := 0) rfl dX6_isIn_17 ?_
        refine Wp.getf (k := 30) (tg := 0) kC6 (by decide) rfl lf_X6_230 dX6_isIn_18 hk (show hF _ 41 30 = hF h 41 30 from rfl) ?_
        refine Wp.icge dX6_isIn_21 (by decide) (tgt := 28) (fun c21 => ?_) (fun c21 => ?_)
        · refine Wp.iconst dX6_isIn_28 (by decide) ?_
          refine Wp.zret rfl dX6_isIn_29 (by omega) ?_
          refine ⟨?_, rfl⟩
          first | rw [if_pos (by omega)] | rw [if_neg (by omega)]
        · refine Wp.iconst dX6_isIn_24 (by decide) ?_
          refine Wp.goto (tgt := 29) dX6_isIn_25 (by decide) ?_
          refine Wp.zret rfl dX6_isIn_29 (by omega) ?_
          refine ⟨?_, rfl⟩
          first | rw [if_pos (by omega)] | rw [if_neg (by omega)]

theorem mbegin_loop (d : Nat) (h : mH) (sh : Sh h) (n1 : hF h 41 6 ≤ 24) (ra : Int) (kr : hK h ra = 10) (lr : hL h ra = 24) (r46 : ra ≠ 46) (r1 : ra ≠ 1) : ∀ (m : Nat) (k : Int) (h' : mH), (hF h 41 6 - k).toNat < m → (0 ≤ k) → (Fr [ra] [] h h') → (∀ j, 0 ≤ j → j < k → hA h' ra j = hA h 46 j) → Wp m_X6_begin d 2 [(2, 41), (2, ra), (0, k)] [] h' (fun r t => r = none ∧ Fr [ra] [] h t ∧ ∀ j, 0 ≤ j → j < hF h 41 6 → hA t ra j = hA h 46 j) := by
  intro m
  induction m with
  | zero => intro k h' hm; exact absurd hm (Nat.not_lt_zero _)
  | succ m ih =>
    intro k h' hm k0 fr hj
    have sh' := sh.fr fr (by decide +kernel) (by simp; omega)
    have e6 : hF h' 41 6 = hF h 41 6 := fr.2.2.2.2.1 41 6 (by simp)
    have kr' : hK h' ra = 10 := by rw [fr.2.2.1]; exact kr
    have lr' : hL h' ra = 24 := by rw [fr.2.2.2.1]; exact lr
    refine Wp.ild_n (j := 2) rfl dX6_begin_2 ?_
    refine Wp.ald_n (j := 0) rfl dX6_begin_3 ?_
    refine Wp.getf (k := 6) (tg := 0) kC6 (by decide) rfl lf_X6_141 dX6_begin_4 (sK41 (h := h') sh') e6 ?_
    refine Wp.icge dX6_begin_7 (by decide) (tgt := 25) (fun c7 => ?_) (fun c7 => ?_)
    · refine Wp.vret rfl dX6_begin_25 ?_
      exact ⟨rfl, fr, fun j j0 j1 => hj j j0 (by omega)⟩
    · refine Wp.ald_n (j := 1) rfl dX6_begin_10 ?_
      refine Wp.ild_n (j := 2) rfl dX6_begin_11 ?_
      refine Wp.ald_n (j := 0) rfl dX6_begin_12 ?_
      refine Wp.getf (k := 10) (tg := 2) kC6 (by decide) rfl lf_X6_32 dX6_begin_13 (sK41 (h := h') sh') (sF41_10 (h := h') sh') ?_
      refine Wp.ild_n (j := 2) rfl dX6_begin_16 ?_
      refine Wp.iaload dX6_begin_17 (sK46 (h := h') sh') (by omega) (ilt (sL46 (h := h') sh') (by omega)) (show hA _ 46 _ = hA h' 46 _ from rfl) ?_
      refine Wp.iastore dX6_begin_18 kr' (by omega) (ilt lr' (by omega)) ?_
      refine inc_3_2 rfl dX6_begin_19 (by first | exact w32_of (by omega) (by omega) | rfl) ?_
      refine Wp.goto (tgt := 2) dX6_begin_22 (by decide) ?_
      refine ih (k + 1) _ (by omega) (by omega) (fr.tr (Fr.e (by simp))) (fun j j0 j1 => ?_)
      rw [hA_sEs]
      by_cases e : j = k
      · rw [e, u1_s, fr.2.2.2.2.2 46 (by simp; omega)]
      · rw [u1_n _ _ e]
        exact hj j j0 (by omega)

theorem cq_mbegin (d : Nat) (h : mH) (sh : Sh h) (n1 : hF h 41 6 ≤ 24) (ra : Int) (kr : hK h ra = 10) (lr : hL h ra = 24) (r46 : ra ≠ 46) (r1 : ra ≠ 1) : Cq m_X6_begin d [(2, 41), (2, ra)] h (fun r t => r = none ∧ Fr [ra] [] h t ∧ ∀ j, 0 ≤ j → j < hF h 41 6 → hA t ra j = hA h 46 j) := by
  refine Cq.of ?_
  show Wp m_X6_begin (d) 0 [(2, 41), (2, ra), (9, 0)] [] h _
  refine Wp.iconst dX6_begin_0 (by decide) ?_
  refine sti_3_2 rfl (dSt_n dX6_begin_1) ?_
  exact mbegin_loop d h sh n1 ra kr lr r46 r1 _ 0 h (Nat.lt_succ_self _) (by omega) Fr.rf (fun j j0 j1 => absurd j1 (by omega))

theorem misLike_loop (d : Nat) (h : mH) (sh : Sh h) (n1 : hF h 41 6 ≤ 24) (ra : Int) (kr : hK h ra = 10) (lr : hL h ra = 24) (rb : Int) (ks : hK h rb = 10) (ls : hL h rb = 24) : ∀ (m : Nat) (k : Int), (hF h 41 6 - k).toNat < m → (0 ≤ k) → (∀ j, 0 ≤ j → j < k → hA h ra j = hA h rb j) → Wp m_X6_isLike d 2 [(2, 41), (2, ra), (2, rb), (0, k)] [] h (fun r t => (∃ y, r = some (0, y) ∧ ((y = 0 ∧ ∃ j, 0 ≤ j ∧ j < hF h 41 6 ∧ hA h ra j ≠ hA h rb j) ∨ (y = 1 ∧ ∀ j, 0 ≤ j → j < hF h 41 6 → hA h ra j = hA h rb j))) ∧ t = h) := by
  intro m
  induction m with
  | zero => intro k hm; exact absurd hm (Nat.not_lt_zero _)
  | succ m ih =>
    intro k hm k0 hj
    refine Wp.ild_n (j := 3) rfl dX6_isLike_2 ?_
    refine Wp.ald_n (j := 0) rfl dX6_isLike_3 ?_
    refine Wp.getf (k := 6) (tg := 0) kC6 (by decide) rfl lf_X6_141 dX6_isLike_4 (sK41 (h := h) sh) (show hF _ 41 6 = hF h 41 6 from rfl) ?_
    refine Wp.icge dX6_isLike_7 (by decide) (tgt := 27) (fun c7 => ?_) (fun c7 => ?_)
    · refine Wp.iconst dX6_isLike_27 (by decide) ?_
      refine Wp.zret rfl dX6_isLike_28 (by omega) ?_
      exact ⟨⟨_, rfl, Or.inr ⟨rfl, fun j j0 j1 => hj j j0 (by omega)⟩⟩, rfl⟩
    · refine Wp.ald_n (j := 1) rfl dX6_isLike_10 ?_
      refine Wp.ild_n (j := 3) rfl dX6_isLike_11 ?_
      refine Wp.iaload dX6_isLike_12 kr (by omega) (ilt lr (by omega)) (show hA _ ra _ = hA h ra _ from rfl) ?_
      refine Wp.ald_n (j := 2) rfl dX6_isLike_13 ?_
      refine Wp.ild_n (j := 3) rfl dX6_isLike_14 ?_
      refine Wp.iaload dX6_isLike_15 ks (by omega) (ilt ls (by omega)) (show hA _ rb _ = hA h rb _ from rfl) ?_
      refine Wp.iceq dX6_isLike_16 (by decide) (tgt := 21) (fun c16 => ?_) (fun c16 => ?_)
      · refine inc_4_3 rfl dX6_isLike_21 (by first | exact w32_of (by omega) (by omega) | rfl) ?_
        refine Wp.goto (tgt := 2) dX6_isLike_24 (by decide) ?_
        refine ih (k + 1) (by omega) (by omega) (fun j j0 j1 => ?_)
        by_cases e : j = k
        · rw [e]; exact c16
        · exact hj j j0 (by omega)
      · refine Wp.iconst dX6_isLike_19 (by decide) ?_
        refine Wp.zret rfl dX6_isLike_20 (by omega) ?_
        exact ⟨⟨_, rfl, Or.inl ⟨rfl, k, k0, by omega, c16⟩⟩, rfl⟩

theorem cq_misLike (d : Nat) (h : mH) (sh : Sh h) (n1 : hF h 41 6 ≤ 24) (ra : Int) (kr : hK h ra = 10) (lr : hL h ra = 24) (rb : Int) (ks : hK h rb = 10) (ls : hL h rb = 24) : Cq m_X6_isLike d [(2, 41), (2, ra), (2, rb)] h (fun r t => (∃ y, r = some (0, y) ∧ ((y = 0 ∧ ∃ j, 0 ≤ j ∧ j < hF h 41 6 ∧ hA h ra j ≠ hA h rb j) ∨ (y = 1 ∧ ∀ j, 0 ≤ j → j < hF h 41 6 → hA h ra j = hA h rb j))) ∧ t = h) := by
  refine Cq.of ?_
  show Wp m_X6_isLike (d) 0 [(2, 41), (2, ra), (2, rb), (9, 0)] [] h _
  refine Wp.iconst dX6_isLike_0 (by decide) ?_
  refine sti_4_3 rfl (dSt_n dX6_isLike_1) ?_
  exact misLike_loop d h sh n1 ra kr lr rb ks ls _ 0 (Nat.lt_succ_self _) (by omega) (fun j j0 j1 => absurd j1 (by omega))

theorem mpw_pos {r : Int} (hr : 1 ≤ r) : ∀ n : Nat, 1 ≤ r ^ n
  | 0 => by simp
  | n + 1 => by
    have h1 := mpw_pos hr n
    rw [Int.pow_succ]
    have := Int.mul_le_mul h1 hr (by omega) (by omega)
    omega
theorem mpw_mono {r : Int} (hr : 1 ≤ r) {a b : Nat} (h : a ≤ b) : r ^ a ≤ r ^ b := by
  induction b with
  | zero => rw [show a = 0 by omega]; exact Int.le_refl _
  | succ b ih =>
    by_cases e : a = b + 1
    · rw [e]; exact Int.le_refl _
    · have h1 := ih (by omega)
      have h2 := mpw_pos hr b
      rw [Int.pow_succ]
      have := Int.mul_le_mul_of_nonneg_left hr (by omega : 0 ≤ r ^ b)
      omega
