/-! ===== both ticks are one ===== -/
/-- class and reference tell one bench -/
def CM (c m : mCf) : Prop := c.1 = m.1 ∧ c.2.2.2 = m.2.2.2 ∧ (∀ k, 0 ≤ k → k < c.1.1 → c.2.1 k = m.2.1 k) ∧ ∀ a b, 0 ≤ a → a < c.1.1 → 0 ≤ b → b < c.1.1 → (bt (c.2.2.1 a) b ↔ m.2.2.1 (24 * a + b) ≠ 0)
theorem tmd_small {r v : Int} (h1 : -r < v) (h2 : v < r) : v.tmod r = v := by
  by_cases z : 0 ≤ v
  · exact Int.tmod_eq_of_lt z h2
  · have e := Int.neg_tmod (-v) r
    rw [Int.neg_neg, Int.tmod_eq_of_lt (a := -v) (by omega) (by omega)] at e
    omega
theorem tmd_up {r v : Int} (h1 : r ≤ v) (h2 : v < 2 * r) : v.tmod r = v - r := by
  rw [Int.tmod_eq_emod_of_nonneg (by omega)]
  exact ((Int.ediv_emod_unique (q := 1) (r := v - r) (a := v) (b := r) (by omega)).mpr ⟨by omega, by omega, by omega⟩).2
theorem ahd_mpd {r x : Int} (h1 : -r < x) (h2 : x < r) : ahd r x = mpd r x := by
  unfold ahd mpd
  by_cases z : 0 ≤ x
  · rw [tmd_up (r := r) (v := x + r) (by omega) (by omega), show x + r - r = x by omega]
    split
    · rw [if_neg (by omega)]
    · rw [if_neg (by omega), if_pos (by omega)]
  · rw [tmd_small (r := r) (v := x + r) (by omega) (by omega), if_neg (by omega)]
    split
    · rw [if_pos (by omega)]
    · rw [if_neg (by omega)]
      omega
theorem wrp_tm {r v : Int} (h1 : -r < v) (h2 : v < 2 * r) : wrpC r v = (v.tmod r + r).tmod r := by
  unfold wrpC
  by_cases z : r ≤ v
  · rw [if_pos z, tmd_up z h2, show v - r + r = v by omega, tmd_up z h2]
  · rw [if_neg z, tmd_small (r := r) (v := v) h1 (by omega)]
    by_cases y : v < 0
    · rw [if_pos y, tmd_small (r := r) (v := v + r) (by omega) (by omega)]
    · rw [if_neg y, tmd_up (r := r) (v := v + r) (by omega) (by omega)]
      omega
theorem mpl_plS {c m : mCf} (cm : CM c m) (n1 : c.1.1 ≤ 24) {f : Int → Int} (hf : ∀ j, 0 ≤ j → j < c.1.1 → 0 ≤ f j ∧ f j < c.1.2.1) {a : Int} (a0 : 0 ≤ a) (a1 : a < c.1.1) : ∀ k : Nat, (k : Int) ≤ c.1.1 → plS f c.1.2.1 (f a) (kand (c.2.2.1 a) (kxor (kshl 1 a) (-1))) k = ((mpl m.2.2.1 c.1.2.1 f a k).1, (mpl m.2.2.1 c.1.2.1 f a k).2 + 1)
  | 0, _ => rfl
  | k + 1, hk => by
    have ih := mpl_plS cm n1 hf a0 a1 k (by omega)
    have hb : bt (kand (c.2.2.1 a) (kxor (kshl 1 a) (-1))) (k : Int) ↔ m.2.2.1 (24 * a + k) ≠ 0 ∧ ¬ (k : Int) = a := by
      rw [bt_and (by omega) (by omega), bt_not (by omega) (by omega), bt_one (by omega) (by omega) a0 (by omega), cm.2.2.2 a k a0 a1 (by omega) (by omega)]
    unfold plS mpl
    by_cases z : (k : Int) = a ∨ m.2.2.1 (24 * a + k) = 0
    · rw [if_pos z, if_pos (Classical.byContradiction (fun y => by
        have w := hb.mp y
        exact z.elim w.2 w.1))]
      exact ih
    · have hk1 := hf k (by omega) (by omega)
      have ha1 := hf a a0 a1
      rw [if_neg z, if_neg (show ¬ kand (kshr (kand (c.2.2.1 a) (kxor (kshl 1 a) (-1))) k) 1 = 0 from hb.mpr ⟨fun e => z (Or.inr e), fun e => z (Or.inl e)⟩), ih, ahd_mpd (by omega) (by omega)]
theorem mpl_0 {se f : Int → Int} {r a : Int} : ∀ n : Nat, 0 ≤ (mpl se r f a n).2 ∧ ((mpl se r f a n).2 = 0 → (mpl se r f a n).1 = 0)
  | 0 => ⟨Int.le_refl _, fun _ => rfl⟩
  | n + 1 => by
    have ih := mpl_0 (se := se) (f := f) (r := r) (a := a) n
    unfold mpl
    split
    · exact ih
    · exact ⟨by show 0 ≤ (mpl se r f a n).2 + 1; omega, fun z => absurd z (by show ¬ (mpl se r f a n).2 + 1 = 0; omega)⟩
theorem cg_mg {c m : mCf} (cm : CM c m) (n1 : c.1.1 ≤ 24) (r0 : 2 ≤ c.1.2.1) {f : Int → Int} (hf : ∀ j, 0 ≤ j → j < c.1.1 → 0 ≤ f j ∧ f j < c.1.2.1) {a : Int} (a0 : 0 ≤ a) (a1 : a < c.1.1) : cg9 c f a = mg m f a := by
  have ha := hf a a0 a1
  unfold cg9 mg
  rw [← cm.2.2.1 a a0 a1, ← cm.1]
  by_cases k2 : c.2.1 a = 2
  · rw [if_pos k2, if_neg (by omega), if_pos k2]
  · rw [if_neg k2]
    by_cases k1 : c.2.1 a = 1
    · rw [if_pos k1, if_pos k1]
      have e := mpl_plS cm n1 hf a0 a1 c.1.1.toNat (by omega)
      have z := mpl_0 (se := m.2.2.1) (f := f) (r := c.1.2.1) (a := a) c.1.1.toNat
      have hpb := plS_bd (f := f) (r := c.1.2.1) (m := f a) (s := kand (c.2.2.1 a) (kxor (kshl 1 a) (-1))) ha c.1.1.toNat (fun i i0 i1 => hf i i0 (by omega))
      have hpv := plV_bd (r := c.1.2.1) (by omega) hpb.1 hpb.2.1 hpb.2.2.1
      have ep : pulC c f a = (mpl m.2.2.1 c.1.2.1 f a c.1.1.toNat).1.tdiv ((mpl m.2.2.1 c.1.2.1 f a c.1.1.toNat).2 + 1) := by
        unfold pulC plV
        rw [e]
        by_cases y : (mpl m.2.2.1 c.1.2.1 f a c.1.1.toNat).2 = 0
        · rw [if_neg (by show ¬ 1 < (mpl m.2.2.1 c.1.2.1 f a c.1.1.toNat).2 + 1; omega), z.2 y, Int.zero_tdiv]
        · rw [if_pos (by show 1 < (mpl m.2.2.1 c.1.2.1 f a c.1.1.toNat).2 + 1; omega)]
      have hpv2 : -c.1.2.1 < 2 * pulC c f a ∧ 2 * pulC c f a < c.1.2.1 := hpv
      rw [wrp_tm (by omega) (by omega), ep]
      unfold mpv
      rw [← cm.1]
    · rw [if_neg k1, if_neg k1, if_neg k2]
      unfold wrpC
      by_cases y : c.1.2.1 ≤ f a + 1
      · rw [if_pos y, tmd_up y (by omega)]
      · rw [if_neg y, if_neg (by omega), tmd_small (by omega) (by omega)]
/-- the two lines are alike -/
def RLn (n : Int) (s : cS) (t : mS) : Prop := s.1 = t.1 ∧ s.2.1 = t.2.1 ∧ (∀ j, 0 ≤ j → j < n → s.2.2.1 j = t.2.2.1 j) ∧ (∀ j, 0 ≤ j → j < n → (bt s.2.2.2 j ↔ t.2.2.2 j ≠ 0)) ∧ 0 ≤ s.1 ∧ ∀ i, 0 ≤ i → i < s.1 → 0 ≤ s.2.1 i ∧ s.2.1 i < n
theorem RLn.app {n : Int} {s : cS} {t : mS} (rl : RLn n s t) (n1 : n ≤ 24) {k : Int} (k0 : 0 ≤ k) (k1 : k < n) {f g : Int → Int} (hfg : ∀ j, 0 ≤ j → j < n → f j = g j) : RLn n (s.1 + 1, u1 s.2.1 s.1 k, f, kor s.2.2.2 (kshl 1 k)) (t.1 + 1, u1 t.2.1 t.1 k, g, u1 t.2.2.2 k 1) := by
  obtain ⟨e1, e2, e3, e4, e5, e6⟩ := rl
  refine ⟨by show s.1 + 1 = t.1 + 1; omega, by show u1 s.2.1 s.1 k = u1 t.2.1 t.1 k; rw [e1, e2], hfg, fun j j0 j1 => ?_, by show 0 ≤ s.1 + 1; omega, fun i i0 i1 => ?_⟩
  · show bt (kor s.2.2.2 (kshl 1 k)) j ↔ u1 t.2.2.2 k 1 j ≠ 0
    rw [bt_or j0 (by omega), bt_one j0 (by omega) k0 (by omega)]
    by_cases e : j = k
    · rw [e, u1_s]
      exact ⟨fun _ => by decide, fun _ => Or.inr rfl⟩
    · rw [u1_n _ _ e, e4 j j0 j1]
      exact ⟨fun z => z.elim id (fun y => absurd y e), Or.inl⟩
  · have i1' : i < s.1 + 1 := i1
    show 0 ≤ u1 s.2.1 s.1 k i ∧ u1 s.2.1 s.1 k i < n
    by_cases e : i = s.1
    · rw [e, u1_s]
      exact ⟨k0, k1⟩
    · rw [u1_n _ _ e]
      exact e6 i i0 (by omega)
theorem RLn.l2 {c m : mCf} (cm : CM c m) (n1 : c.1.1 ≤ 24) : ∀ (q : Nat) (k : Int) (s : cS) (t : mS), 0 ≤ k → RLn c.1.1 s t → RLn c.1.1 (cl2 c q k s) (ml2 m q k t)
  | 0, _, _, _, _, rl => rl
  | q + 1, k, s, t, k0, rl => by
    unfold cl2 ml2
    rw [← cm.1]
    by_cases z : k < c.1.1
    · rw [if_pos z, if_pos z]
      refine RLn.l2 cm n1 q (k + 1) _ _ (by omega) ?_
      rw [← cm.2.2.1 k k0 z, ← rl.2.2.1 k k0 z]
      split
      · exact rl.app n1 k0 z rl.2.2.1
      · exact rl
    · rw [if_neg z, if_neg z]
      exact rl
theorem RLn.up {n : Int} {s : cS} {t : mS} (rl : RLn n s t) (k v : Int) : RLn n (s.1, s.2.1, u1 s.2.2.1 k v, s.2.2.2) (t.1, t.2.1, u1 t.2.2.1 k v, t.2.2.2) := by
  refine ⟨rl.1, rl.2.1, fun j j0 j1 => ?_, rl.2.2.2.1, rl.2.2.2.2.1, rl.2.2.2.2.2⟩
  show u1 s.2.2.1 k v j = u1 t.2.2.1 k v j
  by_cases e : j = k
  · rw [e, u1_s, u1_s]
  · rw [u1_n _ _ e, u1_n _ _ e]
    exact rl.2.2.1 j j0 j1
theorem RLn.i1 {c m : mCf} (cm : CM c m) (n1 : c.1.1 ≤ 24) {b k : Int} (b0 : 0 ≤ b ∧ b < c.1.1) (k0 : 0 ≤ k) (k1 : k < c.1.1) {s : cS} {t : mS} (rl : RLn c.1.1 s t) : RLn c.1.1 (ci1 c b k s) (mi1 m b k t) := by
  have hv : cvw c k s = mvw m k t := by
    unfold cvw mvw
    rw [rl.2.2.1 k k0 k1, cm.2.1, cm.1]
  have h4 := rl.2.2.2.1 k k0 k1
  have h5 := cm.2.2.2 k b k0 k1 b0.1 b0.2
  unfold ci1 mi1
  rw [← cm.2.2.1 k k0 k1, ← hv, ← cm.1]
  by_cases z1 : c.2.1 k ≠ 2
  · rw [if_pos z1, if_pos z1]
    exact rl
  · rw [if_neg z1, if_neg z1]
    by_cases z2 : kand (kshr s.2.2.2 k) 1 ≠ 0
    · rw [if_pos z2, if_pos (h4.mp z2)]
      exact rl
    · rw [if_neg z2, if_neg (fun y => z2 (h4.mpr y))]
      by_cases z3 : kand (kshr (c.2.2.1 k) b) 1 = 0
      · rw [if_pos z3, if_pos (Classical.byContradiction (fun y => absurd z3 (h5.mpr y)))]
        exact rl
      · rw [if_neg z3, if_neg (h5.mp z3)]
        by_cases z4 : cvw c k s < c.1.2.1
        · rw [if_pos z4, if_pos z4]
          exact rl.up k _
        · rw [if_neg z4, if_neg z4]
          exact rl.app n1 k0 k1 (rl.up k _).2.2.1
theorem RLn.i3 {c m : mCf} (cm : CM c m) (n1 : c.1.1 ≤ 24) {b : Int} (b0 : 0 ≤ b ∧ b < c.1.1) : ∀ (q : Nat) (k : Int) (s : cS) (t : mS), 0 ≤ k → RLn c.1.1 s t → RLn c.1.1 (ci3 c b q k s) (mi3 m b q k t)
  | 0, _, _, _, _, rl => rl
  | q + 1, k, s, t, k0, rl => by
    unfold ci3 mi3
    rw [← cm.1]
    by_cases z : k < c.1.1
    · rw [if_pos z, if_pos z]
      exact RLn.i3 cm n1 b0 q (k + 1) _ _ (by omega) (RLn.i1 cm n1 b0 k0 z rl)
    · rw [if_neg z, if_neg z]
      exact rl
theorem RLn.o {c m : mCf} (cm : CM c m) (n1 : c.1.1 ≤ 24) : ∀ (q : Nat) (k : Int) (s : cS) (t : mS), 0 ≤ k → RLn c.1.1 s t → RLn c.1.1 (co9 c q k s) (mo m q k t)
  | 0, _, _, _, _, rl => rl
  | q + 1, k, s, t, k0, rl => by
    unfold co9 mo
    rw [← rl.1]
    by_cases z : k < s.1
    · rw [if_pos z, if_pos z, ← rl.2.1]
      have h := RLn.i3 cm n1 (rl.2.2.2.2.2 k k0 z) 25 0 _ _ (by omega) (rl.up (s.2.1 k) 0)
      rw [← rl.1, ← rl.2.1] at h
      exact RLn.o cm n1 q (k + 1) _ _ (by omega) h
    · rw [if_neg z, if_neg z]
      exact rl
theorem cl2_no {c : mCf} : ∀ (q : Nat) (k : Int) (s : cS), (∀ j, k ≤ j → j < c.1.1 → ¬ (c.2.1 j = 2 ∧ c.1.2.1 ≤ s.2.2.1 j)) → cl2 c q k s = s
  | 0, _, _, _ => rfl
  | q + 1, k, s, hn => by
    unfold cl2
    by_cases z : k < c.1.1
    · rw [if_pos z, if_neg (hn k (Int.le_refl _) z)]
      exact cl2_no q (k + 1) s (fun j j0 j1 => hn j (by omega) j1)
    · rw [if_neg z]
/-- the lines behind a tick -/
def cF9 (c : mCf) (f : Int → Int) : cS := co9 c 26 0 (cl2 c 25 0 (0, fun _ => 0, cg9 c (cutF c.1.1 f), 0))
theorem cF9_no {c : mCf} {f : Int → Int} (hn : can9 c (cutF c.1.1 f) c.1.1.toNat = 0) : cF9 c f = (0, fun _ => 0, cg9 c (cutF c.1.1 f), 0) := by
  unfold cF9
  rw [cl2_no 25 0 _ (fun j j0 j1 z => ?_)]
  · unfold co9
    rw [if_neg (by show ¬ (0 : Int) < 0; omega)]
  · have h := can9_0 hn j j0 (by omega) z.1
    have e : cg9 c (cutF c.1.1 f) j = cutF c.1.1 f j + 1 := by
      unfold cg9
      rw [if_pos z.1]
    have z2 : c.1.2.1 ≤ cg9 c (cutF c.1.1 f) j := z.2
    omega
theorem cT9_F {c : mCf} {f : Int → Int} : cT9 c f = cutF c.1.1 (cF9 c f).2.2.1 := by
  unfold cT9
  by_cases z : can9 c (cutF c.1.1 f) c.1.1.toNat = 0
  · rw [if_pos z, cF9_no z]
  · rw [if_neg z]
    rfl
theorem F9_eq {c m : mCf} (cm : CM c m) (n1 : c.1.1 ≤ 24) (r0 : 2 ≤ c.1.2.1) {f g : Int → Int} (hf : ∀ j, 0 ≤ j → j < c.1.1 → 0 ≤ f j ∧ f j < c.1.2.1) (hfg : ∀ j, 0 ≤ j → j < c.1.1 → f j = g j) : RLn c.1.1 (cF9 c f) (mF9 m g) := by
  unfold cF9 mF9
  refine RLn.o cm n1 26 0 _ _ (Int.le_refl _) (RLn.l2 cm n1 25 0 _ _ (Int.le_refl _) ?_)
  refine ⟨rfl, rfl, fun j j0 j1 => ?_, fun j j0 j1 => ?_, Int.le_refl _, fun i i0 (i1 : i < 0) => absurd i0 (by omega)⟩
  · show cg9 c (cutF c.1.1 f) j = mg m (cutF m.1.1 g) j
    rw [← cm.1, ← cutF_eq hfg]
    exact cg_mg cm n1 r0 (fun i i0 i1 => by rw [cutF_in i0 i1]; exact hf i i0 i1) j0 j1
  · exact ⟨fun z => absurd z (bt_0 j0 (by omega)), fun z => absurd rfl z⟩
theorem tick_eq {c m : mCf} (cm : CM c m) (n1 : c.1.1 ≤ 24) (r0 : 2 ≤ c.1.2.1) {f g : Int → Int} (hf : ∀ j, 0 ≤ j → j < c.1.1 → 0 ≤ f j ∧ f j < c.1.2.1) (hfg : ∀ j, 0 ≤ j → j < c.1.1 → f j = g j) : ∀ j, 0 ≤ j → j < c.1.1 → cT9 c f j = mT m g j := by
  intro j j0 j1
  rw [cT9_F, cutF_in j0 j1]
  show _ = cutF m.1.1 (mF9 m g).2.2.1 j
  rw [← cm.1, cutF_in j0 j1]
  exact (F9_eq cm n1 r0 hf hfg).2.2.1 j j0 j1
theorem cRl.tal5 {n a v : Int} {h : mH} {s : cS} (rl : cRl n h s) : cRl n (sE h 5 a v) s := by
  refine ⟨fun j j0 j1 => ?_, fun i i0 i1 => ?_⟩
  · rw [hA_sEn (by decide)]
    exact rl.1 j j0 j1
  · rw [hA_sEn (by decide)]
    exact rl.2 i i0 i1
/-! tallies -/
/-- a tally g behind the first k of a line, g0 ahead of it -/
def TAL (g0 g ln : Int → Int) (k n : Int) : Prop := ∀ j, 0 ≤ j → j < n → ((∃ i, 0 ≤ i ∧ i < k ∧ ln i = j) → g j = w32 (g0 j + 1)) ∧ ((¬ ∃ i, 0 ≤ i ∧ i < k ∧ ln i = j) → g j = g0 j)
def TLY (g0 g : Int → Int) (L n : Int) : Prop := ∀ j, 0 ≤ j → j < n → (bt L j → g j = w32 (g0 j + 1)) ∧ (¬ bt L j → g j = g0 j)
theorem TAL.zero {g ln : Int → Int} {n : Int} : TAL g g ln 0 n := fun j _ _ => ⟨fun ⟨i, i0, i1, _⟩ => by omega, fun _ => rfl⟩
theorem TAL.step {g0 g ln ln' : Int → Int} {k n : Int} (h : TAL g0 g ln k n) (k0 : 0 ≤ k) (hd : ∀ i, 0 ≤ i → i < k → ln i = ln k → False) (pre : ∀ i, 0 ≤ i → i < k + 1 → ln' i = ln i) (b0 : 0 ≤ ln k ∧ ln k < n) : TAL g0 (u1 g (ln k) (w32 (g (ln k) + 1))) ln' (k + 1) n := by
  intro j j0 j1
  by_cases e : j = ln k
  · have hg := (h (ln k) b0.1 b0.2).2 (fun ⟨i, i0, i1, q⟩ => hd i i0 i1 q)
    rw [e, u1_s, hg]
    exact ⟨fun _ => rfl, fun z => absurd ⟨k, k0, by omega, pre k k0 (by omega)⟩ z⟩
  · rw [u1_n _ _ e]
    refine ⟨fun ⟨i, i0, i1, q⟩ => (h j j0 j1).1 ⟨i, i0, ?_, (pre i i0 i1).symm.trans q⟩, fun z => (h j j0 j1).2 (fun ⟨i, i0, i1, q⟩ => z ⟨i, i0, by omega, (pre i i0 (by omega)).trans q⟩)⟩
    rw [pre i i0 i1] at q
    by_cases y : i = k
    · rw [y] at q
      exact absurd q.symm e
    · omega
theorem TAL.fin {g0 g ln : Int → Int} {k n L last : Int} (h : TAL g0 g ln k n) (hk : k = last) (h1 : ∀ i, 0 ≤ i → i < last → bt L (ln i)) (h2 : ∀ j, 0 ≤ j → j < n → bt L j → ∃ i, 0 ≤ i ∧ i < last ∧ ln i = j) : TLY g0 g L n := by
  intro j j0 j1
  subst hk
  exact ⟨fun z => (h j j0 j1).1 (h2 j j0 j1 z), fun z => (h j j0 j1).2 (fun ⟨i, i0, i1, q⟩ => z (by rw [← q]; exact h1 i i0 i1))⟩
theorem ci1_pre {c : mCf} {b k : Int} {s : cS} : s.1 ≤ (ci1 c b k s).1 ∧ ∀ i, i < s.1 → (ci1 c b k s).2.1 i = s.2.1 i := by
  unfold ci1
  split
  · exact ⟨Int.le_refl _, fun _ _ => rfl⟩
  · split
    · exact ⟨Int.le_refl _, fun _ _ => rfl⟩
    · split
      · exact ⟨Int.le_refl _, fun _ _ => rfl⟩
      · split
        · exact ⟨Int.le_refl _, fun _ _ => rfl⟩
        · exact ⟨by show s.1 ≤ s.1 + 1; omega, fun i hi => u1_n _ _ (by omega)⟩
theorem ci3_pre {c : mCf} {b : Int} : ∀ (q : Nat) (k : Int) (s : cS), s.1 ≤ (ci3 c b q k s).1 ∧ ∀ i, i < s.1 → (ci3 c b q k s).2.1 i = s.2.1 i
  | 0, _, _ => ⟨Int.le_refl _, fun _ _ => rfl⟩
  | q + 1, k, s => by
    unfold ci3
    split
    · have h1 := ci1_pre (c := c) (b := b) (k := k) (s := s)
      have h2 := ci3_pre (c := c) (b := b) q (k + 1) (ci1 c b k s)
      exact ⟨Int.le_trans h1.1 h2.1, fun i hi => (h2.2 i (by omega)).trans (h1.2 i hi)⟩
    · exact ⟨Int.le_refl _, fun _ _ => rfl⟩
theorem cF9_eq {c : mCf} {f g : Int → Int} (h : ∀ j, 0 ≤ j → j < c.1.1 → f j = g j) : cF9 c f = cF9 c g := by
  unfold cF9
  rw [cutF_eq h]
theorem yfire_in (d : Nat) (h : mH) (sh : Sh h) (bi : BI h) (fst b : Int) (hb : 0 ≤ b ∧ b < hF h 2 1) (F : cS) (T5 : Int → Int) (Q : Option mV → mH → Prop) (hq9 : ∀ (t : mH) (i : Int) (x7 : mV), Fr [8, 9, 5] [] h t → hA t 5 = T5 → cRl (hF h 2 1) t F → fst + 1 ≤ F.1 → cLI (hF h 2 1) (hF h 2 0) (hF h 2 1) (hF h 2 1) (fst + 1) F → Wp m_X0_fire (d + 1) 240 [(2, 2), (2, 5), (0, F.1), (0, F.2.2.2), (0, fst), (0, b), (0, i), x7] [] t Q) : ∀ (m : Nat) (k : Int) (s : cS) (h' : mH) (x7 : mV), (hF h 2 1 - k).toNat < m → (0 ≤ k) → (Fr [8, 9, 5] [] h h') → (hA h' 5 = T5) → (cRl (hF h 2 1) h' s) → (fst + 1 ≤ s.1) → (cLI (hF h 2 1) (hF h 2 0) (hF h 2 1) (hF h 2 1) (fst + 1) s) → (ci3 (ccf h) b m k s = F) → Wp m_X0_fire (d + 1) 111 [(2, 2), (2, 5), (0, s.1), (0, s.2.2.2), (0, fst), (0, b), (0, k), x7] [] h' Q := by
  intro m
  induction m with
  | zero => intro k s h' x7 hm; exact absurd hm (Nat.not_lt_zero _)
  | succ m ih =>
    intro k s h' x7 hm k0 fr t5 rl hfl li eF
    have sh' := sh.fr fr (by decide +kernel) (by decide)
    have e0 : hF h' 2 0 = hF h 2 0 := fr.2.2.2.2.1 2 0 (by decide)
    have e1 : hF h' 2 1 = hF h 2 1 := fr.2.2.2.2.1 2 1 (by decide)
    have e8 : hF h' 2 8 = hF h 2 8 := fr.2.2.2.2.1 2 8 (by decide)
    have e3 : hA h' 3 = hA h 3 := fr.2.2.2.2.2 3 (by decide)
    have e6 : hA h' 6 = hA h 6 := fr.2.2.2.2.2 6 (by decide)
    have e7 : hA h' 7 = hA h 7 := fr.2.2.2.2.2 7 (by decide)
    obtain ⟨⟨r0, r1⟩, ⟨n0, n1⟩, ⟨m0, m1⟩, hp, hq⟩ := id bi
    refine Wp.ild (j := 6) rfl dX0_fire_111 ?_
    refine Wp.ald_n (j := 0) rfl dX0_fire_113 ?_
    refine Wp.getf (k := 1) (tg := 0) kC0 (by decide) rfl lf_X0_15 dX0_fire_114 (sK2 (h := h') sh') e1 ?_
    refine Wp.icge dX0_fire_117 (by decide) (tgt := 240) (fun c117 => ?_) (fun c117 => ?_)
    · have hu : ci3 (ccf h) b (m + 1) k s = s := if_neg (show ¬ k < hF h 2 1 by omega)
      rw [hu] at eF
      subst eF
      exact hq9 h' k _ fr t5 rl hfl li
    · refine Wp.ald_n (j := 0) rfl dX0_fire_120 ?_
      refine Wp.getf (k := 3) (tg := 2) kC0 (by decide) rfl lf_X0_21 dX0_fire_121 (sK2 (h := h') sh') (sF2_3 (h := h') sh') ?_
      refine Wp.ild (j := 6) rfl dX0_fire_124 ?_
      refine Wp.iaload dX0_fire_126 (sK3 (h := h') sh') (by omega) (ilt (sL3 (h := h') sh') (by omega)) (congrFun e3 k) ?_
      refine Wp.iconst dX0_fire_127 (by decide) ?_
      refine Wp.icne dX0_fire_128 (by decide) (tgt := 159) (fun c128 => ?_) (fun c128 => ?_)
      · refine Wp.iconst dX0_fire_159 (by decide) ?_
        refine sti_8_7 rfl (dSt_w dX0_fire_160) ?_
        refine Wp.ild (j := 7) rfl dX0_fire_162 ?_
        refine Wp.ifeq dX0_fire_164 (by decide) (tgt := 188) (fun _ => ?_) (fun c => absurd c (by decide))
        refine Wp.ild (j := 7) rfl dX0_fire_188 ?_
        refine Wp.ifeq dX0_fire_190 (by decide) (tgt := 234) (fun _ => ?_) (fun c => absurd c (by decide))
        refine inc_8_6 rfl dX0_fire_234 (by first | exact w32_of (by omega) (by omega) | rfl) ?_
        refine Wp.goto (tgt := 111) dX0_fire_237 (by decide) ?_
        have hu : ci3 (ccf h) b (m + 1) k s = ci3 (ccf h) b m (k + 1) (ci1 (ccf h) b k s) := if_pos (show k < hF h 2 1 by omega)
        rw [hu] at eF
        unfold ci1 at eF
        rw [if_pos (show (ccf h).2.1 k ≠ 2 from c128)] at eF
        exact ih (k + 1) s h' _ (by omega) (by omega) fr t5 rl hfl li eF
      · refine Wp.ild_n (j := 3) rfl dX0_fire_131 ?_
        refine Wp.ild (j := 6) rfl dX0_fire_132 ?_
        refine Wp.callS1 (ct_holds d _ _ _) wc_X0_75 sM_X0_holds dX0_fire_134 rfl (Nat.le_of_ble_eq_true rfl) rfl (Nat.le_of_ble_eq_true rfl) ?_
        refine Wp.ifne dX0_fire_137 (by decide) (tgt := 159) (fun c137 => ?_) (fun c137 => ?_)
        · refine Wp.iconst dX0_fire_159 (by decide) ?_
          refine sti_8_7 rfl (dSt_w dX0_fire_160) ?_
          refine Wp.ild (j := 7) rfl dX0_fire_162 ?_
          refine Wp.ifeq dX0_fire_164 (by decide) (tgt := 188) (fun _ => ?_) (fun c => absurd c (by decide))
          refine Wp.ild (j := 7) rfl dX0_fire_188 ?_
          refine Wp.ifeq dX0_fire_190 (by decide) (tgt := 234) (fun _ => ?_) (fun c => absurd c (by decide))
          refine inc_8_6 rfl dX0_fire_234 (by first | exact w32_of (by omega) (by omega) | rfl) ?_
          refine Wp.goto (tgt := 111) dX0_fire_237 (by decide) ?_
          have hu : ci3 (ccf h) b (m + 1) k s = ci3 (ccf h) b m (k + 1) (ci1 (ccf h) b k s) := if_pos (show k < hF h 2 1 by omega)
          rw [hu] at eF
          unfold ci1 at eF
          rw [if_neg (show ¬ (ccf h).2.1 k ≠ 2 from fun z => z c128)] at eF
          rw [if_pos (show kand (kshr s.2.2.2 k) 1 ≠ 0 from holds_t c137)] at eF
          exact ih (k + 1) s h' _ (by omega) (by omega) fr t5 rl hfl li eF
        · refine Wp.ald_n (j := 0) rfl dX0_fire_140 ?_
          refine Wp.getf (k := 6) (tg := 2) kC0 (by decide) rfl lf_X0_31 dX0_fire_141 (sK2 (h := h') sh') (sF2_6 (h := h') sh') ?_
          refine Wp.ild (j := 6) rfl dX0_fire_144 ?_
          refine Wp.iaload dX0_fire_146 (sK6 (h := h') sh') (by omega) (ilt (sL6 (h := h') sh') (by omega)) (congrFun e6 k) ?_
          refine Wp.ild (j := 5) rfl dX0_fire_147 ?_
          refine Wp.callS1 (ct_holds d _ _ _) wc_X0_75 sM_X0_holds dX0_fire_149 rfl (Nat.le_of_ble_eq_true rfl) rfl (Nat.le_of_ble_eq_true rfl) ?_
          refine Wp.ifeq dX0_fire_152 (by decide) (tgt := 159) (fun c152 => ?_) (fun c152 => ?_)
          · refine Wp.iconst dX0_fire_159 (by decide) ?_
            refine sti_8_7 rfl (dSt_w dX0_fire_160) ?_
            refine Wp.ild (j := 7) rfl dX0_fire_162 ?_
            refine Wp.ifeq dX0_fire_164 (by decide) (tgt := 188) (fun _ => ?_) (fun c => absurd c (by decide))
            refine Wp.ild (j := 7) rfl dX0_fire_188 ?_
            refine Wp.ifeq dX0_fire_190 (by decide) (tgt := 234) (fun _ => ?_) (fun c => absurd c (by decide))
            refine inc_8_6 rfl dX0_fire_234 (by first | exact w32_of (by omega) (by omega) | rfl) ?_
            refine Wp.goto (tgt := 111) dX0_fire_237 (by decide) ?_
            have hu : ci3 (ccf h) b (m + 1) k s = ci3 (ccf h) b m (k + 1) (ci1 (ccf h) b k s) := if_pos (show k < hF h 2 1 by omega)
            rw [hu] at eF
            unfold ci1 at eF
            rw [if_neg (show ¬ (ccf h).2.1 k ≠ 2 from fun z => z c128)] at eF
            rw [if_neg (show ¬ kand (kshr s.2.2.2 k) 1 ≠ 0 from holds_f c137)] at eF
            rw [if_pos (show kand (kshr ((ccf h).2.2.1 k) b) 1 = 0 from Classical.byContradiction (fun z => holds_f c152 z))] at eF
            exact ih (k + 1) s h' _ (by omega) (by omega) fr t5 rl hfl li eF
          · refine Wp.iconst dX0_fire_155 (by decide) ?_
            refine Wp.goto (tgt := 160) dX0_fire_156 (by decide) ?_
            refine sti_8_7 rfl (dSt_w dX0_fire_160) ?_
            refine Wp.ild (j := 7) rfl dX0_fire_162 ?_
            refine Wp.ifeq dX0_fire_164 (by decide) (tgt := 188) (fun c => absurd c (by decide)) (fun _ => ?_)
            have hk := (show LI s.2.2.1 s.2.1 s.2.2.2 s.1 (fst + 1) (hF h 2 0) (hF h 2 1) (hF h 2 1) (hF h 2 1) from li).2.1 k k0 (by omega)
            have hlt : s.2.2.1 k < hF h 2 0 := by
              by_cases hz : hF h 2 0 ≤ s.2.2.1 k
              · exact absurd ((show LI s.2.2.1 s.2.1 s.2.2.2 s.1 (fst + 1) (hF h 2 0) (hF h 2 1) (hF h 2 1) (hF h 2 1) from li).2.2.1 k k0 (by omega) hz) (holds_f c137)
              · omega
            have hm8 := mul_bd (a := s.2.2.1 k) (b := hF h 2 8) (A := 4096) (B := 16) hk.1 (by omega) (by omega) m1
            have ht8 := tdn (a := s.2.2.1 k * hF h 2 8) (b := hF h 2 0) hm8.1 (by omega)
            have hq8 : (s.2.2.1 k * hF h 2 8).tdiv (hF h 2 0) < 16 := by
              have h7 : (s.2.2.1 k * hF h 2 8).tdiv (hF h 2 0) < hF h 2 8 := by
                rw [Int.tdiv_eq_ediv_of_nonneg hm8.1]
                refine Int.ediv_lt_of_lt_mul (by omega) ?_
                rw [Int.mul_comm (hF h 2 8) (hF h 2 0)]
                exact Int.mul_lt_mul_of_pos_right hlt (by omega)
              omega
            have hpq := hq _ ht8.1 hq8
            have hvv : cvw (ccf h) k s = s.2.2.1 k + hA h 7 ((s.2.2.1 k * hF h 2 8).tdiv (hF h 2 0)) := rfl
            refine Wp.ald_n (j := 0) rfl dX0_fire_167 ?_
            refine Wp.getf (k := 9) (tg := 2) kC0 (by decide) rfl lf_X0_40 dX0_fire_168 (sK2 (h := h') sh') (sF2_9 (h := h') sh') ?_
            refine Wp.ild (j := 6) rfl dX0_fire_171 ?_
            refine Wp.dup2 dX0_fire_173 (Or.inl rfl) (Or.inr rfl) ?_
            refine Wp.iaload dX0_fire_174 (sK8 (h := h') sh') (by omega) (ilt (sL8 (h := h') sh') (by omega)) (rl.1 k k0 (by omega)) ?_
            refine Wp.ald_n (j := 0) rfl dX0_fire_175 ?_
            refine Wp.ald_n (j := 0) rfl dX0_fire_176 ?_
            refine Wp.getf (k := 9) (tg := 2) kC0 (by decide) rfl lf_X0_40 dX0_fire_177 (sK2 (h := h') sh') (sF2_9 (h := h') sh') ?_
            refine Wp.ild (j := 6) rfl dX0_fire_180 ?_
            refine Wp.iaload dX0_fire_182 (sK8 (h := h') sh') (by omega) (ilt (sL8 (h := h') sh') (by omega)) (rl.1 k k0 (by omega)) ?_
            have ct183 := ct_pushAtX d h' sh' (bi.fr fr (by decide) (by decide) (by decide) (by decide) (by decide)) (s.2.2.1 k) hk.1 (by omega)
            rw [e0, e7, e8] at ct183
            refine Wp.callV1 (ct183) wc_X0_96 iM_X0_pushAt se_X0_pushAt kC0 (sK2 (h := h') sh') dX0_fire_183 rfl (Nat.le_of_ble_eq_true rfl) rfl (Nat.le_of_ble_eq_true rfl) ?_
            refine Wp.iaddE dX0_fire_186 (show w32 _ = cvw (ccf h) k s by rw [hvv, w32_of (by omega) (by omega)]) ?_
            refine Wp.iastore dX0_fire_187 (sK8 (h := h') sh') (by omega) (ilt (sL8 (h := h') sh') (by omega)) ?_
            refine Wp.ild (j := 7) rfl dX0_fire_188 ?_
            refine Wp.ifeq dX0_fire_190 (by decide) (tgt := 234) (fun c => absurd c (by decide)) (fun _ => ?_)
            refine Wp.ald_n (j := 0) rfl dX0_fire_193 ?_
            refine Wp.getf (k := 9) (tg := 2) kC0 (by decide) rfl lf_X0_40 dX0_fire_194 (sK2 (h := h') sh') (sF2_9 (h := h') sh') ?_
            refine Wp.ild (j := 6) rfl dX0_fire_197 ?_
            refine Wp.iaload dX0_fire_199 (sK8 (h := h') sh') (by omega) (ilt (sL8 (h := h') sh') (by omega)) (show hA (sE _ 8 k _) 8 k = _ from u1_s _ _ _) ?_
            refine Wp.ald_n (j := 0) rfl dX0_fire_200 ?_
            refine Wp.getf (k := 0) (tg := 0) kC0 (by decide) rfl lf_X0_9 dX0_fire_201 (sK2 (h := h') sh') e0 ?_
            refine Wp.iclt dX0_fire_204 (by decide) (tgt := 234) (fun c204 => ?_) (fun c204 => ?_)
            · refine inc_8_6 rfl dX0_fire_234 (by first | exact w32_of (by omega) (by omega) | rfl) ?_
              refine Wp.goto (tgt := 111) dX0_fire_237 (by decide) ?_
              have hu : ci3 (ccf h) b (m + 1) k s = ci3 (ccf h) b m (k + 1) (ci1 (ccf h) b k s) := if_pos (show k < hF h 2 1 by omega)
              rw [hu] at eF
              unfold ci1 at eF
              rw [if_neg (show ¬ (ccf h).2.1 k ≠ 2 from fun z => z c128)] at eF
              rw [if_neg (show ¬ kand (kshr s.2.2.2 k) 1 ≠ 0 from holds_f c137)] at eF
              rw [if_neg (show ¬ kand (kshr ((ccf h).2.2.1 k) b) 1 = 0 from holds_t c152)] at eF
              rw [if_pos (show cvw (ccf h) k s < (ccf h).1.2.1 from c204)] at eF
              exact ih (k + 1) (s.1, s.2.1, u1 s.2.2.1 k (cvw (ccf h) k s), s.2.2.2) _ _ (by omega) (by omega) (fr.tr (Fr.e (by decide))) t5 rl.up hfl (LI.push li (holds_f c137) (by omega) (by omega) c204) eF
            · have hrm := LI.room (show LI s.2.2.1 s.2.1 s.2.2.2 s.1 (fst + 1) (hF h 2 0) (hF h 2 1) (hF h 2 1) (hF h 2 1) from li) (Int.le_refl _) (holds_f c137) k0 (by omega)
              have hl0 := (show LI s.2.2.1 s.2.1 s.2.2.2 s.1 (fst + 1) (hF h 2 0) (hF h 2 1) (hF h 2 1) (hF h 2 1) from li).1
              refine Wp.ild_n (j := 2) rfl dX0_fire_207 ?_
              refine Wp.ald_n (j := 0) rfl dX0_fire_208 ?_
              refine Wp.getf (k := 10) (tg := 2) kC0 (by decide) rfl lf_X0_43 dX0_fire_209 (sK2 (h := h') sh') (sF2_10 (h := h') sh') ?_
              refine Wp.alen dX0_fire_212 (by decide) (by decide) (sK9 (h := h') sh') (sL9 (h := h') sh') (by omega) ?_
              refine Wp.icge dX0_fire_213 (by decide) (tgt := 234) (fun c213 => absurd c213 (by omega)) (fun _ => ?_)
              refine Wp.ald_n (j := 0) rfl dX0_fire_216 ?_
              refine Wp.getf (k := 10) (tg := 2) kC0 (by decide) rfl lf_X0_43 dX0_fire_217 (sK2 (h := h') sh') (sF2_10 (h := h') sh') ?_
              refine Wp.ild_n (j := 2) rfl dX0_fire_220 ?_
              refine Wp.ild (j := 6) rfl dX0_fire_221 ?_
              refine Wp.iastore dX0_fire_223 (sK9 (h := h') sh') (by omega) (ilt (sL9 (h := h') sh') (by omega)) ?_
              refine inc_8_2 rfl dX0_fire_224 (by first | exact w32_of (by omega) (by omega) | rfl) ?_
              refine Wp.ild_n (j := 3) rfl dX0_fire_227 ?_
              refine Wp.iconst dX0_fire_228 (by decide) ?_
              refine Wp.ild (j := 6) rfl dX0_fire_229 ?_
              refine Wp.ishl dX0_fire_231 ?_
              refine Wp.ior dX0_fire_232 ?_
              refine sti_8_3 rfl (dSt_n dX0_fire_233) ?_
              refine inc_8_6 rfl dX0_fire_234 (by first | exact w32_of (by omega) (by omega) | rfl) ?_
              refine Wp.goto (tgt := 111) dX0_fire_237 (by decide) ?_
              have hu : ci3 (ccf h) b (m + 1) k s = ci3 (ccf h) b m (k + 1) (ci1 (ccf h) b k s) := if_pos (show k < hF h 2 1 by omega)
              rw [hu] at eF
              unfold ci1 at eF
              rw [if_neg (show ¬ (ccf h).2.1 k ≠ 2 from fun z => z c128)] at eF
              rw [if_neg (show ¬ kand (kshr s.2.2.2 k) 1 ≠ 0 from holds_f c137)] at eF
              rw [if_neg (show ¬ kand (kshr ((ccf h).2.2.1 k) b) 1 = 0 from holds_t c152)] at eF
              rw [if_neg (show ¬ cvw (ccf h) k s < (ccf h).1.2.1 from c204)] at eF
              exact ih (k + 1) (s.1 + 1, u1 s.2.1 s.1 k, u1 s.2.2.1 k (cvw (ccf h) k s), kor s.2.2.2 (kshl 1 k)) _ _ (by omega) (by omega) (fr.tr ((Fr.e (by decide)).tr (Fr.e (by decide)))) t5 (cRl.app (s := (s.1, s.2.1, u1 s.2.2.1 k (cvw (ccf h) k s), s.2.2.2)) rl.up _) (by show fst + 1 ≤ s.1 + 1; omega) (LI.pushApp li (holds_f c137) k0 (by omega) n1 (by omega) (by omega) (by omega) hfl) eF

theorem yfire_out (d : Nat) (h : mH) (sh : Sh h) (bi : BI h) (F : cS) : ∀ (m : Nat) (fst : Int) (s : cS) (h' : mH) (x5 x6 x7 : mV), (hF h 2 1 - fst).toNat < m → (0 ≤ fst) → (fst ≤ s.1) → (Fr [8, 9, 5] [] h h') → (cRl (hF h 2 1) h' s) → (cLI (hF h 2 1) (hF h 2 0) (hF h 2 1) (hF h 2 1) fst s) → (TAL (hA h 5) (hA h' 5) s.2.1 fst (hF h 2 1)) → (co9 (ccf h) m fst s = F) → Wp m_X0_fire (d + 1) 68 [(2, 2), (2, 5), (0, s.1), (0, s.2.2.2), (0, fst), x5, x6, x7] [] h' (fun r t => r = none ∧ Fr [8, 9, 5] [] h t ∧ (∀ j, 0 ≤ j → j < hF h 2 1 → hA t 8 j = F.2.2.1 j) ∧ (∀ j, 0 ≤ j → j < hF h 2 1 → 0 ≤ F.2.2.1 j ∧ F.2.2.1 j < hF h 2 0) ∧ TLY (hA h 5) (hA t 5) F.2.2.2 (hF h 2 1)) := by
  intro m
  induction m with
  | zero => intro fst s h' x5 x6 x7 hm; exact absurd hm (Nat.not_lt_zero _)
  | succ m ih =>
    intro fst s h' x5 x6 x7 hm f0 hfl fr rl li ta eF
    have sh' := sh.fr fr (by decide +kernel) (by decide)
    have e0 : hF h' 2 0 = hF h 2 0 := fr.2.2.2.2.1 2 0 (by decide)
    have e1 : hF h' 2 1 = hF h 2 1 := fr.2.2.2.2.1 2 1 (by decide)
    have e8 : hF h' 2 8 = hF h 2 8 := fr.2.2.2.2.1 2 8 (by decide)
    have e3 : hA h' 3 = hA h 3 := fr.2.2.2.2.2 3 (by decide)
    have e6 : hA h' 6 = hA h 6 := fr.2.2.2.2.2 6 (by decide)
    have e7 : hA h' 7 = hA h 7 := fr.2.2.2.2.2 7 (by decide)
    obtain ⟨⟨r0, r1⟩, ⟨n0, n1⟩, ⟨m0, m1⟩, hp, hq⟩ := id bi
    refine Wp.ild (j := 4) rfl dX0_fire_68 ?_
    refine Wp.ild_n (j := 2) rfl dX0_fire_70 ?_
    refine Wp.icge dX0_fire_71 (by decide) (tgt := 246) (fun c71 => ?_) (fun c71 => ?_)
    · refine Wp.vret rfl dX0_fire_246 ?_
      have hft := LI.fits (show LI s.2.2.1 s.2.1 s.2.2.2 s.1 fst (hF h 2 0) (hF h 2 1) (hF h 2 1) (hF h 2 1) from li) (Int.le_refl _) (by omega)
      have hu : co9 (ccf h) (m + 1) fst s = s := if_neg (by omega)
      rw [hu] at eF
      subst eF
      have li5 := (show LI s.2.2.1 s.2.1 s.2.2.2 s.1 fst (hF h 2 0) (hF h 2 1) (hF h 2 1) (hF h 2 1) from li)
      exact ⟨rfl, fr, rl.1, LI.done li5 (by omega), ta.fin (by omega) (fun i i0 i1 => (li5.2.2.2.1 i i0 i1).2.2) li5.2.2.2.2.2.1⟩
    · refine Wp.ild (j := 4) rfl dX0_fire_74 ?_
      refine Wp.ald_n (j := 0) rfl dX0_fire_76 ?_
      refine Wp.getf (k := 1) (tg := 0) kC0 (by decide) rfl lf_X0_15 dX0_fire_77 (sK2 (h := h') sh') e1 ?_
      refine Wp.icge dX0_fire_80 (by decide) (tgt := 246) (fun c80 => ?_) (fun c80 => ?_)
      · refine Wp.vret rfl dX0_fire_246 ?_
        have hft := LI.fits (show LI s.2.2.1 s.2.1 s.2.2.2 s.1 fst (hF h 2 0) (hF h 2 1) (hF h 2 1) (hF h 2 1) from li) (Int.le_refl _) (by omega)
        have hu : co9 (ccf h) (m + 1) fst s = s := if_neg (by omega)
        rw [hu] at eF
        subst eF
        have li5 := (show LI s.2.2.1 s.2.1 s.2.2.2 s.1 fst (hF h 2 0) (hF h 2 1) (hF h 2 1) (hF h 2 1) from li)
        exact ⟨rfl, fr, rl.1, LI.done li5 (by omega), ta.fin (by omega) (fun i i0 i1 => (li5.2.2.2.1 i i0 i1).2.2) li5.2.2.2.2.2.1⟩
      · have hli := (show LI s.2.2.1 s.2.1 s.2.2.2 s.1 fst (hF h 2 0) (hF h 2 1) (hF h 2 1) (hF h 2 1) from li).2.2.2.1 fst f0 (by omega)
        refine Wp.ald_n (j := 0) rfl dX0_fire_83 ?_
        refine Wp.getf (k := 10) (tg := 2) kC0 (by decide) rfl lf_X0_43 dX0_fire_84 (sK2 (h := h') sh') (sF2_10 (h := h') sh') ?_
        refine Wp.ild (j := 4) rfl dX0_fire_87 ?_
        refine Wp.iaload dX0_fire_89 (sK9 (h := h') sh') (by omega) (ilt (sL9 (h := h') sh') (by omega)) (rl.2 fst f0 (by omega)) ?_
        refine sti_8_5 rfl (dSt_w dX0_fire_90) ?_
        refine Wp.ald_n (j := 0) rfl dX0_fire_92 ?_
        refine Wp.getf (k := 9) (tg := 2) kC0 (by decide) rfl lf_X0_40 dX0_fire_93 (sK2 (h := h') sh') (sF2_9 (h := h') sh') ?_
        refine Wp.ild (j := 5) rfl dX0_fire_96 ?_
        refine Wp.iconst dX0_fire_98 (by decide) ?_
        refine Wp.iastore dX0_fire_99 (sK8 (h := h') sh') (by omega) (ilt (sL8 (h := h') sh') (by omega)) ?_
        refine Wp.ald_n (j := 1) rfl dX0_fire_100 ?_
        refine Wp.ild (j := 5) rfl dX0_fire_101 ?_
        refine Wp.dup2 dX0_fire_103 (Or.inl rfl) (Or.inr rfl) ?_
        refine Wp.iaload dX0_fire_104 (sK5 (h := h') sh') (by omega) (ilt (sL5 (h := h') sh') (by omega)) (show hA _ 5 _ = hA h' 5 _ from rfl) ?_
        refine Wp.iconst dX0_fire_105 (by decide) ?_
        refine Wp.iaddE dX0_fire_106 rfl ?_
        refine Wp.iastore dX0_fire_107 (sK5 (h := h') sh') (by omega) (ilt (sL5 (h := h') sh') (by omega)) ?_
        refine Wp.iconst dX0_fire_108 (by decide) ?_
        refine sti_8_6 rfl (dSt_w dX0_fire_109) ?_
        have hu : co9 (ccf h) (m + 1) fst s = co9 (ccf h) m (fst + 1) (ci3 (ccf h) (s.2.1 fst) 25 0 (s.1, s.2.1, u1 s.2.2.1 (s.2.1 fst) 0, s.2.2.2)) := if_pos (by omega)
        rw [hu] at eF
        refine yfire_in d h sh bi fst (s.2.1 fst) ⟨hli.1, hli.2.1⟩ _ _ _ (fun t i x7' frt tt rlt hfl' li' => ?_) 25 0 (s.1, s.2.1, u1 s.2.2.1 (s.2.1 fst) 0, s.2.2.2) _ _ (by omega) (Int.le_refl _) ((fr.tr (Fr.e (by decide))).tr (Fr.e (by decide))) rfl (cRl.tal5 rl.up) (by show fst + 1 ≤ s.1; omega) (LI.zero li (by omega) (by omega)) rfl
        refine inc_8_4 rfl dX0_fire_240 (w32_of (by omega) (by omega)) ?_
        refine Wp.goto (tgt := 68) dX0_fire_243 (by decide) ?_
        have li5 := (show LI s.2.2.1 s.2.1 s.2.2.2 s.1 fst (hF h 2 0) (hF h 2 1) (hF h 2 1) (hF h 2 1) from li).2.2.2.2.1
        exact ih (fst + 1) _ t _ _ _ (by omega) (by omega) hfl' frt rlt li' (by rw [tt]; exact ta.step f0 (fun i i0 i1 e => absurd (li5 i fst i0 (by omega) f0 (by omega) e) (by omega)) (fun i i0 i1 => (ci3_pre 25 0 (s.1, s.2.1, u1 s.2.2.1 (s.2.1 fst) 0, s.2.2.2)).2 i (by show i < s.1; omega)) ⟨hli.1, hli.2.1⟩) eF

theorem yfire_line (d : Nat) (h : mH) (sh : Sh h) (bi : BI h) (g : Int → Int) (hx : ∀ j, 0 ≤ j → j < hF h 2 1 → 0 ≤ g j ∧ g j ≤ 10000 ∧ (hA h 3 j ≠ 2 → g j < hF h 2 0)) (F : cS) (Q : Option mV → mH → Prop) (kq : ∀ (t : mH) (k : Int) (x5 x6 x7 : mV), Fr [8, 9, 5] [] h t → hA t 5 = hA h 5 → cRl (hF h 2 1) t F → cLI (hF h 2 1) (hF h 2 0) (hF h 2 1) (hF h 2 1) 0 F → Wp m_X0_fire (d + 1) 65 [(2, 2), (2, 5), (0, F.1), (0, F.2.2.2), (0, k), x5, x6, x7] [] t Q) : ∀ (m : Nat) (k : Int) (s : cS) (h' : mH) (x5 x6 x7 : mV), (hF h 2 1 - k).toNat < m → (0 ≤ k) → (k ≤ hF h 2 1) → (Fr [8, 9, 5] [] h h') → (hA h' 5 = hA h 5) → (cRl (hF h 2 1) h' s) → (s.2.2.1 = g) → (cLI (hF h 2 1) (hF h 2 0) k k 0 s) → (cl2 (ccf h) m k s = F) → Wp m_X0_fire (d + 1) 7 [(2, 2), (2, 5), (0, s.1), (0, s.2.2.2), (0, k), x5, x6, x7] [] h' Q := by
  intro m
  induction m with
  | zero => intro k s h' x5 x6 x7 hm; exact absurd hm (Nat.not_lt_zero _)
  | succ m ih =>
    intro k s h' x5 x6 x7 hm k0 k1 fr t5 rl eg li eF
    have sh' := sh.fr fr (by decide +kernel) (by decide)
    have e0 : hF h' 2 0 = hF h 2 0 := fr.2.2.2.2.1 2 0 (by decide)
    have e1 : hF h' 2 1 = hF h 2 1 := fr.2.2.2.2.1 2 1 (by decide)
    have e8 : hF h' 2 8 = hF h 2 8 := fr.2.2.2.2.1 2 8 (by decide)
    have e3 : hA h' 3 = hA h 3 := fr.2.2.2.2.2 3 (by decide)
    have e6 : hA h' 6 = hA h 6 := fr.2.2.2.2.2 6 (by decide)
    have e7 : hA h' 7 = hA h 7 := fr.2.2.2.2.2 7 (by decide)
    obtain ⟨⟨r0, r1⟩, ⟨n0, n1⟩, ⟨m0, m1⟩, hp, hq⟩ := id bi
    have hft := LI.fitb (show LI s.2.2.1 s.2.1 s.2.2.2 s.1 0 (hF h 2 0) (hF h 2 1) k k from li) k0
    have hl0 := (show LI s.2.2.1 s.2.1 s.2.2.2 s.1 0 (hF h 2 0) (hF h 2 1) k k from li).1
    refine Wp.ild (j := 4) rfl dX0_fire_7 ?_
    refine Wp.ald_n (j := 0) rfl dX0_fire_9 ?_
    refine Wp.getf (k := 1) (tg := 0) kC0 (by decide) rfl lf_X0_15 dX0_fire_10 (sK2 (h := h') sh') e1 ?_
    refine Wp.icge dX0_fire_13 (by decide) (tgt := 65) (fun c13 => ?_) (fun c13 => ?_)
    · have hu : cl2 (ccf h) (m + 1) k s = s := if_neg (show ¬ k < hF h 2 1 by omega)
      rw [hu] at eF
      subst eF
      have ek : k = hF h 2 1 := by omega
      rw [ek] at li
      exact kq h' k _ _ _ fr t5 rl li
    · refine Wp.ald_n (j := 0) rfl dX0_fire_16 ?_
      refine Wp.getf (k := 3) (tg := 2) kC0 (by decide) rfl lf_X0_21 dX0_fire_17 (sK2 (h := h') sh') (sF2_3 (h := h') sh') ?_
      refine Wp.ild (j := 4) rfl dX0_fire_20 ?_
      refine Wp.iaload dX0_fire_22 (sK3 (h := h') sh') (by omega) (ilt (sL3 (h := h') sh') (by omega)) (congrFun e3 k) ?_
      refine Wp.iconst dX0_fire_23 (by decide) ?_
      refine Wp.icne dX0_fire_24 (by decide) (tgt := 59) (fun c24 => ?_) (fun c24 => ?_)
      · refine inc_8_4 rfl dX0_fire_59 (by first | exact w32_of (by omega) (by omega) | rfl) ?_
        refine Wp.goto (tgt := 7) dX0_fire_62 (by decide) ?_
        have hu : cl2 (ccf h) (m + 1) k s = cl2 (ccf h) m (k + 1) (if hA h 3 k = 2 ∧ hF h 2 0 ≤ s.2.2.1 k then (s.1 + 1, u1 s.2.1 s.1 k, s.2.2.1, kor s.2.2.2 (kshl 1 k)) else s) := if_pos (show k < hF h 2 1 by omega)
        rw [hu] at eF
        have li2 : LI s.2.2.1 s.2.1 s.2.2.2 s.1 0 (hF h 2 0) (hF h 2 1) k k := li
        have hnb : ¬ bt s.2.2.2 k := fun z => by
          obtain ⟨i, i0, i1, e⟩ := li2.2.2.2.2.2.1 k k0 (by omega) z
          have := (li2.2.2.2.1 i i0 i1).2.1
          omega
        have hxk := hx k k0 (by omega)
        rw [← eg] at hxk
        rw [if_neg (fun z => c24 z.1)] at eF
        refine ih (k + 1) s h' _ _ _ (by omega) (by omega) (by omega) fr t5 rl eg ?_ eF
        exact ⟨li2.1, li2.2.1, fun j j0 j1 hj => by
          by_cases hjk : j = k
          · subst hjk
            have := hxk.2.2 c24
            omega
          · exact li2.2.2.1 j j0 (by omega) hj, fun i i0 i1 => ⟨(li2.2.2.2.1 i i0 i1).1, by have := (li2.2.2.2.1 i i0 i1).2.1; omega, (li2.2.2.2.1 i i0 i1).2.2⟩, li2.2.2.2.2⟩
      · refine Wp.ald_n (j := 0) rfl dX0_fire_27 ?_
        refine Wp.getf (k := 9) (tg := 2) kC0 (by decide) rfl lf_X0_40 dX0_fire_28 (sK2 (h := h') sh') (sF2_9 (h := h') sh') ?_
        refine Wp.ild (j := 4) rfl dX0_fire_31 ?_
        refine Wp.iaload dX0_fire_33 (sK8 (h := h') sh') (by omega) (ilt (sL8 (h := h') sh') (by omega)) (rl.1 k k0 (by omega)) ?_
        refine Wp.ald_n (j := 0) rfl dX0_fire_34 ?_
        refine Wp.getf (k := 0) (tg := 0) kC0 (by decide) rfl lf_X0_9 dX0_fire_35 (sK2 (h := h') sh') e0 ?_
        refine Wp.iclt dX0_fire_38 (by decide) (tgt := 59) (fun c38 => ?_) (fun c38 => ?_)
        · refine inc_8_4 rfl dX0_fire_59 (by first | exact w32_of (by omega) (by omega) | rfl) ?_
          refine Wp.goto (tgt := 7) dX0_fire_62 (by decide) ?_
          have hu : cl2 (ccf h) (m + 1) k s = cl2 (ccf h) m (k + 1) (if hA h 3 k = 2 ∧ hF h 2 0 ≤ s.2.2.1 k then (s.1 + 1, u1 s.2.1 s.1 k, s.2.2.1, kor s.2.2.2 (kshl 1 k)) else s) := if_pos (show k < hF h 2 1 by omega)
          rw [hu] at eF
          have li2 : LI s.2.2.1 s.2.1 s.2.2.2 s.1 0 (hF h 2 0) (hF h 2 1) k k := li
          have hnb : ¬ bt s.2.2.2 k := fun z => by
            obtain ⟨i, i0, i1, e⟩ := li2.2.2.2.2.2.1 k k0 (by omega) z
            have := (li2.2.2.2.1 i i0 i1).2.1
            omega
          have hxk := hx k k0 (by omega)
          rw [← eg] at hxk
          rw [if_neg (fun z => absurd z.2 (by omega))] at eF
          refine ih (k + 1) s h' _ _ _ (by omega) (by omega) (by omega) fr t5 rl eg ?_ eF
          exact ⟨li2.1, li2.2.1, fun j j0 j1 hj => by
            by_cases hjk : j = k
            · subst hjk
              skip
              omega
            · exact li2.2.2.1 j j0 (by omega) hj, fun i i0 i1 => ⟨(li2.2.2.2.1 i i0 i1).1, by have := (li2.2.2.2.1 i i0 i1).2.1; omega, (li2.2.2.2.1 i i0 i1).2.2⟩, li2.2.2.2.2⟩
        · refine Wp.ald_n (j := 0) rfl dX0_fire_41 ?_
          refine Wp.getf (k := 10) (tg := 2) kC0 (by decide) rfl lf_X0_43 dX0_fire_42 (sK2 (h := h') sh') (sF2_10 (h := h') sh') ?_
          refine Wp.ild_n (j := 2) rfl dX0_fire_45 ?_
          refine Wp.ild (j := 4) rfl dX0_fire_46 ?_
          refine Wp.iastore dX0_fire_48 (sK9 (h := h') sh') (by omega) (ilt (sL9 (h := h') sh') (by omega)) ?_
          refine inc_8_2 rfl dX0_fire_49 (by first | exact w32_of (by omega) (by omega) | rfl) ?_
          refine Wp.ild_n (j := 3) rfl dX0_fire_52 ?_
          refine Wp.iconst dX0_fire_53 (by decide) ?_
          refine Wp.ild (j := 4) rfl dX0_fire_54 ?_
          refine Wp.ishl dX0_fire_56 ?_
          refine Wp.ior dX0_fire_57 ?_
          refine sti_8_3 rfl (dSt_n dX0_fire_58) ?_
          refine inc_8_4 rfl dX0_fire_59 (by first | exact w32_of (by omega) (by omega) | rfl) ?_
          refine Wp.goto (tgt := 7) dX0_fire_62 (by decide) ?_
          have hu : cl2 (ccf h) (m + 1) k s = cl2 (ccf h) m (k + 1) (if hA h 3 k = 2 ∧ hF h 2 0 ≤ s.2.2.1 k then (s.1 + 1, u1 s.2.1 s.1 k, s.2.2.1, kor s.2.2.2 (kshl 1 k)) else s) := if_pos (show k < hF h 2 1 by omega)
          rw [hu] at eF
          have li2 : LI s.2.2.1 s.2.1 s.2.2.2 s.1 0 (hF h 2 0) (hF h 2 1) k k := li
          have hnb : ¬ bt s.2.2.2 k := fun z => by
            obtain ⟨i, i0, i1, e⟩ := li2.2.2.2.2.2.1 k k0 (by omega) z
            have := (li2.2.2.2.1 i i0 i1).2.1
            omega
          have hxk := hx k k0 (by omega)
          rw [← eg] at hxk
          rw [if_pos ⟨c24, by omega⟩] at eF
          refine ih (k + 1) (s.1 + 1, u1 s.2.1 s.1 k, s.2.2.1, kor s.2.2.2 (kshl 1 k)) _ _ _ _ (by omega) (by omega) (by omega) (fr.tr (Fr.e (by decide))) t5 (rl.app _) eg ?_ eF
          exact li2.app hnb k0 (by omega) n1 (by omega) (by omega) (by omega) (by omega) (fun j j0 j1 hj => by
            by_cases hjk : j = k
            · exact Or.inr hjk
            · exact Or.inl (li2.2.2.1 j j0 (by omega) hj)) li2.1.1

theorem cq_fireY (d : Nat) (h : mH) (sh : Sh h) (bi : BI h) (g : Int → Int) (hg : ∀ j, 0 ≤ j → j < hF h 2 1 → hA h 8 j = g j) (hx : ∀ j, 0 ≤ j → j < hF h 2 1 → 0 ≤ g j ∧ g j ≤ 10000 ∧ (hA h 3 j ≠ 2 → g j < hF h 2 0)) : Cq m_X0_fire (d + 1) [(2, 2), (2, 5)] h (fun r t => r = none ∧ Fr [8, 9, 5] [] h t ∧ (∀ j, 0 ≤ j → j < hF h 2 1 → hA t 8 j = cfi (ccf h) g j) ∧ (∀ j, 0 ≤ j → j < hF h 2 1 → 0 ≤ cfi (ccf h) g j ∧ cfi (ccf h) g j < hF h 2 0) ∧ TLY (hA h 5) (hA t 5) (co9 (ccf h) 26 0 (cl2 (ccf h) 25 0 (0, fun _ => 0, g, 0))).2.2.2 (hF h 2 1)) := by
  refine Cq.of ?_
  show Wp m_X0_fire ((d + 1)) 0 [(2, 2), (2, 5), (9, 0), (9, 0), (9, 0), (9, 0), (9, 0), (9, 0)] [] h _
  obtain ⟨⟨r0, r1⟩, ⟨n0, n1⟩, ⟨m0, m1⟩, hp, hq⟩ := id bi
  refine Wp.iconst dX0_fire_0 (by decide) ?_
  refine sti_8_2 rfl (dSt_n dX0_fire_1) ?_
  refine Wp.iconst dX0_fire_2 (by decide) ?_
  refine sti_8_3 rfl (dSt_n dX0_fire_3) ?_
  refine Wp.iconst dX0_fire_4 (by decide) ?_
  refine sti_8_4 rfl (dSt_w dX0_fire_5) ?_
  refine yfire_line d h sh bi g hx _ _ (fun t k x5 x6 x7 frt tt rlt lit => ?_) 25 0 (0, fun _ => 0, g, 0) h _ _ _ (by omega) (by omega) n0 Fr.rf rfl ⟨hg, fun i i0 i1 => absurd i1 (by show ¬ i < (0 : Int); omega)⟩ rfl ⟨⟨Int.le_refl _, Int.le_refl _⟩, fun j j0 j1 => ⟨(hx j j0 j1).1, (hx j j0 j1).2.1⟩, fun j j0 j1 => by omega, fun i i0 (i1 : i < 0) => by omega, fun i j i0 (i1 : i < 0) => by omega, fun j j0 j1 z => absurd z (bt_0 j0 (by omega)), fun i i0 i1 => by omega⟩ rfl
  refine Wp.iconst dX0_fire_65 (by decide) ?_
  refine sti_8_4 rfl (dSt_w dX0_fire_66) ?_
  exact yfire_out d h sh bi _ 26 0 _ t _ _ _ (by omega) (by omega) (show LI _ _ _ _ _ _ _ _ _ from lit).1.1 frt rlt lit (by rw [tt]; exact TAL.zero) rfl

theorem ytick_loop (d : Nat) (h : mH) (sh : Sh h) (bi : BI h) (hrow : ∀ k, 0 ≤ k → k < hF h 2 1 → 0 ≤ hA h 4 k ∧ hA h 4 k < hF h 2 0) (Q : Option mV → mH → Prop) (kq : ∀ (t : mH) (k any : Int), Fr [8] [] h t → can9 (ccf h) (cutF (hF h 2 1) (hA h 4)) (hF h 2 1).toNat = any → (∀ j, 0 ≤ j → j < hF h 2 1 → hA t 8 j = cg9 (ccf h) (cutF (hF h 2 1) (hA h 4)) j) → Wp m_X0_tick (d + 2) 125 [(2, 2), (2, 4), (2, 5), (0, any), (0, k)] [] t Q) : ∀ (m : Nat) (k any : Int) (h' : mH), (hF h 2 1 - k).toNat < m → (0 ≤ k) → (k ≤ hF h 2 1) → (Fr [8] [] h h') → (can9 (ccf h) (cutF (hF h 2 1) (hA h 4)) k.toNat = any) → (∀ j, 0 ≤ j → j < k → hA h' 8 j = cg9 (ccf h) (cutF (hF h 2 1) (hA h 4)) j) → Wp m_X0_tick (d + 2) 5 [(2, 2), (2, 4), (2, 5), (0, any), (0, k)] [] h' Q := by
  intro m
  induction m with
  | zero => intro k any h' hm; exact absurd hm (Nat.not_lt_zero _)
  | succ m ih =>
    intro k any h' hm k0 k1 fr hany hj
    have sh' := sh.fr fr (by decide +kernel) (by decide)
    have e0 : hF h' 2 0 = hF h 2 0 := fr.2.2.2.2.1 2 0 (by decide)
    have e1 : hF h' 2 1 = hF h 2 1 := fr.2.2.2.2.1 2 1 (by decide)
    have e3 : hA h' 3 = hA h 3 := fr.2.2.2.2.2 3 (by decide)
    have e6 : hA h' 6 = hA h 6 := fr.2.2.2.2.2 6 (by decide)
    have ea : hA h' 4 = hA h 4 := fr.2.2.2.2.2 4 (by decide)
    obtain ⟨⟨r0, r1⟩, ⟨n0, n1⟩, ⟨m0, m1⟩, hp, hq⟩ := id bi
    have hcf : ∀ j, 0 ≤ j → j < hF h 2 1 → (cutF (hF h 2 1) (hA h 4)) j = hA h 4 j := fun j j0 j1 => cutF_in j0 j1
    have hany01 := can9_01 (ccf h) (cutF (hF h 2 1) (hA h 4)) k.toNat
    rw [hany] at hany01
    refine Wp.ild (j := 4) rfl dX0_tick_5 ?_
    refine Wp.ald_n (j := 0) rfl dX0_tick_7 ?_
    refine Wp.getf (k := 1) (tg := 0) kC0 (by decide) rfl lf_X0_15 dX0_tick_8 (sK2 (h := h') sh') e1 ?_
    refine Wp.icge dX0_tick_11 (by decide) (tgt := 125) (fun c11 => ?_) (fun c11 => ?_)
    · have ek : k = hF h 2 1 := by omega
      rw [ek] at hany
      exact kq h' k any fr hany (fun j j0 j1 => hj j j0 (by omega))
    · have hrk := hrow k k0 (by omega)
      refine Wp.ald_n (j := 0) rfl dX0_tick_14 ?_
      refine Wp.getf (k := 3) (tg := 2) kC0 (by decide) rfl lf_X0_21 dX0_tick_15 (sK2 (h := h') sh') (sF2_3 (h := h') sh') ?_
      refine Wp.ild (j := 4) rfl dX0_tick_18 ?_
      refine Wp.iaload dX0_tick_20 (sK3 (h := h') sh') (by omega) (ilt (sL3 (h := h') sh') (by omega)) (congrFun e3 k) ?_
      refine Wp.iconst dX0_tick_21 (by decide) ?_
      refine Wp.icne dX0_tick_22 (by decide) (tgt := 63) (fun c22 => ?_) (fun c22 => ?_)
      · refine Wp.ald_n (j := 0) rfl dX0_tick_63 ?_
        refine Wp.getf (k := 3) (tg := 2) kC0 (by decide) rfl lf_X0_21 dX0_tick_64 (sK2 (h := h') sh') (sF2_3 (h := h') sh') ?_
        refine Wp.ild (j := 4) rfl dX0_tick_67 ?_
        refine Wp.iaload dX0_tick_69 (sK3 (h := h') sh') (by omega) (ilt (sL3 (h := h') sh') (by omega)) (congrFun e3 k) ?_
        refine Wp.iconst dX0_tick_70 (by decide) ?_
        refine Wp.icne dX0_tick_71 (by decide) (tgt := 102) (fun c71 => ?_) (fun c71 => ?_)
        · refine Wp.ald_n (j := 0) rfl dX0_tick_102 ?_
          refine Wp.getf (k := 9) (tg := 2) kC0 (by decide) rfl lf_X0_40 dX0_tick_103 (sK2 (h := h') sh') (sF2_9 (h := h') sh') ?_
          refine Wp.ild (j := 4) rfl dX0_tick_106 ?_
          refine Wp.ald_n (j := 0) rfl dX0_tick_108 ?_
          refine Wp.ald_n (j := 1) rfl dX0_tick_109 ?_
          refine Wp.ild (j := 4) rfl dX0_tick_110 ?_
          refine Wp.iaload dX0_tick_112 (sK4 (h := h') sh') (by omega) (ilt (sL4 (h := h') sh') (by omega)) (congrFun ea k) ?_
          refine Wp.iconst dX0_tick_113 (by decide) ?_
          refine Wp.iaddE dX0_tick_114 (by first | exact w32_of (by omega) (by omega) | rfl) ?_
          have ct115 := fun p p0 p1 => ct_wrap (d + 1) h' sh' p (by omega) (by omega) p0 p1
          rw [e0] at ct115
          refine Wp.callV1 (ct115 _ (by omega) (by omega)) wc_X0_83 iM_X0_wrap se_X0_wrap kC0 (sK2 (h := h') sh') dX0_tick_115 rfl (Nat.le_of_ble_eq_true rfl) rfl (Nat.le_of_ble_eq_true rfl) ?_
          refine Wp.iastore dX0_tick_118 (sK8 (h := h') sh') (by omega) (ilt (sL8 (h := h') sh') (by omega)) ?_
          refine inc_5_4 rfl dX0_tick_119 (by first | exact w32_of (by omega) (by omega) | rfl) ?_
          refine Wp.goto (tgt := 5) dX0_tick_122 (by decide) ?_
          have hca : can9 (ccf h) (cutF (hF h 2 1) (hA h 4)) (k + 1).toNat = any := by
            rw [show (k + 1).toNat = k.toNat + 1 by omega]
            show (if hA h 3 ((k.toNat : Nat) : Int) = 2 ∧ hF h 2 0 ≤ (cutF (hF h 2 1) (hA h 4)) ((k.toNat : Nat) : Int) + 1 then (1 : Int) else _) = _
            rw [show ((k.toNat : Nat) : Int) = k by omega, if_neg (fun z => c22 z.1), hany]
          refine ih (k + 1) _ _ (by omega) (by omega) (by omega) (fr.tr (Fr.e (by decide))) hca (fun j j0 j1 => ?_)
          rw [hA_sEs]
          by_cases hjk : j = k
          · rw [hjk, u1_s]
            symm
            unfold cg9
            rw [if_neg (show ¬ (ccf h).2.1 k = 2 from c22), if_neg (show ¬ (ccf h).2.1 k = 1 from c71)]
            unfold wrpC
            rw [hcf k k0 (by omega)]
            rfl
          · rw [u1_n _ _ hjk]
            exact hj j j0 (by omega)
        · refine Wp.ald_n (j := 0) rfl dX0_tick_74 ?_
          refine Wp.getf (k := 9) (tg := 2) kC0 (by decide) rfl lf_X0_40 dX0_tick_75 (sK2 (h := h') sh') (sF2_9 (h := h') sh') ?_
          refine Wp.ild (j := 4) rfl dX0_tick_78 ?_
          refine Wp.ald_n (j := 0) rfl dX0_tick_80 ?_
          refine Wp.ald_n (j := 1) rfl dX0_tick_81 ?_
          refine Wp.ild (j := 4) rfl dX0_tick_82 ?_
          refine Wp.iaload dX0_tick_84 (sK4 (h := h') sh') (by omega) (ilt (sL4 (h := h') sh') (by omega)) (congrFun ea k) ?_
          refine Wp.iconst dX0_tick_85 (by decide) ?_
          refine Wp.iaddE dX0_tick_86 (by first | exact w32_of (by omega) (by omega) | rfl) ?_
          refine Wp.ald_n (j := 0) rfl dX0_tick_87 ?_
          refine Wp.ild (j := 4) rfl dX0_tick_88 ?_
          refine Wp.ald_n (j := 1) rfl dX0_tick_90 ?_
          have hpb := plS_bd (f := hA h 4) (r := hF h 2 0) (m := hA h 4 k) (s := kand (hA h 6 k) (kxor (kshl 1 k) (-1))) hrk (hF h 2 1).toNat (fun i i0 i1 => hrow i i0 (by omega))
          have hpv := plV_bd (r := hF h 2 0) (by omega) hpb.1 hpb.2.1 hpb.2.2.1
          have ct91 := ct_pullOn (d + 1) h' sh' 4 k (sK4 (h := h') sh') (sL4 (h := h') sh') k0 (by omega) (by omega) (by omega) (by rw [e0, e1, ea]; exact hrow)
          rw [e0, e1, ea, e6] at ct91
          refine Wp.callV1 (ct91) wc_X0_79 iM_X0_pullOn se_X0_pullOn kC0 (sK2 (h := h') sh') dX0_tick_91 rfl (Nat.le_of_ble_eq_true rfl) rfl (Nat.le_of_ble_eq_true rfl) ?_
          refine Wp.iaddE dX0_tick_94 (by first | exact w32_of (by omega) (by omega) | rfl) ?_
          have ct95 := fun p p0 p1 => ct_wrap (d + 1) h' sh' p (by omega) (by omega) p0 p1
          rw [e0] at ct95
          refine Wp.callV1 (ct95 _ (by omega) (by omega)) wc_X0_83 iM_X0_wrap se_X0_wrap kC0 (sK2 (h := h') sh') dX0_tick_95 rfl (Nat.le_of_ble_eq_true rfl) rfl (Nat.le_of_ble_eq_true rfl) ?_
          refine Wp.iastore dX0_tick_98 (sK8 (h := h') sh') (by omega) (ilt (sL8 (h := h') sh') (by omega)) ?_
          refine Wp.goto (tgt := 119) dX0_tick_99 (by decide) ?_
          refine inc_5_4 rfl dX0_tick_119 (by first | exact w32_of (by omega) (by omega) | rfl) ?_
          refine Wp.goto (tgt := 5) dX0_tick_122 (by decide) ?_
          have hca : can9 (ccf h) (cutF (hF h 2 1) (hA h 4)) (k + 1).toNat = any := by
            rw [show (k + 1).toNat = k.toNat + 1 by omega]
            show (if hA h 3 ((k.toNat : Nat) : Int) = 2 ∧ hF h 2 0 ≤ (cutF (hF h 2 1) (hA h 4)) ((k.toNat : Nat) : Int) + 1 then (1 : Int) else _) = _
            rw [show ((k.toNat : Nat) : Int) = k by omega, if_neg (fun z => c22 z.1), hany]
          refine ih (k + 1) _ _ (by omega) (by omega) (by omega) (fr.tr (Fr.e (by decide))) hca (fun j j0 j1 => ?_)
          rw [hA_sEs]
          by_cases hjk : j = k
          · rw [hjk, u1_s]
            symm
            unfold cg9
            rw [if_neg (show ¬ (ccf h).2.1 k = 2 from c22), if_pos (show (ccf h).2.1 k = 1 from c71)]
            unfold wrpC pulC
            rw [hcf k k0 (by omega), plS_eq (f := (cutF (hF h 2 1) (hA h 4))) (g := hA h 4) _ (fun i i0 i1 => hcf i i0 (by show i < hF h 2 1; have : (ccf h).1.1 = hF h 2 1 := rfl; omega))]
            rfl
          · rw [u1_n _ _ hjk]
            exact hj j j0 (by omega)
      · refine Wp.ald_n (j := 0) rfl dX0_tick_25 ?_
        refine Wp.getf (k := 9) (tg := 2) kC0 (by decide) rfl lf_X0_40 dX0_tick_26 (sK2 (h := h') sh') (sF2_9 (h := h') sh') ?_
        refine Wp.ild (j := 4) rfl dX0_tick_29 ?_
        refine Wp.ald_n (j := 1) rfl dX0_tick_31 ?_
        refine Wp.ild (j := 4) rfl dX0_tick_32 ?_
        refine Wp.iaload dX0_tick_34 (sK4 (h := h') sh') (by omega) (ilt (sL4 (h := h') sh') (by omega)) (congrFun ea k) ?_
        refine Wp.iconst dX0_tick_35 (by decide) ?_
        refine Wp.iaddE dX0_tick_36 (by first | exact w32_of (by omega) (by omega) | rfl) ?_
        refine Wp.iastore dX0_tick_37 (sK8 (h := h') sh') (by omega) (ilt (sL8 (h := h') sh') (by omega)) ?_
        refine Wp.ild_n (j := 3) rfl dX0_tick_38 ?_
        refine Wp.ald_n (j := 0) rfl dX0_tick_39 ?_
        refine Wp.getf (k := 9) (tg := 2) kC0 (by decide) rfl lf_X0_40 dX0_tick_40 (sK2 (h := h') sh') (sF2_9 (h := h') sh') ?_
        refine Wp.ild (j := 4) rfl dX0_tick_43 ?_
        refine Wp.iaload dX0_tick_45 (sK8 (h := h') sh') (by omega) (ilt (sL8 (h := h') sh') (by omega)) (show hA (sE h' 8 k (hA h 4 k + 1)) 8 k = hA h 4 k + 1 from u1_s (hA h' 8) k _) ?_
        refine Wp.ald_n (j := 0) rfl dX0_tick_46 ?_
        refine Wp.getf (k := 0) (tg := 0) kC0 (by decide) rfl lf_X0_9 dX0_tick_47 (sK2 (h := h') sh') e0 ?_
        refine Wp.iclt dX0_tick_50 (by decide) (tgt := 57) (fun c50 => ?_) (fun c50 => ?_)
        · refine Wp.iconst dX0_tick_57 (by decide) ?_
          refine Wp.ior dX0_tick_58 ?_
          refine sti_5_3 rfl (dSt_n dX0_tick_59) ?_
          refine Wp.goto (tgt := 119) dX0_tick_60 (by decide) ?_
          refine inc_5_4 rfl dX0_tick_119 (by first | exact w32_of (by omega) (by omega) | rfl) ?_
          refine Wp.goto (tgt := 5) dX0_tick_122 (by decide) ?_
          have hca : can9 (ccf h) (cutF (hF h 2 1) (hA h 4)) (k + 1).toNat = any := by
            rw [show (k + 1).toNat = k.toNat + 1 by omega]
            show (if hA h 3 ((k.toNat : Nat) : Int) = 2 ∧ hF h 2 0 ≤ (cutF (hF h 2 1) (hA h 4)) ((k.toNat : Nat) : Int) + 1 then (1 : Int) else _) = _
            rw [show ((k.toNat : Nat) : Int) = k by omega, if_neg (fun z => by have := hcf k k0 (by omega); omega), hany]
          have ko : kor any 0 = any := (kor01 hany01).2
          refine ih (k + 1) _ _ (by omega) (by omega) (by omega) (fr.tr (Fr.e (by decide))) (by rw [ko]; exact hca) (fun j j0 j1 => ?_)
          rw [hA_sEs]
          by_cases hjk : j = k
          · rw [hjk, u1_s]
            symm
            unfold cg9
            rw [if_pos (show (ccf h).2.1 k = 2 from c22), hcf k k0 (by omega)]
          · rw [u1_n _ _ hjk]
            exact hj j j0 (by omega)
        · refine Wp.iconst dX0_tick_53 (by decide) ?_
          refine Wp.goto (tgt := 58) dX0_tick_54 (by decide) ?_
          refine Wp.ior dX0_tick_58 ?_
          refine sti_5_3 rfl (dSt_n dX0_tick_59) ?_
          refine Wp.goto (tgt := 119) dX0_tick_60 (by decide) ?_
          refine inc_5_4 rfl dX0_tick_119 (by first | exact w32_of (by omega) (by omega) | rfl) ?_
          refine Wp.goto (tgt := 5) dX0_tick_122 (by decide) ?_
          have hca : can9 (ccf h) (cutF (hF h 2 1) (hA h 4)) (k + 1).toNat = 1 := by
            rw [show (k + 1).toNat = k.toNat + 1 by omega]
            show (if hA h 3 ((k.toNat : Nat) : Int) = 2 ∧ hF h 2 0 ≤ (cutF (hF h 2 1) (hA h 4)) ((k.toNat : Nat) : Int) + 1 then (1 : Int) else _) = _
            rw [show ((k.toNat : Nat) : Int) = k by omega, if_pos ⟨c22, by have := hcf k k0 (by omega); omega⟩]
          have ko : kor any 1 = 1 := (kor01 hany01).1
          refine ih (k + 1) _ _ (by omega) (by omega) (by omega) (fr.tr (Fr.e (by decide))) (by rw [ko]; exact hca) (fun j j0 j1 => ?_)
          rw [hA_sEs]
          by_cases hjk : j = k
          · rw [hjk, u1_s]
            symm
            unfold cg9
            rw [if_pos (show (ccf h).2.1 k = 2 from c22), hcf k k0 (by omega)]
          · rw [u1_n _ _ hjk]
            exact hj j j0 (by omega)

theorem ytick_end (d : Nat) (h : mH) (sh : Sh h) (bi : BI h) (h' : mH) (fr : Fr [8, 9, 5, 4] [] h h') (g : Int → Int) (hg : ∀ j, 0 ≤ j → j < hF h 2 1 → hA h' 8 j = g j) (hr : ∀ j, 0 ≤ j → j < hF h 2 1 → 0 ≤ g j ∧ g j < hF h 2 0) (eg : cutF (hF h 2 1) g = cT9 (ccf h) (hA h 4)) (tl : TLY (hA h 5) (hA h' 5) (cF9 (ccf h) (hA h 4)).2.2.2 (hF h 2 1)) (any k : Int) : Wp m_X0_tick (d + 2) 134 [(2, 2), (2, 4), (2, 5), (0, any), (0, k)] [] h' (fun r t => r = none ∧ Fr [8, 9, 5, 4] [] h t ∧ (∀ j, 0 ≤ j → j < hF h 2 1 → hA t 4 j = cT9 (ccf h) (hA h 4) j ∧ 0 ≤ hA t 4 j ∧ hA t 4 j < hF h 2 0) ∧ TLY (hA h 5) (hA t 5) (cF9 (ccf h) (hA h 4)).2.2.2 (hF h 2 1)) := by
  have sh' := sh.fr fr (by decide +kernel) (by decide)
  have e1 : hF h' 2 1 = hF h 2 1 := fr.2.2.2.2.1 2 1 (by decide)
  obtain ⟨n0, n1⟩ := bi.2.1
  refine Wp.ald_n (j := 0) rfl dX0_tick_134 ?_
  refine Wp.getf (k := 9) (tg := 2) kC0 (by decide) rfl lf_X0_40 dX0_tick_135 (sK2 (h := h') sh') (sF2_9 (h := h') sh') ?_
  refine Wp.iconst dX0_tick_138 (by decide) ?_
  refine Wp.ald_n (j := 1) rfl dX0_tick_139 ?_
  refine Wp.iconst dX0_tick_140 (by decide) ?_
  refine Wp.ald_n (j := 0) rfl dX0_tick_141 ?_
  refine Wp.getf (k := 1) (tg := 0) kC0 (by decide) rfl lf_X0_15 dX0_tick_142 (sK2 (h := h') sh') e1 ?_
  refine Wp.acopy (t := 10) (Or.inl rfl) wa_X0_90 wA2 wA3 wA4 dX0_tick_145 (sK8 (h := h') sh') (sK4 (h := h') sh') (by omega) (by omega) (by omega) (ile (sL8 (h := h') sh') (by omega)) (ile (sL4 (h := h') sh') (by omega)) (Nat.le_of_ble_eq_true rfl) ?_
  refine Wp.vret rfl dX0_tick_148 ?_
  refine ⟨rfl, fr.tr (Fr.a (by decide)), fun j j0 j1 => ?_, tl⟩
  rw [hA_sAs]
  unfold cpF
  rw [if_pos (by omega), show (0 : Int) + (j - 0) = j by omega, hg j j0 j1, ← eg, cutF_in j0 j1]
  exact ⟨rfl, hr j j0 j1⟩

theorem cq_tickY (d : Nat) (h : mH) (sh : Sh h) (bi : BI h) (hrow : ∀ k, 0 ≤ k → k < hF h 2 1 → 0 ≤ hA h 4 k ∧ hA h 4 k < hF h 2 0) : Cq m_X0_tick (d + 2) [(2, 2), (2, 4), (2, 5)] h (fun r t => r = none ∧ Fr [8, 9, 5, 4] [] h t ∧ (∀ j, 0 ≤ j → j < hF h 2 1 → hA t 4 j = cT9 (ccf h) (hA h 4) j ∧ 0 ≤ hA t 4 j ∧ hA t 4 j < hF h 2 0) ∧ TLY (hA h 5) (hA t 5) (cF9 (ccf h) (hA h 4)).2.2.2 (hF h 2 1)) := by
  refine Cq.of ?_
  show Wp m_X0_tick ((d + 2)) 0 [(2, 2), (2, 4), (2, 5), (9, 0), (9, 0)] [] h _
  obtain ⟨⟨r0, r1⟩, ⟨n0, n1⟩, ⟨m0, m1⟩, hp, hq⟩ := id bi
  refine Wp.iconst dX0_tick_0 (by decide) ?_
  refine sti_5_3 rfl (dSt_n dX0_tick_1) ?_
  refine Wp.iconst dX0_tick_2 (by decide) ?_
  refine sti_5_4 rfl (dSt_w dX0_tick_3) ?_
  refine ytick_loop d h sh bi hrow _ (fun t k any frt hany ht => ?_) _ 0 0 h (Nat.lt_succ_self _) (Int.le_refl _) bi.2.1.1 Fr.rf rfl (fun j j0 j1 => by omega)
  have sht : Sh t := sh.fr frt (by decide +kernel) (by decide)
  have t0 : hF t 2 0 = hF h 2 0 := frt.2.2.2.2.1 2 0 (by decide)
  have t1 : hF t 2 1 = hF h 2 1 := frt.2.2.2.2.1 2 1 (by decide)
  have t3 : hA t 3 = hA h 3 := frt.2.2.2.2.2 3 (by decide)
  have tc : ccf t = ccf h := ccf_fr frt (by decide) (by decide) (by decide) (by decide) (by decide) (by decide)
  have hb9 := fun j (j0 : 0 ≤ j) (j1 : j < hF h 2 1) => cg9_bd (c := ccf h) (f := (cutF (hF h 2 1) (hA h 4))) (k := j) r0 r1 (fun i i0 (i1 : i < hF h 2 1) => by rw [cutF_in i0 i1]; exact hrow i i0 i1) j0 j1
  refine Wp.ild_n (j := 3) rfl dX0_tick_125 ?_
  refine Wp.ifeq dX0_tick_126 (by decide) (tgt := 134) (fun c => ?_) (fun c => ?_)
  · refine ytick_end d h sh bi t (frt.mono (by decide) (by decide)) (cg9 (ccf h) (cutF (hF h 2 1) (hA h 4))) ht (fun j j0 j1 => ?_) ?_ (by
      rw [cF9_no (show can9 (ccf h) (cutF (ccf h).1.1 (hA h 4)) (ccf h).1.1.toNat = 0 by rw [← c, ← hany]; rfl)]
      exact fun j j0 j1 => ⟨fun z => absurd z (bt_0 j0 (by omega)), fun _ => congrFun (frt.2.2.2.2.2 5 (by decide)) j⟩) any k
    · refine ⟨(hb9 j j0 j1).1, ?_⟩
      by_cases z : hA h 3 j = 2
      · have := can9_0 (c := ccf h) (f := (cutF (hF h 2 1) (hA h 4))) (by rw [hany]; exact c) j j0 (by omega) z
        unfold cg9
        rw [if_pos (show (ccf h).2.1 j = 2 from z)]
        exact this
      · exact (hb9 j j0 j1).2.2 z
    · unfold cT9
      rw [if_pos (show can9 (ccf h) (cutF (ccf h).1.1 (hA h 4)) (ccf h).1.1.toNat = 0 by rw [← c, ← hany]; rfl)]
      rfl
  · obtain ⟨_, t131, ct131, rfl, fr131, hg131, hr131, tl131⟩ := cq_fireY d t sht (bi.fr frt (by decide) (by decide) (by decide) (by decide) (by decide)) (cg9 (ccf h) (cutF (hF h 2 1) (hA h 4))) (by rw [t1]; exact ht) (by rw [t0, t1, t3]; exact hb9)
    rw [t1, t0, tc] at hr131
    rw [t1, tc] at hg131
    rw [t1, tc, frt.2.2.2.2.2 5 (by decide)] at tl131
    refine Wp.ald_n (j := 0) rfl dX0_tick_129 ?_
    refine Wp.ald_n (j := 2) rfl dX0_tick_130 ?_
    refine Wp.callV0 (ct131) wc_X0_86 iM_X0_fire se_X0_fire kC0 (sK2 (h := t) sht) dX0_tick_131 rfl (Nat.le_of_ble_eq_true rfl) rfl (Nat.le_of_ble_eq_true rfl) ?_
    refine ytick_end d h sh bi t131 ((frt.mono (by decide) (by decide)).tr (fr131.mono (by decide) (by decide))) (cfi (ccf h) (cg9 (ccf h) (cutF (hF h 2 1) (hA h 4)))) hg131 hr131 ?_ tl131 any k
    unfold cT9
    rw [if_neg (show ¬ can9 (ccf h) (cutF (ccf h).1.1 (hA h 4)) (ccf h).1.1.toNat = 0 from fun z => c (by rw [← hany]; exact z))]
    rfl

/-- the class's row behind k ticks -/
def cI9 (c : mCf) (f : Int → Int) : Nat → Int → Int
  | 0 => f
  | k + 1 => cT9 c (cI9 c f k)
theorem cT9_rgf {h : mH} (sh : Sh h) (bi : BI h) {f : Int → Int} (hf : ∀ j, 0 ≤ j → j < (ccf h).1.1 → 0 ≤ f j ∧ f j < (ccf h).1.2.1) : ∀ j, 0 ≤ j → j < (ccf h).1.1 → 0 ≤ cT9 (ccf h) f j ∧ cT9 (ccf h) f j < (ccf h).1.2.1 := by
  have fr2 : Fr [11] [] h (sA h 11 f) := Fr.a (by decide)
  have sh2 := sh.fr fr2 (by decide +kernel) (by decide)
  have bi2 := bi.fr fr2 (by decide) (by decide) (by decide) (by decide) (by decide)
  obtain ⟨_, t6, ct6, rfl, fr6, hr6⟩ := cq_walkX 0 (sA h 11 f) sh2 bi2 (fun j j0 j1 => by rw [hA_sAs]; exact hf j j0 j1)
  rw [hA_sAs] at hr6
  intro j j0 j1
  have z := hr6 j j0 j1
  rw [z.1] at z
  exact z.2

/-- the tallies behind k ticks -/
def cB9 (c : mCf) (f g : Int → Int) : Nat → Int → Int
  | 0 => g
  | k + 1 => fun j => if kand (kshr (cF9 c (cI9 c f k)).2.2.2 j) 1 = 0 then cB9 c f g k j else w32 (cB9 c f g k j + 1)
theorem w32_w64 (x : Int) : w32 (w64 x) = w32 x := by
  unfold w32 w64
  omega
theorem w32_s (x : Int) : w32 (w32 x + 1) = w32 (x + 1) := by
  unfold w32
  omega
theorem cB9_s {c : mCf} {f g0 g g' : Int → Int} {n : Int} {k : Nat} (hg : ∀ j, 0 ≤ j → j < n → g j = cB9 c f g0 k j) (t : TLY g g' (cF9 c (cI9 c f k)).2.2.2 n) : ∀ j, 0 ≤ j → j < n → g' j = cB9 c f g0 (k + 1) j := by
  intro j j0 j1
  show g' j = if kand (kshr (cF9 c (cI9 c f k)).2.2.2 j) 1 = 0 then cB9 c f g0 k j else w32 (cB9 c f g0 k j + 1)
  by_cases z : kand (kshr (cF9 c (cI9 c f k)).2.2.2 j) 1 = 0
  · rw [if_pos z, (t j j0 j1).2 (fun y => y z)]
    exact hg j j0 j1
  · rw [if_neg z, (t j j0 j1).1 z, hg j j0 j1]
theorem B9_eq {c m : mCf} (cm : CM c m) (n1 : c.1.1 ≤ 24) (r0 : 2 ≤ c.1.2.1) {f g b b' : Int → Int} (hI : ∀ (k : Nat) (j : Int), 0 ≤ j → j < c.1.1 → cI9 c f k j = mI9 m g k j ∧ 0 ≤ cI9 c f k j ∧ cI9 c f k j < c.1.2.1) (hb : ∀ j, 0 ≤ j → j < c.1.1 → b j = w32 (b' j)) : ∀ (k : Nat) (j : Int), 0 ≤ j → j < c.1.1 → cB9 c f b k j = w32 (mB9 m g b' k j)
  | 0, j, j0, j1 => hb j j0 j1
  | k + 1, j, j0, j1 => by
    have ih := B9_eq cm n1 r0 hI hb k j j0 j1
    have hF := (F9_eq cm n1 r0 (f := cI9 c f k) (g := mI9 m g k) (fun i i0 i1 => (hI k i i0 i1).2) (fun i i0 i1 => (hI k i i0 i1).1)).2.2.2.1 j j0 j1
    show (if kand (kshr (cF9 c (cI9 c f k)).2.2.2 j) 1 = 0 then cB9 c f b k j else w32 (cB9 c f b k j + 1)) = w32 (w64 (mB9 m g b' k j + (if (mF9 m (mI9 m g k)).2.2.2 j = 0 then 0 else 1)))
    by_cases z : kand (kshr (cF9 c (cI9 c f k)).2.2.2 j) 1 = 0
    · rw [if_pos z, if_pos (Classical.byContradiction (fun y => absurd z (hF.mpr y))), w32_w64, Int.add_zero]
      exact ih
    · rw [if_neg z, if_neg (hF.mp z), w32_w64, ih, w32_s]
theorem I9_eq {c m : mCf} (cm : CM c m) (n1 : c.1.1 ≤ 24) (r0 : 2 ≤ c.1.2.1) (rg : ∀ f : Int → Int, (∀ j, 0 ≤ j → j < c.1.1 → 0 ≤ f j ∧ f j < c.1.2.1) → ∀ j, 0 ≤ j → j < c.1.1 → 0 ≤ cT9 c f j ∧ cT9 c f j < c.1.2.1) {f g : Int → Int} (hf : ∀ j, 0 ≤ j → j < c.1.1 → 0 ≤ f j ∧ f j < c.1.2.1) (hfg : ∀ j, 0 ≤ j → j < c.1.1 → f j = g j) : ∀ (k : Nat) (j : Int), 0 ≤ j → j < c.1.1 → cI9 c f k j = mI9 m g k j ∧ 0 ≤ cI9 c f k j ∧ cI9 c f k j < c.1.2.1
  | 0, j, j0, j1 => ⟨hfg j j0 j1, hf j j0 j1⟩
  | k + 1, j, j0, j1 => by
    have ih := I9_eq cm n1 r0 rg hf hfg k
    exact ⟨tick_eq cm n1 r0 (fun i i0 i1 => (ih i i0 i1).2) (fun i i0 i1 => (ih i i0 i1).1) j j0 j1, rg _ (fun i i0 i1 => (ih i i0 i1).2) j j0 j1⟩
theorem goX_loop (d : Nat) (h : mH) (sh : Sh h) (bi : BI h) (n : Int) (g0 : 0 ≤ n) (g1 : n ≤ 20000) : ∀ (m : Nat) (t : Int) (h' : mH), (n - t).toNat < m → (0 ≤ t) → (t ≤ n) → (Fr [4, 5, 8, 9] [] h h') → (BI h') → (∀ j, 0 ≤ j → j < hF h 2 1 → hA h' 4 j = cI9 (ccf h) (hA h 4) t.toNat j) → (∀ j, 0 ≤ j → j < hF h 2 1 → hA h' 5 j = cB9 (ccf h) (hA h 4) (hA h 5) t.toNat j) → Wp m_X5_go (d + 3) 19 [(2, 0), (0, n), (0, t)] [] h' (fun r t => (∃ y, r = some (0, y) ∧ ((y = 0 ∧ ¬ (0 ≤ n ∧ n ≤ 20000) ∧ Fr [] [(0, 0)] h t) ∨ (y = 1 ∧ (0 ≤ n ∧ n ≤ 20000) ∧ hF t 2 2 = w32 (hF h 2 2 + n) ∧ (∀ j, 0 ≤ j → j < hF h 2 1 → hA t 4 j = cI9 (ccf h) (hA h 4) n.toNat j) ∧ (∀ j, 0 ≤ j → j < hF h 2 1 → hA t 5 j = cB9 (ccf h) (hA h 4) (hA h 5) n.toNat j) ∧ Fr [4, 5, 8, 9] [(0, 0), (2, 2)] h t))) ∧ BI t ∧ Fr bAr bGk h t) := by
  intro m
  induction m with
  | zero => intro t h' hm; exact absurd hm (Nat.not_lt_zero _)
  | succ m ih =>
    intro t h' hm t0 t1 fr bi' iv ib
    have sh' := sh.fr fr (by decide +kernel) (by decide)
    refine Wp.ild_n (j := 2) rfl dX5_go_19 ?_
    refine Wp.ild_n (j := 1) rfl dX5_go_20 ?_
    refine Wp.icge dX5_go_21 (by decide) (tgt := 51) (fun c21 => ?_) (fun c21 => ?_)
    · refine Wp.ald_n (j := 0) rfl dX5_go_51 ?_
      refine Wp.getf (k := 2) (tg := 2) kC5 (by decide) rfl lf_X5_22 dX5_go_52 (sK0 (h := h') sh') (sF0_2 (h := h') sh') ?_
      refine Wp.dup dX5_go_55 (Or.inr rfl) ?_
      refine Wp.getfN (k := 2) (tg := 0) kC0 (by decide) rfl lf_X5_164 dX5_go_56 (sK2 (h := h') sh') (show hF _ 2 2 = hF h' 2 2 from rfl) ?_
      refine Wp.ild_n (j := 1) rfl dX5_go_59 ?_
      refine Wp.iaddE dX5_go_60 rfl ?_
      refine Wp.putfN (k := 2) (tg := 0) kC0 (by decide) rfl rfl lf_X5_164 dX5_go_61 (sK2 (h := h') sh') ?_
      refine Wp.ald_n (j := 0) rfl dX5_go_64 ?_
      refine Wp.callV1 (ct_accept (d + 2) _ (sh'.fr (A := []) (G := [(2, 2)]) (Fr.f (by decide)) (by decide +kernel) (by decide))) wc_X5_73 iM_X5_accept se_X5_accept kC5 (sK0 (h := h') sh') dX5_go_65 rfl (Nat.le_of_ble_eq_true rfl) rfl (Nat.le_of_ble_eq_true rfl) ?_
      refine Wp.zret rfl dX5_go_68 (by omega) ?_
      have et : t = n := by omega
      rw [et] at iv ib
      refine ⟨⟨_, rfl, Or.inr ⟨rfl, ⟨g0, g1⟩, ?_, iv, ib, (fr.mono (by decide) (by simp)).tr ((Fr.f (by decide)).tr (Fr.f (by decide)))⟩⟩, bi', (fr.mono (by decide) (by simp)).tr ((Fr.f (by decide)).tr (Fr.f (by decide)))⟩
      show w32 (hF h' 2 2 + n) = w32 (hF h 2 2 + n)
      rw [fr.2.2.2.2.1 2 2 (by simp)]
    · refine Wp.ald_n (j := 0) rfl dX5_go_24 ?_
      refine Wp.getf (k := 2) (tg := 2) kC5 (by decide) rfl lf_X5_22 dX5_go_25 (sK0 (h := h') sh') (sF0_2 (h := h') sh') ?_
      refine Wp.ald_n (j := 0) rfl dX5_go_28 ?_
      refine Wp.getf (k := 2) (tg := 2) kC5 (by decide) rfl lf_X5_22 dX5_go_29 (sK0 (h := h') sh') (sF0_2 (h := h') sh') ?_
      refine Wp.getfN (k := 4) (tg := 2) kC0 (by decide) rfl lf_X5_135 dX5_go_32 (sK2 (h := h') sh') (sF2_4 (h := h') sh') ?_
      refine Wp.ald_n (j := 0) rfl dX5_go_35 ?_
      refine Wp.getf (k := 2) (tg := 2) kC5 (by decide) rfl lf_X5_22 dX5_go_36 (sK0 (h := h') sh') (sF0_2 (h := h') sh') ?_
      refine Wp.getfN (k := 5) (tg := 2) kC0 (by decide) rfl lf_X5_167 dX5_go_39 (sK2 (h := h') sh') (sF2_5 (h := h') sh') ?_
      obtain ⟨_, t42, ct42, rfl, f42, r42, l42⟩ := cq_tickY d h' sh' bi' bi'.2.2.2.1
      refine Wp.callV0 (ct42) wc_X5_175 iM_X0_tick se_X0_tick kC0 (sK2 (h := h') sh') dX5_go_42 rfl (Nat.le_of_ble_eq_true rfl) rfl (Nat.le_of_ble_eq_true rfl) ?_
      refine inc_3_2 rfl dX5_go_45 (by first | exact w32_of (by omega) (by omega) | rfl) ?_
      refine Wp.goto (tgt := 19) dX5_go_48 (by decide) ?_
      have e20 : hF t42 2 0 = hF h' 2 0 := f42.2.2.2.2.1 2 0 (by simp)
      have e21 : hF t42 2 1 = hF h' 2 1 := f42.2.2.2.2.1 2 1 (by simp)
      have e28 : hF t42 2 8 = hF h' 2 8 := f42.2.2.2.2.1 2 8 (by simp)
      have e7 : hA t42 7 = hA h' 7 := f42.2.2.2.2.2 7 (by decide)
      have en : hF h' 2 1 = hF h 2 1 := fr.2.2.2.2.1 2 1 (by simp)
      have ec : ccf h' = ccf h := ccf_fr fr (by decide) (by decide) (by decide) (by simp) (by simp) (by simp)
      refine ih (t + 1) t42 (by omega) (by omega) (by omega) (fr.tr (f42.mono (by decide) (by simp))) ?_ (fun j j0 j1 => ?_) ?_
      · unfold BI
        rw [e20, e21, e28, e7]
        exact ⟨bi'.1, bi'.2.1, bi'.2.2.1, fun j j0 j1 => (r42 j j0 j1).2, bi'.2.2.2.2⟩
      · rw [(r42 j j0 (by omega)).1, ec, cT9_eq (c := ccf h) (f := hA h' 4) (g := cI9 (ccf h) (hA h 4) t.toNat) (fun i i0 i1 => iv i i0 i1), show (t + 1).toNat = t.toNat + 1 by omega]
        rfl
      · rw [ec, cF9_eq (c := ccf h) (f := hA h' 4) (g := cI9 (ccf h) (hA h 4) t.toNat) (fun i i0 i1 => iv i i0 i1), en] at l42
        rw [show (t + 1).toNat = t.toNat + 1 by omega]
        exact cB9_s ib l42

theorem cq_go (d : Nat) (h : mH) (sh : Sh h) (bi : BI h) (n : Int) : Cq m_X5_go (d + 3) [(2, 0), (0, n)] h (fun r t => (∃ y, r = some (0, y) ∧ ((y = 0 ∧ ¬ (0 ≤ n ∧ n ≤ 20000) ∧ Fr [] [(0, 0)] h t) ∨ (y = 1 ∧ (0 ≤ n ∧ n ≤ 20000) ∧ hF t 2 2 = w32 (hF h 2 2 + n) ∧ (∀ j, 0 ≤ j → j < hF h 2 1 → hA t 4 j = cI9 (ccf h) (hA h 4) n.toNat j) ∧ (∀ j, 0 ≤ j → j < hF h 2 1 → hA t 5 j = cB9 (ccf h) (hA h 4) (hA h 5) n.toNat j) ∧ Fr [4, 5, 8, 9] [(0, 0), (2, 2)] h t))) ∧ BI t ∧ Fr bAr bGk h t) := by
  refine Cq.of ?_
  show Wp m_X5_go ((d + 3)) 0 [(2, 0), (0, n), (9, 0)] [] h _
  refine Wp.ild_n (j := 1) rfl dX5_go_0 ?_
  refine Wp.iflt dX5_go_1 (by decide) (tgt := 11) (fun c1 => ?_) (fun c1 => ?_)
  · refine Wp.ald_n (j := 0) rfl dX5_go_11 ?_
    refine Wp.iconst dX5_go_12 (by decide) ?_
    refine Wp.callV1 (ct_refuse (d + 2) h sh 2) wc_X5_65 iM_X5_refuse se_X5_refuse kC5 (sK0 (h := h) sh) dX5_go_13 rfl (Nat.le_of_ble_eq_true rfl) rfl (Nat.le_of_ble_eq_true rfl) ?_
    refine Wp.zret rfl dX5_go_16 (by omega) ?_
    exact ⟨⟨_, rfl, Or.inl ⟨rfl, by omega, Fr.f (by decide)⟩⟩, bi, Fr.f (by decide)⟩
  · refine Wp.ild_n (j := 1) rfl dX5_go_4 ?_
    refine Wp.sipush dX5_go_5 (by decide) ?_
    refine Wp.icle dX5_go_8 (by decide) (tgt := 17) (fun c8 => ?_) (fun c8 => ?_)
    · refine Wp.iconst dX5_go_17 (by decide) ?_
      refine sti_3_2 rfl (dSt_n dX5_go_18) ?_
      exact goX_loop d h sh bi n (by omega) (by omega) _ 0 h (Nat.lt_succ_self _) (Int.le_refl _) (by omega) Fr.rf bi (fun j j0 j1 => rfl) (fun j j0 j1 => rfl)
    · refine Wp.ald_n (j := 0) rfl dX5_go_11 ?_
      refine Wp.iconst dX5_go_12 (by decide) ?_
      refine Wp.callV1 (ct_refuse (d + 2) h sh 2) wc_X5_65 iM_X5_refuse se_X5_refuse kC5 (sK0 (h := h) sh) dX5_go_13 rfl (Nat.le_of_ble_eq_true rfl) rfl (Nat.le_of_ble_eq_true rfl) ?_
      refine Wp.zret rfl dX5_go_16 (by omega) ?_
      exact ⟨⟨_, rfl, Or.inl ⟨rfl, by omega, Fr.f (by decide)⟩⟩, bi, Fr.f (by decide)⟩

