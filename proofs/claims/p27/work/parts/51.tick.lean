/-! ===== the reference's tick, told purely ===== -/
def cutF (n : Int) (f : Int → Int) : Int → Int := fun j => if 0 ≤ j ∧ j < n then f j else 0
theorem cutF_in {n j : Int} {f : Int → Int} (h0 : 0 ≤ j) (h1 : j < n) : cutF n f j = f j := if_pos ⟨h0, h1⟩
theorem cutF_eq {n : Int} {f g : Int → Int} (h : ∀ j, 0 ≤ j → j < n → f j = g j) : cutF n f = cutF n g := by
  funext j
  unfold cutF
  by_cases hj : 0 ≤ j ∧ j < n
  · rw [if_pos hj, if_pos hj, h j hj.1 hj.2]
  · rw [if_neg hj, if_neg hj]
/-- how many, the ring, the push table's length; kinds, roads, pushes -/
abbrev mCf : Type := (Int × Int × Int) × (Int → Int) × (Int → Int) × (Int → Int)
def mcf (h : mH) : mCf := ((hF h 41 6, hF h 41 5, hF h 41 8), hA h 45, hA h 49, hA h 47)
theorem mcf_fr {A : List Int} {G : List (Int × Nat)} {h h' : mH} (fr : Fr A G h h') (a5 : (45 : Int) ∉ A) (a9 : (49 : Int) ∉ A) (a7 : (47 : Int) ∉ A) (g0 : ((41 : Int), 5) ∉ G) (g1 : ((41 : Int), 6) ∉ G) (g8 : ((41 : Int), 8) ∉ G) : mcf h' = mcf h := by
  unfold mcf
  rw [fr.2.2.2.2.1 41 5 g0, fr.2.2.2.2.1 41 6 g1, fr.2.2.2.2.1 41 8 g8, fr.2.2.2.2.2 45 a5, fr.2.2.2.2.2 49 a9, fr.2.2.2.2.2 47 a7]
def mpd (r x : Int) : Int := if (x + r).tmod r * 2 ≤ r then (x + r).tmod r else (x + r).tmod r - r
def mpl (se : Int → Int) (r : Int) (f : Int → Int) (a : Int) : Nat → Int × Int
  | 0 => (0, 0)
  | b + 1 => if (b : Int) = a ∨ se (24 * a + b) = 0 then mpl se r f a b else ((mpl se r f a b).1 + mpd r (f b - f a), (mpl se r f a b).2 + 1)
def mpv (c : mCf) (f : Int → Int) (a : Int) : Int := ((f a + 1 + (mpl c.2.2.1 c.1.2.1 f a c.1.1.toNat).1.tdiv ((mpl c.2.2.1 c.1.2.1 f a c.1.1.toNat).2 + 1)).tmod c.1.2.1 + c.1.2.1).tmod c.1.2.1
theorem mpd_bd {r x : Int} (h1 : -r < x) (h2 : x < r) (h3 : r ≤ 4096) : -4096 ≤ mpd r x ∧ mpd r x ≤ 4096 := by
  have := tdn (a := x + r) (b := r) (by omega) (by omega)
  unfold mpd
  split <;> omega
theorem mpl_bd {se f : Int → Int} {r a : Int} (r1 : r ≤ 4096) (ha : 0 ≤ f a ∧ f a < r) : ∀ n : Nat, (∀ k : Int, 0 ≤ k → k < n → 0 ≤ f k ∧ f k < r) → -(4096 * (n : Int)) ≤ (mpl se r f a n).1 ∧ (mpl se r f a n).1 ≤ 4096 * n ∧ 0 ≤ (mpl se r f a n).2 ∧ (mpl se r f a n).2 ≤ n
  | 0, _ => by simp [mpl]
  | n + 1, hf => by
    obtain ⟨h1, h2, h3, h4⟩ := mpl_bd (se := se) r1 ha n (fun k hk hk2 => hf k hk (by omega))
    have hn := hf n (by omega) (by omega)
    have hd := mpd_bd (r := r) (x := f n - f a) (by omega) (by omega) r1
    unfold mpl
    split
    · refine ⟨by omega, by omega, by omega, by omega⟩
    · dsimp only
      refine ⟨by omega, by omega, by omega, by omega⟩
theorem tdn_abs {a b M : Int} (hb : 1 ≤ b) (h1 : -M ≤ a) (h2 : a ≤ M) : -M ≤ a.tdiv b ∧ a.tdiv b ≤ M := by
  rcases Int.le_total 0 a with h | h
  · have := tdn (a := a) (b := b) h (by omega)
    omega
  · have := tdn (a := -a) (b := b) (by omega) (by omega)
    rw [Int.neg_tdiv] at this
    omega
theorem tmd_abs {a b : Int} (hb : 1 ≤ b) : -b < a.tmod b ∧ a.tmod b < b := by
  rcases Int.le_total 0 a with h | h
  · have := tdn (a := a) (b := b) h (by omega)
    omega
  · have := tdn (a := -a) (b := b) (by omega) (by omega)
    rw [Int.neg_tmod] at this
    omega
theorem mpv_bd (c : mCf) (f : Int → Int) (a : Int) (r0 : 2 ≤ c.1.2.1) : 0 ≤ mpv c f a ∧ mpv c f a < c.1.2.1 := by
  unfold mpv
  have h1 := tmd_abs (a := f a + 1 + (mpl c.2.2.1 c.1.2.1 f a c.1.1.toNat).1.tdiv ((mpl c.2.2.1 c.1.2.1 f a c.1.1.toNat).2 + 1)) (b := c.1.2.1) (by omega)
  exact (tdn (by omega) (by omega)).2.2
def mg (c : mCf) (f : Int → Int) (a : Int) : Int := if c.2.1 a = 1 then mpv c f a else if c.2.1 a = 2 then f a + 1 else (f a + 1).tmod c.1.2.1
/-- the line: how many; who; phases; who is in it -/
abbrev mS : Type := Int × (Int → Int) × (Int → Int) × (Int → Int)
def ml2 (c : mCf) : Nat → Int → mS → mS
  | 0, _, s => s
  | m + 1, a, s => if a < c.1.1 then ml2 c m (a + 1) (if c.2.1 a = 2 ∧ c.1.2.1 ≤ s.2.2.1 a then (s.1 + 1, u1 s.2.1 s.1 a, s.2.2.1, u1 s.2.2.2 a 1) else s) else s
def mvw (c : mCf) (a : Int) (s : mS) : Int := s.2.2.1 a + c.2.2.2 ((s.2.2.1 a * c.1.2.2).tdiv c.1.2.1)
def mi1 (c : mCf) (b a : Int) (s : mS) : mS := if c.2.1 a ≠ 2 then s else if s.2.2.2 a ≠ 0 then s else if c.2.2.1 (24 * a + b) = 0 then s else if mvw c a s < c.1.2.1 then (s.1, s.2.1, u1 s.2.2.1 a (mvw c a s), s.2.2.2) else (s.1 + 1, u1 s.2.1 s.1 a, u1 s.2.2.1 a (mvw c a s), u1 s.2.2.2 a 1)
def mi3 (c : mCf) (b : Int) : Nat → Int → mS → mS
  | 0, _, s => s
  | m + 1, a, s => if a < c.1.1 then mi3 c b m (a + 1) (mi1 c b a s) else s
def mo (c : mCf) : Nat → Int → mS → mS
  | 0, _, s => s
  | m + 1, k, s => if k < s.1 then mo c m (k + 1) (mi3 c (s.2.1 k) 25 0 (s.1, s.2.1, u1 s.2.2.1 (s.2.1 k) 0, s.2.2.2)) else s
def mst (c : mCf) (f : Int → Int) : mS := (0, fun _ => 0, mg c f, fun _ => 0)
/-- the tick -/
def mT (c : mCf) (f : Int → Int) : Int → Int := cutF c.1.1 (mo c 26 0 (ml2 c 25 0 (mst c (cutF c.1.1 f)))).2.2.1
theorem mT_eq {c : mCf} {f g : Int → Int} (h : ∀ j, 0 ≤ j → j < c.1.1 → f j = g j) : mT c f = mT c g := by
  unfold mT
  rw [cutF_eq h]
/-- what holds of the line: m beaters asked, k of it done -/
def LN (n r m k : Int) (s : mS) : Prop := (0 ≤ k ∧ 0 ≤ s.1) ∧ (∀ j, 0 ≤ j → j < n → 0 ≤ s.2.2.1 j ∧ s.2.2.1 j ≤ 8192 ∧ (s.2.2.2 j = 0 → j < m → s.2.2.1 j < r)) ∧ (∀ i, 0 ≤ i → i < s.1 → 0 ≤ s.2.1 i ∧ s.2.1 i < n ∧ s.2.2.2 (s.2.1 i) ≠ 0) ∧ (∀ i j, 0 ≤ i → i < s.1 → 0 ≤ j → j < s.1 → s.2.1 i = s.2.1 j → i = j) ∧ (∀ j, 0 ≤ j → j < n → s.2.2.2 j ≠ 0 → ∃ i, 0 ≤ i ∧ i < s.1 ∧ s.2.1 i = j) ∧ ∀ i, 0 ≤ i → i < k → i < s.1 → s.2.2.1 (s.2.1 i) = 0
theorem LN.nf {n r m k a : Int} {s : mS} (h : LN n r m k s) (ha : s.2.2.2 a = 0) : ∀ i, 0 ≤ i → i < s.1 → s.2.1 i ≠ a := fun i h0 h1 e => (h.2.2.1 i h0 h1).2.2 (by rw [e]; exact ha)
theorem LN.room {n r m k a : Int} {s : mS} (h : LN n r m k s) (ha : s.2.2.2 a = 0) (a0 : 0 ≤ a) (a1 : a < n) : s.1 + 1 ≤ n := by
  obtain ⟨⟨-, h1⟩, -, h4, h5, -⟩ := id h
  have hne := h.nf ha
  refine pigeonI (f := fun i => if i = s.1 then a else s.2.1 i) (by omega) (fun i i0 i1 => ?_) (fun i j i0 i1 j0 j1 e => ?_)
  · split
    · omega
    · have := h4 i i0 (by omega)
      omega
  · split at e <;> split at e
    · omega
    · exact absurd e.symm (hne j j0 (by omega))
    · exact absurd e (hne i i0 (by omega))
    · exact h5 i j i0 (by omega) j0 (by omega) e
theorem LN.fits {n r m k : Int} {s : mS} (h : LN n r m k s) (hn : 0 ≤ n) : s.1 ≤ n := by
  obtain ⟨⟨-, h1⟩, -, h4, h5, -⟩ := h
  exact pigeonI (f := s.2.1) hn (fun i i0 i1 => by have := h4 i i0 i1; omega) (fun i j i0 i1 j0 j1 e => h5 i j i0 i1 j0 j1 e)
/-- one more in the line, whose phase may be set ahead -/
theorem LN.app {n r m m' k a v : Int} {s : mS} (h : LN n r m k s) (ha : s.2.2.2 a = 0) (a0 : 0 ≤ a) (a1 : a < n) (v0 : 0 ≤ v) (v1 : v ≤ 8192) (hk : k ≤ s.1) (hm : ∀ j, 0 ≤ j → j < m' → j ≠ a → j < m) : LN n r m' k (s.1 + 1, u1 s.2.1 s.1 a, u1 s.2.2.1 a v, u1 s.2.2.2 a 1) := by
  obtain ⟨h1, h2, h4, h5, h6, h7⟩ := id h
  have hne := h.nf ha
  refine ⟨⟨h1.1, by show 0 ≤ s.1 + 1; omega⟩, fun j j0 j1 => ?_, fun i i0 i1 => ?_, fun i j i0 i1 j0 j1 e => ?_, fun j j0 j1 hj => ?_, fun i i0 i1 i2 => ?_⟩
  · show 0 ≤ u1 s.2.2.1 a v j ∧ u1 s.2.2.1 a v j ≤ 8192 ∧ (u1 s.2.2.2 a 1 j = 0 → j < m' → u1 s.2.2.1 a v j < r)
    by_cases hja : j = a
    · rw [hja, u1_s, u1_s]
      exact ⟨v0, v1, fun z => absurd z (by decide)⟩
    · rw [u1_n _ _ hja, u1_n _ _ hja]
      have := h2 j j0 j1
      exact ⟨this.1, this.2.1, fun z y => this.2.2 z (hm j j0 y hja)⟩
  · have i1' : i < s.1 + 1 := i1
    show 0 ≤ u1 s.2.1 s.1 a i ∧ u1 s.2.1 s.1 a i < n ∧ u1 s.2.2.2 a 1 (u1 s.2.1 s.1 a i) ≠ 0
    by_cases hi : i = s.1
    · rw [hi, u1_s, u1_s]
      exact ⟨a0, a1, by decide⟩
    · rw [u1_n _ _ hi]
      have := h4 i i0 (by omega)
      refine ⟨this.1, this.2.1, ?_⟩
      rw [u1_n _ _ (hne i i0 (by omega))]
      exact this.2.2
  · have i1' : i < s.1 + 1 := i1
    have j1' : j < s.1 + 1 := j1
    have e' : u1 s.2.1 s.1 a i = u1 s.2.1 s.1 a j := e
    by_cases hi : i = s.1 <;> by_cases hj : j = s.1
    · omega
    · rw [hi, u1_s, u1_n _ _ hj] at e'
      exact absurd e'.symm (hne j j0 (by omega))
    · rw [hj, u1_s, u1_n _ _ hi] at e'
      exact absurd e' (hne i i0 (by omega))
    · rw [u1_n _ _ hi, u1_n _ _ hj] at e'
      exact h5 i j i0 (by omega) j0 (by omega) e'
  · have hj' : u1 s.2.2.2 a 1 j ≠ 0 := hj
    show ∃ i, 0 ≤ i ∧ i < s.1 + 1 ∧ u1 s.2.1 s.1 a i = j
    by_cases hja : j = a
    · exact ⟨s.1, h1.2, by omega, by rw [u1_s]; exact hja.symm⟩
    · rw [u1_n _ _ hja] at hj'
      obtain ⟨i, x, y, z⟩ := h6 j j0 j1 hj'
      exact ⟨i, x, by omega, by rw [u1_n _ _ (by omega)]; exact z⟩
  · show u1 s.2.2.1 a v (u1 s.2.1 s.1 a i) = 0
    rw [u1_n s.2.1 _ (show i ≠ s.1 by omega), u1_n _ _ (hne i i0 (by omega))]
    exact h7 i i0 i1 (by omega)
theorem LN.up {n r m k a v : Int} {s : mS} (h : LN n r m k s) (ha : s.2.2.2 a = 0) (v0 : 0 ≤ v) (v1 : v ≤ 8192) (vr : v < r) : LN n r m k (s.1, s.2.1, u1 s.2.2.1 a v, s.2.2.2) := by
  obtain ⟨h1, h2, h4, h5, h6, h7⟩ := id h
  have hne := h.nf ha
  refine ⟨h1, fun j j0 j1 => ?_, h4, h5, h6, fun i i0 i1 i2 => ?_⟩
  · show 0 ≤ u1 s.2.2.1 a v j ∧ u1 s.2.2.1 a v j ≤ 8192 ∧ (s.2.2.2 j = 0 → j < m → u1 s.2.2.1 a v j < r)
    by_cases hja : j = a
    · rw [hja, u1_s]
      exact ⟨v0, v1, fun _ _ => vr⟩
    · rw [u1_n _ _ hja]
      exact h2 j j0 j1
  · show u1 s.2.2.1 a v (s.2.1 i) = 0
    rw [u1_n _ _ (hne i i0 i2)]
    exact h7 i i0 i1 i2
theorem LN.zero {n r m k : Int} {s : mS} (h : LN n r m k s) (hr : 0 < r) (hk : k < s.1) : LN n r m (k + 1) (s.1, s.2.1, u1 s.2.2.1 (s.2.1 k) 0, s.2.2.2) := by
  obtain ⟨h1, h2, h4, h5, h6, h7⟩ := h
  refine ⟨⟨by omega, h1.2⟩, fun j j0 j1 => ?_, h4, h5, h6, fun i i0 i1 i2 => ?_⟩
  · show 0 ≤ u1 s.2.2.1 (s.2.1 k) 0 j ∧ u1 s.2.2.1 (s.2.1 k) 0 j ≤ 8192 ∧ (s.2.2.2 j = 0 → j < m → u1 s.2.2.1 (s.2.1 k) 0 j < r)
    unfold u1
    split
    · omega
    · exact h2 j j0 j1
  · show u1 s.2.2.1 (s.2.1 k) 0 (s.2.1 i) = 0
    unfold u1
    split
    · rfl
    · rename_i hne
      by_cases hi : i = k
      · rw [hi] at hne
        exact absurd rfl hne
      · exact h7 i i0 (by omega) i2
theorem LN.done {n r k : Int} {s : mS} (h : LN n r n k s) (hr : 0 < r) (hk : s.1 ≤ k) : ∀ j, 0 ≤ j → j < n → 0 ≤ s.2.2.1 j ∧ s.2.2.1 j < r := by
  intro j j0 j1
  have hj := h.2.1 j j0 j1
  refine ⟨hj.1, ?_⟩
  by_cases z : s.2.2.2 j = 0
  · exact hj.2.2 z j1
  · obtain ⟨i, i0, i1, e⟩ := h.2.2.2.2.1 j j0 j1 z
    have := h.2.2.2.2.2 i i0 (by omega) i1
    rw [e] at this
    omega
theorem u1_cg {f g : Int → Int} {a v j : Int} (h : j ≠ a → f j = g j) : u1 f a v j = u1 g a v j := by
  unfold u1
  split
  · rfl
  · rename_i e
    exact h e
/-- the line in the heap -/
def LR (n : Int) (h : mH) (s : mS) : Prop := (∀ j, 0 ≤ j → j < n → hA h 50 j = s.2.2.1 j) ∧ (∀ j, 0 ≤ j → j < n → hA h 52 j = s.2.2.2 j) ∧ ∀ i, 0 ≤ i → i < s.1 → hA h 51 i = s.2.1 i
theorem LR.up {n a v : Int} {h : mH} {s : mS} (rl : LR n h s) : LR n (sE h 50 a v) (s.1, s.2.1, u1 s.2.2.1 a v, s.2.2.2) := by
  refine ⟨fun j j0 j1 => ?_, fun j j0 j1 => ?_, fun i i0 i1 => ?_⟩
  · rw [hA_sEs]
    exact u1_cg (fun _ => rl.1 j j0 j1)
  · rw [hA_sEn (by decide)]
    exact rl.2.1 j j0 j1
  · rw [hA_sEn (by decide)]
    exact rl.2.2 i i0 i1
theorem LR.app {n a : Int} {h : mH} {s : mS} (rl : LR n h s) : LR n (sE (sE h 51 s.1 a) 52 a 1) (s.1 + 1, u1 s.2.1 s.1 a, s.2.2.1, u1 s.2.2.2 a 1) := by
  refine ⟨fun j j0 j1 => ?_, fun j j0 j1 => ?_, fun i i0 i1 => ?_⟩
  · rw [hA_sEn (by decide), hA_sEn (by decide)]
    exact rl.1 j j0 j1
  · rw [hA_sEs, hA_sEn (by decide)]
    exact u1_cg (fun _ => rl.2.1 j j0 j1)
  · have i1' : i < s.1 + 1 := i1
    rw [hA_sEn (by decide), hA_sEs]
    exact u1_cg (fun e => rl.2.2 i i0 (by omega))
theorem LR.beat {n a v : Int} {h : mH} {s : mS} (rl : LR n h s) : LR n (sE h 53 a v) s := by
  refine ⟨fun j j0 j1 => ?_, fun j j0 j1 => ?_, fun i i0 i1 => ?_⟩
  · rw [hA_sEn (by decide)]
    exact rl.1 j j0 j1
  · rw [hA_sEn (by decide)]
    exact rl.2.1 j j0 j1
  · rw [hA_sEn (by decide)]
    exact rl.2.2 i i0 i1
theorem mvw_bd {n r m k a : Int} {c : mCf} {s : mS} (h : LN n r m k s) (ec : c.1.2.1 = r) (a0 : 0 ≤ a) (a1 : a < n) (am : a < m) (ha : s.2.2.2 a = 0) (r0 : 2 ≤ r) (r1 : r ≤ 4096) (m0 : 1 ≤ c.1.2.2 ∧ c.1.2.2 ≤ 16) (hq : ∀ i, 0 ≤ i → i < 16 → 0 ≤ c.2.2.2 i ∧ c.2.2.2 i ≤ 4096) : (0 ≤ s.2.2.1 a ∧ s.2.2.1 a < r ∧ 0 ≤ s.2.2.1 a * c.1.2.2 ∧ s.2.2.1 a * c.1.2.2 ≤ 65536) ∧ (0 ≤ (s.2.2.1 a * c.1.2.2).tdiv r ∧ (s.2.2.1 a * c.1.2.2).tdiv r < 16) ∧ 0 ≤ mvw c a s ∧ mvw c a s ≤ 8191 := by
  have h1 := h.2.1 a a0 a1
  have h2 := h1.2.2 ha am
  have h3 := Int.mul_nonneg h1.1 (show 0 ≤ c.1.2.2 by omega)
  have h4 : s.2.2.1 a * c.1.2.2 ≤ 4096 * 16 := Int.mul_le_mul (by omega) m0.2 (by omega) (by omega)
  have h5 : s.2.2.1 a * c.1.2.2 < c.1.2.2 * r := by
    rw [Int.mul_comm c.1.2.2 r]
    exact Int.mul_lt_mul_of_pos_right h2 (by omega)
  have h6 := tdn (a := s.2.2.1 a * c.1.2.2) (b := r) h3 (by omega)
  have h7 : (s.2.2.1 a * c.1.2.2).tdiv r < c.1.2.2 := by
    rw [Int.tdiv_eq_ediv_of_nonneg h3]
    exact Int.ediv_lt_of_lt_mul (by omega) h5
  have h8 := hq ((s.2.2.1 a * c.1.2.2).tdiv r) h6.1 (by omega)
  unfold mvw
  rw [ec]
  exact ⟨⟨h1.1, h2, h3, by omega⟩, ⟨h6.1, by omega⟩, by omega, by omega⟩
theorem pulled_loop (d : Nat) (h : mH) (sh : Sh h) (mb : MB h) (ra : Int) (kr : hK h ra = 10) (lr : hL h ra = 24) (hr : ∀ j, 0 ≤ j → j < hF h 41 6 → 0 ≤ hA h ra j ∧ hA h ra j < hF h 41 5) (a : Int) (a0 : 0 ≤ a) (a1 : a < hF h 41 6) : ∀ (m : Nat) (b s e : Int) (x7 : mV), (hF h 41 6 - b).toNat < m → (0 ≤ b) → (b ≤ hF h 41 6) → (s = (mpl (hA h 49) (hF h 41 5) (hA h ra) a b.toNat).1) → (e = (mpl (hA h 49) (hF h 41 5) (hA h ra) a b.toNat).2) → Wp m_X6_pulled d 8 [(2, 41), (2, ra), (0, a), (1, s), (9, 0), (0, e), (0, b), x7] [] h (fun r t => r = some (0, mpv (mcf h) (hA h ra) a) ∧ t = h) := by
  intro m
  induction m with
  | zero => intro b s e x7 hm; exact absurd hm (Nat.not_lt_zero _)
  | succ m ih =>
    intro b s e x7 hm b0 b1 es ee
    obtain ⟨⟨r0, r1⟩, ⟨n0, n1⟩, ⟨m0, m1⟩, hp, hq⟩ := id mb
    have ha := hr a a0 a1
    have hbd := mpl_bd (se := hA h 49) (f := hA h ra) (r := hF h 41 5) (a := a) r1 ha b.toNat (fun k k0 k1 => hr k k0 (by omega))
    have hb := fun (z : b < hF h 41 6) => hr b b0 z
    have htd := tdn_abs (a := s) (b := e + 1) (M := 98304) (by omega) (by omega) (by omega)
    have hmd := tmd_abs (a := hA h ra a + 1 + s.tdiv (e + 1)) (b := hF h 41 5) (by omega)
    refine Wp.ild (j := 6) rfl dX6_pulled_8 ?_
    refine Wp.ald_n (j := 0) rfl dX6_pulled_10 ?_
    refine Wp.getf (k := 6) (tg := 0) kC6 (by decide) rfl lf_X6_141 dX6_pulled_11 (sK41 (h := h) sh) (show hF _ 41 6 = hF h 41 6 from rfl) ?_
    refine Wp.icge dX6_pulled_14 (by decide) (tgt := 96) (fun c14 => ?_) (fun c14 => ?_)
    · refine Wp.lld_n (j := 3) rfl dX6_pulled_96 ?_
      refine Wp.ild (j := 5) rfl dX6_pulled_97 ?_
      refine Wp.iconst dX6_pulled_99 (by decide) ?_
      refine Wp.iaddE dX6_pulled_100 (by first | exact w32_of (by omega) (by omega) | rfl) ?_
      refine Wp.i2l dX6_pulled_101 ?_
      refine Wp.ldivE dX6_pulled_102 (by omega) (w64_of (by omega) (by omega)) ?_
      refine Wp.l2iE dX6_pulled_103 (by first | exact w32_of (by omega) (by omega) | rfl) ?_
      refine sti_8_6 rfl (dSt_w dX6_pulled_104) ?_
      refine Wp.ald_n (j := 1) rfl dX6_pulled_106 ?_
      refine Wp.ild_n (j := 2) rfl dX6_pulled_107 ?_
      refine Wp.iaload dX6_pulled_108 kr (by omega) (ilt lr (by omega)) (show hA _ ra _ = hA h ra _ from rfl) ?_
      refine Wp.iconst dX6_pulled_109 (by decide) ?_
      refine Wp.iaddE dX6_pulled_110 (by first | exact w32_of (by omega) (by omega) | rfl) ?_
      refine Wp.ild (j := 6) rfl dX6_pulled_111 ?_
      refine Wp.iaddE dX6_pulled_113 (by first | exact w32_of (by omega) (by omega) | rfl) ?_
      refine Wp.ald_n (j := 0) rfl dX6_pulled_114 ?_
      refine Wp.getf (k := 5) (tg := 0) kC6 (by decide) rfl lf_X6_22 dX6_pulled_115 (sK41 (h := h) sh) (show hF _ 41 5 = hF h 41 5 from rfl) ?_
      refine Wp.iremE dX6_pulled_118 (by omega) rfl ?_
      refine Wp.ald_n (j := 0) rfl dX6_pulled_119 ?_
      refine Wp.getf (k := 5) (tg := 0) kC6 (by decide) rfl lf_X6_22 dX6_pulled_120 (sK41 (h := h) sh) (show hF _ 41 5 = hF h 41 5 from rfl) ?_
      refine Wp.iaddE dX6_pulled_123 (by first | exact w32_of (by omega) (by omega) | rfl) ?_
      refine Wp.ald_n (j := 0) rfl dX6_pulled_124 ?_
      refine Wp.getf (k := 5) (tg := 0) kC6 (by decide) rfl lf_X6_22 dX6_pulled_125 (sK41 (h := h) sh) (show hF _ 41 5 = hF h 41 5 from rfl) ?_
      refine Wp.iremE dX6_pulled_128 (by omega) rfl ?_
      refine Wp.iret rfl dX6_pulled_129 ?_
      have e9 : b = hF h 41 6 := by omega
      refine ⟨?_, rfl⟩
      unfold mpv mcf
      rw [es, ee, e9]
    · refine Wp.ild (j := 6) rfl dX6_pulled_17 ?_
      refine Wp.ild_n (j := 2) rfl dX6_pulled_19 ?_
      refine Wp.iceq dX6_pulled_20 (by decide) (tgt := 90) (fun c20 => ?_) (fun c20 => ?_)
      · refine inc_8_6 rfl dX6_pulled_90 (by first | exact w32_of (by omega) (by omega) | rfl) ?_
        refine Wp.goto (tgt := 8) dX6_pulled_93 (by decide) ?_
        have hu : mpl (hA h 49) (hF h 41 5) (hA h ra) a (b + 1).toNat = if ((b.toNat : Nat) : Int) = a ∨ hA h 49 (24 * a + (b.toNat : Nat)) = 0 then mpl (hA h 49) (hF h 41 5) (hA h ra) a b.toNat else ((mpl (hA h 49) (hF h 41 5) (hA h ra) a b.toNat).1 + mpd (hF h 41 5) (hA h ra (b.toNat : Nat) - hA h ra a), (mpl (hA h 49) (hF h 41 5) (hA h ra) a b.toNat).2 + 1) := by
          rw [show (b + 1).toNat = b.toNat + 1 by omega]
          rfl
        rw [show ((b.toNat : Nat) : Int) = b by omega] at hu
        first
        | (rw [if_pos (Or.inl c20)] at hu
           exact ih (b + 1) _ _ _ (by omega) (by omega) (by omega) (by rw [hu]; exact es) (by rw [hu]; exact ee))
        | (rw [if_pos (Or.inr c35)] at hu
           exact ih (b + 1) _ _ _ (by omega) (by omega) (by omega) (by rw [hu]; exact es) (by rw [hu]; exact ee))
        | (rw [if_neg (fun z => z.elim c20 c35)] at hu
           refine ih (b + 1) _ _ _ (by omega) (by omega) (by omega) ?_ (by rw [hu, ee])
           rw [hu, es]
           unfold mpd
           first | rw [if_pos (by omega)] | rw [if_neg (by omega)])
      · refine Wp.ald_n (j := 0) rfl dX6_pulled_23 ?_
        refine Wp.getf (k := 13) (tg := 2) kC6 (by decide) rfl lf_X6_41 dX6_pulled_24 (sK41 (h := h) sh) (sF41_13 (h := h) sh) ?_
        refine Wp.bipush dX6_pulled_27 (by decide) ?_
        refine Wp.ild_n (j := 2) rfl dX6_pulled_29 ?_
        refine Wp.imulE dX6_pulled_30 (by first | exact w32_of (by omega) (by omega) | rfl) ?_
        refine Wp.ild (j := 6) rfl dX6_pulled_31 ?_
        refine Wp.iaddE dX6_pulled_33 (by first | exact w32_of (by omega) (by omega) | rfl) ?_
        refine Wp.zaload dX6_pulled_34 (sK49 (h := h) sh) (by omega) (ilt (sL49 (h := h) sh) (by omega)) (show hA _ 49 _ = hA h 49 _ from rfl) ?_
        refine Wp.ifne dX6_pulled_35 (by decide) (tgt := 41) (fun c35 => ?_) (fun c35 => ?_)
        · have hb := hb (by omega)
          have hbm := tdn (a := hA h ra b - hA h ra a + hF h 41 5) (b := hF h 41 5) (by omega) (by omega)
          refine Wp.ald_n (j := 1) rfl dX6_pulled_41 ?_
          refine Wp.ild (j := 6) rfl dX6_pulled_42 ?_
          refine Wp.iaload dX6_pulled_44 kr (by omega) (ilt lr (by omega)) (show hA _ ra _ = hA h ra _ from rfl) ?_
          refine Wp.ald_n (j := 1) rfl dX6_pulled_45 ?_
          refine Wp.ild_n (j := 2) rfl dX6_pulled_46 ?_
          refine Wp.iaload dX6_pulled_47 kr (by omega) (ilt lr (by omega)) (show hA _ ra _ = hA h ra _ from rfl) ?_
          refine Wp.isubE dX6_pulled_48 (by first | exact w32_of (by omega) (by omega) | rfl) ?_
          refine Wp.ald_n (j := 0) rfl dX6_pulled_49 ?_
          refine Wp.getf (k := 5) (tg := 0) kC6 (by decide) rfl lf_X6_22 dX6_pulled_50 (sK41 (h := h) sh) (show hF _ 41 5 = hF h 41 5 from rfl) ?_
          refine Wp.iaddE dX6_pulled_53 (by first | exact w32_of (by omega) (by omega) | rfl) ?_
          refine Wp.ald_n (j := 0) rfl dX6_pulled_54 ?_
          refine Wp.getf (k := 5) (tg := 0) kC6 (by decide) rfl lf_X6_22 dX6_pulled_55 (sK41 (h := h) sh) (show hF _ 41 5 = hF h 41 5 from rfl) ?_
          refine Wp.iremE dX6_pulled_58 (by omega) rfl ?_
          refine sti_8_7 rfl (dSt_w dX6_pulled_59) ?_
          refine Wp.iconst dX6_pulled_61 (by decide) ?_
          refine Wp.ild (j := 7) rfl dX6_pulled_62 ?_
          refine Wp.imulE dX6_pulled_64 (show w32 (2 * _) = (hA h ra b - hA h ra a + hF h 41 5).tmod (hF h 41 5) * 2 by rw [w32_of (by omega) (by omega)]; omega) ?_
          refine Wp.ald_n (j := 0) rfl dX6_pulled_65 ?_
          refine Wp.getf (k := 5) (tg := 0) kC6 (by decide) rfl lf_X6_22 dX6_pulled_66 (sK41 (h := h) sh) (show hF _ 41 5 = hF h 41 5 from rfl) ?_
          refine Wp.icle dX6_pulled_69 (by decide) (tgt := 81) (fun c69 => ?_) (fun c69 => ?_)
          · refine Wp.lld_n (j := 3) rfl dX6_pulled_81 ?_
            refine Wp.ild (j := 7) rfl dX6_pulled_82 ?_
            refine Wp.i2l dX6_pulled_84 ?_
            refine Wp.laddE dX6_pulled_85 (by first | exact w64_of (by omega) (by omega) | rfl) ?_
            refine stl_8_3 rfl (dSt_n dX6_pulled_86) ?_
            refine inc_8_5 rfl dX6_pulled_87 (by first | exact w32_of (by omega) (by omega) | rfl) ?_
            refine inc_8_6 rfl dX6_pulled_90 (by first | exact w32_of (by omega) (by omega) | rfl) ?_
            refine Wp.goto (tgt := 8) dX6_pulled_93 (by decide) ?_
            have hu : mpl (hA h 49) (hF h 41 5) (hA h ra) a (b + 1).toNat = if ((b.toNat : Nat) : Int) = a ∨ hA h 49 (24 * a + (b.toNat : Nat)) = 0 then mpl (hA h 49) (hF h 41 5) (hA h ra) a b.toNat else ((mpl (hA h 49) (hF h 41 5) (hA h ra) a b.toNat).1 + mpd (hF h 41 5) (hA h ra (b.toNat : Nat) - hA h ra a), (mpl (hA h 49) (hF h 41 5) (hA h ra) a b.toNat).2 + 1) := by
              rw [show (b + 1).toNat = b.toNat + 1 by omega]
              rfl
            rw [show ((b.toNat : Nat) : Int) = b by omega] at hu
            first
            | (rw [if_pos (Or.inl c20)] at hu
               exact ih (b + 1) _ _ _ (by omega) (by omega) (by omega) (by rw [hu]; exact es) (by rw [hu]; exact ee))
            | (rw [if_pos (Or.inr c35)] at hu
               exact ih (b + 1) _ _ _ (by omega) (by omega) (by omega) (by rw [hu]; exact es) (by rw [hu]; exact ee))
            | (rw [if_neg (fun z => z.elim c20 c35)] at hu
               refine ih (b + 1) _ _ _ (by omega) (by omega) (by omega) ?_ (by rw [hu, ee])
               rw [hu, es]
               unfold mpd
               first | rw [if_pos (by omega)] | rw [if_neg (by omega)])
          · refine Wp.ild (j := 7) rfl dX6_pulled_72 ?_
            refine Wp.ald_n (j := 0) rfl dX6_pulled_74 ?_
            refine Wp.getf (k := 5) (tg := 0) kC6 (by decide) rfl lf_X6_22 dX6_pulled_75 (sK41 (h := h) sh) (show hF _ 41 5 = hF h 41 5 from rfl) ?_
            refine Wp.isubE dX6_pulled_78 (by first | exact w32_of (by omega) (by omega) | rfl) ?_
            refine sti_8_7 rfl (dSt_w dX6_pulled_79) ?_
            refine Wp.lld_n (j := 3) rfl dX6_pulled_81 ?_
            refine Wp.ild (j := 7) rfl dX6_pulled_82 ?_
            refine Wp.i2l dX6_pulled_84 ?_
            refine Wp.laddE dX6_pulled_85 (by first | exact w64_of (by omega) (by omega) | rfl) ?_
            refine stl_8_3 rfl (dSt_n dX6_pulled_86) ?_
            refine inc_8_5 rfl dX6_pulled_87 (by first | exact w32_of (by omega) (by omega) | rfl) ?_
            refine inc_8_6 rfl dX6_pulled_90 (by first | exact w32_of (by omega) (by omega) | rfl) ?_
            refine Wp.goto (tgt := 8) dX6_pulled_93 (by decide) ?_
            have hu : mpl (hA h 49) (hF h 41 5) (hA h ra) a (b + 1).toNat = if ((b.toNat : Nat) : Int) = a ∨ hA h 49 (24 * a + (b.toNat : Nat)) = 0 then mpl (hA h 49) (hF h 41 5) (hA h ra) a b.toNat else ((mpl (hA h 49) (hF h 41 5) (hA h ra) a b.toNat).1 + mpd (hF h 41 5) (hA h ra (b.toNat : Nat) - hA h ra a), (mpl (hA h 49) (hF h 41 5) (hA h ra) a b.toNat).2 + 1) := by
              rw [show (b + 1).toNat = b.toNat + 1 by omega]
              rfl
            rw [show ((b.toNat : Nat) : Int) = b by omega] at hu
            first
            | (rw [if_pos (Or.inl c20)] at hu
               exact ih (b + 1) _ _ _ (by omega) (by omega) (by omega) (by rw [hu]; exact es) (by rw [hu]; exact ee))
            | (rw [if_pos (Or.inr c35)] at hu
               exact ih (b + 1) _ _ _ (by omega) (by omega) (by omega) (by rw [hu]; exact es) (by rw [hu]; exact ee))
            | (rw [if_neg (fun z => z.elim c20 c35)] at hu
               refine ih (b + 1) _ _ _ (by omega) (by omega) (by omega) ?_ (by rw [hu, ee])
               rw [hu, es]
               unfold mpd
               first | rw [if_pos (by omega)] | rw [if_neg (by omega)])
        · refine Wp.goto (tgt := 90) dX6_pulled_38 (by decide) ?_
          refine inc_8_6 rfl dX6_pulled_90 (by first | exact w32_of (by omega) (by omega) | rfl) ?_
          refine Wp.goto (tgt := 8) dX6_pulled_93 (by decide) ?_
          have hu : mpl (hA h 49) (hF h 41 5) (hA h ra) a (b + 1).toNat = if ((b.toNat : Nat) : Int) = a ∨ hA h 49 (24 * a + (b.toNat : Nat)) = 0 then mpl (hA h 49) (hF h 41 5) (hA h ra) a b.toNat else ((mpl (hA h 49) (hF h 41 5) (hA h ra) a b.toNat).1 + mpd (hF h 41 5) (hA h ra (b.toNat : Nat) - hA h ra a), (mpl (hA h 49) (hF h 41 5) (hA h ra) a b.toNat).2 + 1) := by
            rw [show (b + 1).toNat = b.toNat + 1 by omega]
            rfl
          rw [show ((b.toNat : Nat) : Int) = b by omega] at hu
          first
          | (rw [if_pos (Or.inl c20)] at hu
             exact ih (b + 1) _ _ _ (by omega) (by omega) (by omega) (by rw [hu]; exact es) (by rw [hu]; exact ee))
          | (rw [if_pos (Or.inr c35)] at hu
             exact ih (b + 1) _ _ _ (by omega) (by omega) (by omega) (by rw [hu]; exact es) (by rw [hu]; exact ee))
          | (rw [if_neg (fun z => z.elim c20 c35)] at hu
             refine ih (b + 1) _ _ _ (by omega) (by omega) (by omega) ?_ (by rw [hu, ee])
             rw [hu, es]
             unfold mpd
             first | rw [if_pos (by omega)] | rw [if_neg (by omega)])

theorem ct_pulled (d : Nat) (h : mH) (sh : Sh h) (mb : MB h) (ra : Int) (kr : hK h ra = 10) (lr : hL h ra = 24) (hr : ∀ j, 0 ≤ j → j < hF h 41 6 → 0 ≤ hA h ra j ∧ hA h ra j < hF h 41 5) (a : Int) (a0 : 0 ≤ a) (a1 : a < hF h 41 6) : Ct m_X6_pulled d [(2, 41), (2, ra), (0, a)] h (some (0, mpv (mcf h) (hA h ra) a)) h := by
  refine Ct.of ?_
  show Wp m_X6_pulled (d) 0 [(2, 41), (2, ra), (0, a), (9, 0), (9, 0), (9, 0), (9, 0), (9, 0)] [] h _
  refine Wp.lconst (z := 0) dX6_pulled_0 (by decide) ?_
  refine stl_8_3 rfl (dSt_n dX6_pulled_1) ?_
  refine Wp.iconst dX6_pulled_2 (by decide) ?_
  refine sti_8_5 rfl (dSt_w dX6_pulled_3) ?_
  refine Wp.iconst dX6_pulled_5 (by decide) ?_
  refine sti_8_6 rfl (dSt_w dX6_pulled_6) ?_
  exact pulled_loop d h sh mb ra kr lr hr a a0 a1 _ 0 0 0 _ (Nat.lt_succ_self _) (by omega) (by have := mb.2.1; omega) rfl rfl

