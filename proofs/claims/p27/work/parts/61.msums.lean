/-! ===== greatest sums, told purely ===== -/
def jnL (x y : Int) : Int := if x = gNO ∨ y = gNO then gNO else w64 (x + y)
def mxL (g : Int → Int) (lo : Int) : Nat → Int
  | 0 => gNO
  | m + 1 => max (mxL g lo m) (g (lo + m))
theorem mxL_ge (g : Int → Int) (lo : Int) : ∀ m : Nat, gNO ≤ mxL g lo m
  | 0 => Int.le_refl _
  | m + 1 => Int.le_trans (mxL_ge g lo m) (Int.le_max_left _ _)
theorem mxL_cg {g g' : Int → Int} {lo : Int} : ∀ m : Nat, (∀ k : Int, lo ≤ k → k < lo + m → g k = g' k) → mxL g lo m = mxL g' lo m
  | 0, _ => rfl
  | m + 1, h => by
    unfold mxL
    rw [mxL_cg m (fun k k0 k1 => h k k0 (by omega)), h (lo + m) (by omega) (by omega)]
theorem mxL_le {g : Int → Int} {lo : Int} : ∀ (m : Nat) (k : Int), lo ≤ k → k < lo + m → g k ≤ mxL g lo m
  | 0, k, k0, k1 => absurd k1 (by omega)
  | m + 1, k, k0, k1 => by
    unfold mxL
    by_cases e : k = lo + m
    · rw [e]
      exact Int.le_max_right _ _
    · exact Int.le_trans (mxL_le m k k0 (by omega)) (Int.le_max_left _ _)
theorem mxL_at {g : Int → Int} {lo : Int} : ∀ m : Nat, mxL g lo m ≠ gNO → ∃ k : Int, lo ≤ k ∧ k < lo + m ∧ mxL g lo m = g k
  | 0, h => absurd rfl h
  | m + 1, h => by
    unfold mxL at h ⊢
    rcases Int.le_total (mxL g lo m) (g (lo + m)) with z | z
    · rw [Int.max_eq_right z]
      exact ⟨lo + m, by omega, by omega, rfl⟩
    · rw [Int.max_eq_left z] at h ⊢
      obtain ⟨k, k0, k1, e⟩ := mxL_at m h
      exact ⟨k, k0, by omega, e⟩
/-- the greatest sum of n roads, over places from lo on -/
def mPw (sp : Int → Int) (sz lo : Int) : Nat → Int → Int → Int
  | 0, i, j => if i = j then 0 else gNO
  | n + 1, i, j => mxL (fun k => jnL (mPw sp sz lo n i k) (sp (10 * k + j))) lo (sz - lo).toNat
def spK (sp : Int → Int) : Prop := ∀ k, 0 ≤ k → k < 100 → sp k = gNO ∨ (-1048576 ≤ sp k ∧ sp k ≤ 1048576)
theorem jnL_ok {x y M : Int} (hM : M ≤ 9223372036854775807 - 1048576) (hx : x = gNO ∨ (-M ≤ x ∧ x ≤ M)) (hy : y = gNO ∨ (-1048576 ≤ y ∧ y ≤ 1048576)) : jnL x y = gNO ∨ (x ≠ gNO ∧ y ≠ gNO ∧ jnL x y = x + y ∧ -M ≤ x ∧ x ≤ M ∧ -1048576 ≤ y ∧ y ≤ 1048576) := by
  unfold jnL
  by_cases h : x = gNO ∨ y = gNO
  · rw [if_pos h]
    exact Or.inl rfl
  · rw [if_neg h]
    have h1 : x ≠ gNO := fun z => h (Or.inl z)
    have h2 : y ≠ gNO := fun z => h (Or.inr z)
    have h3 := hx.resolve_left h1
    have h4 := hy.resolve_left h2
    exact Or.inr ⟨h1, h2, w64_of (by omega) (by omega), h3.1, h3.2, h4.1, h4.2⟩
theorem mPw_bd {sp : Int → Int} {sz lo : Int} (hs : spK sp) (l0 : 0 ≤ lo) (z1 : sz ≤ 10) : ∀ (n : Nat) (i j : Int), n ≤ 200 → 0 ≤ j → j < 10 → mPw sp sz lo n i j = gNO ∨ (-(1048576 * (n : Int)) ≤ mPw sp sz lo n i j ∧ mPw sp sz lo n i j ≤ 1048576 * n)
  | 0, i, j, _, _, _ => by
    unfold mPw
    by_cases e : i = j
    · rw [if_pos e]
      exact Or.inr ⟨by omega, by omega⟩
    · rw [if_neg e]
      exact Or.inl rfl
  | n + 1, i, j, hn, j0, j1 => by
    by_cases h : mPw sp sz lo (n + 1) i j = gNO
    · exact Or.inl h
    · refine Or.inr ?_
      obtain ⟨k, k0, k1, e⟩ := mxL_at (sz - lo).toNat h
      have e' : mPw sp sz lo (n + 1) i j = jnL (mPw sp sz lo n i k) (sp (10 * k + j)) := e
      rw [e'] at h ⊢
      rcases jnL_ok (M := 1048576 * (n : Int)) (by omega) (mPw_bd hs l0 z1 n i k (by omega) (by omega) (by omega)) (hs (10 * k + j) (by omega) (by omega)) with z | ⟨-, -, z, b1, b2, b3, b4⟩
      · exact absurd z h
      · rw [z]
        omega
def ws (sp : Int → Int) (f : Nat → Int) : Nat → Int
  | 0 => 0
  | n + 1 => ws sp f n + sp (10 * f n + f (n + 1))
theorem ws_cg {sp : Int → Int} {f g : Nat → Int} : ∀ n : Nat, (∀ t, t ≤ n → f t = g t) → ws sp f n = ws sp g n
  | 0, _ => rfl
  | n + 1, h => by
    unfold ws
    rw [ws_cg n (fun t ht => h t (by omega)), h n (by omega), h (n + 1) (by omega)]
/-- a row of roads over places lo to sz - 1 -/
def Rw (sp : Int → Int) (sz lo : Int) (f : Nat → Int) (n : Nat) : Prop := (∀ t, t ≤ n → lo ≤ f t ∧ f t < sz) ∧ ∀ t, t < n → sp (10 * f t + f (t + 1)) ≠ gNO
theorem mPw_row {sp : Int → Int} {sz lo : Int} (hs : spK sp) (l0 : 0 ≤ lo) (z1 : sz ≤ 10) : ∀ (n : Nat) (i j : Int), n ≤ 200 → lo ≤ i → i < sz → lo ≤ j → j < sz → mPw sp sz lo n i j ≠ gNO → ∃ f : Nat → Int, f 0 = i ∧ f n = j ∧ Rw sp sz lo f n ∧ mPw sp sz lo n i j = ws sp f n
  | 0, i, j, _, i0, i1, j0, j1, h => by
    unfold mPw at h ⊢
    by_cases e : i = j
    · rw [if_pos e]
      exact ⟨fun _ => i, rfl, e, ⟨fun t _ => ⟨i0, i1⟩, fun t ht => absurd ht (by omega)⟩, rfl⟩
    · rw [if_neg e] at h
      exact absurd rfl h
  | n + 1, i, j, hn, i0, i1, j0, j1, h => by
    obtain ⟨k, k0, k1, e⟩ := mxL_at (sz - lo).toNat h
    have e' : mPw sp sz lo (n + 1) i j = jnL (mPw sp sz lo n i k) (sp (10 * k + j)) := e
    rw [e'] at h ⊢
    rcases jnL_ok (M := 1048576 * (n : Int)) (by omega) (mPw_bd hs l0 z1 n i k (by omega) (by omega) (by omega)) (hs (10 * k + j) (by omega) (by omega)) with z | ⟨hx, hy, z, -⟩
    · exact absurd z h
    · obtain ⟨f, f0, fn, fr, fe⟩ := mPw_row hs l0 z1 n i k (by omega) i0 i1 k0 (by omega) hx
      have hg : ∀ t, t ≤ n → (fun t => if t ≤ n then f t else j) t = f t := fun t ht => if_pos ht
      have hl : (fun t => if t ≤ n then f t else j) (n + 1) = j := if_neg (by omega)
      refine ⟨fun t => if t ≤ n then f t else j, (hg 0 (by omega)).trans f0, hl, ⟨fun t ht => ?_, fun t ht => ?_⟩, ?_⟩
      · by_cases q : t ≤ n
        · rw [hg t q]
          exact fr.1 t q
        · rw [show t = n + 1 by omega, hl]
          exact ⟨j0, j1⟩
      · by_cases q : t < n
        · rw [hg t (by omega), hg (t + 1) (by omega)]
          exact fr.2 t q
        · rw [show t = n by omega, hg n (by omega), hl, fn]
          exact hy
      · show _ = ws sp _ n + sp (10 * (fun t => if t ≤ n then f t else j) n + (fun t => if t ≤ n then f t else j) (n + 1))
        rw [ws_cg n hg, hg n (by omega), hl, fn, z, fe]
theorem mPw_up {sp : Int → Int} {sz lo : Int} (hs : spK sp) (l0 : 0 ≤ lo) (z1 : sz ≤ 10) (f : Nat → Int) : ∀ n : Nat, n ≤ 200 → Rw sp sz lo f n → mPw sp sz lo n (f 0) (f n) ≠ gNO ∧ ws sp f n ≤ mPw sp sz lo n (f 0) (f n)
  | 0, _, _ => by
    unfold mPw
    rw [if_pos rfl]
    exact ⟨by decide, Int.le_refl _⟩
  | n + 1, hn, hr => by
    have hgn : gNO = -9223372036854775808 := rfl
    obtain ⟨h1, h2⟩ := mPw_up hs l0 z1 f n (by omega) ⟨fun t ht => hr.1 t (by omega), fun t ht => hr.2 t (by omega)⟩
    have hp := hr.1 n (by omega)
    have hq := hr.1 (n + 1) (by omega)
    have hy := hr.2 n (by omega)
    have hle := mxL_le (g := fun k => jnL (mPw sp sz lo n (f 0) k) (sp (10 * k + f (n + 1)))) (lo := lo) (sz - lo).toNat (f n) hp.1 (by omega)
    have hle' : jnL (mPw sp sz lo n (f 0) (f n)) (sp (10 * f n + f (n + 1))) ≤ mPw sp sz lo (n + 1) (f 0) (f (n + 1)) := hle
    rcases jnL_ok (M := 1048576 * (n : Int)) (by omega) (mPw_bd hs l0 z1 n (f 0) (f n) (by omega) (by omega) (by omega)) (hs (10 * f n + f (n + 1)) (by omega) (by omega)) with z | ⟨-, -, z, b1, b2, b3, b4⟩
    · unfold jnL at z
      rw [if_neg (fun y => y.elim h1 hy)] at z
      have hb := (mPw_bd hs l0 z1 n (f 0) (f n) (by omega) (by omega) (by omega)).resolve_left h1
      have hc := (hs (10 * f n + f (n + 1)) (by omega) (by omega)).resolve_left hy
      rw [w64_of (by omega) (by omega)] at z
      omega
    · rw [z] at hle'
      refine ⟨fun y => ?_, ?_⟩
      · rw [y] at hle'
        omega
      · show ws sp f n + sp (10 * f n + f (n + 1)) ≤ _
        omega
theorem ws_shift (sp : Int → Int) (f : Nat → Int) : ∀ n : Nat, ws sp (fun t => f (t + 1)) n + sp (10 * f 0 + f 1) = ws sp f (n + 1)
  | 0 => by show (0 : Int) + _ = 0 + _; rfl
  | n + 1 => by
    have h := ws_shift sp f n
    show ws sp (fun t => f (t + 1)) n + sp (10 * f (n + 1) + f (n + 1 + 1)) + sp (10 * f 0 + f 1) = ws sp f (n + 1) + sp (10 * f (n + 1) + f (n + 1 + 1))
    omega
theorem ws_turn {sp : Int → Int} {f : Nat → Int} {c : Nat} (hp : ∀ t, f (t + c) = f t) : ∀ q : Nat, ws sp (fun t => f (q + t)) c = ws sp f c
  | 0 => ws_cg c (fun t _ => by rw [Nat.zero_add])
  | q + 1 => by
    have h := ws_turn (sp := sp) hp q
    have h2 := ws_shift sp (fun t => f (q + t)) c
    have h3 : ws sp (fun t => f (q + t)) (c + 1) = ws sp (fun t => f (q + t)) c + sp (10 * f (q + c) + f (q + (c + 1))) := rfl
    have h4 : ws sp (fun t => f (q + 1 + t)) c = ws sp (fun t => f (q + (t + 1))) c := ws_cg c (fun t _ => by show f (q + 1 + t) = f (q + (t + 1)); rw [show q + 1 + t = q + (t + 1) by omega])
    rw [h3, hp q, show q + (c + 1) = q + 1 + c by omega, hp (q + 1)] at h2
    have h6 : ws sp (fun t => f (q + (t + 1))) c + sp (10 * f q + f (q + 1)) = ws sp (fun t => f (q + t)) c + sp (10 * f q + f (q + 1)) := h2
    rw [h4, ← h]
    omega
theorem leastAt (f : Nat → Int) : ∀ c : Nat, 1 ≤ c → ∃ t0, t0 < c ∧ ∀ t, t < c → f t0 ≤ f t
  | 0, h => absurd h (by omega)
  | 1, _ => ⟨0, by omega, fun t ht => by rw [show t = 0 by omega]; exact Int.le_refl _⟩
  | c + 2, _ => by
    obtain ⟨t0, h1, h2⟩ := leastAt f (c + 1) (by omega)
    by_cases z : f t0 ≤ f (c + 1)
    · exact ⟨t0, by omega, fun t ht => by
        by_cases q : t = c + 1
        · rw [q]; exact z
        · exact h2 t (by omega)⟩
    · exact ⟨c + 1, by omega, fun t ht => by
        by_cases q : t = c + 1
        · rw [q]; exact Int.le_refl _
        · have := h2 t (by omega)
          omega⟩
/-- a round may be begun at its least place -/
theorem Rw.least {sp : Int → Int} {sz lo : Int} {f : Nat → Int} {c : Nat} (hr : Rw sp sz lo f c) (c1 : 1 ≤ c) (hc : f 0 = f c) : ∃ g : Nat → Int, Rw sp sz (g 0) g c ∧ g c = g 0 ∧ lo ≤ g 0 ∧ g 0 < sz ∧ ws sp g c = ws sp f c := by
  have ha : ∀ t, t ≤ c → f (t % c) = f t := fun t ht => by
    by_cases q : t = c
    · rw [q, Nat.mod_self, hc]
    · rw [Nat.mod_eq_of_lt (by omega)]
  have hp : ∀ t, (fun t => f (t % c)) (t + c) = (fun t => f (t % c)) t := fun t => by
    show f ((t + c) % c) = f (t % c)
    rw [Nat.add_mod_right]
  have hlt : ∀ t, t % c < c := fun t => Nat.mod_lt _ (by omega)
  have hst : ∀ t, f ((t + 1) % c) = f (t % c + 1) := fun t => by
    rw [← ha (t % c + 1) (by have := hlt t; omega), Nat.add_mod t 1 c, Nat.add_mod (t % c) 1 c, Nat.mod_mod]
  obtain ⟨t0, h1, h2⟩ := leastAt f c c1
  have h0 : f ((t0 + 0) % c) = f t0 := by rw [Nat.add_zero, Nat.mod_eq_of_lt h1]
  refine ⟨fun t => f ((t0 + t) % c), ⟨fun t _ => ?_, fun t _ => ?_⟩, ?_, ?_, ?_, ?_⟩
  · show f ((t0 + 0) % c) ≤ f ((t0 + t) % c) ∧ f ((t0 + t) % c) < sz
    rw [h0]
    exact ⟨h2 _ (hlt _), (hr.1 _ (by have := hlt (t0 + t); omega)).2⟩
  · show sp (10 * f ((t0 + t) % c) + f ((t0 + (t + 1)) % c)) ≠ gNO
    rw [show t0 + (t + 1) = t0 + t + 1 by omega, hst]
    exact hr.2 _ (hlt _)
  · show f ((t0 + c) % c) = f ((t0 + 0) % c)
    rw [Nat.add_mod_right, Nat.add_zero]
  · show lo ≤ f ((t0 + 0) % c)
    rw [h0]
    exact (hr.1 t0 (by omega)).1
  · show f ((t0 + 0) % c) < sz
    rw [h0]
    exact (hr.1 t0 (by omega)).2
  · have := ws_turn (sp := sp) (f := fun t => f (t % c)) (c := c) hp t0
    rw [this]
    exact ws_cg c (fun t ht => ha t ht)
/-- where a round of c roads has a sum, its least place has one not below it, over the places from it on; and it is none above what all places give -/
theorem mPw_least {sp : Int → Int} {sz : Int} (hs : spK sp) (z1 : sz ≤ 10) {c : Nat} (c1 : 1 ≤ c) (c2 : c ≤ 200) {i : Int} (i0 : 0 ≤ i) (i1 : i < sz) (h : mPw sp sz 0 c i i ≠ gNO) : ∃ p, 0 ≤ p ∧ p < sz ∧ mPw sp sz p c p p ≠ gNO ∧ mPw sp sz 0 c i i ≤ mPw sp sz p c p p ∧ mPw sp sz 0 c p p ≠ gNO ∧ mPw sp sz p c p p ≤ mPw sp sz 0 c p p := by
  obtain ⟨f, f0, fc, fr, fe⟩ := mPw_row hs (Int.le_refl 0) z1 c i i c2 i0 i1 i0 i1 h
  obtain ⟨g, gr, gc, g0, g1, ge⟩ := fr.least c1 (by rw [f0, fc])
  have hu := mPw_up hs g0 z1 g c c2 gr
  rw [gc] at hu
  refine ⟨g 0, g0, g1, hu.1, by rw [fe, ← ge]; exact hu.2, ?_⟩
  obtain ⟨k, k0, kc, kr, ke⟩ := mPw_row hs g0 z1 c (g 0) (g 0) c2 (Int.le_refl _) g1 (Int.le_refl _) g1 hu.1
  have hv := mPw_up hs (Int.le_refl 0) z1 k c c2 ⟨fun t ht => ⟨Int.le_trans g0 (kr.1 t ht).1, (kr.1 t ht).2⟩, kr.2⟩
  rw [k0, kc] at hv
  exact ⟨hv.1, by rw [ke]; exact hv.2⟩
