/-! ===== states and phases ===== -/
theorem ec9_dig {f : Int → Int} {r n : Int} (r0 : 2 ≤ r) : ∀ (m : Nat), (m : Int) ≤ n → (∀ j, 0 ≤ j → j < n → 0 ≤ f j ∧ f j < r) → (0 ≤ ec9 f r n m) ∧ ∀ j : Nat, j < m → dig9 r (ec9 f r n m) j = f (n - m + j)
  | 0, _, _ => ⟨Int.le_refl _, fun j hj => absurd hj (by omega)⟩
  | m + 1, hm, hf => by
    obtain ⟨h0, h1⟩ := ec9_dig r0 m (by omega) hf
    have hv := hf (n - 1 - m) (by omega) (by omega)
    have hmul := Int.mul_nonneg h0 (show 0 ≤ r by omega)
    have e : ec9 f r n (m + 1) = ec9 f r n m * r + f (n - 1 - m) := rfl
    have hd : (ec9 f r n m * r + f (n - 1 - m)) / r = ec9 f r n m := by
      rw [Int.add_comm, Int.add_mul_ediv_right _ _ (by omega), Int.ediv_eq_zero_of_lt hv.1 hv.2, Int.zero_add]
    refine ⟨by rw [e]; omega, fun j hj => ?_⟩
    cases j with
    | zero =>
      show ec9 f r n (m + 1) / r ^ ((0 : Nat) : Int).toNat % r = _
      rw [show ((0 : Nat) : Int).toNat = 0 from rfl, Int.pow_zero, Int.ediv_one, e, Int.add_comm, Int.add_mul_emod_self_right, Int.emod_eq_of_lt hv.1 hv.2]
      congr 1
      omega
    | succ j =>
      have h2 := h1 j (by omega)
      show ec9 f r n (m + 1) / r ^ ((j + 1 : Nat) : Int).toNat % r = _
      have h3 : ec9 f r n m / r ^ ((j : Nat) : Int).toNat % r = f (n - m + j) := h2
      rw [show ((j : Nat) : Int).toNat = j from rfl] at h3
      rw [show ((j + 1 : Nat) : Int).toNat = j + 1 from rfl, Int.pow_succ, Int.mul_comm, ← Int.ediv_ediv_of_nonneg (by omega), e, hd, h3]
      congr 1
      omega
theorem dig9_bd {r s j : Int} (r0 : 2 ≤ r) : 0 ≤ dig9 r s j ∧ dig9 r s j < r := ⟨Int.emod_nonneg _ (by omega), Int.emod_lt_of_pos _ (by omega)⟩
theorem dig9_ec {r n x : Int} (r0 : 2 ≤ r) (x0 : 0 ≤ x) (x1 : x < r ^ n.toNat) : ∀ m : Nat, (m : Int) ≤ n → ec9 (dig9 r x) r n m = x / r ^ (n - m).toNat
  | 0, hm => by
    rw [show (n - ((0 : Nat) : Int)).toNat = n.toNat by omega, Int.ediv_eq_zero_of_lt x0 x1]
    rfl
  | m + 1, hm => by
    have h := dig9_ec r0 x0 x1 m (by omega)
    show ec9 (dig9 r x) r n m * r + x / r ^ (n - 1 - (m : Int)).toNat % r = _
    rw [h, show (n - (m : Int)).toNat = (n - 1 - (m : Int)).toNat + 1 by omega, Int.pow_succ, ← Int.ediv_ediv_of_nonneg (Int.le_of_lt (Int.pow_pos (by omega))), show (n - ((m + 1 : Nat) : Int)).toNat = (n - 1 - (m : Int)).toNat by omega, Int.mul_comm]
    exact Int.mul_ediv_add_emod _ _
theorem ec9_cg {f g : Int → Int} {r n : Int} : ∀ m : Nat, (m : Int) ≤ n → (∀ j, 0 ≤ j → j < n → f j = g j) → ec9 f r n m = ec9 g r n m
  | 0, _, _ => rfl
  | m + 1, hm, h => by
    show ec9 f r n m * r + f (n - 1 - m) = ec9 g r n m * r + g (n - 1 - m)
    rw [ec9_cg m (by omega) h, h (n - 1 - m) (by omega) (by omega)]
theorem ec9_lt {f : Int → Int} {r n : Int} (r0 : 2 ≤ r) : ∀ (m : Nat), (m : Int) ≤ n → (∀ j, 0 ≤ j → j < n → 0 ≤ f j ∧ f j < r) → 0 ≤ ec9 f r n m ∧ ec9 f r n m < r ^ m
  | 0, _, _ => by
    rw [Int.pow_zero]
    exact ⟨Int.le_refl _, by show (0 : Int) < 1; decide⟩
  | m + 1, hm, hf => by
    obtain ⟨h0, h1⟩ := ec9_lt r0 m (by omega) hf
    have hv := hf (n - 1 - m) (by omega) (by omega)
    have hmul := Int.mul_nonneg h0 (show 0 ≤ r by omega)
    have h2 : (ec9 f r n m + 1) * r ≤ r ^ m * r := Int.mul_le_mul_of_nonneg_right (by omega) (by omega)
    rw [Int.add_mul, Int.one_mul] at h2
    rw [Int.pow_succ]
    show 0 ≤ ec9 f r n m * r + f (n - 1 - m) ∧ ec9 f r n m * r + f (n - 1 - m) < _
    omega
/-- a state is told by its phases -/
theorem dig9_inj {r n x y : Int} (r0 : 2 ≤ r) (n0 : 0 ≤ n) (x0 : 0 ≤ x) (x1 : x < r ^ n.toNat) (y0 : 0 ≤ y) (y1 : y < r ^ n.toNat) (h : ∀ j, 0 ≤ j → j < n → dig9 r x j = dig9 r y j) : x = y := by
  have a := dig9_ec r0 x0 x1 n.toNat (by omega)
  have b := dig9_ec r0 y0 y1 n.toNat (by omega)
  rw [show (n - ((n.toNat : Nat) : Int)).toNat = 0 by omega, Int.pow_zero, Int.ediv_one] at a b
  rw [← a, ← b]
  exact ec9_cg _ (by omega) h
theorem ec9_all {f : Int → Int} {r n : Int} (r0 : 2 ≤ r) (n0 : 0 ≤ n) (hf : ∀ j, 0 ≤ j → j < n → 0 ≤ f j ∧ f j < r) : ∀ j, 0 ≤ j → j < n → dig9 r (ec9 f r n n.toNat) j = f j := fun j j0 j1 => by
  have h := (ec9_dig r0 n.toNat (by omega) hf).2 j.toNat (by omega)
  rw [show ((j.toNat : Nat) : Int) = j by omega] at h
  rw [h]
  congr 1
  omega
/-! ===== where one beats, not all stay ===== -/
theorem cl2_ok {c : mCf} {g : Int → Int} (hn : c.1.1 ≤ 24) : ∀ (m : Nat) (k : Int) (s : cS), 0 ≤ k → (0 ≤ s.1 ∧ s.2.2.1 = g ∧ ∀ i, 0 ≤ i → i < s.1 → 0 ≤ s.2.1 i ∧ s.2.1 i < c.1.1 ∧ c.2.1 (s.2.1 i) = 2 ∧ c.1.2.1 ≤ g (s.2.1 i) ∧ bt s.2.2.2 (s.2.1 i)) → (s.1 ≤ (cl2 c m k s).1 ∧ 0 ≤ (cl2 c m k s).1 ∧ (cl2 c m k s).2.2.1 = g ∧ ∀ i, 0 ≤ i → i < (cl2 c m k s).1 → 0 ≤ (cl2 c m k s).2.1 i ∧ (cl2 c m k s).2.1 i < c.1.1 ∧ c.2.1 ((cl2 c m k s).2.1 i) = 2 ∧ c.1.2.1 ≤ g ((cl2 c m k s).2.1 i) ∧ bt (cl2 c m k s).2.2.2 ((cl2 c m k s).2.1 i))
  | 0, k, s, k0, h => ⟨Int.le_refl _, h⟩
  | m + 1, k, s, k0, h => by
    by_cases hk : k < c.1.1
    · have hu : cl2 c (m + 1) k s = cl2 c m (k + 1) (if c.2.1 k = 2 ∧ c.1.2.1 ≤ s.2.2.1 k then (s.1 + 1, u1 s.2.1 s.1 k, s.2.2.1, kor s.2.2.2 (kshl 1 k)) else s) := if_pos hk
      rw [hu]
      by_cases hz : c.2.1 k = 2 ∧ c.1.2.1 ≤ s.2.2.1 k
      · rw [if_pos hz]
        have hr := cl2_ok (g := g) hn m (k + 1) (s.1 + 1, u1 s.2.1 s.1 k, s.2.2.1, kor s.2.2.2 (kshl 1 k)) (by omega) ⟨by show 0 ≤ s.1 + 1; omega, h.2.1, fun i i0 (i1 : i < s.1 + 1) => by
          show 0 ≤ u1 s.2.1 s.1 k i ∧ u1 s.2.1 s.1 k i < c.1.1 ∧ c.2.1 (u1 s.2.1 s.1 k i) = 2 ∧ c.1.2.1 ≤ g (u1 s.2.1 s.1 k i) ∧ bt (kor s.2.2.2 (kshl 1 k)) (u1 s.2.1 s.1 k i)
          by_cases e : i = s.1
          · rw [e, u1_s]
            exact ⟨k0, hk, hz.1, by rw [← h.2.1]; exact hz.2, (bt_or k0 (by omega)).mpr (Or.inr ((bt_one k0 (by omega) k0 (by omega)).mpr rfl))⟩
          · rw [u1_n _ _ e]
            obtain ⟨a, b, d, e', f'⟩ := h.2.2 i i0 (by omega)
            exact ⟨a, b, d, e', (bt_or a (by omega)).mpr (Or.inl f')⟩⟩
        exact ⟨Int.le_trans (by omega) hr.1, hr.2⟩
      · rw [if_neg hz]
        exact cl2_ok hn m (k + 1) s (by omega) h
    · have hu : cl2 c (m + 1) k s = s := if_neg hk
      rw [hu]
      exact ⟨Int.le_refl _, h⟩
theorem cl2_some {c : mCf} {g : Int → Int} (hn : c.1.1 ≤ 24) {q : Int} (q1 : q < c.1.1) (hq : c.2.1 q = 2) (hg : c.1.2.1 ≤ g q) : ∀ (m : Nat) (k : Int) (s : cS), 0 ≤ k → k ≤ q → (q - k).toNat < m → (0 ≤ s.1 ∧ s.2.2.1 = g ∧ ∀ i, 0 ≤ i → i < s.1 → 0 ≤ s.2.1 i ∧ s.2.1 i < c.1.1 ∧ c.2.1 (s.2.1 i) = 2 ∧ c.1.2.1 ≤ g (s.2.1 i) ∧ bt s.2.2.2 (s.2.1 i)) → 1 ≤ (cl2 c m k s).1
  | 0, k, s, _, _, hm, _ => absurd hm (by omega)
  | m + 1, k, s, k0, kq, hm, h => by
    have hu : cl2 c (m + 1) k s = cl2 c m (k + 1) (if c.2.1 k = 2 ∧ c.1.2.1 ≤ s.2.2.1 k then (s.1 + 1, u1 s.2.1 s.1 k, s.2.2.1, kor s.2.2.2 (kshl 1 k)) else s) := if_pos (by omega)
    by_cases e : k = q
    · have hm1 := (cl2_ok (g := g) hn (m + 1) k s k0 h)
      have hs : c.2.1 k = 2 ∧ c.1.2.1 ≤ s.2.2.1 k := by
        rw [e, h.2.1]
        exact ⟨hq, hg⟩
      rw [hu, if_pos hs]
      have hr := cl2_ok (g := g) hn m (k + 1) (s.1 + 1, u1 s.2.1 s.1 k, s.2.2.1, kor s.2.2.2 (kshl 1 k)) (by omega) ⟨by show 0 ≤ s.1 + 1; omega, h.2.1, fun i i0 (i1 : i < s.1 + 1) => by
        show 0 ≤ u1 s.2.1 s.1 k i ∧ u1 s.2.1 s.1 k i < c.1.1 ∧ c.2.1 (u1 s.2.1 s.1 k i) = 2 ∧ c.1.2.1 ≤ g (u1 s.2.1 s.1 k i) ∧ bt (kor s.2.2.2 (kshl 1 k)) (u1 s.2.1 s.1 k i)
        by_cases e' : i = s.1
        · rw [e', u1_s]
          exact ⟨k0, by omega, hs.1, by rw [← h.2.1]; exact hs.2, (bt_or k0 (by omega)).mpr (Or.inr ((bt_one k0 (by omega) k0 (by omega)).mpr rfl))⟩
        · rw [u1_n _ _ e']
          obtain ⟨a, b, d, e'', f'⟩ := h.2.2 i i0 (by omega)
          exact ⟨a, b, d, e'', (bt_or a (by omega)).mpr (Or.inl f')⟩⟩
      have h5 : s.1 + 1 ≤ (cl2 c m (k + 1) (s.1 + 1, u1 s.2.1 s.1 k, s.2.2.1, kor s.2.2.2 (kshl 1 k))).1 := hr.1
      have := h.1
      omega
    · rw [hu]
      by_cases hz : c.2.1 k = 2 ∧ c.1.2.1 ≤ s.2.2.1 k
      · rw [if_pos hz]
        refine cl2_some hn q1 hq hg m (k + 1) _ (by omega) (by omega) (by omega) ⟨by show 0 ≤ s.1 + 1; have := h.1; omega, h.2.1, fun i i0 (i1 : i < s.1 + 1) => ?_⟩
        show 0 ≤ u1 s.2.1 s.1 k i ∧ u1 s.2.1 s.1 k i < c.1.1 ∧ c.2.1 (u1 s.2.1 s.1 k i) = 2 ∧ c.1.2.1 ≤ g (u1 s.2.1 s.1 k i) ∧ bt (kor s.2.2.2 (kshl 1 k)) (u1 s.2.1 s.1 k i)
        by_cases e' : i = s.1
        · rw [e', u1_s]
          exact ⟨k0, by omega, hz.1, by rw [← h.2.1]; exact hz.2, (bt_or k0 (by omega)).mpr (Or.inr ((bt_one k0 (by omega) k0 (by omega)).mpr rfl))⟩
        · rw [u1_n _ _ e']
          obtain ⟨a, b, d, e'', f'⟩ := h.2.2 i i0 (by omega)
          exact ⟨a, b, d, e'', (bt_or a (by omega)).mpr (Or.inl f')⟩
      · rw [if_neg hz]
        exact cl2_some hn q1 hq hg m (k + 1) s (by omega) (by omega) (by omega) h
theorem ci1_keep {c : mCf} {b k q : Int} {s : cS} (k0 : 0 ≤ k) (k1 : k < 24) (q0 : 0 ≤ q) (q1 : q < 24) (hq : bt s.2.2.2 q) : (ci1 c b k s).2.2.1 q = s.2.2.1 q ∧ bt (ci1 c b k s).2.2.2 q := by
  unfold ci1
  by_cases h1 : c.2.1 k ≠ 2
  · rw [if_pos h1]; exact ⟨rfl, hq⟩
  · rw [if_neg h1]
    by_cases h2 : kand (kshr s.2.2.2 k) 1 ≠ 0
    · rw [if_pos h2]; exact ⟨rfl, hq⟩
    · rw [if_neg h2]
      have hne : q ≠ k := fun e => h2 (by rw [← e]; exact hq)
      by_cases h3 : kand (kshr (c.2.2.1 k) b) 1 = 0
      · rw [if_pos h3]; exact ⟨rfl, hq⟩
      · rw [if_neg h3]
        by_cases h4 : cvw c k s < c.1.2.1
        · rw [if_pos h4]; exact ⟨u1_n _ _ hne, hq⟩
        · rw [if_neg h4]; exact ⟨u1_n _ _ hne, (bt_or q0 (by omega)).mpr (Or.inl hq)⟩
theorem ci3_keep {c : mCf} {b q : Int} (hn : c.1.1 ≤ 24) (q0 : 0 ≤ q) (q1 : q < 24) : ∀ (m : Nat) (k : Int) (s : cS), 0 ≤ k → bt s.2.2.2 q → (ci3 c b m k s).2.2.1 q = s.2.2.1 q ∧ bt (ci3 c b m k s).2.2.2 q
  | 0, k, s, _, h => ⟨rfl, h⟩
  | m + 1, k, s, k0, h => by
    by_cases hk : k < c.1.1
    · have hu : ci3 c b (m + 1) k s = ci3 c b m (k + 1) (ci1 c b k s) := if_pos hk
      have h1 := ci1_keep (c := c) (b := b) k0 (by omega) q0 q1 h
      have h2 := ci3_keep (c := c) (b := b) hn q0 q1 m (k + 1) (ci1 c b k s) (by omega) h1.2
      rw [hu]
      exact ⟨h2.1.trans h1.1, h2.2⟩
    · have hu : ci3 c b (m + 1) k s = s := if_neg hk
      rw [hu]
      exact ⟨rfl, h⟩
theorem co9_keep {c : mCf} {q : Int} (hn : c.1.1 ≤ 24) (q0 : 0 ≤ q) (q1 : q < 24) : ∀ (m : Nat) (k : Int) (s : cS), bt s.2.2.2 q → s.2.2.1 q = 0 → (co9 c m k s).2.2.1 q = 0
  | 0, k, s, _, h => h
  | m + 1, k, s, hb, h => by
    by_cases hk : k < s.1
    · have hu : co9 c (m + 1) k s = co9 c m (k + 1) (ci3 c (s.2.1 k) 25 0 (s.1, s.2.1, u1 s.2.2.1 (s.2.1 k) 0, s.2.2.2)) := if_pos hk
      have h1 := ci3_keep (c := c) (b := s.2.1 k) hn q0 q1 25 0 (s.1, s.2.1, u1 s.2.2.1 (s.2.1 k) 0, s.2.2.2) (by omega) hb
      rw [hu]
      refine co9_keep hn q0 q1 m (k + 1) _ h1.2 (h1.1.trans ?_)
      show u1 s.2.2.1 (s.2.1 k) 0 q = 0
      unfold u1
      split
      · rfl
      · exact h
    · have hu : co9 c (m + 1) k s = s := if_neg hk
      rw [hu]
      exact h
/-- where one comes to the ring's end by itself, one that was at the last part is at the first one -/
theorem cfi_zero {c : mCf} {g : Int → Int} (hn : c.1.1 ≤ 24) {q : Int} (q0 : 0 ≤ q) (q1 : q < c.1.1) (hq : c.2.1 q = 2) (hg : c.1.2.1 ≤ g q) : ∃ b, 0 ≤ b ∧ b < c.1.1 ∧ c.2.1 b = 2 ∧ c.1.2.1 ≤ g b ∧ cfi c g b = 0 := by
  have h1 := cl2_ok (c := c) (g := g) hn 25 0 (0, fun _ => 0, g, 0) (by omega) ⟨Int.le_refl _, rfl, fun i i0 (i1 : i < 0) => absurd i1 (by omega)⟩
  have h2 := cl2_some (c := c) (g := g) hn q1 hq hg 25 0 (0, fun _ => 0, g, 0) (by omega) q0 (by omega) ⟨Int.le_refl _, rfl, fun i i0 (i1 : i < 0) => absurd i1 (by omega)⟩
  obtain ⟨a, b, d, e, f⟩ := h1.2.2.2 0 (by omega) (by omega)
  refine ⟨(cl2 c 25 0 (0, fun _ => 0, g, 0)).2.1 0, a, b, d, e, ?_⟩
  unfold cfi
  generalize cl2 c 25 0 (0, fun _ => 0, g, 0) = s at a b d e f h2
  have hu : co9 c 26 0 s = co9 c 25 (0 + 1) (ci3 c (s.2.1 0) 25 0 (s.1, s.2.1, u1 s.2.2.1 (s.2.1 0) 0, s.2.2.2)) := if_pos (by omega)
  have h3 := ci3_keep (c := c) (b := s.2.1 0) (q := s.2.1 0) hn a (by omega) 25 0 (s.1, s.2.1, u1 s.2.2.1 (s.2.1 0) 0, s.2.2.2) (by omega) f
  rw [hu]
  exact co9_keep hn a (by omega) 25 (0 + 1) _ h3.2 (h3.1.trans (u1_s _ _ _))
