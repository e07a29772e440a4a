/-! ===== counting ===== -/
noncomputable def cn9 (p : Int → Prop) : Nat → Nat
  | 0 => 0
  | n + 1 => cn9 p n + @ite Nat (p n) (Classical.propDecidable _) 1 0
theorem cn9_y {p : Int → Prop} {n : Nat} (h : p n) : cn9 p (n + 1) = cn9 p n + 1 := by
  unfold cn9
  rw [if_pos h]
  cases n <;> rfl
theorem cn9_n {p : Int → Prop} {n : Nat} (h : ¬ p n) : cn9 p (n + 1) = cn9 p n := by
  show cn9 p n + @ite Nat (p n) (Classical.propDecidable _) 1 0 = _
  rw [if_neg h]
  rfl
theorem cn9_mono {p : Int → Prop} {a b : Nat} (h : a ≤ b) : cn9 p a ≤ cn9 p b := by
  induction b with
  | zero => rw [show a = 0 by omega]; exact Nat.le_refl _
  | succ b ih =>
    by_cases e : a = b + 1
    · rw [e]; exact Nat.le_refl _
    · have h1 := ih (by omega)
      by_cases hp : p b
      · rw [cn9_y hp]; omega
      · rw [cn9_n hp]; exact h1
theorem cn9_lt {p : Int → Prop} {x : Int} {n : Nat} (hp : p x) (x0 : 0 ≤ x) (x1 : x < n) : cn9 p x.toNat < cn9 p n := by
  have h1 : cn9 p (x.toNat + 1) ≤ cn9 p n := cn9_mono (by omega)
  rw [cn9_y (by rw [show ((x.toNat : Nat) : Int) = x by omega]; exact hp)] at h1
  omega
theorem cn9_ex {p : Int → Prop} : ∀ (n i : Nat), i < cn9 p n → ∃ x : Int, 0 ≤ x ∧ x < n ∧ p x ∧ cn9 p x.toNat = i
  | 0, i, h => absurd h (by unfold cn9; omega)
  | n + 1, i, h => by
    by_cases hp : p n
    · rw [cn9_y hp] at h
      by_cases e : i = cn9 p n
      · exact ⟨n, by omega, by omega, hp, by rw [e]; rfl⟩
      · obtain ⟨x, a, b, c, d⟩ := cn9_ex (p := p) n i (by omega)
        exact ⟨x, a, by omega, c, d⟩
    · rw [cn9_n hp] at h
      obtain ⟨x, a, b, c, d⟩ := cn9_ex (p := p) n i h
      exact ⟨x, a, by omega, c, d⟩
theorem cn9_inj {p q : Int → Prop} {n : Nat} (φ : Int → Int) (h1 : ∀ x : Int, 0 ≤ x → x < n → p x → 0 ≤ φ x ∧ φ x < n ∧ q (φ x)) (h2 : ∀ x y : Int, 0 ≤ x → x < n → p x → 0 ≤ y → y < n → p y → φ x = φ y → x = y) : cn9 p n ≤ cn9 q n := by
  have hc : ∀ i : Nat, ∃ x : Int, i < cn9 p n → 0 ≤ x ∧ x < n ∧ p x ∧ cn9 p x.toNat = i := fun i => by
    by_cases hi : i < cn9 p n
    · obtain ⟨x, hx⟩ := cn9_ex n i hi
      exact ⟨x, fun _ => hx⟩
    · exact ⟨0, fun z => absurd z hi⟩
  refine pigeon (cn9 p n) (cn9 q n) (fun i => cn9 q (φ (Classical.choose (hc i))).toNat) (fun i hi => ?_) (fun i j hi hj e => ?_)
  · obtain ⟨a, b, c, d⟩ := Classical.choose_spec (hc i) hi
    obtain ⟨k0, k1, k2⟩ := h1 _ a b c
    exact cn9_lt k2 k0 k1
  · obtain ⟨a, b, c, d⟩ := Classical.choose_spec (hc i) hi
    obtain ⟨a', b', c', d'⟩ := Classical.choose_spec (hc j) hj
    obtain ⟨k0, k1, k2⟩ := h1 _ a b c
    obtain ⟨l0, l1, l2⟩ := h1 _ a' b' c'
    have e' : cn9 q (φ (Classical.choose (hc i))).toNat = cn9 q (φ (Classical.choose (hc j))).toNat := e
    have hφ : φ (Classical.choose (hc i)) = φ (Classical.choose (hc j)) := by
      rcases Int.lt_trichotomy (φ (Classical.choose (hc i))) (φ (Classical.choose (hc j))) with z | z | z
      · have := cn9_lt (n := (φ (Classical.choose (hc j))).toNat) k2 k0 (by omega)
        omega
      · exact z
      · have := cn9_lt (n := (φ (Classical.choose (hc i))).toNat) l2 l0 (by omega)
        omega
    have hx := h2 _ _ a b c a' b' c' hφ
    rw [hx] at d
    omega
theorem cn9_not (p : Int → Prop) : ∀ n : Nat, cn9 p n + cn9 (fun x => ¬ p x) n = n
  | 0 => rfl
  | n + 1 => by
    have h := cn9_not p n
    by_cases hp : p n
    · rw [cn9_y hp, cn9_n (p := fun x => ¬ p x) (fun z => z hp)]
      omega
    · rw [cn9_n hp, cn9_y (p := fun x => ¬ p x) hp]
      omega
theorem cn9_split (p q : Int → Prop) : ∀ n : Nat, cn9 p n = cn9 (fun x => p x ∧ q x) n + cn9 (fun x => p x ∧ ¬ q x) n
  | 0 => rfl
  | n + 1 => by
    have h := cn9_split p q n
    by_cases hp : p n
    · by_cases hq : q n
      · rw [cn9_y hp, cn9_y (p := fun x => p x ∧ q x) ⟨hp, hq⟩, cn9_n (p := fun x => p x ∧ ¬ q x) (fun z => z.2 hq)]
        omega
      · rw [cn9_y hp, cn9_n (p := fun x => p x ∧ q x) (fun z => hq z.2), cn9_y (p := fun x => p x ∧ ¬ q x) ⟨hp, hq⟩]
        omega
    · rw [cn9_n hp, cn9_n (p := fun x => p x ∧ q x) (fun z => hp z.1), cn9_n (p := fun x => p x ∧ ¬ q x) (fun z => hp z.1)]
      omega
theorem cn9_imp {p q : Int → Prop} (h : ∀ x : Int, p x → q x) (n : Nat) : cn9 p n ≤ cn9 q n := cn9_inj (fun x => x) (fun x x0 x1 hx => ⟨x0, x1, h x hx⟩) (fun x y _ _ _ _ _ _ e => e)
theorem cR_cn (g : Int → Int) : ∀ n : Nat, cR g n = cn9 (fun x => g x = x) n
  | 0 => rfl
  | n + 1 => by
    have h := cR_cn g n
    have hs := cR_st g (j := (n : Int)) (by omega)
    rw [show ((n : Int) + 1).toNat = n + 1 by omega, show ((n : Int)).toNat = n by omega] at hs
    by_cases hp : g n = n
    · rw [if_pos hp] at hs
      rw [cn9_y (p := fun x => g x = x) hp]
      omega
    · rw [if_neg hp] at hs
      rw [cn9_n (p := fun x => g x = x) hp]
      omega
theorem cR_cg {g g' : Int → Int} : ∀ n : Nat, (∀ x : Int, 0 ≤ x → x < n → g x = g' x) → cR g n = cR g' n
  | 0, _ => rfl
  | n + 1, hh => by
    have h := cR_cg n (fun x x0 x1 => hh x x0 (by omega))
    have hs := cR_st g (j := (n : Int)) (by omega)
    have hs' := cR_st g' (j := (n : Int)) (by omega)
    rw [show ((n : Int) + 1).toNat = n + 1 by omega, show ((n : Int)).toNat = n by omega] at hs hs'
    rw [hh n (by omega) (by omega)] at hs
    omega
/-- one that is its own home and doesn't stay leads to one that isn't its own home -/
theorem cR_half {S : Int} {f g : Int → Int} (S0 : 0 ≤ S) (rg : RG S f) (cl : CL S f g) : 2 * cR g S.toNat ≤ S.toNat + cn9 (fun x => f x = x) S.toNat := by
  have h1 := cn9_split (fun x => g x = x) (fun x => f x = x) S.toNat
  have h2 : cn9 (fun x => g x = x ∧ f x = x) S.toNat ≤ cn9 (fun x => f x = x) S.toNat := cn9_imp (fun x z => z.2) _
  have h3 : cn9 (fun x => g x = x ∧ ¬ f x = x) S.toNat ≤ cn9 (fun x => ¬ g x = x) S.toNat := by
    refine cn9_inj f (fun x x0 x1 hx => ?_) (fun x y x0 x1 hx y0 y1 hy e => ?_)
    · have hr := rg x x0 (by omega)
      refine ⟨hr.1, by omega, fun z => ?_⟩
      have := cl x x0 (by omega) (by have := hx.1; omega)
      rw [hx.1] at this
      rw [z] at this
      exact hx.2 this
    · have a := cl x x0 (by omega) (by have := hx.1; omega)
      have b := cl y y0 (by omega) (by have := hy.1; omega)
      rw [hx.1] at a
      rw [hy.1] at b
      rw [← a, ← b, e]
  have h4 := cn9_not (fun x => g x = x) S.toNat
  rw [cR_cn]
  omega
