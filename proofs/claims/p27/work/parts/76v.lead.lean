/-! ===== who leads ===== -/
def wa1 (c a : Int) (f : Int → Int) : Int → Int := if kand (kshr (f a) c) 1 = 0 then f else u1 f a (kor (f a) (f c))
def wa3 (n c : Int) : Nat → Int → (Int → Int) → Int → Int
  | 0, _, f => f
  | m + 1, a, f => if a < n then wa3 n c m (a + 1) (wa1 c a f) else f
def wa2 (n : Int) : Nat → Int → (Int → Int) → Int → Int
  | 0, _, f => f
  | m + 1, c, f => if c < n then wa2 n m (c + 1) (wa3 n c 25 0 f) else f
/-- rows of the same bits -/
def RB (n : Int) (f g : Int → Int) : Prop := ∀ a, 0 ≤ a → a < n → ∀ j, 0 ≤ j → j < 32 → (bt (f a) j ↔ bt (g a) j)
theorem RB.w1 {n c a : Int} {f g : Int → Int} (rb : RB n f g) (n1 : n ≤ 24) (c0 : 0 ≤ c ∧ c < n) (a0 : 0 ≤ a) (a1 : a < n) : RB n (wa1 c a f) (wa1 c a g) := by
  have hc := rb a a0 a1 c c0.1 (by omega)
  unfold wa1
  by_cases z : kand (kshr (f a) c) 1 = 0
  · rw [if_pos z, if_pos (Classical.byContradiction (fun y => absurd z (hc.mpr y)))]
    exact rb
  · rw [if_neg z, if_neg (hc.mp z)]
    intro b b0 b1 j j0 j1
    by_cases e : b = a
    · rw [e, u1_s, u1_s, bt_or j0 j1, bt_or j0 j1, rb a a0 a1 j j0 j1, rb c c0.1 c0.2 j j0 j1]
    · rw [u1_n _ _ e, u1_n _ _ e]
      exact rb b b0 b1 j j0 j1
theorem RB.w3 {n c : Int} (n1 : n ≤ 24) (c0 : 0 ≤ c ∧ c < n) : ∀ (m : Nat) (a : Int) (f g : Int → Int), 0 ≤ a → RB n f g → RB n (wa3 n c m a f) (wa3 n c m a g)
  | 0, _, _, _, _, rb => rb
  | m + 1, a, f, g, a0, rb => by
    unfold wa3
    by_cases z : a < n
    · rw [if_pos z, if_pos z]
      exact RB.w3 n1 c0 m (a + 1) _ _ (by omega) (rb.w1 n1 c0 a0 z)
    · rw [if_neg z, if_neg z]
      exact rb
theorem RB.w2 {n : Int} (n1 : n ≤ 24) : ∀ (m : Nat) (c : Int) (f g : Int → Int), 0 ≤ c → RB n f g → RB n (wa2 n m c f) (wa2 n m c g)
  | 0, _, _, _, _, rb => rb
  | m + 1, c, f, g, c0, rb => by
    unfold wa2
    by_cases z : c < n
    · rw [if_pos z, if_pos z]
      exact RB.w2 n1 m (c + 1) _ _ (by omega) (RB.w3 n1 ⟨c0, z⟩ 25 0 f g (Int.le_refl _) rb)
    · rw [if_neg z, if_neg z]
      exact rb
/-- bits are only added -/
theorem wa1_up {c a : Int} {f : Int → Int} {b j : Int} (j0 : 0 ≤ j) (j1 : j < 32) (h : bt (f b) j) : bt (wa1 c a f b) j := by
  unfold wa1
  split
  · exact h
  · by_cases e : b = a
    · rw [e, u1_s, bt_or j0 j1]
      rw [e] at h
      exact Or.inl h
    · rw [u1_n _ _ e]
      exact h
theorem wa3_up {n c : Int} {b j : Int} (j0 : 0 ≤ j) (j1 : j < 32) : ∀ (m : Nat) (a : Int) (f : Int → Int), bt (f b) j → bt (wa3 n c m a f b) j
  | 0, _, _, h => h
  | m + 1, a, f, h => by
    unfold wa3
    split
    · exact wa3_up j0 j1 m (a + 1) _ (wa1_up j0 j1 h)
    · exact h
theorem wa2_up {n : Int} {b j : Int} (j0 : 0 ≤ j) (j1 : j < 32) : ∀ (m : Nat) (c : Int) (f : Int → Int), bt (f b) j → bt (wa2 n m c f b) j
  | 0, _, _, h => h
  | m + 1, c, f, h => by
    unfold wa2
    split
    · exact wa2_up j0 j1 m (c + 1) _ (wa3_up j0 j1 25 0 f h)
    · exact h
def LD (n : Int) (f : Int → Int) (a : Int) : Prop := ∀ b, 0 ≤ b → b < n → bt (f a) b → bt (f b) a ∧ a ≤ b
theorem LD_eq {n : Int} {f g : Int → Int} (rb : RB n f g) (n1 : n ≤ 24) {a : Int} (a0 : 0 ≤ a) (a1 : a < n) : LD n f a ↔ LD n g a := by
  constructor
  · intro h b b0 b1 hb
    have := h b b0 b1 ((rb a a0 a1 b b0 (by omega)).mpr hb)
    exact ⟨(rb b b0 b1 a a0 (by omega)).mp this.1, this.2⟩
  · intro h b b0 b1 hb
    have := h b b0 b1 ((rb a a0 a1 b b0 (by omega)).mp hb)
    exact ⟨(rb b b0 b1 a a0 (by omega)).mpr this.1, this.2⟩
/-- the leaders among the first a: how many, which -/
noncomputable def ls9 (n : Int) (f : Int → Int) : Nat → Int × (Int → Int)
  | 0 => (0, fun _ => 0)
  | a + 1 => @ite _ (LD n f a) (Classical.propDecidable _) ((ls9 n f a).1 + 1, u1 (ls9 n f a).2 (ls9 n f a).1 a) (ls9 n f a)
theorem ls9_yes {n : Int} {f : Int → Int} {a : Int} (a0 : 0 ≤ a) (h : LD n f a) : ls9 n f (a + 1).toNat = ((ls9 n f a.toNat).1 + 1, u1 (ls9 n f a.toNat).2 (ls9 n f a.toNat).1 a) := by
  rw [show (a + 1).toNat = a.toNat + 1 by omega]
  conv => lhs; unfold ls9
  rw [show ((a.toNat : Nat) : Int) = a by omega, if_pos h]
theorem ls9_no {n : Int} {f : Int → Int} {a : Int} (a0 : 0 ≤ a) (h : ¬ LD n f a) : ls9 n f (a + 1).toNat = ls9 n f a.toNat := by
  rw [show (a + 1).toNat = a.toNat + 1 by omega]
  conv => lhs; unfold ls9
  rw [show ((a.toNat : Nat) : Int) = a by omega, if_neg h]
theorem ls9_eq {n : Int} {f g : Int → Int} (rb : RB n f g) (n1 : n ≤ 24) : ∀ a : Nat, (a : Int) ≤ n → ls9 n f a = ls9 n g a
  | 0, _ => rfl
  | a + 1, h => by
    have ih := ls9_eq rb n1 a (by omega)
    unfold ls9
    have e := LD_eq rb n1 (a := (a : Int)) (by omega) (by omega)
    by_cases z : LD n f a
    · rw [if_pos z, if_pos (e.mp z), ih]
    · rw [if_neg z, if_neg (fun y => z (e.mpr y)), ih]
theorem ls9_bd {n : Int} {f : Int → Int} : ∀ a : Nat, 0 ≤ (ls9 n f a).1 ∧ (ls9 n f a).1 ≤ (a : Int)
  | 0 => ⟨Int.le_refl _, Int.le_refl _⟩
  | a + 1 => by
    have ih := ls9_bd (n := n) (f := f) a
    unfold ls9
    split
    · exact ⟨by show 0 ≤ (ls9 n f a).1 + 1; omega, by show (ls9 n f a).1 + 1 ≤ ((a + 1 : Nat) : Int); omega⟩
    · omega
/-! the lowest bit -/
def kn4 (n y : Int) : Int := if 4 < y then w32 (w32 (n + 2) + kushr (kushr y 2) 1) else w32 (n + kushr y 1)
def kn3 (n y : Int) : Int := if 16 < y then kn4 (w32 (n + 4)) (kushr y 4) else kn4 n y
def kn2 (n y : Int) : Int := if 256 < y then kn3 (w32 (n + 8)) (kushr y 8) else kn3 n y
def knt (y : Int) : Int := if y ≤ 0 then kand y 32 else if 65536 < y then kn2 (w32 (1 + 16)) (kushr y 16) else kn2 1 y
theorem knt_pow : ∀ t : Fin 31, knt (((2 ^ t.val : Nat) : Int) - 1) = ((t.val : Nat) : Int) := by decide +kernel
theorem low_and {X t q : Nat} (hX : X = 2 ^ t * (2 * q + 1)) (ht : t < 32) (hl : X < 2 ^ 32) : (2 ^ 32 - (X + 1)) &&& (X - 1) = 2 ^ t - 1 := by
  have hp : 0 < 2 ^ t := Nat.two_pow_pos t
  apply Nat.eq_of_testBit_eq
  intro i
  rw [Nat.testBit_and, Nat.testBit_two_pow_sub_succ hl, Nat.testBit_two_pow_sub_one]
  by_cases h1 : i < t
  · have e1 : X - 1 = 2 ^ t * (2 * q) + (2 ^ t - 1) := by
      rw [hX, Nat.mul_add, Nat.mul_one]
      omega
    rw [e1, Nat.testBit_two_pow_mul_add _ (by omega), if_pos h1, Nat.testBit_two_pow_sub_one, hX, Nat.testBit_two_pow_mul]
    simp [h1]
    omega
  · have e1 : X - 1 = 2 ^ t * (2 * q) + (2 ^ t - 1) := by
      rw [hX, Nat.mul_add, Nat.mul_one]
      omega
    rw [e1, Nat.testBit_two_pow_mul_add _ (by omega), if_neg h1, hX, Nat.testBit_two_pow_mul]
    by_cases h2 : i = t
    · subst h2
      simp
    · have e3 : (2 * q + 1).testBit (i - t) = (2 * q).testBit (i - t) := by
        obtain ⟨k, hk⟩ : ∃ k, i - t = k + 1 := ⟨i - t - 1, by omega⟩
        rw [hk, Nat.testBit_succ, Nat.testBit_succ, show (2 * q + 1) / 2 = q by omega, show 2 * q / 2 = q by omega]
      rw [e3]
      have : ¬ i < t := h1
      cases (2 * q).testBit (i - t)
      · simp [this]
      · simp [this]
        omega
theorem low_bit (X : Nat) : ∀ k : Nat, (∀ j, j < k → X / 2 ^ j % 2 = 0) ∨ ∃ t, t < k ∧ X / 2 ^ t % 2 = 1 ∧ ∀ j, j < t → X / 2 ^ j % 2 = 0
  | 0 => Or.inl (fun j h => by omega)
  | k + 1 => by
    rcases low_bit X k with h | ⟨t, h1, h2, h3⟩
    · by_cases z : X / 2 ^ k % 2 = 1
      · exact Or.inr ⟨k, by omega, z, h⟩
      · refine Or.inl (fun j hj => ?_)
        by_cases e : j = k
        · rw [e]
          omega
        · exact h j (by omega)
    · exact Or.inr ⟨t, by omega, h2, h3⟩
theorem low_fac {X : Nat} : ∀ t : Nat, (∀ j, j < t → X / 2 ^ j % 2 = 0) → X = 2 ^ t * (X / 2 ^ t)
  | 0, _ => by simp
  | t + 1, h => by
    have ih := low_fac (X := X) t (fun j hj => h j (by omega))
    have h1 := h t (by omega)
    have e : X / 2 ^ (t + 1) = X / 2 ^ t / 2 := by rw [Nat.pow_succ, Nat.div_div_eq_div_mul]
    rw [e, Nat.pow_succ, Nat.mul_assoc, show 2 * (X / 2 ^ t / 2) = X / 2 ^ t by omega]
    exact ih
/-- what numberOfTrailingZeros tells, where bit k is set -/
theorem knt_iff {x k : Int} (k0 : 0 ≤ k) (k1 : k < 24) (hb : bt x k) : knt (kand (kxor x (-1)) (w32 (x - 1))) = k ↔ ∀ j, 0 ≤ j → j < k → ¬ bt x j := by
  have hk := (bt_U9 k0 (by omega)).mp hb
  rcases low_bit (U9 x) (k.toNat + 1) with h | ⟨t, t1, t2, t3⟩
  · exact absurd (h k.toNat (by omega)) (by omega)
  · have hf := low_fac t t3
    have hlt := U9_lt x
    have hpos : 0 < U9 x := by
      refine Nat.pos_of_ne_zero (fun z => ?_)
      rw [z, Nat.zero_div] at t2
      omega
    have hX : U9 x = 2 ^ t * (2 * (U9 x / 2 ^ t / 2) + 1) := by
      rw [show 2 * (U9 x / 2 ^ t / 2) + 1 = U9 x / 2 ^ t by omega]
      exact hf
    have hl := low_and hX (by omega) (by omega)
    have hx1 : U9 (kxor x (-1)) = 2 ^ 32 - (U9 x + 1) := by
      unfold U9 kxor
      rw [o32 rfl, Int32.toBitVec_xor]
      have : (Int32.ofInt (-1)).toBitVec = BitVec.allOnes 32 := by decide
      rw [this, BitVec.xor_allOnes, BitVec.toNat_not]
      omega
    have hx2 : U9 (w32 (x - 1)) = U9 x - 1 := by
      rw [U9_w, U9_sub, show U9 1 = 1 by decide]
      omega
    have hp : 2 ^ t ≤ 2 ^ 23 := Nat.pow_le_pow_right (by decide) (by omega)
    have hp1 : 0 < 2 ^ t := Nat.two_pow_pos t
    have hU : U9 (kand (kxor x (-1)) (w32 (x - 1))) = 2 ^ t - 1 := by
      rw [U9_and, hx1, hx2]
      exact hl
    have hv : kand (kxor x (-1)) (w32 (x - 1)) = ((2 ^ t : Nat) : Int) - 1 := by
      have h1 := Int32.le_toInt (Int32.ofInt (kxor x (-1)) &&& Int32.ofInt (w32 (x - 1)))
      have h2 := Int32.toInt_lt (Int32.ofInt (kxor x (-1)) &&& Int32.ofInt (w32 (x - 1)))
      have e : (Int32.ofInt (kxor x (-1)) &&& Int32.ofInt (w32 (x - 1))).toInt = kand (kxor x (-1)) (w32 (x - 1)) := rfl
      rw [e] at h1 h2
      rw [U9_eq] at hU
      omega
    have ht := knt_pow ⟨t, by omega⟩
    dsimp only at ht
    rw [hv, ht]
    constructor
    · intro e j j0 j1 hj
      have := (bt_U9 j0 (by omega)).mp hj
      have := t3 j.toNat (by omega)
      omega
    · intro h
      refine Classical.byContradiction (fun z => ?_)
      have tk : t < k.toNat := by omega
      refine h (t : Int) (by omega) (by omega) ((bt_U9 (by omega) (by omega)).mpr ?_)
      rw [Int.toNat_natCast]
      exact t2
theorem LD_of {n k : Int} {f : Int → Int} (n1 : n ≤ 24) (k0 : 0 ≤ k) (k1 : k < n) (hs : bt (f k) k) : LD n f k ↔ (∀ j, 0 ≤ j → j < k → ¬ bt (f k) j) ∧ ∀ j, 0 ≤ j → j < n → bt (f k) j → bt (f j) k := by
  constructor
  · intro h
    exact ⟨fun j j0 j1 hj => by have := (h j j0 (by omega) hj).2; omega, fun j j0 j1 hj => (h j j0 j1 hj).1⟩
  · intro h b b0 b1 hb
    refine ⟨h.2 b b0 b1 hb, ?_⟩
    by_cases z : k ≤ b
    · exact z
    · exact absurd hb (h.1 b b0 (by omega))
theorem cq_ntzX (d : Nat) (h : mH) (x : Int) : Cq m_J6_numberOfTrailingZeros_0f7a4 d [(0, x)] h (fun r t => r = some (0, knt (kand (kxor x (-1)) (w32 (x - 1)))) ∧ t = h) := by
  refine Cq.of ?_
  show Wp m_J6_numberOfTrailingZeros_0f7a4 (d) 0 [(0, x), (9, 0)] [] h _
  refine Wp.ild_n (j := 0) rfl dJ6_numberOfTrailingZeros_0f7a4_0 ?_
  refine Wp.iconst dJ6_numberOfTrailingZeros_0f7a4_1 (by decide) ?_
  refine Wp.ixor dJ6_numberOfTrailingZeros_0f7a4_2 ?_
  refine Wp.ild_n (j := 0) rfl dJ6_numberOfTrailingZeros_0f7a4_3 ?_
  refine Wp.iconst dJ6_numberOfTrailingZeros_0f7a4_4 (by decide) ?_
  refine Wp.isubE dJ6_numberOfTrailingZeros_0f7a4_5 rfl ?_
  refine Wp.iand dJ6_numberOfTrailingZeros_0f7a4_6 ?_
  refine sti_2_0 (dSt_n dJ6_numberOfTrailingZeros_0f7a4_7) ?_
  refine Wp.ild_n (j := 0) rfl dJ6_numberOfTrailingZeros_0f7a4_8 ?_
  refine Wp.ifgt dJ6_numberOfTrailingZeros_0f7a4_9 (by decide) (tgt := 17) (fun c9 => ?_) (fun c9 => ?_)
  · refine Wp.iconst dJ6_numberOfTrailingZeros_0f7a4_17 (by decide) ?_
    refine sti_2_1 rfl (dSt_n dJ6_numberOfTrailingZeros_0f7a4_18) ?_
    refine Wp.ild_n (j := 0) rfl dJ6_numberOfTrailingZeros_0f7a4_19 ?_
    refine Wp.ldcw (z := 65536) lk_J6_264 (by decide) dJ6_numberOfTrailingZeros_0f7a4_20 ?_
    refine Wp.icle dJ6_numberOfTrailingZeros_0f7a4_23 (by decide) (tgt := 34) (fun c23 => ?_) (fun c23 => ?_)
    · refine Wp.ild_n (j := 0) rfl dJ6_numberOfTrailingZeros_0f7a4_34 ?_
      refine Wp.sipush dJ6_numberOfTrailingZeros_0f7a4_35 (by decide) ?_
      refine Wp.icle dJ6_numberOfTrailingZeros_0f7a4_38 (by decide) (tgt := 49) (fun c38 => ?_) (fun c38 => ?_)
      · refine Wp.ild_n (j := 0) rfl dJ6_numberOfTrailingZeros_0f7a4_49 ?_
        refine Wp.bipush dJ6_numberOfTrailingZeros_0f7a4_50 (by decide) ?_
        refine Wp.icle dJ6_numberOfTrailingZeros_0f7a4_52 (by decide) (tgt := 62) (fun c52 => ?_) (fun c52 => ?_)
        · refine Wp.ild_n (j := 0) rfl dJ6_numberOfTrailingZeros_0f7a4_62 ?_
          refine Wp.iconst dJ6_numberOfTrailingZeros_0f7a4_63 (by decide) ?_
          refine Wp.icle dJ6_numberOfTrailingZeros_0f7a4_64 (by decide) (tgt := 74) (fun c64 => ?_) (fun c64 => ?_)
          · refine Wp.ild_n (j := 1) rfl dJ6_numberOfTrailingZeros_0f7a4_74 ?_
            refine Wp.ild_n (j := 0) rfl dJ6_numberOfTrailingZeros_0f7a4_75 ?_
            refine Wp.iconst dJ6_numberOfTrailingZeros_0f7a4_76 (by decide) ?_
            refine Wp.iushr dJ6_numberOfTrailingZeros_0f7a4_77 ?_
            refine Wp.iaddE dJ6_numberOfTrailingZeros_0f7a4_78 rfl ?_
            refine Wp.iret rfl dJ6_numberOfTrailingZeros_0f7a4_79 ?_
            refine ⟨?_, rfl⟩
            unfold knt
            rw [if_neg (by omega), if_neg (by omega)]
            unfold kn2
            rw [if_neg (by omega)]
            unfold kn3
            rw [if_neg (by omega)]
            unfold kn4
            rw [if_neg (by omega)]
          · refine inc_2_1 rfl dJ6_numberOfTrailingZeros_0f7a4_67 rfl ?_
            refine Wp.ild_n (j := 0) rfl dJ6_numberOfTrailingZeros_0f7a4_70 ?_
            refine Wp.iconst dJ6_numberOfTrailingZeros_0f7a4_71 (by decide) ?_
            refine Wp.iushr dJ6_numberOfTrailingZeros_0f7a4_72 ?_
            refine sti_2_0 (dSt_n dJ6_numberOfTrailingZeros_0f7a4_73) ?_
            refine Wp.ild_n (j := 1) rfl dJ6_numberOfTrailingZeros_0f7a4_74 ?_
            refine Wp.ild_n (j := 0) rfl dJ6_numberOfTrailingZeros_0f7a4_75 ?_
            refine Wp.iconst dJ6_numberOfTrailingZeros_0f7a4_76 (by decide) ?_
            refine Wp.iushr dJ6_numberOfTrailingZeros_0f7a4_77 ?_
            refine Wp.iaddE dJ6_numberOfTrailingZeros_0f7a4_78 rfl ?_
            refine Wp.iret rfl dJ6_numberOfTrailingZeros_0f7a4_79 ?_
            refine ⟨?_, rfl⟩
            unfold knt
            rw [if_neg (by omega), if_neg (by omega)]
            unfold kn2
            rw [if_neg (by omega)]
            unfold kn3
            rw [if_neg (by omega)]
            unfold kn4
            rw [if_pos (by omega)]
        · refine inc_2_1 rfl dJ6_numberOfTrailingZeros_0f7a4_55 rfl ?_
          refine Wp.ild_n (j := 0) rfl dJ6_numberOfTrailingZeros_0f7a4_58 ?_
          refine Wp.iconst dJ6_numberOfTrailingZeros_0f7a4_59 (by decide) ?_
          refine Wp.iushr dJ6_numberOfTrailingZeros_0f7a4_60 ?_
          refine sti_2_0 (dSt_n dJ6_numberOfTrailingZeros_0f7a4_61) ?_
          refine Wp.ild_n (j := 0) rfl dJ6_numberOfTrailingZeros_0f7a4_62 ?_
          refine Wp.iconst dJ6_numberOfTrailingZeros_0f7a4_63 (by decide) ?_
          refine Wp.icle dJ6_numberOfTrailingZeros_0f7a4_64 (by decide) (tgt := 74) (fun c64 => ?_) (fun c64 => ?_)
          · refine Wp.ild_n (j := 1) rfl dJ6_numberOfTrailingZeros_0f7a4_74 ?_
            refine Wp.ild_n (j := 0) rfl dJ6_numberOfTrailingZeros_0f7a4_75 ?_
            refine Wp.iconst dJ6_numberOfTrailingZeros_0f7a4_76 (by decide) ?_
            refine Wp.iushr dJ6_numberOfTrailingZeros_0f7a4_77 ?_
            refine Wp.iaddE dJ6_numberOfTrailingZeros_0f7a4_78 rfl ?_
            refine Wp.iret rfl dJ6_numberOfTrailingZeros_0f7a4_79 ?_
            refine ⟨?_, rfl⟩
            unfold knt
            rw [if_neg (by omega), if_neg (by omega)]
            unfold kn2
            rw [if_neg (by omega)]
            unfold kn3
            rw [if_pos (by omega)]
            unfold kn4
            rw [if_neg (by omega)]
          · refine inc_2_1 rfl dJ6_numberOfTrailingZeros_0f7a4_67 rfl ?_
            refine Wp.ild_n (j := 0) rfl dJ6_numberOfTrailingZeros_0f7a4_70 ?_
            refine Wp.iconst dJ6_numberOfTrailingZeros_0f7a4_71 (by decide) ?_
            refine Wp.iushr dJ6_numberOfTrailingZeros_0f7a4_72 ?_
            refine sti_2_0 (dSt_n dJ6_numberOfTrailingZeros_0f7a4_73) ?_
            refine Wp.ild_n (j := 1) rfl dJ6_numberOfTrailingZeros_0f7a4_74 ?_
            refine Wp.ild_n (j := 0) rfl dJ6_numberOfTrailingZeros_0f7a4_75 ?_
            refine Wp.iconst dJ6_numberOfTrailingZeros_0f7a4_76 (by decide) ?_
            refine Wp.iushr dJ6_numberOfTrailingZeros_0f7a4_77 ?_
            refine Wp.iaddE dJ6_numberOfTrailingZeros_0f7a4_78 rfl ?_
            refine Wp.iret rfl dJ6_numberOfTrailingZeros_0f7a4_79 ?_
            refine ⟨?_, rfl⟩
            unfold knt
            rw [if_neg (by omega), if_neg (by omega)]
            unfold kn2
            rw [if_neg (by omega)]
            unfold kn3
            rw [if_pos (by omega)]
            unfold kn4
            rw [if_pos (by omega)]
      · refine inc_2_1 rfl dJ6_numberOfTrailingZeros_0f7a4_41 rfl ?_
        refine Wp.ild_n (j := 0) rfl dJ6_numberOfTrailingZeros_0f7a4_44 ?_
        refine Wp.bipush dJ6_numberOfTrailingZeros_0f7a4_45 (by decide) ?_
        refine Wp.iushr dJ6_numberOfTrailingZeros_0f7a4_47 ?_
        refine sti_2_0 (dSt_n dJ6_numberOfTrailingZeros_0f7a4_48) ?_
        refine Wp.ild_n (j := 0) rfl dJ6_numberOfTrailingZeros_0f7a4_49 ?_
        refine Wp.bipush dJ6_numberOfTrailingZeros_0f7a4_50 (by decide) ?_
        refine Wp.icle dJ6_numberOfTrailingZeros_0f7a4_52 (by decide) (tgt := 62) (fun c52 => ?_) (fun c52 => ?_)
        · refine Wp.ild_n (j := 0) rfl dJ6_numberOfTrailingZeros_0f7a4_62 ?_
          refine Wp.iconst dJ6_numberOfTrailingZeros_0f7a4_63 (by decide) ?_
          refine Wp.icle dJ6_numberOfTrailingZeros_0f7a4_64 (by decide) (tgt := 74) (fun c64 => ?_) (fun c64 => ?_)
          · refine Wp.ild_n (j := 1) rfl dJ6_numberOfTrailingZeros_0f7a4_74 ?_
            refine Wp.ild_n (j := 0) rfl dJ6_numberOfTrailingZeros_0f7a4_75 ?_
            refine Wp.iconst dJ6_numberOfTrailingZeros_0f7a4_76 (by decide) ?_
            refine Wp.iushr dJ6_numberOfTrailingZeros_0f7a4_77 ?_
            refine Wp.iaddE dJ6_numberOfTrailingZeros_0f7a4_78 rfl ?_
            refine Wp.iret rfl dJ6_numberOfTrailingZeros_0f7a4_79 ?_
            refine ⟨?_, rfl⟩
            unfold knt
            rw [if_neg (by omega), if_neg (by omega)]
            unfold kn2
            rw [if_pos (by omega)]
            unfold kn3
            rw [if_neg (by omega)]
            unfold kn4
            rw [if_neg (by omega)]
          · refine inc_2_1 rfl dJ6_numberOfTrailingZeros_0f7a4_67 rfl ?_
            refine Wp.ild_n (j := 0) rfl dJ6_numberOfTrailingZeros_0f7a4_70 ?_
            refine Wp.iconst dJ6_numberOfTrailingZeros_0f7a4_71 (by decide) ?_
            refine Wp.iushr dJ6_numberOfTrailingZeros_0f7a4_72 ?_
            refine sti_2_0 (dSt_n dJ6_numberOfTrailingZeros_0f7a4_73) ?_
            refine Wp.ild_n (j := 1) rfl dJ6_numberOfTrailingZeros_0f7a4_74 ?_
            refine Wp.ild_n (j := 0) rfl dJ6_numberOfTrailingZeros_0f7a4_75 ?_
            refine Wp.iconst dJ6_numberOfTrailingZeros_0f7a4_76 (by decide) ?_
            refine Wp.iushr dJ6_numberOfTrailingZeros_0f7a4_77 ?_
            refine Wp.iaddE dJ6_numberOfTrailingZeros_0f7a4_78 rfl ?_
            refine Wp.iret rfl dJ6_numberOfTrailingZeros_0f7a4_79 ?_
            refine ⟨?_, rfl⟩
            unfold knt
            rw [if_neg (by omega), if_neg (by omega)]
            unfold kn2
            rw [if_pos (by omega)]
            unfold kn3
            rw [if_neg (by omega)]
            unfold kn4
            rw [if_pos (by omega)]
        · refine inc_2_1 rfl dJ6_numberOfTrailingZeros_0f7a4_55 rfl ?_
          refine Wp.ild_n (j := 0) rfl dJ6_numberOfTrailingZeros_0f7a4_58 ?_
          refine Wp.iconst dJ6_numberOfTrailingZeros_0f7a4_59 (by decide) ?_
          refine Wp.iushr dJ6_numberOfTrailingZeros_0f7a4_60 ?_
          refine sti_2_0 (dSt_n dJ6_numberOfTrailingZeros_0f7a4_61) ?_
          refine Wp.ild_n (j := 0) rfl dJ6_numberOfTrailingZeros_0f7a4_62 ?_
          refine Wp.iconst dJ6_numberOfTrailingZeros_0f7a4_63 (by decide) ?_
          refine Wp.icle dJ6_numberOfTrailingZeros_0f7a4_64 (by decide) (tgt := 74) (fun c64 => ?_) (fun c64 => ?_)
          · refine Wp.ild_n (j := 1) rfl dJ6_numberOfTrailingZeros_0f7a4_74 ?_
            refine Wp.ild_n (j := 0) rfl dJ6_numberOfTrailingZeros_0f7a4_75 ?_
            refine Wp.iconst dJ6_numberOfTrailingZeros_0f7a4_76 (by decide) ?_
            refine Wp.iushr dJ6_numberOfTrailingZeros_0f7a4_77 ?_
            refine Wp.iaddE dJ6_numberOfTrailingZeros_0f7a4_78 rfl ?_
            refine Wp.iret rfl dJ6_numberOfTrailingZeros_0f7a4_79 ?_
            refine ⟨?_, rfl⟩
            unfold knt
            rw [if_neg (by omega), if_neg (by omega)]
            unfold kn2
            rw [if_pos (by omega)]
            unfold kn3
            rw [if_pos (by omega)]
            unfold kn4
            rw [if_neg (by omega)]
          · refine inc_2_1 rfl dJ6_numberOfTrailingZeros_0f7a4_67 rfl ?_
            refine Wp.ild_n (j := 0) rfl dJ6_numberOfTrailingZeros_0f7a4_70 ?_
            refine Wp.iconst dJ6_numberOfTrailingZeros_0f7a4_71 (by decide) ?_
            refine Wp.iushr dJ6_numberOfTrailingZeros_0f7a4_72 ?_
            refine sti_2_0 (dSt_n dJ6_numberOfTrailingZeros_0f7a4_73) ?_
            refine Wp.ild_n (j := 1) rfl dJ6_numberOfTrailingZeros_0f7a4_74 ?_
            refine Wp.ild_n (j := 0) rfl dJ6_numberOfTrailingZeros_0f7a4_75 ?_
            refine Wp.iconst dJ6_numberOfTrailingZeros_0f7a4_76 (by decide) ?_
            refine Wp.iushr dJ6_numberOfTrailingZeros_0f7a4_77 ?_
            refine Wp.iaddE dJ6_numberOfTrailingZeros_0f7a4_78 rfl ?_
            refine Wp.iret rfl dJ6_numberOfTrailingZeros_0f7a4_79 ?_
            refine ⟨?_, rfl⟩
            unfold knt
            rw [if_neg (by omega), if_neg (by omega)]
            unfold kn2
            rw [if_pos (by omega)]
            unfold kn3
            rw [if_pos (by omega)]
            unfold kn4
            rw [if_pos (by omega)]
    · refine inc_2_1 rfl dJ6_numberOfTrailingZeros_0f7a4_26 rfl ?_
      refine Wp.ild_n (j := 0) rfl dJ6_numberOfTrailingZeros_0f7a4_29 ?_
      refine Wp.bipush dJ6_numberOfTrailingZeros_0f7a4_30 (by decide) ?_
      refine Wp.iushr dJ6_numberOfTrailingZeros_0f7a4_32 ?_
      refine sti_2_0 (dSt_n dJ6_numberOfTrailingZeros_0f7a4_33) ?_
      refine Wp.ild_n (j := 0) rfl dJ6_numberOfTrailingZeros_0f7a4_34 ?_
      refine Wp.sipush dJ6_numberOfTrailingZeros_0f7a4_35 (by decide) ?_
      refine Wp.icle dJ6_numberOfTrailingZeros_0f7a4_38 (by decide) (tgt := 49) (fun c38 => ?_) (fun c38 => ?_)
      · refine Wp.ild_n (j := 0) rfl dJ6_numberOfTrailingZeros_0f7a4_49 ?_
        refine Wp.bipush dJ6_numberOfTrailingZeros_0f7a4_50 (by decide) ?_
        refine Wp.icle dJ6_numberOfTrailingZeros_0f7a4_52 (by decide) (tgt := 62) (fun c52 => ?_) (fun c52 => ?_)
        · refine Wp.ild_n (j := 0) rfl dJ6_numberOfTrailingZeros_0f7a4_62 ?_
          refine Wp.iconst dJ6_numberOfTrailingZeros_0f7a4_63 (by decide) ?_
          refine Wp.icle dJ6_numberOfTrailingZeros_0f7a4_64 (by decide) (tgt := 74) (fun c64 => ?_) (fun c64 => ?_)
          · refine Wp.ild_n (j := 1) rfl dJ6_numberOfTrailingZeros_0f7a4_74 ?_
            refine Wp.ild_n (j := 0) rfl dJ6_numberOfTrailingZeros_0f7a4_75 ?_
            refine Wp.iconst dJ6_numberOfTrailingZeros_0f7a4_76 (by decide) ?_
            refine Wp.iushr dJ6_numberOfTrailingZeros_0f7a4_77 ?_
            refine Wp.iaddE dJ6_numberOfTrailingZeros_0f7a4_78 rfl ?_
            refine Wp.iret rfl dJ6_numberOfTrailingZeros_0f7a4_79 ?_
            refine ⟨?_, rfl⟩
            unfold knt
            rw [if_neg (by omega), if_pos (by omega)]
            unfold kn2
            rw [if_neg (by omega)]
            unfold kn3
            rw [if_neg (by omega)]
            unfold kn4
            rw [if_neg (by omega)]
          · refine inc_2_1 rfl dJ6_numberOfTrailingZeros_0f7a4_67 rfl ?_
            refine Wp.ild_n (j := 0) rfl dJ6_numberOfTrailingZeros_0f7a4_70 ?_
            refine Wp.iconst dJ6_numberOfTrailingZeros_0f7a4_71 (by decide) ?_
            refine Wp.iushr dJ6_numberOfTrailingZeros_0f7a4_72 ?_
            refine sti_2_0 (dSt_n dJ6_numberOfTrailingZeros_0f7a4_73) ?_
            refine Wp.ild_n (j := 1) rfl dJ6_numberOfTrailingZeros_0f7a4_74 ?_
            refine Wp.ild_n (j := 0) rfl dJ6_numberOfTrailingZeros_0f7a4_75 ?_
            refine Wp.iconst dJ6_numberOfTrailingZeros_0f7a4_76 (by decide) ?_
            refine Wp.iushr dJ6_numberOfTrailingZeros_0f7a4_77 ?_
            refine Wp.iaddE dJ6_numberOfTrailingZeros_0f7a4_78 rfl ?_
            refine Wp.iret rfl dJ6_numberOfTrailingZeros_0f7a4_79 ?_
            refine ⟨?_, rfl⟩
            unfold knt
            rw [if_neg (by omega), if_pos (by omega)]
            unfold kn2
            rw [if_neg (by omega)]
            unfold kn3
            rw [if_neg (by omega)]
            unfold kn4
            rw [if_pos (by omega)]
        · refine inc_2_1 rfl dJ6_numberOfTrailingZeros_0f7a4_55 rfl ?_
          refine Wp.ild_n (j := 0) rfl dJ6_numberOfTrailingZeros_0f7a4_58 ?_
          refine Wp.iconst dJ6_numberOfTrailingZeros_0f7a4_59 (by decide) ?_
          refine Wp.iushr dJ6_numberOfTrailingZeros_0f7a4_60 ?_
          refine sti_2_0 (dSt_n dJ6_numberOfTrailingZeros_0f7a4_61) ?_
          refine Wp.ild_n (j := 0) rfl dJ6_numberOfTrailingZeros_0f7a4_62 ?_
          refine Wp.iconst dJ6_numberOfTrailingZeros_0f7a4_63 (by decide) ?_
          refine Wp.icle dJ6_numberOfTrailingZeros_0f7a4_64 (by decide) (tgt := 74) (fun c64 => ?_) (fun c64 => ?_)
          · refine Wp.ild_n (j := 1) rfl dJ6_numberOfTrailingZeros_0f7a4_74 ?_
            refine Wp.ild_n (j := 0) rfl dJ6_numberOfTrailingZeros_0f7a4_75 ?_
            refine Wp.iconst dJ6_numberOfTrailingZeros_0f7a4_76 (by decide) ?_
            refine Wp.iushr dJ6_numberOfTrailingZeros_0f7a4_77 ?_
            refine Wp.iaddE dJ6_numberOfTrailingZeros_0f7a4_78 rfl ?_
            refine Wp.iret rfl dJ6_numberOfTrailingZeros_0f7a4_79 ?_
            refine ⟨?_, rfl⟩
            unfold knt
            rw [if_neg (by omega), if_pos (by omega)]
            unfold kn2
            rw [if_neg (by omega)]
            unfold kn3
            rw [if_pos (by omega)]
            unfold kn4
            rw [if_neg (by omega)]
          · refine inc_2_1 rfl dJ6_numberOfTrailingZeros_0f7a4_67 rfl ?_
            refine Wp.ild_n (j := 0) rfl dJ6_numberOfTrailingZeros_0f7a4_70 ?_
            refine Wp.iconst dJ6_numberOfTrailingZeros_0f7a4_71 (by decide) ?_
            refine Wp.iushr dJ6_numberOfTrailingZeros_0f7a4_72 ?_
            refine sti_2_0 (dSt_n dJ6_numberOfTrailingZeros_0f7a4_73) ?_
            refine Wp.ild_n (j := 1) rfl dJ6_numberOfTrailingZeros_0f7a4_74 ?_
            refine Wp.ild_n (j := 0) rfl dJ6_numberOfTrailingZeros_0f7a4_75 ?_
            refine Wp.iconst dJ6_numberOfTrailingZeros_0f7a4_76 (by decide) ?_
            refine Wp.iushr dJ6_numberOfTrailingZeros_0f7a4_77 ?_
            refine Wp.iaddE dJ6_numberOfTrailingZeros_0f7a4_78 rfl ?_
            refine Wp.iret rfl dJ6_numberOfTrailingZeros_0f7a4_79 ?_
            refine ⟨?_, rfl⟩
            unfold knt
            rw [if_neg (by omega), if_pos (by omega)]
            unfold kn2
            rw [if_neg (by omega)]
            unfold kn3
            rw [if_pos (by omega)]
            unfold kn4
            rw [if_pos (by omega)]
      · refine inc_2_1 rfl dJ6_numberOfTrailingZeros_0f7a4_41 rfl ?_
        refine Wp.ild_n (j := 0) rfl dJ6_numberOfTrailingZeros_0f7a4_44 ?_
        refine Wp.bipush dJ6_numberOfTrailingZeros_0f7a4_45 (by decide) ?_
        refine Wp.iushr dJ6_numberOfTrailingZeros_0f7a4_47 ?_
        refine sti_2_0 (dSt_n dJ6_numberOfTrailingZeros_0f7a4_48) ?_
        refine Wp.ild_n (j := 0) rfl dJ6_numberOfTrailingZeros_0f7a4_49 ?_
        refine Wp.bipush dJ6_numberOfTrailingZeros_0f7a4_50 (by decide) ?_
        refine Wp.icle dJ6_numberOfTrailingZeros_0f7a4_52 (by decide) (tgt := 62) (fun c52 => ?_) (fun c52 => ?_)
        · refine Wp.ild_n (j := 0) rfl dJ6_numberOfTrailingZeros_0f7a4_62 ?_
          refine Wp.iconst dJ6_numberOfTrailingZeros_0f7a4_63 (by decide) ?_
          refine Wp.icle dJ6_numberOfTrailingZeros_0f7a4_64 (by decide) (tgt := 74) (fun c64 => ?_) (fun c64 => ?_)
          · refine Wp.ild_n (j := 1) rfl dJ6_numberOfTrailingZeros_0f7a4_74 ?_
            refine Wp.ild_n (j := 0) rfl dJ6_numberOfTrailingZeros_0f7a4_75 ?_
            refine Wp.iconst dJ6_numberOfTrailingZeros_0f7a4_76 (by decide) ?_
            refine Wp.iushr dJ6_numberOfTrailingZeros_0f7a4_77 ?_
            refine Wp.iaddE dJ6_numberOfTrailingZeros_0f7a4_78 rfl ?_
            refine Wp.iret rfl dJ6_numberOfTrailingZeros_0f7a4_79 ?_
            refine ⟨?_, rfl⟩
            unfold knt
            rw [if_neg (by omega), if_pos (by omega)]
            unfold kn2
            rw [if_pos (by omega)]
            unfold kn3
            rw [if_neg (by omega)]
            unfold kn4
            rw [if_neg (by omega)]
          · refine inc_2_1 rfl dJ6_numberOfTrailingZeros_0f7a4_67 rfl ?_
            refine Wp.ild_n (j := 0) rfl dJ6_numberOfTrailingZeros_0f7a4_70 ?_
            refine Wp.iconst dJ6_numberOfTrailingZeros_0f7a4_71 (by decide) ?_
            refine Wp.iushr dJ6_numberOfTrailingZeros_0f7a4_72 ?_
            refine sti_2_0 (dSt_n dJ6_numberOfTrailingZeros_0f7a4_73) ?_
            refine Wp.ild_n (j := 1) rfl dJ6_numberOfTrailingZeros_0f7a4_74 ?_
            refine Wp.ild_n (j := 0) rfl dJ6_numberOfTrailingZeros_0f7a4_75 ?_
            refine Wp.iconst dJ6_numberOfTrailingZeros_0f7a4_76 (by decide) ?_
            refine Wp.iushr dJ6_numberOfTrailingZeros_0f7a4_77 ?_
            refine Wp.iaddE dJ6_numberOfTrailingZeros_0f7a4_78 rfl ?_
            refine Wp.iret rfl dJ6_numberOfTrailingZeros_0f7a4_79 ?_
            refine ⟨?_, rfl⟩
            unfold knt
            rw [if_neg (by omega), if_pos (by omega)]
            unfold kn2
            rw [if_pos (by omega)]
            unfold kn3
            rw [if_neg (by omega)]
            unfold kn4
            rw [if_pos (by omega)]
        · refine inc_2_1 rfl dJ6_numberOfTrailingZeros_0f7a4_55 rfl ?_
          refine Wp.ild_n (j := 0) rfl dJ6_numberOfTrailingZeros_0f7a4_58 ?_
          refine Wp.iconst dJ6_numberOfTrailingZeros_0f7a4_59 (by decide) ?_
          refine Wp.iushr dJ6_numberOfTrailingZeros_0f7a4_60 ?_
          refine sti_2_0 (dSt_n dJ6_numberOfTrailingZeros_0f7a4_61) ?_
          refine Wp.ild_n (j := 0) rfl dJ6_numberOfTrailingZeros_0f7a4_62 ?_
          refine Wp.iconst dJ6_numberOfTrailingZeros_0f7a4_63 (by decide) ?_
          refine Wp.icle dJ6_numberOfTrailingZeros_0f7a4_64 (by decide) (tgt := 74) (fun c64 => ?_) (fun c64 => ?_)
          · refine Wp.ild_n (j := 1) rfl dJ6_numberOfTrailingZeros_0f7a4_74 ?_
            refine Wp.ild_n (j := 0) rfl dJ6_numberOfTrailingZeros_0f7a4_75 ?_
            refine Wp.iconst dJ6_numberOfTrailingZeros_0f7a4_76 (by decide) ?_
            refine Wp.iushr dJ6_numberOfTrailingZeros_0f7a4_77 ?_
            refine Wp.iaddE dJ6_numberOfTrailingZeros_0f7a4_78 rfl ?_
            refine Wp.iret rfl dJ6_numberOfTrailingZeros_0f7a4_79 ?_
            refine ⟨?_, rfl⟩
            unfold knt
            rw [if_neg (by omega), if_pos (by omega)]
            unfold kn2
            rw [if_pos (by omega)]
            unfold kn3
            rw [if_pos (by omega)]
            unfold kn4
            rw [if_neg (by omega)]
          · refine inc_2_1 rfl dJ6_numberOfTrailingZeros_0f7a4_67 rfl ?_
            refine Wp.ild_n (j := 0) rfl dJ6_numberOfTrailingZeros_0f7a4_70 ?_
            refine Wp.iconst dJ6_numberOfTrailingZeros_0f7a4_71 (by decide) ?_
            refine Wp.iushr dJ6_numberOfTrailingZeros_0f7a4_72 ?_
            refine sti_2_0 (dSt_n dJ6_numberOfTrailingZeros_0f7a4_73) ?_
            refine Wp.ild_n (j := 1) rfl dJ6_numberOfTrailingZeros_0f7a4_74 ?_
            refine Wp.ild_n (j := 0) rfl dJ6_numberOfTrailingZeros_0f7a4_75 ?_
            refine Wp.iconst dJ6_numberOfTrailingZeros_0f7a4_76 (by decide) ?_
            refine Wp.iushr dJ6_numberOfTrailingZeros_0f7a4_77 ?_
            refine Wp.iaddE dJ6_numberOfTrailingZeros_0f7a4_78 rfl ?_
            refine Wp.iret rfl dJ6_numberOfTrailingZeros_0f7a4_79 ?_
            refine ⟨?_, rfl⟩
            unfold knt
            rw [if_neg (by omega), if_pos (by omega)]
            unfold kn2
            rw [if_pos (by omega)]
            unfold kn3
            rw [if_pos (by omega)]
            unfold kn4
            rw [if_pos (by omega)]
  · refine Wp.ild_n (j := 0) rfl dJ6_numberOfTrailingZeros_0f7a4_12 ?_
    refine Wp.bipush dJ6_numberOfTrailingZeros_0f7a4_13 (by decide) ?_
    refine Wp.iand dJ6_numberOfTrailingZeros_0f7a4_15 ?_
    refine Wp.iret rfl dJ6_numberOfTrailingZeros_0f7a4_16 ?_
    refine ⟨?_, rfl⟩
    unfold knt
    rw [if_pos (by omega)]

theorem reach1X (d : Nat) (h : mH) (sh : Sh h) (hn : hF h 2 1 ≤ 24) (Q : Option mV → mH → Prop) (hq : ∀ t, Fr [10] [] h t → (∀ j, 0 ≤ j → j < hF h 2 1 → hA t 10 j = (fun j => kor (hA h 6 j) (kshl 1 j)) j) → ∀ (i : Int) (x : mV), Wp m_X0_fillReach (d + 1) 32 [(2, 2), (0, i), x] [] t Q) : ∀ (m : Nat) (i : Int) (h' : mH) (x : mV), (hF h 2 1 - i).toNat < m → (Fr [10] [] h h') → (0 ≤ i) → (∀ j, 0 ≤ j → j < i → hA h' 10 j = (fun j => kor (hA h 6 j) (kshl 1 j)) j) → Wp m_X0_fillReach (d + 1) 2 [(2, 2), (0, i), x] [] h' Q := by
  intro m
  induction m with
  | zero => intro i h' x hm; exact absurd hm (Nat.not_lt_zero _)
  | succ m ih =>
    intro i h' x hm fr h0 iv
    have sh' := sh.fr fr (by decide +kernel) (by decide)
    have e1 : hF h' 2 1 = hF h 2 1 := fr.2.2.2.2.1 2 1 (by decide)
    have e6 : hA h' 6 = hA h 6 := fr.2.2.2.2.2 6 (by decide)
    refine Wp.ild_n (j := 1) rfl dX0_fillReach_2 ?_
    refine Wp.ald_n (j := 0) rfl dX0_fillReach_3 ?_
    refine Wp.getf (k := 1) (tg := 0) kC0 (by decide) rfl lf_X0_15 dX0_fillReach_4 (sK2 (h := h') sh') e1 ?_
    refine Wp.icge dX0_fillReach_7 (by decide) (tgt := 32) (fun c7 => ?_) (fun c7 => ?_)
    · exact hq _ fr (fun j j0 j1 => iv j j0 (by omega)) _ _
    · refine Wp.ald_n (j := 0) rfl dX0_fillReach_10 ?_
      refine Wp.getf (k := 11) (tg := 2) kC0 (by decide) rfl lf_X0_46 dX0_fillReach_11 (sK2 (h := h') sh') (sF2_11 (h := h') sh') ?_
      refine Wp.ild_n (j := 1) rfl dX0_fillReach_14 ?_
      refine Wp.ald_n (j := 0) rfl dX0_fillReach_15 ?_
      refine Wp.getf (k := 6) (tg := 2) kC0 (by decide) rfl lf_X0_31 dX0_fillReach_16 (sK2 (h := h') sh') (sF2_6 (h := h') sh') ?_
      refine Wp.ild_n (j := 1) rfl dX0_fillReach_19 ?_
      refine Wp.iaload dX0_fillReach_20 (sK6 (h := h') sh') (by omega) (ilt (sL6 (h := h') sh') (by omega)) (show hA _ 6 _ = hA h' 6 _ from rfl) ?_
      refine Wp.iconst dX0_fillReach_21 (by decide) ?_
      refine Wp.ild_n (j := 1) rfl dX0_fillReach_22 ?_
      refine Wp.ishl dX0_fillReach_23 ?_
      refine Wp.ior dX0_fillReach_24 ?_
      refine Wp.iastore dX0_fillReach_25 (sK10 (h := h') sh') (by omega) (ilt (sL10 (h := h') sh') (by omega)) ?_
      refine inc_3_1 rfl dX0_fillReach_26 (by first | exact w32_of (by omega) (by omega) | rfl) ?_
      refine Wp.goto (tgt := 2) dX0_fillReach_29 (by decide) ?_
      refine ih (i + 1) _ _ (by omega) (fr.tr (Fr.e (by decide))) (by omega) (fun j j0 j1 => ?_)
      rw [hA_sEs]
      by_cases e : j = i
      · rw [e, u1_s, congrFun e6 i]
      · rw [u1_n _ _ e]
        exact iv j j0 (by omega)

theorem reach3X (d : Nat) (h : mH) (sh : Sh h) (hn : hF h 2 1 ≤ 24) (o : Int) (o0 : 0 ≤ o) (o1 : o < hF h 2 1) (F : Int → Int) (Q : Option mV → mH → Prop) (hq : ∀ t, Fr [10] [] h t → (∀ j, 0 ≤ j → j < hF h 2 1 → hA t 10 j = F j) → ∀ (i : Int), Wp m_X0_fillReach (d + 1) 86 [(2, 2), (0, o), (0, i)] [] t Q) : ∀ (m : Nat) (i : Int) (s : Int → Int) (h' : mH), (hF h 2 1 - i).toNat < m → (Fr [10] [] h h') → (0 ≤ i) → ((∀ j, 0 ≤ j → j < hF h 2 1 → hA h' 10 j = s j)) → (wa3 (hF h 2 1) o m i s = F) → Wp m_X0_fillReach (d + 1) 44 [(2, 2), (0, o), (0, i)] [] h' Q := by
  intro m
  induction m with
  | zero => intro i s h' hm; exact absurd hm (Nat.not_lt_zero _)
  | succ m ih =>
    intro i s h' hm fr h0 rl eF
    have sh' := sh.fr fr (by decide +kernel) (by decide)
    have e1 : hF h' 2 1 = hF h 2 1 := fr.2.2.2.2.1 2 1 (by decide)
    have e6 : hA h' 6 = hA h 6 := fr.2.2.2.2.2 6 (by decide)
    refine Wp.ild_n (j := 2) rfl dX0_fillReach_44 ?_
    refine Wp.ald_n (j := 0) rfl dX0_fillReach_45 ?_
    refine Wp.getf (k := 1) (tg := 0) kC0 (by decide) rfl lf_X0_15 dX0_fillReach_46 (sK2 (h := h') sh') e1 ?_
    refine Wp.icge dX0_fillReach_49 (by decide) (tgt := 86) (fun c49 => ?_) (fun c49 => ?_)
    · have hu : wa3 (hF h 2 1) o (m + 1) i s = s := if_neg (show ¬ i < hF h 2 1 by omega)
      rw [hu] at eF
      subst eF
      exact hq _ fr rl _
    · refine Wp.ald_n (j := 0) rfl dX0_fillReach_52 ?_
      refine Wp.getf (k := 11) (tg := 2) kC0 (by decide) rfl lf_X0_46 dX0_fillReach_53 (sK2 (h := h') sh') (sF2_11 (h := h') sh') ?_
      refine Wp.ild_n (j := 2) rfl dX0_fillReach_56 ?_
      refine Wp.iaload dX0_fillReach_57 (sK10 (h := h') sh') (by omega) (ilt (sL10 (h := h') sh') (by omega)) (show hA _ 10 _ = hA h' 10 _ from rfl) ?_
      refine Wp.ild_n (j := 1) rfl dX0_fillReach_58 ?_
      refine Wp.callS1 (ct_holds d _ _ _) wc_X0_75 sM_X0_holds dX0_fillReach_59 rfl (Nat.le_of_ble_eq_true rfl) rfl (Nat.le_of_ble_eq_true rfl) ?_
      refine Wp.ifeq dX0_fillReach_62 (by decide) (tgt := 80) (fun c62 => ?_) (fun c62 => ?_)
      · refine inc_3_2 rfl dX0_fillReach_80 (by first | exact w32_of (by omega) (by omega) | rfl) ?_
        refine Wp.goto (tgt := 44) dX0_fillReach_83 (by decide) ?_
        have hu : wa3 (hF h 2 1) o (m + 1) i s = wa3 (hF h 2 1) o m (i + 1) (wa1 o i s) := if_pos (show i < hF h 2 1 by omega)
        rw [hu] at eF
        have hv := rl i h0 (by omega)
        have hw := rl o o0 o1
        rw [hv] at c62
        unfold wa1 at eF
        rw [if_pos (Classical.byContradiction (fun z => holds_f c62 z))] at eF
        exact ih (i + 1) s _ (by omega) fr (by omega) rl eF
      · refine Wp.ald_n (j := 0) rfl dX0_fillReach_65 ?_
        refine Wp.getf (k := 11) (tg := 2) kC0 (by decide) rfl lf_X0_46 dX0_fillReach_66 (sK2 (h := h') sh') (sF2_11 (h := h') sh') ?_
        refine Wp.ild_n (j := 2) rfl dX0_fillReach_69 ?_
        refine Wp.dup2 dX0_fillReach_70 (Or.inl rfl) (Or.inr rfl) ?_
        refine Wp.iaload dX0_fillReach_71 (sK10 (h := h') sh') (by omega) (ilt (sL10 (h := h') sh') (by omega)) (show hA _ 10 _ = hA h' 10 _ from rfl) ?_
        refine Wp.ald_n (j := 0) rfl dX0_fillReach_72 ?_
        refine Wp.getf (k := 11) (tg := 2) kC0 (by decide) rfl lf_X0_46 dX0_fillReach_73 (sK2 (h := h') sh') (sF2_11 (h := h') sh') ?_
        refine Wp.ild_n (j := 1) rfl dX0_fillReach_76 ?_
        refine Wp.iaload dX0_fillReach_77 (sK10 (h := h') sh') (by omega) (ilt (sL10 (h := h') sh') (by omega)) (show hA _ 10 _ = hA h' 10 _ from rfl) ?_
        refine Wp.ior dX0_fillReach_78 ?_
        refine Wp.iastore dX0_fillReach_79 (sK10 (h := h') sh') (by omega) (ilt (sL10 (h := h') sh') (by omega)) ?_
        refine inc_3_2 rfl dX0_fillReach_80 (by first | exact w32_of (by omega) (by omega) | rfl) ?_
        refine Wp.goto (tgt := 44) dX0_fillReach_83 (by decide) ?_
        have hu : wa3 (hF h 2 1) o (m + 1) i s = wa3 (hF h 2 1) o m (i + 1) (wa1 o i s) := if_pos (show i < hF h 2 1 by omega)
        rw [hu] at eF
        have hv := rl i h0 (by omega)
        have hw := rl o o0 o1
        rw [hv] at c62
        unfold wa1 at eF
        rw [if_neg (holds_t c62)] at eF
        refine ih (i + 1) _ _ (by omega) (fr.tr (Fr.e (by decide))) (by omega) (fun j j0 j1 => ?_) eF
        rw [hA_sEs, hv, hw]
        exact u1_cg (fun _ => rl j j0 j1)

theorem reach2X (d : Nat) (h : mH) (sh : Sh h) (hn : hF h 2 1 ≤ 24) (F : Int → Int) : ∀ (m : Nat) (o : Int) (s : Int → Int) (h' : mH) (x : mV), (hF h 2 1 - o).toNat < m → (Fr [10] [] h h') → (0 ≤ o) → ((∀ j, 0 ≤ j → j < hF h 2 1 → hA h' 10 j = s j)) → (wa2 (hF h 2 1) m o s = F) → Wp m_X0_fillReach (d + 1) 34 [(2, 2), (0, o), x] [] h' (fun r t => r = none ∧ Fr [10] [] h t ∧ (∀ j, 0 ≤ j → j < hF h 2 1 → hA t 10 j = F j)) := by
  intro m
  induction m with
  | zero => intro o s h' x hm; exact absurd hm (Nat.not_lt_zero _)
  | succ m ih =>
    intro o s h' x hm fr h0 rl eF
    have sh' := sh.fr fr (by decide +kernel) (by decide)
    have e1 : hF h' 2 1 = hF h 2 1 := fr.2.2.2.2.1 2 1 (by decide)
    have e6 : hA h' 6 = hA h 6 := fr.2.2.2.2.2 6 (by decide)
    refine Wp.ild_n (j := 1) rfl dX0_fillReach_34 ?_
    refine Wp.ald_n (j := 0) rfl dX0_fillReach_35 ?_
    refine Wp.getf (k := 1) (tg := 0) kC0 (by decide) rfl lf_X0_15 dX0_fillReach_36 (sK2 (h := h') sh') e1 ?_
    refine Wp.icge dX0_fillReach_39 (by decide) (tgt := 92) (fun c39 => ?_) (fun c39 => ?_)
    · refine Wp.vret rfl dX0_fillReach_92 ?_
      have hu : wa2 (hF h 2 1) (m + 1) o s = s := if_neg (show ¬ o < hF h 2 1 by omega)
      rw [hu] at eF
      subst eF
      exact ⟨rfl, fr, rl⟩
    · refine Wp.iconst dX0_fillReach_42 (by decide) ?_
      refine sti_3_2 rfl (dSt_n dX0_fillReach_43) ?_
      have hu : wa2 (hF h 2 1) (m + 1) o s = wa2 (hF h 2 1) m (o + 1) (wa3 (hF h 2 1) o 25 0 s) := if_pos (show o < hF h 2 1 by omega)
      rw [hu] at eF
      exact reach3X d h sh hn o h0 (by omega) _ _ (fun t frt rlt i => by
        refine inc_3_1 rfl dX0_fillReach_86 (w32_of (by omega) (by omega)) ?_
        refine Wp.goto (tgt := 34) dX0_fillReach_89 (by decide) ?_
        exact ih (o + 1) _ t _ (by omega) frt (by omega) rlt eF) 25 0 s h' (by omega) fr (by omega) rl rfl

theorem cq_fillReachX (d : Nat) (h : mH) (sh : Sh h) (hn : hF h 2 1 ≤ 24) : Cq m_X0_fillReach (d + 1) [(2, 2)] h (fun r t => r = none ∧ Fr [10] [] h t ∧ (∀ j, 0 ≤ j → j < hF h 2 1 → hA t 10 j = (wa2 (hF h 2 1) 25 0 (fun j => kor (hA h 6 j) (kshl 1 j))) j)) := by
  refine Cq.of ?_
  show Wp m_X0_fillReach ((d + 1)) 0 [(2, 2), (9, 0), (9, 0)] [] h _
  refine Wp.iconst dX0_fillReach_0 (by decide) ?_
  refine sti_3_1 rfl (dSt_n dX0_fillReach_1) ?_
  exact reach1X d h sh hn _ (fun t frt rlt i x => by
    refine Wp.iconst dX0_fillReach_32 (by decide) ?_
    refine sti_3_1 rfl (dSt_n dX0_fillReach_33) ?_
    exact reach2X d h sh hn _ 25 0 _ t _ (by omega) frt (by omega) rlt rfl) _ 0 h _ (Nat.lt_succ_self _) Fr.rf (by omega) (fun j j0 j1 => absurd j1 (by omega))

theorem leadBackX_loop (d : Nat) (h : mH) (sh : Sh h) (hn : hF h 2 1 ≤ 24) (b : Int) (b0 : 0 ≤ b) (b1 : b < 24) : ∀ (m : Nat) (i : Int), (hF h 2 1 - i).toNat < m → (0 ≤ i) → ((∀ j, 0 ≤ j → j < i → bt (hA h 10 b) j → bt (hA h 10 j) b)) → Wp m_X0_allLeadBack (d + 1) 2 [(2, 2), (0, b), (0, i)] [] h (fun r t => (∃ y, r = some (0, y) ∧ (y = 0 ∨ y = 1) ∧ (y = 1 ↔ (∀ j, 0 ≤ j → j < hF h 2 1 → bt (hA h 10 b) j → bt (hA h 10 j) b))) ∧ t = h) := by
  intro m
  induction m with
  | zero => intro i hm; exact absurd hm (Nat.not_lt_zero _)
  | succ m ih =>
    intro i hm h0 iv
    refine Wp.ild_n (j := 2) rfl dX0_allLeadBack_2 ?_
    refine Wp.ald_n (j := 0) rfl dX0_allLeadBack_3 ?_
    refine Wp.getf (k := 1) (tg := 0) kC0 (by decide) rfl lf_X0_15 dX0_allLeadBack_4 (sK2 (h := h) sh) (show hF _ 2 1 = hF h 2 1 from rfl) ?_
    refine Wp.icge dX0_allLeadBack_7 (by decide) (tgt := 44) (fun c7 => ?_) (fun c7 => ?_)
    · refine Wp.iconst dX0_allLeadBack_44 (by decide) ?_
      refine Wp.zret rfl dX0_allLeadBack_45 (by omega) ?_
      first
      | exact ⟨⟨_, rfl, Or.inr rfl, fun _ j j0 j1 => iv j j0 (by omega), fun _ => rfl⟩, rfl⟩
      | exact ⟨⟨_, rfl, Or.inl rfl, fun z => absurd z (by decide), fun z => absurd (z i h0 (by omega) (holds_t c20)) (holds_f c33)⟩, rfl⟩
    · refine Wp.ald_n (j := 0) rfl dX0_allLeadBack_10 ?_
      refine Wp.getf (k := 11) (tg := 2) kC0 (by decide) rfl lf_X0_46 dX0_allLeadBack_11 (sK2 (h := h) sh) (sF2_11 (h := h) sh) ?_
      refine Wp.ild_n (j := 1) rfl dX0_allLeadBack_14 ?_
      refine Wp.iaload dX0_allLeadBack_15 (sK10 (h := h) sh) (by omega) (ilt (sL10 (h := h) sh) (by omega)) (show hA _ 10 _ = hA h 10 _ from rfl) ?_
      refine Wp.ild_n (j := 2) rfl dX0_allLeadBack_16 ?_
      refine Wp.callS1 (ct_holds d _ _ _) wc_X0_75 sM_X0_holds dX0_allLeadBack_17 rfl (Nat.le_of_ble_eq_true rfl) rfl (Nat.le_of_ble_eq_true rfl) ?_
      refine Wp.ifeq dX0_allLeadBack_20 (by decide) (tgt := 38) (fun c20 => ?_) (fun c20 => ?_)
      · refine inc_3_2 rfl dX0_allLeadBack_38 (by first | exact w32_of (by omega) (by omega) | rfl) ?_
        refine Wp.goto (tgt := 2) dX0_allLeadBack_41 (by decide) ?_
        refine ih (i + 1) (by omega) (by omega) (fun j j0 j1 hj => ?_)
        by_cases e : j = i
        · rw [e] at hj ⊢
          exact absurd hj (holds_f c20)
        · exact iv j j0 (by omega) hj
      · refine Wp.ald_n (j := 0) rfl dX0_allLeadBack_23 ?_
        refine Wp.getf (k := 11) (tg := 2) kC0 (by decide) rfl lf_X0_46 dX0_allLeadBack_24 (sK2 (h := h) sh) (sF2_11 (h := h) sh) ?_
        refine Wp.ild_n (j := 2) rfl dX0_allLeadBack_27 ?_
        refine Wp.iaload dX0_allLeadBack_28 (sK10 (h := h) sh) (by omega) (ilt (sL10 (h := h) sh) (by omega)) (show hA _ 10 _ = hA h 10 _ from rfl) ?_
        refine Wp.ild_n (j := 1) rfl dX0_allLeadBack_29 ?_
        refine Wp.callS1 (ct_holds d _ _ _) wc_X0_75 sM_X0_holds dX0_allLeadBack_30 rfl (Nat.le_of_ble_eq_true rfl) rfl (Nat.le_of_ble_eq_true rfl) ?_
        refine Wp.ifne dX0_allLeadBack_33 (by decide) (tgt := 38) (fun c33 => ?_) (fun c33 => ?_)
        · refine inc_3_2 rfl dX0_allLeadBack_38 (by first | exact w32_of (by omega) (by omega) | rfl) ?_
          refine Wp.goto (tgt := 2) dX0_allLeadBack_41 (by decide) ?_
          refine ih (i + 1) (by omega) (by omega) (fun j j0 j1 hj => ?_)
          by_cases e : j = i
          · rw [e] at hj ⊢
            exact holds_t c33
          · exact iv j j0 (by omega) hj
        · refine Wp.iconst dX0_allLeadBack_36 (by decide) ?_
          refine Wp.zret rfl dX0_allLeadBack_37 (by omega) ?_
          first
          | exact ⟨⟨_, rfl, Or.inr rfl, fun _ j j0 j1 => iv j j0 (by omega), fun _ => rfl⟩, rfl⟩
          | exact ⟨⟨_, rfl, Or.inl rfl, fun z => absurd z (by decide), fun z => absurd (z i h0 (by omega) (holds_t c20)) (holds_f c33)⟩, rfl⟩

theorem cq_leadBackX (d : Nat) (h : mH) (sh : Sh h) (hn : hF h 2 1 ≤ 24) (b : Int) (b0 : 0 ≤ b) (b1 : b < 24) : Cq m_X0_allLeadBack (d + 1) [(2, 2), (0, b)] h (fun r t => (∃ y, r = some (0, y) ∧ (y = 0 ∨ y = 1) ∧ (y = 1 ↔ (∀ j, 0 ≤ j → j < hF h 2 1 → bt (hA h 10 b) j → bt (hA h 10 j) b))) ∧ t = h) := by
  refine Cq.of ?_
  show Wp m_X0_allLeadBack ((d + 1)) 0 [(2, 2), (0, b), (9, 0)] [] h _
  refine Wp.iconst dX0_allLeadBack_0 (by decide) ?_
  refine sti_3_2 rfl (dSt_n dX0_allLeadBack_1) ?_
  exact leadBackX_loop d h sh hn b b0 b1 _ 0 (Nat.lt_succ_self _) (by omega) (fun j j0 j1 => absurd j1 (by omega))

theorem leadersX (d : Nat) (h : mH) (sh : Sh h) (hn : hF h 2 1 ≤ 24) (hs : ∀ j, 0 ≤ j → j < hF h 2 1 → bt ((wa2 (hF h 2 1) 25 0 (fun j => kor (hA h 6 j) (kshl 1 j))) j) j) : ∀ (m : Nat) (k f : Int) (h' : mH) (x4 : mV), (hF h 2 1 - k).toNat < m → (0 ≤ k) → (k ≤ hF h 2 1) → (Fr [10, 31] [] h h') → ((∀ j, 0 ≤ j → j < hF h 2 1 → hA h' 10 j = (wa2 (hF h 2 1) 25 0 (fun j => kor (hA h 6 j) (kshl 1 j))) j)) → (f = (ls9 (hF h 2 1) (wa2 (hF h 2 1) 25 0 (fun j => kor (hA h 6 j) (kshl 1 j))) k.toNat).1) → (∀ j, 0 ≤ j → j < f → hA h' 31 j = (ls9 (hF h 2 1) (wa2 (hF h 2 1) 25 0 (fun j => kor (hA h 6 j) (kshl 1 j))) k.toNat).2 j) → Wp m_X0_findLeaders (d + 2) 8 [(2, 2), (2, 31), (0, f), (0, k), x4] [] h' (fun r t => r = some (0, (ls9 (hF h 2 1) (wa2 (hF h 2 1) 25 0 (fun j => kor (hA h 6 j) (kshl 1 j))) (hF h 2 1).toNat).1) ∧ Fr [10, 31] [] h t ∧ ∀ j, 0 ≤ j → j < (ls9 (hF h 2 1) (wa2 (hF h 2 1) 25 0 (fun j => kor (hA h 6 j) (kshl 1 j))) (hF h 2 1).toNat).1 → hA t 31 j = (ls9 (hF h 2 1) (wa2 (hF h 2 1) 25 0 (fun j => kor (hA h 6 j) (kshl 1 j))) (hF h 2 1).toNat).2 j) := by
  intro m
  induction m with
  | zero => intro k f h' x4 hm; exact absurd hm (Nat.not_lt_zero _)
  | succ m ih =>
    intro k f h' x4 hm k0 k1 fr rl ef iv
    have sh' := sh.fr fr (by decide +kernel) (by decide)
    have e1 : hF h' 2 1 = hF h 2 1 := fr.2.2.2.2.1 2 1 (by decide)
    have hb9 := ls9_bd (n := hF h 2 1) (f := (wa2 (hF h 2 1) 25 0 (fun j => kor (hA h 6 j) (kshl 1 j)))) k.toNat
    refine Wp.ild_n (j := 3) rfl dX0_findLeaders_8 ?_
    refine Wp.ald_n (j := 0) rfl dX0_findLeaders_9 ?_
    refine Wp.getf (k := 1) (tg := 0) kC0 (by decide) rfl lf_X0_15 dX0_findLeaders_10 (sK2 (h := h') sh') e1 ?_
    refine Wp.icge dX0_findLeaders_13 (by decide) (tgt := 68) (fun c13 => ?_) (fun c13 => ?_)
    · refine Wp.ild_n (j := 2) rfl dX0_findLeaders_68 ?_
      refine Wp.iret rfl dX0_findLeaders_69 ?_
      have ek : k = hF h 2 1 := by omega
      rw [ek] at ef iv
      rw [ef] at iv
      exact ⟨by rw [ef], fr, iv⟩
    · refine Wp.ild_n (j := 2) rfl dX0_findLeaders_16 ?_
      refine Wp.ald_n (j := 1) rfl dX0_findLeaders_17 ?_
      refine Wp.alen dX0_findLeaders_18 (by decide) (by decide) (sK31 (h := h') sh') (sL31 (h := h') sh') (by omega) ?_
      refine Wp.icge dX0_findLeaders_19 (by decide) (tgt := 68) (fun c19 => ?_) (fun c19 => ?_)
      · refine Wp.ild_n (j := 2) rfl dX0_findLeaders_68 ?_
        refine Wp.iret rfl dX0_findLeaders_69 ?_
        have ek : k = hF h 2 1 := by omega
        rw [ek] at ef iv
        rw [ef] at iv
        exact ⟨by rw [ef], fr, iv⟩
      · have hv := rl k k0 (by omega)
        refine Wp.ald_n (j := 0) rfl dX0_findLeaders_22 ?_
        refine Wp.getf (k := 11) (tg := 2) kC0 (by decide) rfl lf_X0_46 dX0_findLeaders_23 (sK2 (h := h') sh') (sF2_11 (h := h') sh') ?_
        refine Wp.ild_n (j := 3) rfl dX0_findLeaders_26 ?_
        refine Wp.iaload dX0_findLeaders_27 (sK10 (h := h') sh') (by omega) (ilt (sL10 (h := h') sh') (by omega)) (show hA _ 10 _ = hA h' 10 _ from rfl) ?_
        obtain ⟨_, t28, ct28, rfl, e28⟩ := cq_ntzX (d + 1) h' (hA h' 10 k)
        rw [e28] at ct28
        refine Wp.callS1 (ct28) wc_X0_68 sM_J6_numberOfTrailingZeros_0f7a4 dX0_findLeaders_28 rfl (Nat.le_of_ble_eq_true rfl) rfl (Nat.le_of_ble_eq_true rfl) ?_
        refine Wp.ild_n (j := 3) rfl dX0_findLeaders_31 ?_
        refine Wp.icne dX0_findLeaders_32 (by decide) (tgt := 39) (fun c32 => ?_) (fun c32 => ?_)
        · refine Wp.iconst dX0_findLeaders_39 (by decide) ?_
          refine sti_5_4 rfl (dSt_w dX0_findLeaders_40) ?_
          refine Wp.ild (j := 4) rfl dX0_findLeaders_42 ?_
          refine Wp.ifeq dX0_findLeaders_44 (by decide) (tgt := 62) (fun _ => ?_) (fun c => absurd c (by decide))
          refine inc_5_3 rfl dX0_findLeaders_62 (by first | exact w32_of (by omega) (by omega) | rfl) ?_
          refine Wp.goto (tgt := 8) dX0_findLeaders_65 (by decide) ?_
          have hld := LD_of (n := hF h 2 1) (f := (wa2 (hF h 2 1) 25 0 (fun j => kor (hA h 6 j) (kshl 1 j)))) hn k0 (by omega) (hs k k0 (by omega))
          have hno : ¬ LD (hF h 2 1) (wa2 (hF h 2 1) 25 0 (fun j => kor (hA h 6 j) (kshl 1 j))) k := fun z => c32 ((knt_iff k0 (by omega) (by rw [hv]; exact hs k k0 (by omega))).mpr (by rw [hv]; exact (hld.mp z).1))
          exact ih (k + 1) f h' _ (by omega) (by omega) (by omega) fr rl (by rw [ls9_no k0 hno]; exact ef) (by rw [ls9_no k0 hno]; exact iv)
        · refine Wp.iconst dX0_findLeaders_35 (by decide) ?_
          refine Wp.goto (tgt := 40) dX0_findLeaders_36 (by decide) ?_
          refine sti_5_4 rfl (dSt_w dX0_findLeaders_40) ?_
          refine Wp.ild (j := 4) rfl dX0_findLeaders_42 ?_
          refine Wp.ifeq dX0_findLeaders_44 (by decide) (tgt := 62) (fun c => absurd c (by decide)) (fun _ => ?_)
          refine Wp.ald_n (j := 0) rfl dX0_findLeaders_47 ?_
          refine Wp.ild_n (j := 3) rfl dX0_findLeaders_48 ?_
          obtain ⟨_, t49, ct49, ⟨y49, rfl, h49⟩, e49⟩ := cq_leadBackX d h' sh' (by omega) k k0 (by omega)
          rw [e49] at ct49
          refine Wp.callV1 (ct49) wc_X0_71 iM_X0_allLeadBack se_X0_allLeadBack kC0 (sK2 (h := h') sh') dX0_findLeaders_49 rfl (Nat.le_of_ble_eq_true rfl) rfl (Nat.le_of_ble_eq_true rfl) ?_
          refine Wp.ifeq dX0_findLeaders_52 (by decide) (tgt := 62) (fun c52 => ?_) (fun c52 => ?_)
          · refine inc_5_3 rfl dX0_findLeaders_62 (by first | exact w32_of (by omega) (by omega) | rfl) ?_
            refine Wp.goto (tgt := 8) dX0_findLeaders_65 (by decide) ?_
            have hld := LD_of (n := hF h 2 1) (f := (wa2 (hF h 2 1) 25 0 (fun j => kor (hA h 6 j) (kshl 1 j)))) hn k0 (by omega) (hs k k0 (by omega))
            have hno : ¬ LD (hF h 2 1) (wa2 (hF h 2 1) 25 0 (fun j => kor (hA h 6 j) (kshl 1 j))) k := fun z => absurd (h49.2.mpr (fun j j0 j1 hj => by rw [e1] at j1; rw [hv] at hj; rw [rl j j0 j1]; exact (hld.mp z).2 j j0 j1 hj)) (by omega)
            exact ih (k + 1) f h' _ (by omega) (by omega) (by omega) fr rl (by rw [ls9_no k0 hno]; exact ef) (by rw [ls9_no k0 hno]; exact iv)
          · refine Wp.ald_n (j := 1) rfl dX0_findLeaders_55 ?_
            refine Wp.ild_n (j := 2) rfl dX0_findLeaders_56 ?_
            refine Wp.ild_n (j := 3) rfl dX0_findLeaders_57 ?_
            refine Wp.iastore dX0_findLeaders_58 (sK31 (h := h') sh') (by omega) (ilt (sL31 (h := h') sh') (by omega)) ?_
            refine inc_5_2 rfl dX0_findLeaders_59 (by first | exact w32_of (by omega) (by omega) | rfl) ?_
            refine inc_5_3 rfl dX0_findLeaders_62 (by first | exact w32_of (by omega) (by omega) | rfl) ?_
            refine Wp.goto (tgt := 8) dX0_findLeaders_65 (by decide) ?_
            have hld := LD_of (n := hF h 2 1) (f := (wa2 (hF h 2 1) 25 0 (fun j => kor (hA h 6 j) (kshl 1 j)))) hn k0 (by omega) (hs k k0 (by omega))
            have hy : LD (hF h 2 1) (wa2 (hF h 2 1) 25 0 (fun j => kor (hA h 6 j) (kshl 1 j))) k := by
              refine hld.mpr ⟨?_, fun j j0 j1 hj => ?_⟩
              · have q := (knt_iff (x := hA h' 10 k) k0 (by omega) (by rw [hv]; exact hs k k0 (by omega))).mp c32
                rw [hv] at q
                exact q
              · have q := h49.2.mp (by omega) j j0 (by omega)
                rw [hv, rl j j0 j1] at q
                exact q hj
            refine ih (k + 1) (f + 1) _ _ (by omega) (by omega) (by omega) (fr.tr (Fr.e (by decide))) (fun j j0 j1 => ?_) (by rw [ls9_yes k0 hy, ← ef]) (fun j j0 j1 => ?_)
            · rw [hA_sEn (by decide)]
              exact rl j j0 j1
            · rw [hA_sEs, ls9_yes k0 hy, ← ef]
              exact u1_cg (fun e => iv j j0 (by omega))

theorem cq_findLeadersX (d : Nat) (h : mH) (sh : Sh h) (n0 : 0 ≤ hF h 2 1) (hn : hF h 2 1 ≤ 24) : Cq m_X0_findLeaders (d + 2) [(2, 2), (2, 31)] h (fun r t => r = some (0, (ls9 (hF h 2 1) (wa2 (hF h 2 1) 25 0 (fun j => kor (hA h 6 j) (kshl 1 j))) (hF h 2 1).toNat).1) ∧ Fr [10, 31] [] h t ∧ ∀ j, 0 ≤ j → j < (ls9 (hF h 2 1) (wa2 (hF h 2 1) 25 0 (fun j => kor (hA h 6 j) (kshl 1 j))) (hF h 2 1).toNat).1 → hA t 31 j = (ls9 (hF h 2 1) (wa2 (hF h 2 1) 25 0 (fun j => kor (hA h 6 j) (kshl 1 j))) (hF h 2 1).toNat).2 j) := by
  refine Cq.of ?_
  show Wp m_X0_findLeaders ((d + 2)) 0 [(2, 2), (2, 31), (9, 0), (9, 0), (9, 0)] [] h _
  refine Wp.ald_n (j := 0) rfl dX0_findLeaders_0 ?_
  obtain ⟨_, t1, ct1, rfl, fr1, rl1⟩ := cq_fillReachX d h sh hn
  have sh1 := sh.fr fr1 (by decide +kernel) (by decide)
  refine Wp.callV0 (ct1) wc_X0_65 iM_X0_fillReach se_X0_fillReach kC0 (sK2 (h := h) sh) dX0_findLeaders_1 rfl (Nat.le_of_ble_eq_true rfl) rfl (Nat.le_of_ble_eq_true rfl) ?_
  refine Wp.iconst dX0_findLeaders_4 (by decide) ?_
  refine sti_5_2 rfl (dSt_n dX0_findLeaders_5) ?_
  refine Wp.iconst dX0_findLeaders_6 (by decide) ?_
  refine sti_5_3 rfl (dSt_n dX0_findLeaders_7) ?_
  have hs : ∀ j, 0 ≤ j → j < hF h 2 1 → bt ((wa2 (hF h 2 1) 25 0 (fun j => kor (hA h 6 j) (kshl 1 j))) j) j := fun j j0 j1 => wa2_up j0 (by omega) 25 0 _ (by
    show bt (kor (hA h 6 j) (kshl 1 j)) j
    rw [bt_or j0 (by omega), bt_one j0 (by omega) j0 (by omega)]
    exact Or.inr rfl)
  exact leadersX d h sh hn hs _ 0 0 t1 _ (Nat.lt_succ_self _) (Int.le_refl _) n0 (fr1.mono (by decide) (by decide)) rl1 rfl (fun j j0 j1 => absurd j1 (by omega))

theorem cq_leadX (d : Nat) (h : mH) (sh : Sh h) (bi : BI h) (ol : 0 ≤ hF h 0 7 ∧ hF h 0 7 ≤ 24) : Cq m_X5_lead (d + 3) [(2, 0)] h (fun r t => (∃ y, r = some (0, y) ∧ ((hF h 2 1 = 0 ∧ y = -1 ∧ Fr [] [(0, 0)] h t) ∨ (hF h 2 1 ≠ 0 ∧ y = (ls9 (hF h 2 1) (wa2 (hF h 2 1) 25 0 (fun j => kor (hA h 6 j) (kshl 1 j))) (hF h 2 1).toNat).1 ∧ hF t 0 7 = (ls9 (hF h 2 1) (wa2 (hF h 2 1) 25 0 (fun j => kor (hA h 6 j) (kshl 1 j))) (hF h 2 1).toNat).1 ∧ (∀ j, 0 ≤ j → j < (ls9 (hF h 2 1) (wa2 (hF h 2 1) 25 0 (fun j => kor (hA h 6 j) (kshl 1 j))) (hF h 2 1).toNat).1 → hA t 31 j = (ls9 (hF h 2 1) (wa2 (hF h 2 1) 25 0 (fun j => kor (hA h 6 j) (kshl 1 j))) (hF h 2 1).toNat).2 j) ∧ Fr [10, 31] [(0, 0), (0, 7)] h t))) ∧ BI t ∧ (0 ≤ hF t 0 7 ∧ hF t 0 7 ≤ 24) ∧ Fr [10, 31] [(0, 0), (0, 7)] h t) := by
  refine Cq.of ?_
  show Wp m_X5_lead ((d + 3)) 0 [(2, 0)] [] h _
  obtain ⟨⟨r0, r1⟩, ⟨n0, n1⟩, ⟨m0, m1⟩, hp, hq⟩ := id bi
  refine Wp.ald_n (j := 0) rfl dX5_lead_0 ?_
  refine Wp.getf (k := 2) (tg := 2) kC5 (by decide) rfl lf_X5_22 dX5_lead_1 (sK0 (h := h) sh) (sF0_2 (h := h) sh) ?_
  refine Wp.getfN (k := 1) (tg := 0) kC0 (by decide) rfl lf_X5_119 dX5_lead_4 (sK2 (h := h) sh) (show hF _ 2 1 = hF h 2 1 from rfl) ?_
  refine Wp.ifne dX5_lead_7 (by decide) (tgt := 17) (fun c7 => ?_) (fun c7 => ?_)
  · refine Wp.ald_n (j := 0) rfl dX5_lead_17 ?_
    refine Wp.ald_n (j := 0) rfl dX5_lead_18 ?_
    refine Wp.getf (k := 2) (tg := 2) kC5 (by decide) rfl lf_X5_22 dX5_lead_19 (sK0 (h := h) sh) (sF0_2 (h := h) sh) ?_
    refine Wp.ald_n (j := 0) rfl dX5_lead_22 ?_
    refine Wp.getf (k := 6) (tg := 2) kC5 (by decide) rfl lf_X5_47 dX5_lead_23 (sK0 (h := h) sh) (sF0_6 (h := h) sh) ?_
    obtain ⟨_, t26, ct26, rfl, f26, l26⟩ := cq_findLeadersX d h sh n0 n1
    have sh26 := sh.fr f26 (by decide +kernel) (by decide)
    refine Wp.callV1 (ct26) wc_X5_235 iM_X0_findLeaders se_X0_findLeaders kC0 (sK2 (h := h) sh) dX5_lead_26 rfl (Nat.le_of_ble_eq_true rfl) rfl (Nat.le_of_ble_eq_true rfl) ?_
    refine Wp.putf (k := 7) (tg := 0) kC5 (by decide) rfl rfl lf_X5_51 dX5_lead_29 (sK0 (h := t26) sh26) ?_
    refine Wp.ald_n (j := 0) rfl dX5_lead_32 ?_
    refine Wp.ald_n (j := 0) rfl dX5_lead_33 ?_
    refine Wp.getf (k := 7) (tg := 0) kC5 (by decide) rfl lf_X5_51 dX5_lead_34 (sK0 (h := t26) sh26) rfl ?_
    refine Wp.callV1 (ct_answer (d + 2) _ (sh26.fr (A := []) (G := [(0, 7)]) (Fr.f (by decide)) (by decide +kernel) (by decide)) _) wc_X5_126 iM_X5_answer se_X5_answer kC5 (sK0 (h := t26) sh26) dX5_lead_37 rfl (Nat.le_of_ble_eq_true rfl) rfl (Nat.le_of_ble_eq_true rfl) ?_
    refine Wp.iret rfl dX5_lead_40 ?_
    have hb := ls9_bd (n := hF h 2 1) (f := (wa2 (hF h 2 1) 25 0 (fun j => kor (hA h 6 j) (kshl 1 j)))) (hF h 2 1).toNat
    have fz : Fr [10, 31] [(0, 0), (0, 7)] h _ := (f26.mono (by simp) (by simp)).tr ((Fr.f (a := 0) (k := 7) (v := (ls9 (hF h 2 1) (wa2 (hF h 2 1) 25 0 (fun j => kor (hA h 6 j) (kshl 1 j))) (hF h 2 1).toNat).1) (by decide)).tr (Fr.f (a := 0) (k := 0) (v := 0) (by decide)))
    exact ⟨⟨_, rfl, Or.inr ⟨by omega, rfl, rfl, l26, fz⟩⟩, (show BI t26 from bi.fr f26 (by decide) (by decide) (by decide) (by decide) (by decide)), (show 0 ≤ (ls9 (hF h 2 1) (wa2 (hF h 2 1) 25 0 (fun j => kor (hA h 6 j) (kshl 1 j))) (hF h 2 1).toNat).1 ∧ (ls9 (hF h 2 1) (wa2 (hF h 2 1) 25 0 (fun j => kor (hA h 6 j) (kshl 1 j))) (hF h 2 1).toNat).1 ≤ 24 by omega), fz⟩
  · refine Wp.ald_n (j := 0) rfl dX5_lead_10 ?_
    refine Wp.bipush dX5_lead_11 (by decide) ?_
    refine Wp.callV1 (ct_lack (d + 2) h sh 8) wc_X5_88 iM_X5_lack se_X5_lack kC5 (sK0 (h := h) sh) dX5_lead_13 rfl (Nat.le_of_ble_eq_true rfl) rfl (Nat.le_of_ble_eq_true rfl) ?_
    refine Wp.iret rfl dX5_lead_16 ?_
    exact ⟨⟨_, rfl, Or.inl ⟨by omega, rfl, Fr.f (by decide)⟩⟩, bi, ol, Fr.f (by decide)⟩

theorem mldX1 (d : Nat) (h : mH) (sh : Sh h) (mb : MB h) (a : Int) (a0 : 0 ≤ a ∧ a < hF h 41 6) (x3 : mV) (Q : Option mV → mH → Prop) (kq : ∀ (t : mH) (b : Int), Fr [72] [] h t → (∀ j, 0 ≤ j → j < 32 → (bt (hA t 72 a) j ↔ (j = a ∨ (j < hF h 41 6 ∧ hA h 49 (24 * a + j) ≠ 0)))) → (∀ i, i ≠ a → hA t 72 i = hA h 72 i) → Wp m_X6_lead (d + 1) 85 [(2, 41), (0, a), (0, b), x3] [] t Q) : ∀ (m : Nat) (b : Int) (h' : mH), (hF h 41 6 - b).toNat < m → (Fr [72] [] h h') → (0 ≤ b) → (b ≤ hF h 41 6) → (∀ j, 0 ≤ j → j < 32 → (bt (hA h' 72 a) j ↔ (j = a ∨ (j < b ∧ hA h 49 (24 * a + j) ≠ 0)))) → (∀ i, i ≠ a → hA h' 72 i = hA h 72 i) → Wp m_X6_lead (d + 1) 45 [(2, 41), (0, a), (0, b), x3] [] h' Q := by
  intro m
  induction m with
  | zero => intro b h' hm; exact absurd hm (Nat.not_lt_zero _)
  | succ m ih =>
    intro b h' hm fr b0 b1 iv iw
    obtain ⟨⟨r0, r1⟩, ⟨n0, n1⟩, ⟨m0, m1⟩, hp, hq⟩ := id mb
    have sh' := sh.fr fr (by decide +kernel) (by decide)
    have e6 : hF h' 41 6 = hF h 41 6 := fr.2.2.2.2.1 41 6 (by decide)
    have e49 : hA h' 49 = hA h 49 := fr.2.2.2.2.2 49 (by decide)
    refine Wp.ild_n (j := 2) rfl dX6_lead_45 ?_
    refine Wp.ald_n (j := 0) rfl dX6_lead_46 ?_
    refine Wp.getf (k := 6) (tg := 0) kC6 (by decide) rfl lf_X6_141 dX6_lead_47 (sK41 (h := h') sh') e6 ?_
    refine Wp.icge dX6_lead_50 (by decide) (tgt := 85) (fun c50 => ?_) (fun c50 => ?_)
    · have eb : b = hF h 41 6 := by omega
      rw [eb] at iv
      exact kq _ _ fr iv iw
    · refine Wp.ald_n (j := 0) rfl dX6_lead_53 ?_
      refine Wp.getf (k := 13) (tg := 2) kC6 (by decide) rfl lf_X6_41 dX6_lead_54 (sK41 (h := h') sh') (sF41_13 (h := h') sh') ?_
      refine Wp.bipush dX6_lead_57 (by decide) ?_
      refine Wp.ild_n (j := 1) rfl dX6_lead_59 ?_
      refine Wp.imulE dX6_lead_60 (by first | exact w32_of (by omega) (by omega) | rfl) ?_
      refine Wp.ild_n (j := 2) rfl dX6_lead_61 ?_
      refine Wp.iaddE dX6_lead_62 (by first | exact w32_of (by omega) (by omega) | rfl) ?_
      refine Wp.zaload dX6_lead_63 (sK49 (h := h') sh') (by omega) (ilt (sL49 (h := h') sh') (by omega)) (show hA _ 49 _ = hA h' 49 _ from rfl) ?_
      refine Wp.ifeq dX6_lead_64 (by decide) (tgt := 79) (fun c64 => ?_) (fun c64 => ?_)
      · refine inc_4_2 rfl dX6_lead_79 (by first | exact w32_of (by omega) (by omega) | rfl) ?_
        refine Wp.goto (tgt := 45) dX6_lead_82 (by decide) ?_
        have h49 := congrFun e49 (24 * a + b)
        refine ih (b + 1) _ (by omega) fr (by omega) (by omega) (fun j j0 j1 => ?_) iw
        rw [iv j j0 j1]
        by_cases e : j = b
        · rw [e]
          omega
        · omega
      · refine Wp.ald_n (j := 0) rfl dX6_lead_67 ?_
        refine Wp.getf (k := 44) (tg := 2) kC6 (by decide) rfl lf_X6_112 dX6_lead_68 (sK41 (h := h') sh') (sF41_44 (h := h') sh') ?_
        refine Wp.ild_n (j := 1) rfl dX6_lead_71 ?_
        refine Wp.dup2 dX6_lead_72 (Or.inl rfl) (Or.inr rfl) ?_
        refine Wp.iaload dX6_lead_73 (sK72 (h := h') sh') (by omega) (ilt (sL72 (h := h') sh') (by omega)) (show hA _ 72 _ = hA h' 72 _ from rfl) ?_
        refine Wp.iconst dX6_lead_74 (by decide) ?_
        refine Wp.ild_n (j := 2) rfl dX6_lead_75 ?_
        refine Wp.ishl dX6_lead_76 ?_
        refine Wp.ior dX6_lead_77 ?_
        refine Wp.iastore dX6_lead_78 (sK72 (h := h') sh') (by omega) (ilt (sL72 (h := h') sh') (by omega)) ?_
        refine inc_4_2 rfl dX6_lead_79 (by first | exact w32_of (by omega) (by omega) | rfl) ?_
        refine Wp.goto (tgt := 45) dX6_lead_82 (by decide) ?_
        have h49 := congrFun e49 (24 * a + b)
        refine ih (b + 1) _ (by omega) (fr.tr (Fr.e (by decide))) (by omega) (by omega) (fun j j0 j1 => ?_) (fun i hi => ?_)
        · rw [hA_sEs, u1_s, bt_or j0 j1, bt_one j0 j1 b0 (by omega), iv j j0 j1]
          by_cases e : j = b
          · rw [e]
            omega
          · omega
        · rw [hA_sEs, u1_n _ _ hi]
          exact iw i hi

theorem mldX2 (d : Nat) (h : mH) (sh : Sh h) (mb : MB h) (x3 : mV) (Q : Option mV → mH → Prop) (kq : ∀ (t : mH) (a : Int) (x2 : mV), Fr [72] [] h t → (∀ i, 0 ≤ i → i < hF h 41 6 → ∀ j, 0 ≤ j → j < 32 → (bt (hA t 72 i) j ↔ (j = i ∨ (j < hF h 41 6 ∧ hA h 49 (24 * i + j) ≠ 0)))) → Wp m_X6_lead (d + 1) 91 [(2, 41), (0, a), x2, x3] [] t Q) : ∀ (m : Nat) (a : Int) (x2 : mV) (h' : mH), (hF h 41 6 - a).toNat < m → (Fr [72] [] h h') → (0 ≤ a) → (∀ i, 0 ≤ i → i < a → ∀ j, 0 ≤ j → j < 32 → (bt (hA h' 72 i) j ↔ (j = i ∨ (j < hF h 41 6 ∧ hA h 49 (24 * i + j) ≠ 0)))) → Wp m_X6_lead (d + 1) 26 [(2, 41), (0, a), x2, x3] [] h' Q := by
  intro m
  induction m with
  | zero => intro a x2 h' hm; exact absurd hm (Nat.not_lt_zero _)
  | succ m ih =>
    intro a x2 h' hm fr a0 iv
    obtain ⟨⟨r0, r1⟩, ⟨n0, n1⟩, ⟨m0, m1⟩, hp, hq⟩ := id mb
    have sh' := sh.fr fr (by decide +kernel) (by decide)
    have e6 : hF h' 41 6 = hF h 41 6 := fr.2.2.2.2.1 41 6 (by decide)
    have e49 : hA h' 49 = hA h 49 := fr.2.2.2.2.2 49 (by decide)
    refine Wp.ild_n (j := 1) rfl dX6_lead_26 ?_
    refine Wp.ald_n (j := 0) rfl dX6_lead_27 ?_
    refine Wp.getf (k := 6) (tg := 0) kC6 (by decide) rfl lf_X6_141 dX6_lead_28 (sK41 (h := h') sh') e6 ?_
    refine Wp.icge dX6_lead_31 (by decide) (tgt := 91) (fun c31 => ?_) (fun c31 => ?_)
    · exact kq _ _ _ fr (fun i i0 i1 => iv i i0 (by omega))
    · refine Wp.ald_n (j := 0) rfl dX6_lead_34 ?_
      refine Wp.getf (k := 44) (tg := 2) kC6 (by decide) rfl lf_X6_112 dX6_lead_35 (sK41 (h := h') sh') (sF41_44 (h := h') sh') ?_
      refine Wp.ild_n (j := 1) rfl dX6_lead_38 ?_
      refine Wp.iconst dX6_lead_39 (by decide) ?_
      refine Wp.ild_n (j := 1) rfl dX6_lead_40 ?_
      refine Wp.ishl dX6_lead_41 ?_
      refine Wp.iastore dX6_lead_42 (sK72 (h := h') sh') (by omega) (ilt (sL72 (h := h') sh') (by omega)) ?_
      refine Wp.iconst dX6_lead_43 (by decide) ?_
      refine sti_4_2 rfl (dSt_n dX6_lead_44) ?_
      have fr2 : Fr [72] [] h (sE h' 72 a (kshl 1 a)) := fr.tr (Fr.e (by decide))
      refine mldX1 d _ (sh.fr fr2 (by decide +kernel) (by decide)) (mb.fr fr2 (by decide) (by decide) (by decide) (by decide) (by decide)) a ⟨a0, by show a < hF h' 41 6; omega⟩ x3 Q (fun t b frt kv kw => ?_) _ 0 _ (Nat.lt_succ_self _) Fr.rf (by omega) (show (0 : Int) ≤ hF h' 41 6 by omega) (fun j j0 j1 => ?_) (fun i _ => rfl)
      · refine inc_4_1 rfl dX6_lead_85 (w32_of (by omega) (by omega)) ?_
        refine Wp.goto (tgt := 26) dX6_lead_88 (by decide) ?_
        have kv : ∀ j, 0 ≤ j → j < 32 → (bt (hA t 72 a) j ↔ (j = a ∨ (j < hF h' 41 6 ∧ hA h' 49 (24 * a + j) ≠ 0))) := kv
        rw [e6, e49] at kv
        refine ih (a + 1) _ t (by omega) (fr2.tr frt) (by omega) (fun i i0 i1 => ?_)
        by_cases e : i = a
        · rw [e]
          exact kv
        · rw [kw i e, show hA (sE h' 72 a (kshl 1 a)) 72 i = hA h' 72 i from by rw [hA_sEs, u1_n _ _ e]]
          exact iv i i0 (by omega)
      · rw [hA_sEs, u1_s, bt_one j0 j1 a0 (by omega)]
        omega

theorem mldX3 (d : Nat) (h : mH) (sh : Sh h) (mb : MB h) (c : Int) (c0 : 0 ≤ c ∧ c < hF h 41 6) (x3 : mV) (F : Int → Int) (Q : Option mV → mH → Prop) (kq : ∀ (t : mH) (a : Int), Fr [72] [] h t → (∀ j, 0 ≤ j → j < hF h 41 6 → hA t 72 j = F j) → Wp m_X6_lead (d + 1) 146 [(2, 41), (0, c), (0, a), x3] [] t Q) : ∀ (m : Nat) (a : Int) (s : Int → Int) (h' : mH), (hF h 41 6 - a).toNat < m → (Fr [72] [] h h') → (0 ≤ a) → ((∀ j, 0 ≤ j → j < hF h 41 6 → hA h' 72 j = s j)) → (wa3 (hF h 41 6) c m a s = F) → Wp m_X6_lead (d + 1) 103 [(2, 41), (0, c), (0, a), x3] [] h' Q := by
  intro m
  induction m with
  | zero => intro a s h' hm; exact absurd hm (Nat.not_lt_zero _)
  | succ m ih =>
    intro a s h' hm fr a0 rl eF
    obtain ⟨⟨r0, r1⟩, ⟨n0, n1⟩, ⟨m0, m1⟩, hp, hq⟩ := id mb
    have sh' := sh.fr fr (by decide +kernel) (by decide)
    have e6 : hF h' 41 6 = hF h 41 6 := fr.2.2.2.2.1 41 6 (by decide)
    refine Wp.ild_n (j := 2) rfl dX6_lead_103 ?_
    refine Wp.ald_n (j := 0) rfl dX6_lead_104 ?_
    refine Wp.getf (k := 6) (tg := 0) kC6 (by decide) rfl lf_X6_141 dX6_lead_105 (sK41 (h := h') sh') e6 ?_
    refine Wp.icge dX6_lead_108 (by decide) (tgt := 146) (fun c108 => ?_) (fun c108 => ?_)
    · have hu : wa3 (hF h 41 6) c (m + 1) a s = s := if_neg (show ¬ a < hF h 41 6 by omega)
      rw [hu] at eF
      subst eF
      exact kq _ _ fr rl
    · refine Wp.ald_n (j := 0) rfl dX6_lead_111 ?_
      refine Wp.getf (k := 44) (tg := 2) kC6 (by decide) rfl lf_X6_112 dX6_lead_112 (sK41 (h := h') sh') (sF41_44 (h := h') sh') ?_
      refine Wp.ild_n (j := 2) rfl dX6_lead_115 ?_
      refine Wp.iaload dX6_lead_116 (sK72 (h := h') sh') (by omega) (ilt (sL72 (h := h') sh') (by omega)) (show hA _ 72 _ = hA h' 72 _ from rfl) ?_
      refine Wp.ild_n (j := 1) rfl dX6_lead_117 ?_
      refine Wp.ishr dX6_lead_118 ?_
      refine Wp.iconst dX6_lead_119 (by decide) ?_
      refine Wp.iand dX6_lead_120 ?_
      refine Wp.iconst dX6_lead_121 (by decide) ?_
      refine Wp.icne dX6_lead_122 (by decide) (tgt := 140) (fun c122 => ?_) (fun c122 => ?_)
      · refine inc_4_2 rfl dX6_lead_140 (by first | exact w32_of (by omega) (by omega) | rfl) ?_
        refine Wp.goto (tgt := 103) dX6_lead_143 (by decide) ?_
        have hu : wa3 (hF h 41 6) c (m + 1) a s = wa3 (hF h 41 6) c m (a + 1) (wa1 c a s) := if_pos (show a < hF h 41 6 by omega)
        rw [hu] at eF
        have hv := rl a a0 (by omega)
        have hw := rl c c0.1 c0.2
        rw [hv] at c122
        have k1 := kand1 (kshr (s a) c)
        unfold wa1 at eF
        rw [if_pos (by omega)] at eF
        exact ih (a + 1) s _ (by omega) fr (by omega) rl eF
      · refine Wp.ald_n (j := 0) rfl dX6_lead_125 ?_
        refine Wp.getf (k := 44) (tg := 2) kC6 (by decide) rfl lf_X6_112 dX6_lead_126 (sK41 (h := h') sh') (sF41_44 (h := h') sh') ?_
        refine Wp.ild_n (j := 2) rfl dX6_lead_129 ?_
        refine Wp.dup2 dX6_lead_130 (Or.inl rfl) (Or.inr rfl) ?_
        refine Wp.iaload dX6_lead_131 (sK72 (h := h') sh') (by omega) (ilt (sL72 (h := h') sh') (by omega)) (show hA _ 72 _ = hA h' 72 _ from rfl) ?_
        refine Wp.ald_n (j := 0) rfl dX6_lead_132 ?_
        refine Wp.getf (k := 44) (tg := 2) kC6 (by decide) rfl lf_X6_112 dX6_lead_133 (sK41 (h := h') sh') (sF41_44 (h := h') sh') ?_
        refine Wp.ild_n (j := 1) rfl dX6_lead_136 ?_
        refine Wp.iaload dX6_lead_137 (sK72 (h := h') sh') (by omega) (ilt (sL72 (h := h') sh') (by omega)) (show hA _ 72 _ = hA h' 72 _ from rfl) ?_
        refine Wp.ior dX6_lead_138 ?_
        refine Wp.iastore dX6_lead_139 (sK72 (h := h') sh') (by omega) (ilt (sL72 (h := h') sh') (by omega)) ?_
        refine inc_4_2 rfl dX6_lead_140 (by first | exact w32_of (by omega) (by omega) | rfl) ?_
        refine Wp.goto (tgt := 103) dX6_lead_143 (by decide) ?_
        have hu : wa3 (hF h 41 6) c (m + 1) a s = wa3 (hF h 41 6) c m (a + 1) (wa1 c a s) := if_pos (show a < hF h 41 6 by omega)
        rw [hu] at eF
        have hv := rl a a0 (by omega)
        have hw := rl c c0.1 c0.2
        rw [hv] at c122
        have k1 := kand1 (kshr (s a) c)
        unfold wa1 at eF
        rw [if_neg (by omega)] at eF
        refine ih (a + 1) _ _ (by omega) (fr.tr (Fr.e (by decide))) (by omega) (fun j j0 j1 => ?_) eF
        rw [hA_sEs, hv, hw]
        exact u1_cg (fun _ => rl j j0 j1)

theorem mldX4 (d : Nat) (h : mH) (sh : Sh h) (mb : MB h) (x3 : mV) (F : Int → Int) (Q : Option mV → mH → Prop) (kq : ∀ (t : mH) (c : Int) (x2 : mV), Fr [72] [] h t → (∀ j, 0 ≤ j → j < hF h 41 6 → hA t 72 j = F j) → Wp m_X6_lead (d + 1) 152 [(2, 41), (0, c), x2, x3] [] t Q) : ∀ (m : Nat) (c : Int) (s : Int → Int) (x2 : mV) (h' : mH), (hF h 41 6 - c).toNat < m → (Fr [72] [] h h') → (0 ≤ c) → ((∀ j, 0 ≤ j → j < hF h 41 6 → hA h' 72 j = s j)) → (wa2 (hF h 41 6) m c s = F) → Wp m_X6_lead (d + 1) 93 [(2, 41), (0, c), x2, x3] [] h' Q := by
  intro m
  induction m with
  | zero => intro c s x2 h' hm; exact absurd hm (Nat.not_lt_zero _)
  | succ m ih =>
    intro c s x2 h' hm fr c0 rl eF
    obtain ⟨⟨r0, r1⟩, ⟨n0, n1⟩, ⟨m0, m1⟩, hp, hq⟩ := id mb
    have sh' := sh.fr fr (by decide +kernel) (by decide)
    have e6 : hF h' 41 6 = hF h 41 6 := fr.2.2.2.2.1 41 6 (by decide)
    refine Wp.ild_n (j := 1) rfl dX6_lead_93 ?_
    refine Wp.ald_n (j := 0) rfl dX6_lead_94 ?_
    refine Wp.getf (k := 6) (tg := 0) kC6 (by decide) rfl lf_X6_141 dX6_lead_95 (sK41 (h := h') sh') e6 ?_
    refine Wp.icge dX6_lead_98 (by decide) (tgt := 152) (fun c98 => ?_) (fun c98 => ?_)
    · have hu : wa2 (hF h 41 6) (m + 1) c s = s := if_neg (show ¬ c < hF h 41 6 by omega)
      rw [hu] at eF
      subst eF
      exact kq _ _ _ fr rl
    · refine Wp.iconst dX6_lead_101 (by decide) ?_
      refine sti_4_2 rfl (dSt_n dX6_lead_102) ?_
      have hu : wa2 (hF h 41 6) (m + 1) c s = wa2 (hF h 41 6) m (c + 1) (wa3 (hF h 41 6) c 25 0 s) := if_pos (show c < hF h 41 6 by omega)
      rw [hu, ← e6] at eF
      refine mldX3 d _ sh' (mb.fr fr (by decide) (by decide) (by decide) (by decide) (by decide)) c ⟨c0, by omega⟩ x3 (wa3 (hF h' 41 6) c 25 0 s) Q (fun t a frt kv => ?_) 25 0 s _ (by omega) Fr.rf (by omega) (by rw [e6]; exact rl) rfl
      refine inc_4_1 rfl dX6_lead_146 (w32_of (by omega) (by omega)) ?_
      refine Wp.goto (tgt := 93) dX6_lead_149 (by decide) ?_
      rw [e6] at kv eF
      exact ih (c + 1) _ _ t (by omega) (fr.tr frt) (by omega) kv eF

theorem mldX5 (d : Nat) (h : mH) (sh : Sh h) (mb : MB h) (a : Int) (a0 : 0 ≤ a ∧ a < hF h 41 6) (S : Int → Int) (rl : (∀ j, 0 ≤ j → j < hF h 41 6 → hA h 72 j = S j)) (Q : Option mV → mH → Prop) (kq : ∀ i b : Int, (i = 0 ∨ i = 1) → (i = 1 ↔ LD (hF h 41 6) S a) → Wp m_X6_lead (d + 1) 228 [(2, 41), (0, a), (0, i), (0, b)] [] h Q) : ∀ (m : Nat) (b i : Int), (hF h 41 6 - b).toNat < m → (0 ≤ b) → (b ≤ hF h 41 6) → (i = 0 ∨ i = 1) → (i = 1 → ∀ j, 0 ≤ j → j < b → bt (S a) j → bt (S j) a ∧ a ≤ j) → (i = 0 → ¬ LD (hF h 41 6) S a) → Wp m_X6_lead (d + 1) 171 [(2, 41), (0, a), (0, i), (0, b)] [] h Q := by
  intro m
  induction m with
  | zero => intro b i hm; exact absurd hm (Nat.not_lt_zero _)
  | succ m ih =>
    intro b i hm b0 b1 i1 iv iz
    obtain ⟨⟨r0, r1⟩, ⟨n0, n1⟩, ⟨m0, m1⟩, hp, hq⟩ := id mb
    refine Wp.ild_n (j := 3) rfl dX6_lead_171 ?_
    refine Wp.ald_n (j := 0) rfl dX6_lead_172 ?_
    refine Wp.getf (k := 6) (tg := 0) kC6 (by decide) rfl lf_X6_141 dX6_lead_173 (sK41 (h := h) sh) (show hF _ 41 6 = hF h 41 6 from rfl) ?_
    refine Wp.icge dX6_lead_176 (by decide) (tgt := 228) (fun c176 => ?_) (fun c176 => ?_)
    · refine kq i b i1 ⟨fun z j j0 j1 hj => iv z j j0 (by omega) hj, fun z => ?_⟩
      rcases i1 with y | y
      · exact absurd z (iz y)
      · exact y
    · refine Wp.ild_n (j := 2) rfl dX6_lead_179 ?_
      refine Wp.ifeq dX6_lead_180 (by decide) (tgt := 228) (fun c180 => ?_) (fun c180 => ?_)
      · refine kq i b i1 ⟨fun z j j0 j1 hj => iv z j j0 (by omega) hj, fun z => ?_⟩
        rcases i1 with y | y
        · exact absurd z (iz y)
        · exact y
      · refine Wp.ald_n (j := 0) rfl dX6_lead_183 ?_
        refine Wp.getf (k := 44) (tg := 2) kC6 (by decide) rfl lf_X6_112 dX6_lead_184 (sK41 (h := h) sh) (sF41_44 (h := h) sh) ?_
        refine Wp.ild_n (j := 1) rfl dX6_lead_187 ?_
        refine Wp.iaload dX6_lead_188 (sK72 (h := h) sh) (by omega) (ilt (sL72 (h := h) sh) (by omega)) (show hA _ 72 _ = hA h 72 _ from rfl) ?_
        refine Wp.ild_n (j := 3) rfl dX6_lead_189 ?_
        refine Wp.ishr dX6_lead_190 ?_
        refine Wp.iconst dX6_lead_191 (by decide) ?_
        refine Wp.iand dX6_lead_192 ?_
        refine Wp.iconst dX6_lead_193 (by decide) ?_
        refine Wp.icne dX6_lead_194 (by decide) (tgt := 222) (fun c194 => ?_) (fun c194 => ?_)
        · refine inc_4_3 rfl dX6_lead_222 (by first | exact w32_of (by omega) (by omega) | rfl) ?_
          refine Wp.goto (tgt := 171) dX6_lead_225 (by decide) ?_
          have ra := rl a a0.1 a0.2
          have rb := rl b b0 (by omega)
          rw [ra] at c194
          have k1 := kand1 (kshr (S a) b)
          refine ih (b + 1) i (by omega) (by omega) (by omega) i1 (fun z j j0 j1 hj => ?_) iz
          by_cases e : j = b
          · rw [e] at hj
            exact absurd (show kand (kshr (S a) b) 1 = 0 by omega) hj
          · exact iv z j j0 (by omega) hj
        · refine Wp.ald_n (j := 0) rfl dX6_lead_197 ?_
          refine Wp.getf (k := 44) (tg := 2) kC6 (by decide) rfl lf_X6_112 dX6_lead_198 (sK41 (h := h) sh) (sF41_44 (h := h) sh) ?_
          refine Wp.ild_n (j := 3) rfl dX6_lead_201 ?_
          refine Wp.iaload dX6_lead_202 (sK72 (h := h) sh) (by omega) (ilt (sL72 (h := h) sh) (by omega)) (show hA _ 72 _ = hA h 72 _ from rfl) ?_
          refine Wp.ild_n (j := 1) rfl dX6_lead_203 ?_
          refine Wp.ishr dX6_lead_204 ?_
          refine Wp.iconst dX6_lead_205 (by decide) ?_
          refine Wp.iand dX6_lead_206 ?_
          refine Wp.iconst dX6_lead_207 (by decide) ?_
          refine Wp.icne dX6_lead_208 (by decide) (tgt := 220) (fun c208 => ?_) (fun c208 => ?_)
          · refine Wp.iconst dX6_lead_220 (by decide) ?_
            refine sti_4_2 rfl (dSt_n dX6_lead_221) ?_
            refine inc_4_3 rfl dX6_lead_222 (by first | exact w32_of (by omega) (by omega) | rfl) ?_
            refine Wp.goto (tgt := 171) dX6_lead_225 (by decide) ?_
            have ra := rl a a0.1 a0.2
            have rb := rl b b0 (by omega)
            rw [ra] at c194
            have k1 := kand1 (kshr (S a) b)
            rw [rb] at c208
            have k2 := kand1 (kshr (S b) a)
            have hb : bt (S a) b := show kand (kshr (S a) b) 1 ≠ 0 by omega
            exact ih (b + 1) 0 (by omega) (by omega) (by omega) (Or.inl rfl) (fun z => absurd z (by decide)) (fun _ z => absurd (show kand (kshr (S b) a) 1 = 0 by omega) (z b b0 (by omega) hb).1)
          · refine Wp.ild_n (j := 3) rfl dX6_lead_211 ?_
            refine Wp.ild_n (j := 1) rfl dX6_lead_212 ?_
            refine Wp.iclt dX6_lead_213 (by decide) (tgt := 220) (fun c213 => ?_) (fun c213 => ?_)
            · refine Wp.iconst dX6_lead_220 (by decide) ?_
              refine sti_4_2 rfl (dSt_n dX6_lead_221) ?_
              refine inc_4_3 rfl dX6_lead_222 (by first | exact w32_of (by omega) (by omega) | rfl) ?_
              refine Wp.goto (tgt := 171) dX6_lead_225 (by decide) ?_
              have ra := rl a a0.1 a0.2
              have rb := rl b b0 (by omega)
              rw [ra] at c194
              have k1 := kand1 (kshr (S a) b)
              have hb : bt (S a) b := show kand (kshr (S a) b) 1 ≠ 0 by omega
              exact ih (b + 1) 0 (by omega) (by omega) (by omega) (Or.inl rfl) (fun z => absurd z (by decide)) (fun _ z => by have := (z b b0 (by omega) hb).2; omega)
            · refine Wp.iconst dX6_lead_216 (by decide) ?_
              refine Wp.goto (tgt := 221) dX6_lead_217 (by decide) ?_
              refine sti_4_2 rfl (dSt_n dX6_lead_221) ?_
              refine inc_4_3 rfl dX6_lead_222 (by first | exact w32_of (by omega) (by omega) | rfl) ?_
              refine Wp.goto (tgt := 171) dX6_lead_225 (by decide) ?_
              have ra := rl a a0.1 a0.2
              have rb := rl b b0 (by omega)
              rw [ra] at c194
              have k1 := kand1 (kshr (S a) b)
              rw [rb] at c208
              refine ih (b + 1) 1 (by omega) (by omega) (by omega) (Or.inr rfl) (fun _ j j0 j1 hj => ?_) (fun z => absurd z (by decide))
              by_cases e : j = b
              · rw [e]
                exact ⟨show kand (kshr (S b) a) 1 ≠ 0 by omega, by omega⟩
              · exact iv (by omega) j j0 (by omega) hj

theorem mldX6 (d : Nat) (h : mH) (sh : Sh h) (mb : MB h) (h' : mH) (fr : Fr [63] [(41, 28)] h h') (a l i b : Int) (a0 : 0 ≤ a ∧ a < 24) (l0 : 0 ≤ l ∧ l ≤ a) (el : hF h' 41 28 = l) (Q : Option mV → mH → Prop) (kq : ∀ t : mH, ((i = 0 ∧ t = h') ∨ (i ≠ 0 ∧ t = sF (sE h' 63 l a) 41 28 (l + 1))) → Wp m_X6_lead (d + 1) 159 [(2, 41), (0, a + 1), (0, i), (0, b)] [] t Q) : Wp m_X6_lead (d + 1) 228 [(2, 41), (0, a), (0, i), (0, b)] [] h' Q := by
  have sh' := sh.fr fr (by decide +kernel) (by decide)
  refine Wp.ild_n (j := 2) rfl dX6_lead_228 ?_
  refine Wp.ifne dX6_lead_229 (by decide) (tgt := 235) (fun c229 => ?_) (fun c229 => ?_)
  · refine Wp.ald_n (j := 0) rfl dX6_lead_235 ?_
    refine Wp.getf (k := 29) (tg := 2) kC6 (by decide) rfl lf_X6_84 dX6_lead_236 (sK41 (h := h') sh') (sF41_29 (h := h') sh') ?_
    refine Wp.ald_n (j := 0) rfl dX6_lead_239 ?_
    refine Wp.getf (k := 28) (tg := 0) kC6 (by decide) rfl lf_X6_227 dX6_lead_240 (sK41 (h := h') sh') el ?_
    refine Wp.ild_n (j := 1) rfl dX6_lead_243 ?_
    refine Wp.iastore dX6_lead_244 (sK63 (h := h') sh') (by omega) (ilt (sL63 (h := h') sh') (by omega)) ?_
    refine Wp.ald_n (j := 0) rfl dX6_lead_245 ?_
    refine Wp.dup dX6_lead_246 (Or.inr rfl) ?_
    refine Wp.getf (k := 28) (tg := 0) kC6 (by decide) rfl lf_X6_227 dX6_lead_247 (sK41 (h := h') sh') (show hF _ 41 28 = l from el) ?_
    refine Wp.iconst dX6_lead_250 (by decide) ?_
    refine Wp.iaddE dX6_lead_251 (by first | exact w32_of (by omega) (by omega) | rfl) ?_
    refine Wp.putf (k := 28) (tg := 0) kC6 (by decide) rfl rfl lf_X6_227 dX6_lead_252 (sK41 (h := h') sh') ?_
    refine inc_4_1 rfl dX6_lead_255 (by first | exact w32_of (by omega) (by omega) | rfl) ?_
    refine Wp.goto (tgt := 159) dX6_lead_258 (by decide) ?_
    exact kq _ (Or.inr ⟨by omega, rfl⟩)
  · refine Wp.goto (tgt := 255) dX6_lead_232 (by decide) ?_
    refine inc_4_1 rfl dX6_lead_255 (by first | exact w32_of (by omega) (by omega) | rfl) ?_
    refine Wp.goto (tgt := 159) dX6_lead_258 (by decide) ?_
    exact kq h' (Or.inl ⟨by omega, rfl⟩)

theorem mldX7 (d : Nat) (h : mH) (sh : Sh h) (mb : MB h) (S : Int → Int) (rl : (∀ j, 0 ≤ j → j < hF h 41 6 → hA h 72 j = S j)) : ∀ (m : Nat) (a l : Int) (x2 x3 : mV) (h' : mH), (hF h 41 6 - a).toNat < m → (0 ≤ a) → (a ≤ hF h 41 6) → (l = (ls9 (hF h 41 6) S a.toNat).1) → (hF h' 41 28 = l) → (∀ j, 0 ≤ j → j < l → hA h' 63 j = (ls9 (hF h 41 6) S a.toNat).2 j) → (Fr [63] [(41, 28)] h h') → Wp m_X6_lead (d + 1) 159 [(2, 41), (0, a), x2, x3] [] h' (fun r t => r = some (0, (ls9 (hF h 41 6) S (hF h 41 6).toNat).1) ∧ hF t 41 28 = (ls9 (hF h 41 6) S (hF h 41 6).toNat).1 ∧ (∀ j, 0 ≤ j → j < (ls9 (hF h 41 6) S (hF h 41 6).toNat).1 → hA t 63 j = (ls9 (hF h 41 6) S (hF h 41 6).toNat).2 j) ∧ Fr [63] [(41, 28)] h t) := by
  intro m
  induction m with
  | zero => intro a l x2 x3 h' hm; exact absurd hm (Nat.not_lt_zero _)
  | succ m ih =>
    intro a l x2 x3 h' hm a0 a1 ll el il fr
    obtain ⟨⟨r0, r1⟩, ⟨n0, n1⟩, ⟨m0, m1⟩, hp, hq⟩ := id mb
    have sh' := sh.fr fr (by decide +kernel) (by decide)
    have e6 : hF h' 41 6 = hF h 41 6 := fr.2.2.2.2.1 41 6 (by decide)
    have hb9 := ls9_bd (n := hF h 41 6) (f := S) a.toNat
    refine Wp.ild_n (j := 1) rfl dX6_lead_159 ?_
    refine Wp.ald_n (j := 0) rfl dX6_lead_160 ?_
    refine Wp.getf (k := 6) (tg := 0) kC6 (by decide) rfl lf_X6_141 dX6_lead_161 (sK41 (h := h') sh') e6 ?_
    refine Wp.icge dX6_lead_164 (by decide) (tgt := 261) (fun c164 => ?_) (fun c164 => ?_)
    · refine Wp.ald_n (j := 0) rfl dX6_lead_261 ?_
      refine Wp.getf (k := 28) (tg := 0) kC6 (by decide) rfl lf_X6_227 dX6_lead_262 (sK41 (h := h') sh') el ?_
      refine Wp.iret rfl dX6_lead_265 ?_
      have ea : a = hF h 41 6 := by omega
      rw [ea] at ll il
      rw [ll] at il
      exact ⟨by rw [ll], by rw [el, ll], il, fr⟩
    · refine Wp.iconst dX6_lead_167 (by decide) ?_
      refine sti_4_2 rfl (dSt_n dX6_lead_168) ?_
      refine Wp.iconst dX6_lead_169 (by decide) ?_
      refine sti_4_3 rfl (dSt_n dX6_lead_170) ?_
      refine mldX5 d h' sh' (mb.fr fr (by decide) (by decide) (by decide) (by decide) (by decide)) a ⟨a0, by omega⟩ S (fun j j0 j1 => by rw [fr.2.2.2.2.2 72 (by decide)]; exact rl j j0 (by omega)) _ (fun i b i1 hi => ?_) _ 0 1 (Nat.lt_succ_self _) (by omega) (by omega) (Or.inr rfl) (fun _ j j0 j1 => absurd j1 (by omega)) (fun z => absurd z (by decide))
      rw [e6] at hi
      refine mldX6 d h sh mb h' fr a l i b (by omega) (by omega) el _ (fun t ht => ?_)
      rcases ht with ⟨i0, rfl⟩ | ⟨i0, rfl⟩
      · have hno : ¬ LD (hF h 41 6) S a := fun z => absurd (hi.mpr z) (by omega)
        exact ih (a + 1) l _ _ _ (by omega) (by omega) (by omega) (by rw [ls9_no a0 hno]; exact ll) el (by rw [ls9_no a0 hno]; exact il) fr
      · have hy := hi.mp (by omega)
        refine ih (a + 1) (l + 1) _ _ _ (by omega) (by omega) (by omega) (by rw [ls9_yes a0 hy, ← ll]) rfl (fun j j0 j1 => ?_) (fr.tr ((Fr.e (by decide)).tr (Fr.f (by decide))))
        show hA (sE h' 63 l a) 63 j = _
        rw [hA_sEs, ls9_yes a0 hy, ← ll]
        exact u1_cg (fun e => il j j0 (by omega))

theorem cq_mleadX (d : Nat) (h : mH) (sh : Sh h) (mi : MI h) : Cq m_X6_lead (d + 1) [(2, 41)] h (fun r t => (∃ y, r = some (0, y) ∧ ((hF h 41 6 = 0 ∧ y = -1 ∧ Fr [] [(41, 0), (41, 1)] h t) ∨ (hF h 41 6 ≠ 0 ∧ ∃ g0 : Int → Int, (∀ i, 0 ≤ i → i < hF h 41 6 → ∀ j, 0 ≤ j → j < 32 → (bt (g0 i) j ↔ (j = i ∨ (j < hF h 41 6 ∧ hA h 49 (24 * i + j) ≠ 0)))) ∧ y = (ls9 (hF h 41 6) (wa2 (hF h 41 6) 25 0 g0) (hF h 41 6).toNat).1 ∧ hF t 41 28 = (ls9 (hF h 41 6) (wa2 (hF h 41 6) 25 0 g0) (hF h 41 6).toNat).1 ∧ (∀ j, 0 ≤ j → j < (ls9 (hF h 41 6) (wa2 (hF h 41 6) 25 0 g0) (hF h 41 6).toNat).1 → hA t 63 j = (ls9 (hF h 41 6) (wa2 (hF h 41 6) 25 0 g0) (hF h 41 6).toNat).2 j)))) ∧ MI t ∧ Fr mAl mGl h t) := by
  refine Cq.of ?_
  show Wp m_X6_lead ((d + 1)) 0 [(2, 41), (9, 0), (9, 0), (9, 0)] [] h _
  refine Wp.ald_n (j := 0) rfl dX6_lead_0 ?_
  refine Wp.iconst dX6_lead_1 (by decide) ?_
  refine Wp.putf (k := 1) (tg := 0) kC6 (by decide) rfl rfl lf_X6_117 dX6_lead_2 (sK41 (h := h) sh) ?_
  refine Wp.ald_n (j := 0) rfl dX6_lead_5 ?_
  refine Wp.iconst dX6_lead_6 (by decide) ?_
  refine Wp.putf (k := 0) (tg := 0) kC6 (by decide) rfl rfl lf_X6_120 dX6_lead_7 (sK41 (h := h) sh) ?_
  refine Wp.ald_n (j := 0) rfl dX6_lead_10 ?_
  refine Wp.getf (k := 6) (tg := 0) kC6 (by decide) rfl lf_X6_141 dX6_lead_11 (sK41 (h := h) sh) (show hF _ 41 6 = hF h 41 6 from rfl) ?_
  refine Wp.ifne dX6_lead_14 (by decide) (tgt := 24) (fun c14 => ?_) (fun c14 => ?_)
  · refine Wp.iconst dX6_lead_24 (by decide) ?_
    refine sti_4_1 rfl (dSt_n dX6_lead_25) ?_
    refine mldX2 d (sF (sF h 41 1 0) 41 0 0) sh.m0 mi.1 _ _ (fun t a x2 frt kv => ?_) _ 0 _ _ (Nat.lt_succ_self _) Fr.rf (by omega) (fun i i0 i1 => absurd i1 (by omega))
    have mbt : MB t := MB.fr (h := (sF (sF h 41 1 0) 41 0 0)) mi.1 frt (by decide) (by decide) (by decide) (by decide) (by decide)
    have t6 : hF t 41 6 = hF h 41 6 := frt.2.2.2.2.1 41 6 (by simp)
    refine Wp.iconst dX6_lead_91 (by decide) ?_
    refine sti_4_1 rfl (dSt_n dX6_lead_92) ?_
    refine mldX4 d t (sh.m0.fr frt (by decide +kernel) (by decide)) mbt _ (wa2 (hF t 41 6) 25 0 (hA t 72)) _ (fun u c y2 fru ku => ?_) 25 0 (hA t 72) _ _ (by have := mbt.2.1.2; omega) Fr.rf (by omega) (fun j j0 j1 => rfl) rfl
    have mbu : MB u := mbt.fr fru (by decide) (by decide) (by decide) (by decide) (by decide)
    have u6 : hF u 41 6 = hF t 41 6 := fru.2.2.2.2.1 41 6 (by simp)
    have shu : Sh u := (sh.m0.fr frt (by decide +kernel) (by decide)).fr fru (by decide +kernel) (by decide)
    refine Wp.ald_n (j := 0) rfl dX6_lead_152 ?_
    refine Wp.iconst dX6_lead_153 (by decide) ?_
    refine Wp.putf (k := 28) (tg := 0) kC6 (by decide) rfl rfl lf_X6_227 dX6_lead_154 (sK41 (h := u) shu) ?_
    refine Wp.iconst dX6_lead_157 (by decide) ?_
    refine sti_4_1 rfl (dSt_n dX6_lead_158) ?_
    refine (mldX7 d (sF u 41 28 0) (shu.m (Fr.f (by decide))) mbu (wa2 (hF t 41 6) 25 0 (hA t 72)) (fun j j0 (j1 : j < hF u 41 6) => ku j j0 (by omega)) _ 0 0 _ _ _ (Nat.lt_succ_self _) (by omega) mbu.2.1.1 rfl rfl (fun j j0 j1 => absurd j1 (by omega)) Fr.rf).mono (fun r v q => ?_)
    obtain ⟨hr, hl, hv, frv⟩ := q
    have ls : ls9 (hF (sF u 41 28 0) 41 6) (wa2 (hF t 41 6) 25 0 (hA t 72)) (hF (sF u 41 28 0) 41 6).toNat = ls9 (hF h 41 6) (wa2 (hF h 41 6) 25 0 (hA t 72)) (hF h 41 6).toNat := by
      show ls9 (hF u 41 6) (wa2 (hF t 41 6) 25 0 (hA t 72)) (hF u 41 6).toNat = _
      rw [u6, t6]
    rw [ls] at hr hl hv
    have lb := ls9_bd (n := hF h 41 6) (f := wa2 (hF h 41 6) 25 0 (hA t 72)) (hF h 41 6).toNat
    have miu : MI u := (MI.fr (h := (sF (sF h 41 1 0) 41 0 0)) mi (frt.mono (by decide) (by simp))).fr (fru.mono (by decide) (by simp))
    have fru2 : Fr [63] [(41, 28)] u v := (Fr.f (by decide)).tr frv
    refine ⟨⟨_, hr, Or.inr ⟨by omega, hA t 72, kv, rfl, hl, hv⟩⟩, ⟨mbu.fr fru2 (by decide) (by decide) (by decide) (by decide) (by decide), miu.2.1.fr fru2 (by decide), miu.2.2.1.fr fru2 (by decide) (by decide), ?_, ?_, ?_⟩, ((((Fr.f (by decide)).tr (Fr.f (by decide))).tr (frt.mono (by decide) (by simp))).tr (fru.mono (by decide) (by simp))).tr (fru2.mono (by decide) (by decide))⟩
    · rw [fru2.2.2.2.2.1 41 27 (by decide)]
      exact miu.2.2.2.1
    · rw [hl]
      have := mi.1.2.1.2
      omega
    · rw [fru2.2.2.2.2.1 41 39 (by decide)]
      exact miu.2.2.2.2.2
  · refine Wp.ald_n (j := 0) rfl dX6_lead_17 ?_
    refine Wp.bipush dX6_lead_18 (by decide) ?_
    refine Wp.callV1 (ct_mrefuse d (sF (sF h 41 1 0) 41 0 0) (sK41 (h := h) sh) 8) wc_X6_151 iM_X6_refuse se_X6_refuse kC6 (sK41 (h := h) sh) dX6_lead_20 rfl (Nat.le_of_ble_eq_true rfl) rfl (Nat.le_of_ble_eq_true rfl) ?_
    refine Wp.iret rfl dX6_lead_23 ?_
    exact ⟨⟨_, rfl, Or.inl ⟨by omega, rfl, ((Fr.f (by decide)).tr ((Fr.f (by decide)).tr (Fr.f (by decide))))⟩⟩, mi, ((Fr.f (by decide)).tr ((Fr.f (by decide)).tr (Fr.f (by decide))))⟩

