/-! bits of an int -/
def bt (x j : Int) : Prop := kand (kshr x j) 1 ≠ 0
theorem and_one (Y : BitVec 32) : (Y &&& 1#32 = 0#32) ↔ Y.getLsbD 0 = false := by
  constructor
  · intro h
    have := congrArg (fun z => z.getLsbD 0) h
    simpa using this
  · intro h
    apply BitVec.eq_of_getLsbD_eq
    intro i hi
    by_cases h0 : i = 0
    · subst h0
      rw [BitVec.getLsbD_and, h]
      simp
    · simp [BitVec.getLsbD_and, BitVec.getLsbD_one, h0]
theorem sh_amt : ∀ n : Fin 32, ((Int32.ofInt (n : Nat) &&& 31).toBitVec.smod 32).toNat = (n : Nat) := by decide +kernel
theorem bt_iff {x j : Int} (h0 : 0 ≤ j) (h1 : j < 32) : bt x j ↔ (Int32.ofInt x).toBitVec.getLsbD j.toNat = true := by
  unfold bt kand kshr
  rw [o32 (x := Int32.ofInt x >>> (Int32.ofInt j &&& 31)) rfl]
  have hs := sh_amt ⟨j.toNat, by omega⟩
  dsimp only at hs
  rw [show ((j.toNat : Nat) : Int) = j by omega] at hs
  have e1 : (Int32.ofInt x >>> (Int32.ofInt j &&& 31)).toBitVec.getLsbD 0 = (Int32.ofInt x).toBitVec.getLsbD j.toNat := by
    rw [Int32.toBitVec_shiftRight]
    unfold BitVec.sshiftRight'
    rw [hs, BitVec.getLsbD_sshiftRight]
    simp
    omega
  rw [← e1]
  generalize (Int32.ofInt x >>> (Int32.ofInt j &&& 31)) = Y
  have e2 : (Y &&& Int32.ofInt 1).toInt = 0 ↔ Y.toBitVec &&& 1#32 = 0#32 := by
    constructor
    · intro h
      have : (Y &&& Int32.ofInt 1) = 0 := Int32.toInt_inj.mp (by rw [h]; rfl)
      have := congrArg Int32.toBitVec this
      simpa using this
    · intro h
      have : (Y &&& Int32.ofInt 1).toBitVec = (0 : Int32).toBitVec := by simpa using h
      have := Int32.toBitVec_inj.mp this
      rw [this]
      rfl
  rw [Ne, e2, and_one]
  cases Y.toBitVec.getLsbD 0 <;> simp
theorem bt_or {x y j : Int} (h0 : 0 ≤ j) (h1 : j < 32) : bt (kor x y) j ↔ bt x j ∨ bt y j := by
  rw [bt_iff h0 h1, bt_iff h0 h1, bt_iff h0 h1]
  unfold kor
  rw [o32 rfl, Int32.toBitVec_or, BitVec.getLsbD_or, Bool.or_eq_true]
theorem bt_and {x y j : Int} (h0 : 0 ≤ j) (h1 : j < 32) : bt (kand x y) j ↔ bt x j ∧ bt y j := by
  rw [bt_iff h0 h1, bt_iff h0 h1, bt_iff h0 h1]
  unfold kand
  rw [o32 rfl, Int32.toBitVec_and, BitVec.getLsbD_and, Bool.and_eq_true]
theorem bt_not {x j : Int} (h0 : 0 ≤ j) (h1 : j < 32) : bt (kxor x (-1)) j ↔ ¬ bt x j := by
  rw [bt_iff h0 h1, bt_iff h0 h1]
  unfold kxor
  rw [o32 rfl, Int32.toBitVec_xor, BitVec.getLsbD_xor]
  have : (Int32.ofInt (-1)).toBitVec = BitVec.allOnes 32 := by decide
  rw [this, BitVec.getLsbD_allOnes]
  have hj : j.toNat < 32 := by omega
  simp [hj]
theorem bt_one {k j : Int} (h0 : 0 ≤ j) (h1 : j < 32) (k0 : 0 ≤ k) (k1 : k < 32) : bt (kshl 1 k) j ↔ j = k := by
  rw [bt_iff h0 h1]
  unfold kshl
  rw [o32 rfl]
  have hs := sh_amt ⟨k.toNat, by omega⟩
  dsimp only at hs
  rw [show ((k.toNat : Nat) : Int) = k by omega] at hs
  rw [Int32.toBitVec_shiftLeft]
  show ((Int32.ofInt 1).toBitVec <<< ((Int32.ofInt k &&& 31).toBitVec.smod 32)).getLsbD j.toNat = true ↔ _
  rw [BitVec.shiftLeft_eq', hs, BitVec.getLsbD_shiftLeft]
  have : (Int32.ofInt 1).toBitVec = 1#32 := by decide
  rw [this, BitVec.getLsbD_one]
  have hj : j.toNat < 32 := by omega
  simp [hj]
  omega
theorem bt_0 {j : Int} (h0 : 0 ≤ j) (h1 : j < 32) : ¬ bt 0 j := by
  rw [bt_iff h0 h1]
  have : (Int32.ofInt 0).toBitVec = 0#32 := by decide
  rw [this]
  simp
/-- no more places than what they hold -/
theorem pigeon : ∀ (n m : Nat) (f : Nat → Nat), (∀ i, i < n → f i < m) → (∀ i j, i < n → j < n → f i = f j → i = j) → n ≤ m
  | 0, m, f, _, _ => Nat.zero_le m
  | n + 1, m, f, h1, h2 => by
    have hm : 0 < m := Nat.lt_of_le_of_lt (Nat.zero_le _) (h1 n (Nat.lt_succ_self n))
    have := pigeon n (m - 1) (fun i => if f i < f n then f i else f i - 1) (fun i hi => by
      have a := h1 i (by omega)
      have b := h1 n (by omega)
      have c : f i ≠ f n := fun e => by have := h2 i n (by omega) (by omega) e; omega
      split <;> omega) (fun i j hi hj e => by
      have a : f i ≠ f n := fun e => by have := h2 i n (by omega) (by omega) e; omega
      have b : f j ≠ f n := fun e => by have := h2 j n (by omega) (by omega) e; omega
      apply h2 i j (by omega) (by omega)
      split at e <;> split at e <;> omega)
    omega
theorem pigeonI {n m : Int} {f : Int → Int} (h0 : 0 ≤ m) (h1 : ∀ i, 0 ≤ i → i < n → 0 ≤ f i ∧ f i < m) (h2 : ∀ i j, 0 ≤ i → i < n → 0 ≤ j → j < n → f i = f j → i = j) : n ≤ m := by
  have := pigeon n.toNat m.toNat (fun i => (f i).toNat) (fun i hi => by have := h1 i (by omega) (by omega); omega) (fun i j hi hj e => by
    have a := h1 i (by omega) (by omega)
    have b := h1 j (by omega) (by omega)
    have := h2 i j (by omega) (by omega) (by omega) (by omega) (by omega)
    omega)
  omega
