/-! how many bits of an int are set -/
def U9 (x : Int) : Nat := (Int32.ofInt x).toBitVec.toNat
theorem U9_eq (x : Int) : U9 x = (x % 4294967296).toNat := by
  show (BitVec.ofInt 32 x).toNat = _
  rw [BitVec.toNat_ofInt]
  rfl
theorem U9_lt (x : Int) : U9 x < 4294967296 := (Int32.ofInt x).toBitVec.isLt
theorem U9_and (a b : Int) : U9 (kand a b) = U9 a &&& U9 b := by
  unfold U9 kand
  rw [o32 rfl, Int32.toBitVec_and, BitVec.toNat_and]
theorem U9_w (x : Int) : U9 (w32 x) = U9 x := by
  rw [U9_eq, U9_eq]
  unfold w32
  omega
theorem U9_shr (a b : Int) (k : Nat) (hk : ((Int32.ofInt b).toUInt32 &&& Int32.toUInt32 31).toNat % 32 = k) : U9 (kushr a b) = U9 a / 2 ^ k := by
  unfold U9 kushr
  rw [o32 rfl]
  show ((Int32.ofInt a).toUInt32 >>> ((Int32.ofInt b).toUInt32 &&& Int32.toUInt32 31)).toNat = _
  rw [UInt32.toNat_shiftRight, hk, Nat.shiftRight_eq_div_pow]
  rfl
theorem land_cut (w x m y : Nat) (hm : m < 2 ^ w) : x &&& (m + 2 ^ w * y) = (x % 2 ^ w &&& m) + 2 ^ w * ((x / 2 ^ w) &&& y) := by
  have h := Nat.mod_add_div (x &&& (m + 2 ^ w * y)) (2 ^ w)
  rw [Nat.and_mod_two_pow, Nat.and_div_two_pow, Nat.add_mul_mod_self_left, Nat.mod_eq_of_lt hm, Nat.add_mul_div_left _ _ (Nat.two_pow_pos w), Nat.div_eq_of_lt hm, Nat.zero_add] at h
  exact h.symm
theorem and5 : ∀ v : Fin 16, v.val &&& 5 = v.val % 2 + 4 * (v.val / 4 % 2) := by decide +kernel
theorem and3 : ∀ v : Fin 16, v.val &&& 3 = v.val % 4 := by decide +kernel
theorem and15 : ∀ v : Fin 256, v.val &&& 15 = v.val % 16 := by decide +kernel
/-- masks of k nibbles -/
def mk5 : Nat → Nat
  | 0 => 0
  | k + 1 => 5 + 2 ^ 4 * mk5 k
def mk3 : Nat → Nat
  | 0 => 0
  | k + 1 => 3 + 2 ^ 4 * mk3 k
/-- the set bits of a nibble -/
def p4 (x : Nat) : Nat := x % 2 + x / 2 % 2 + x / 4 % 2 + x / 8 % 2
/-- the nibbles' sums, a nibble each -/
def e4 : Nat → Nat → Nat
  | 0, _ => 0
  | k + 1, x => p4 x + 16 * e4 k (x / 16)
def d4 : Nat → Nat → Nat
  | 0, _ => 0
  | k + 1, x => (x % 2 + x / 2 % 2 + 4 * (x / 4 % 2 + x / 8 % 2)) + 16 * d4 k (x / 16)
theorem d4_eq : ∀ (k x : Nat), x < 16 ^ k → x - ((x / 2) &&& mk5 k) = d4 k x ∧ ((x / 2) &&& mk5 k) ≤ x
  | 0, x, h => by
    have : x = 0 := by simpa using h
    subst this
    decide
  | k + 1, x, h => by
    have ih := d4_eq k (x / 16) (by rw [Nat.pow_succ] at h; exact Nat.div_lt_of_lt_mul (by rw [Nat.mul_comm]; exact h))
    have hc := land_cut 4 (x / 2) 5 (mk5 k) (by decide)
    have h5 := and5 ⟨x / 2 % 2 ^ 4, Nat.mod_lt _ (by decide)⟩
    dsimp only at h5
    rw [h5, show x / 2 / 2 ^ 4 = x / 16 / 2 by omega] at hc
    show x - ((x / 2) &&& (5 + 2 ^ 4 * mk5 k)) = _ ∧ ((x / 2) &&& (5 + 2 ^ 4 * mk5 k)) ≤ x
    rw [hc]
    unfold d4
    omega
theorem e4_eq : ∀ (k x : Nat), (d4 k x &&& mk3 k) + (d4 k x / 4 &&& mk3 k) = e4 k x
  | 0, _ => by simp [d4, mk3, e4]
  | k + 1, x => by
    have ih := e4_eq k (x / 16)
    show (d4 (k + 1) x &&& (3 + 2 ^ 4 * mk3 k)) + (d4 (k + 1) x / 4 &&& (3 + 2 ^ 4 * mk3 k)) = p4 x + 16 * e4 k (x / 16)
    rw [land_cut 4 _ 3 _ (by decide), land_cut 4 _ 3 _ (by decide)]
    have h1 := and3 ⟨d4 (k + 1) x % 2 ^ 4, Nat.mod_lt _ (by decide)⟩
    have h2 := and3 ⟨d4 (k + 1) x / 4 % 2 ^ 4, Nat.mod_lt _ (by decide)⟩
    dsimp only at h1 h2
    have hd : d4 (k + 1) x = (x % 2 + x / 2 % 2 + 4 * (x / 4 % 2 + x / 8 % 2)) + 16 * d4 k (x / 16) := rfl
    rw [h1, h2, show d4 (k + 1) x / 2 ^ 4 = d4 k (x / 16) by rw [hd]; omega, show d4 (k + 1) x / 4 / 2 ^ 4 = d4 k (x / 16) / 4 by rw [hd]; omega, ← ih]
    rw [hd]
    unfold p4
    omega
theorem p4_le (x : Nat) : p4 x ≤ 4 := by
  unfold p4
  omega
theorem div16 {a w z : Nat} (h : a < 16) (hz : z = a + 16 * w) : z / 16 = w := by omega
theorem mod16 {a w z : Nat} (h : a < 16) (hz : z = a + 16 * w) : z % 16 = a := by omega
theorem div256 {a w z : Nat} (h : a < 256) (hz : z = a + 256 * w) : z / 2 ^ 8 = w ∧ z % 2 ^ 8 = a := by omega
theorem swar {a0 a1 a2 a3 a4 a5 a6 a7 z : Nat} (h0 : a0 ≤ 4) (h1 : a1 ≤ 4) (h2 : a2 ≤ 4) (h3 : a3 ≤ 4) (h4 : a4 ≤ 4) (h5 : a5 ≤ 4) (h6 : a6 ≤ 4) (h7 : a7 ≤ 4) (hz : z = a0 + 16 * (a1 + 16 * (a2 + 16 * (a3 + 16 * (a4 + 16 * (a5 + 16 * (a6 + 16 * a7))))))) : (z + z / 16) &&& 252645135 = (a0 + a1) + 256 * ((a2 + a3) + 256 * ((a4 + a5) + 256 * (a6 + a7))) := by
  have e1 := div16 (by omega) hz
  have hs : z + z / 16 = ((a0 + a1) + 16 * (a1 + a2)) + 256 * (((a2 + a3) + 16 * (a3 + a4)) + 256 * (((a4 + a5) + 16 * (a5 + a6)) + 256 * ((a6 + a7) + 16 * a7))) := by
    rw [e1, hz]
    omega
  generalize z + z / 16 = s at hs
  have t1 := div256 (by omega) hs
  have t2 := div256 (z := s / 2 ^ 8) (by omega) t1.1
  have t3 := div256 (z := s / 2 ^ 8 / 2 ^ 8) (by omega) t2.1
  have c1 := land_cut 8 s 15 986895 (by decide)
  have c2 := land_cut 8 (s / 2 ^ 8) 15 3855 (by decide)
  have c3 := land_cut 8 (s / 2 ^ 8 / 2 ^ 8) 15 15 (by decide)
  have b1 := and15 ⟨s % 2 ^ 8, Nat.mod_lt _ (by decide)⟩
  have b2 := and15 ⟨s / 2 ^ 8 % 2 ^ 8, Nat.mod_lt _ (by decide)⟩
  have b3 := and15 ⟨s / 2 ^ 8 / 2 ^ 8 % 2 ^ 8, Nat.mod_lt _ (by decide)⟩
  have b4 := and15 ⟨s / 2 ^ 8 / 2 ^ 8 / 2 ^ 8, by rw [t3.1]; omega⟩
  dsimp only at b1 b2 b3 b4
  rw [b1, t1.2, mod16 (w := a1 + a2) (a := a0 + a1) (by omega) rfl] at c1
  rw [b2, t2.2, mod16 (w := a3 + a4) (a := a2 + a3) (by omega) rfl] at c2
  rw [b3, t3.2, mod16 (w := a5 + a6) (a := a4 + a5) (by omega) rfl, b4, t3.1, mod16 (w := a7) (a := a6 + a7) (by omega) rfl] at c3
  rw [show (252645135 : Nat) = 15 + 2 ^ 8 * 986895 by decide, c1, show (986895 : Nat) = 15 + 2 ^ 8 * 3855 by decide, c2, show (3855 : Nat) = 15 + 2 ^ 8 * 15 by decide, c3]
theorem and63 (v : Nat) : v &&& 63 = v % 64 := Nat.and_two_pow_sub_one_eq_mod v 6
theorem U9_add (a b : Int) : U9 (a + b) = (U9 a + U9 b) % 4294967296 := by
  rw [U9_eq, U9_eq, U9_eq]
  omega
theorem U9_sub (a b : Int) : U9 (a - b) = (U9 a + (4294967296 - U9 b)) % 4294967296 := by
  rw [U9_eq, U9_eq, U9_eq]
  omega
theorem U9_int {w : Int32} (h : U9 w.toInt < 64) : w.toInt = (U9 w.toInt : Nat) := by
  have h1 := Int32.le_toInt w
  have h2 := Int32.toInt_lt w
  rw [U9_eq] at h ⊢
  omega
/-- the first k bits' sum -/
def bsm (x : Nat) : Nat → Nat
  | 0 => 0
  | k + 1 => bsm x k + x / 2 ^ k % 2
theorem bsm_32 (x : Nat) : bsm x 32 = p4 x + p4 (x / 16) + p4 (x / 16 / 16) + p4 (x / 16 / 16 / 16) + p4 (x / 16 / 16 / 16 / 16) + p4 (x / 16 / 16 / 16 / 16 / 16) + p4 (x / 16 / 16 / 16 / 16 / 16 / 16) + p4 (x / 16 / 16 / 16 / 16 / 16 / 16 / 16) := by
  simp only [bsm, p4, Nat.div_div_eq_div_mul, Nat.reduceMul, Nat.reducePow, Nat.add_assoc, Nat.zero_add, Nat.div_one]
theorem e4_8 (x : Nat) : e4 8 x = p4 x + 16 * (p4 (x / 16) + 16 * (p4 (x / 16 / 16) + 16 * (p4 (x / 16 / 16 / 16) + 16 * (p4 (x / 16 / 16 / 16 / 16) + 16 * (p4 (x / 16 / 16 / 16 / 16 / 16) + 16 * (p4 (x / 16 / 16 / 16 / 16 / 16 / 16) + 16 * p4 (x / 16 / 16 / 16 / 16 / 16 / 16 / 16))))))) := rfl
theorem kbc_bsm (x : Int) : kbc x = ((bsm (U9 x) 32 : Nat) : Int) := by
  have hN := U9_lt x
  have s1 : U9 (w32 (x - kand (kushr x 1) 1431655765)) = d4 8 (U9 x) := by
    have h := d4_eq 8 (U9 x) (by omega)
    rw [U9_w, U9_sub, U9_and, U9_shr x 1 1 (by decide), show U9 1431655765 = mk5 8 by decide, show U9 x / 2 ^ 1 = U9 x / 2 by rw [Nat.pow_one]]
    omega
  generalize hy1 : w32 (x - kand (kushr x 1) 1431655765) = y1 at s1
  have p0 := p4_le (U9 x)
  have p1 := p4_le (U9 x / 16)
  have p2 := p4_le (U9 x / 16 / 16)
  have p3 := p4_le (U9 x / 16 / 16 / 16)
  have p5 := p4_le (U9 x / 16 / 16 / 16 / 16)
  have p6 := p4_le (U9 x / 16 / 16 / 16 / 16 / 16)
  have p7 := p4_le (U9 x / 16 / 16 / 16 / 16 / 16 / 16)
  have p8 := p4_le (U9 x / 16 / 16 / 16 / 16 / 16 / 16 / 16)
  have he := e4_8 (U9 x)
  have hb := bsm_32 (U9 x)
  have s2 : U9 (w32 (kand y1 858993459 + kand (kushr y1 2) 858993459)) = e4 8 (U9 x) := by
    have h := e4_eq 8 (U9 x)
    rw [U9_w, U9_add, U9_and, U9_and, U9_shr y1 2 2 (by decide), show U9 858993459 = mk3 8 by decide, s1, show d4 8 (U9 x) / 2 ^ 2 = d4 8 (U9 x) / 4 by rw [show (2 : Nat) ^ 2 = 4 by decide], h, he]
    generalize p4 (U9 x) = a0 at *
    generalize p4 (U9 x / 16) = a1 at *
    generalize p4 (U9 x / 16 / 16) = a2 at *
    generalize p4 (U9 x / 16 / 16 / 16) = a3 at *
    generalize p4 (U9 x / 16 / 16 / 16 / 16) = a4 at *
    generalize p4 (U9 x / 16 / 16 / 16 / 16 / 16) = a5 at *
    generalize p4 (U9 x / 16 / 16 / 16 / 16 / 16 / 16) = a6 at *
    generalize p4 (U9 x / 16 / 16 / 16 / 16 / 16 / 16 / 16) = a7 at *
    exact Nat.mod_eq_of_lt (by omega)
  generalize hy2 : w32 (kand y1 858993459 + kand (kushr y1 2) 858993459) = y2 at s2
  rw [he] at s2
  clear he
  rw [hb]
  clear hb hN s1
  generalize p4 (U9 x) = a0 at *
  generalize p4 (U9 x / 16) = a1 at *
  generalize p4 (U9 x / 16 / 16) = a2 at *
  generalize p4 (U9 x / 16 / 16 / 16) = a3 at *
  generalize p4 (U9 x / 16 / 16 / 16 / 16) = a4 at *
  generalize p4 (U9 x / 16 / 16 / 16 / 16 / 16) = a5 at *
  generalize p4 (U9 x / 16 / 16 / 16 / 16 / 16 / 16) = a6 at *
  generalize p4 (U9 x / 16 / 16 / 16 / 16 / 16 / 16 / 16) = a7 at *
  have e1 := div16 (by omega) s2
  have hlt : U9 y2 + U9 y2 / 16 < 4294967296 := by
    rw [e1, s2]
    omega
  have s3 : U9 (kand (w32 (y2 + kushr y2 4)) 252645135) = (a0 + a1) + 256 * ((a2 + a3) + 256 * ((a4 + a5) + 256 * (a6 + a7))) := by
    rw [U9_and, U9_w, U9_add, U9_shr y2 4 4 (by decide), show U9 252645135 = 252645135 by decide, show (2 : Nat) ^ 4 = 16 by decide, Nat.mod_eq_of_lt hlt]
    exact swar p0 p1 p2 p3 p5 p6 p7 p8 s2
  clear e1 hlt s2
  generalize hy3 : kand (w32 (y2 + kushr y2 4)) 252645135 = y3 at s3
  have b0 : a0 + a1 ≤ 8 := by omega
  have b1 : a2 + a3 ≤ 8 := by omega
  have b2 : a4 + a5 ≤ 8 := by omega
  have b3 : a6 + a7 ≤ 8 := by omega
  have hsum : a0 + a1 + a2 + a3 + a4 + a5 + a6 + a7 = (a0 + a1) + (a2 + a3) + (a4 + a5) + (a6 + a7) := by omega
  rw [hsum]
  clear hsum p0 p1 p2 p3 p5 p6 p7 p8
  generalize a0 + a1 = c0 at *
  generalize a2 + a3 = c1 at *
  generalize a4 + a5 = c2 at *
  generalize a6 + a7 = c3 at *
  have s4 : U9 (w32 (y3 + kushr y3 8)) = (c0 + c1) + 256 * ((c1 + c2) + 256 * ((c2 + c3) + 256 * c3)) := by
    rw [U9_w, U9_add, U9_shr y3 8 8 (by decide), (div256 (by omega) s3).1, s3, Nat.mod_eq_of_lt (by omega)]
    omega
  generalize hy4 : w32 (y3 + kushr y3 8) = y4 at s4
  have s5 : U9 (w32 (y4 + kushr y4 16)) % 64 = c0 + c1 + c2 + c3 := by
    have d1 := div256 (by omega) s4
    have d2 := div256 (by omega) d1.1
    rw [U9_w, U9_add, U9_shr y4 16 16 (by decide), show U9 y4 / 2 ^ 16 = U9 y4 / 2 ^ 8 / 2 ^ 8 by rw [Nat.div_div_eq_div_mul], d2.1, s4]
    omega
  have hk : kbc x = kand (w32 (y4 + kushr y4 16)) 63 := by
    rw [← hy4, ← hy3, ← hy2, ← hy1]
    rfl
  have s6 : U9 (kbc x) = c0 + c1 + c2 + c3 := by
    rw [hk, U9_and, show U9 63 = 63 by decide, and63]
    exact s5
  have h7 : kbc x = (U9 (kbc x) : Nat) := by
    rw [hk]
    unfold kand
    refine U9_int ?_
    show U9 (kand (w32 (y4 + kushr y4 16)) 63) < 64
    rw [← hk, s6]
    omega
  rw [h7, s6]
theorem bt_U9 {x j : Int} (h0 : 0 ≤ j) (h1 : j < 32) : bt x j ↔ U9 x / 2 ^ j.toNat % 2 = 1 := by
  rw [bt_iff h0 h1, ← BitVec.testBit_toNat, Nat.testBit_eq_decide_div_mod_eq, decide_eq_true_iff]
  exact Iff.rfl
/-- how many of the first n of row a are not 0 -/
def cnt9 (g : Int → Int) (a : Int) : Nat → Int
  | 0 => 0
  | b + 1 => cnt9 g a b + (if g (24 * a + b) = 0 then 0 else 1)
theorem bsm_cnt {x a : Int} {g : Int → Int} {n : Int} (n0 : 0 ≤ n) (n1 : n ≤ 24) (h : ∀ b, 0 ≤ b → b < n → (bt x b ↔ g (24 * a + b) ≠ 0)) (hz : ∀ b, n ≤ b → b < 32 → ¬ bt x b) : ∀ k : Nat, k ≤ 32 → ((bsm (U9 x) k : Nat) : Int) = cnt9 g a (min k n.toNat)
  | 0, _ => by
    rw [Nat.zero_min]
    rfl
  | k + 1, hk => by
    have ih := bsm_cnt n0 n1 h hz k (by omega)
    have e := bt_U9 (x := x) (j := (k : Int)) (by omega) (by omega)
    rw [Int.toNat_natCast] at e
    have m2 : U9 x / 2 ^ k % 2 < 2 := Nat.mod_lt _ (by decide)
    show ((bsm (U9 x) k + U9 x / 2 ^ k % 2 : Nat) : Int) = _
    by_cases z : (k : Int) < n
    · rw [show min (k + 1) n.toNat = k + 1 by omega]
      rw [show min k n.toNat = k by omega] at ih
      show _ = cnt9 g a k + (if g (24 * a + k) = 0 then 0 else 1)
      rw [← ih]
      have hb := h k (by omega) z
      by_cases y : g (24 * a + k) = 0
      · rw [if_pos y]
        have : ¬ U9 x / 2 ^ k % 2 = 1 := fun q => hb.mp (e.mpr q) y
        omega
      · rw [if_neg y]
        have := e.mp (hb.mpr y)
        omega
    · rw [show min (k + 1) n.toNat = min k n.toNat by omega, ← ih]
      have : ¬ U9 x / 2 ^ k % 2 = 1 := fun q => hz k (by omega) (by omega) (e.mpr q)
      omega
theorem kbc_cnt {x a : Int} {g : Int → Int} {n : Int} (n0 : 0 ≤ n) (n1 : n ≤ 24) (h : ∀ b, 0 ≤ b → b < n → (bt x b ↔ g (24 * a + b) ≠ 0)) (hz : ∀ b, n ≤ b → b < 32 → ¬ bt x b) : kbc x = cnt9 g a n.toNat := by
  rw [kbc_bsm, bsm_cnt n0 n1 h hz 32 (by omega), show min 32 n.toNat = n.toNat by omega]
/-! the roads of both sides -/
theorem U9_shl {n : Int} (n0 : 0 ≤ n) (n1 : n ≤ 24) : kshl 1 n = ((2 ^ n.toNat : Nat) : Int) := by
  have : ∀ k : Fin 25, kshl 1 ((k.val : Nat) : Int) = ((2 ^ k.val : Nat) : Int) := by decide +kernel
  have h := this ⟨n.toNat, by omega⟩
  dsimp only at h
  rw [show ((n.toNat : Nat) : Int) = n by omega] at h
  exact h
theorem pow24 {n : Int} (n0 : 0 ≤ n) (n1 : n ≤ 24) : 1 ≤ 2 ^ n.toNat ∧ 2 ^ n.toNat ≤ 16777216 := by
  refine ⟨Nat.one_le_two_pow, ?_⟩
  have : 2 ^ n.toNat ≤ 2 ^ 24 := Nat.pow_le_pow_right (by decide) (by omega)
  omega
theorem U9_every {n : Int} (n0 : 0 ≤ n) (n1 : n ≤ 24) : U9 (w32 (kshl 1 n - 1)) = 2 ^ n.toNat - 1 := by
  have h := pow24 n0 n1
  rw [U9_w, U9_shl n0 n1, U9_eq]
  omega
theorem bt_every {n b : Int} (n0 : 0 ≤ n) (n1 : n ≤ 24) (b0 : 0 ≤ b) (b1 : b < 32) : bt (w32 (kshl 1 n - 1)) b ↔ b < n := by
  rw [bt_iff b0 b1, ← BitVec.testBit_toNat]
  show (U9 (w32 (kshl 1 n - 1))).testBit b.toNat = true ↔ _
  rw [U9_every n0 n1, Nat.testBit_two_pow_sub_one, decide_eq_true_iff]
  omega
/-- a set is one of the first n: as the class asks, as the reference asks -/
theorem set_iff {s n : Int} (n0 : 0 ≤ n) (n1 : n ≤ 24) (s0 : -2147483648 ≤ s ∧ s < 2147483648) : kand s (kxor (w32 (kshl 1 n - 1)) (-1)) = 0 ↔ 0 ≤ s ∧ s < kshl 1 n := by
  have hp := pow24 n0 n1
  have hz : kand s (kxor (w32 (kshl 1 n - 1)) (-1)) = 0 ↔ ∀ j : Int, 0 ≤ j → j < 32 → ¬ (bt s j ∧ ¬ j < n) := by
    constructor
    · intro h j j0 j1 q
      have : bt (kand s (kxor (w32 (kshl 1 n - 1)) (-1))) j := by
        rw [bt_and j0 j1, bt_not j0 j1, bt_every n0 n1 j0 j1]
        exact q
      rw [h] at this
      exact bt_0 j0 j1 this
    · intro h
      have hU : U9 (kand s (kxor (w32 (kshl 1 n - 1)) (-1))) = 0 := by
        apply Nat.eq_of_testBit_eq
        intro i
        rw [Nat.zero_testBit]
        by_cases hi : i < 32
        · have hn := h i (by omega) (by omega)
          have e : ¬ bt (kand s (kxor (w32 (kshl 1 n - 1)) (-1))) (i : Int) := by
            rw [bt_and (by omega) (by omega), bt_not (by omega) (by omega), bt_every n0 n1 (by omega) (by omega)]
            exact hn
          rw [bt_iff (by omega) (by omega), Int.toNat_natCast, ← BitVec.testBit_toNat] at e
          exact Bool.eq_false_iff.mpr e
        · exact Nat.testBit_lt_two_pow (Nat.lt_of_lt_of_le (U9_lt _) (by rw [show 4294967296 = 2 ^ 32 by decide]; exact Nat.pow_le_pow_right (by decide) (by omega)))
      unfold kand at hU ⊢
      have h2 := U9_int (w := Int32.ofInt s &&& Int32.ofInt (kxor (w32 (kshl 1 n - 1)) (-1))) (by rw [hU]; decide)
      rw [h2, hU]
      rfl
  rw [hz, U9_shl n0 n1]
  have hU : U9 s = if 0 ≤ s then s.toNat else (s + 4294967296).toNat := by
    rw [U9_eq]
    split <;> omega
  constructor
  · intro h
    have hlt : U9 s < 2 ^ n.toNat := by
      apply Nat.lt_pow_two_of_testBit
      intro i hi
      by_cases h32 : i < 32
      · have hn := h i (by omega) (by omega)
        have e : ¬ bt s (i : Int) := fun q => hn ⟨q, by omega⟩
        rw [bt_iff (by omega) (by omega), Int.toNat_natCast, ← BitVec.testBit_toNat] at e
        exact Bool.eq_false_iff.mpr e
      · exact Nat.testBit_lt_two_pow (Nat.lt_of_lt_of_le (U9_lt _) (by rw [show 4294967296 = 2 ^ 32 by decide]; exact Nat.pow_le_pow_right (by decide) (by omega)))
    rw [hU] at hlt
    split at hlt <;> omega
  · intro h j j0 j1 q
    rw [if_pos h.1] at hU
    have q2 := q.1
    rw [bt_iff j0 j1, ← BitVec.testBit_toNat] at q2
    have hlt : U9 s < 2 ^ j.toNat := Nat.lt_of_lt_of_le (show U9 s < 2 ^ n.toNat by omega) (Nat.pow_le_pow_right (by decide) (by omega))
    have := Nat.testBit_lt_two_pow hlt
    rw [show (U9 s).testBit j.toNat = (Int32.ofInt s).toBitVec.toNat.testBit j.toNat from rfl, q2] at this
    exact absurd this (by decide)
/-- the one ahead on the ring of beaters -/
def prv (n a : Int) : Int := if a = 0 then n - 1 else a - 1
def RWx (x a b n : Int) : Prop := (x = 1 ∧ a ≠ b) ∨ (x = 2 ∧ b = prv n a) ∨ (x = 3 ∧ (b = prv n a ∨ a = prv n b))
theorem rem_prv {n a : Int} (a0 : 0 ≤ a) (a1 : a < n) : (a + n - 1).tmod n = prv n a := by
  unfold prv
  rw [Int.tmod_eq_emod_of_nonneg (by omega)]
  split
  · rename_i z
    exact (Int.emod_eq_of_lt (by omega) (by omega)).trans (by omega)
  · exact ((Int.ediv_emod_unique (q := 1) (r := a - 1) (a := a + n - 1) (b := n) (by omega)).mpr ⟨by omega, by omega, by omega⟩).2
theorem rdF_bt {x n a b : Int} (n0 : 0 ≤ n) (n1 : n ≤ 24) (a0 : 0 ≤ a) (a1 : a < n) (b0 : 0 ≤ b) (b1 : b < 32) : bt (rdF x n a) b ↔ b < n ∧ RWx x a b n := by
  unfold rdF RWx
  by_cases x1 : x = 1
  · rw [if_pos x1, bt_and b0 b1, bt_not b0 b1, bt_one b0 b1 a0 (by omega), bt_every n0 n1 b0 b1]
    omega
  · rw [if_neg x1]
    by_cases x2 : x = 2
    · rw [if_pos x2, bt_one b0 b1 (by split <;> omega) (by split <;> omega)]
      unfold prv
      omega
    · rw [if_neg x2]
      by_cases x3 : x = 3
      · rw [if_pos x3, bt_or b0 b1, bt_one b0 b1 (by split <;> omega) (by split <;> omega), bt_one b0 b1 (by split <;> omega) (by split <;> omega)]
        unfold prv
        omega
      · rw [if_neg x3]
        exact ⟨fun z => absurd z (bt_0 b0 b1), fun z => by omega⟩
def TSe (n : Int) (f g : Int → Int) : Prop := (∀ a b, 0 ≤ a → a < n → 0 ≤ b → b < n → (bt (f a) b ↔ g (24 * a + b) ≠ 0)) ∧ (∀ a, 0 ≤ a → a < n → ∀ b, n ≤ b → b < 32 → ¬ bt (f a) b) ∧ ∀ a b, 0 ≤ a → a < 24 → 0 ≤ b → b < 24 → (n ≤ a ∨ n ≤ b) → g (24 * a + b) = 0
theorem TSe.ring {f g : Int → Int} (h : ∀ x, 0 ≤ x → x < 576 → g x = 0) : TSe 0 f g := ⟨fun a b a0 a1 => by omega, fun a a0 a1 => by omega, fun a b a0 a1 b0 b1 _ => h _ (by omega) (by omega)⟩
theorem TSe.beater {n : Int} {f g : Int → Int} (h : TSe n f g) (n0 : 0 ≤ n) (n1 : n < 24) : TSe (n + 1) (u1 f n 0) g := by
  refine ⟨fun a b a0 a1 b0 b1 => ?_, fun a a0 a1 b b0 b1 => ?_, fun a b a0 a1 b0 b1 z => h.2.2 a b a0 a1 b0 b1 (by omega)⟩
  · by_cases e : a = n
    · rw [e, u1_s]
      exact ⟨fun z => absurd z (bt_0 b0 (by omega)), fun z => absurd (h.2.2 n b n0 n1 b0 (by omega) (Or.inl (Int.le_refl _))) z⟩
    · rw [u1_n _ _ e]
      by_cases e2 : b = n
      · exact ⟨fun z => absurd z (h.2.1 a a0 (by omega) b (by omega) (by omega)), fun z => absurd (h.2.2 a b a0 (by omega) b0 (by omega) (by omega)) z⟩
      · exact h.1 a b a0 (by omega) b0 (by omega)
  · by_cases e : a = n
    · rw [e, u1_s]
      exact bt_0 (by omega) b1
    · rw [u1_n _ _ e]
      exact h.2.1 a a0 (by omega) b (by omega) b1
theorem TSe.road {n : Int} {f g : Int → Int} (h : TSe n f g) (n1 : n ≤ 24) {a b on : Int} (a0 : 0 ≤ a) (a1 : a < n) (b0 : 0 ≤ b) (b1 : b < n) : TSe n (u1 f a (if on = 0 then kand (f a) (kxor (kshl 1 b) (-1)) else kor (f a) (kshl 1 b))) (u1 g (24 * a + b) on) := by
  have hv : ∀ j, 0 ≤ j → j < 32 → (bt (if on = 0 then kand (f a) (kxor (kshl 1 b) (-1)) else kor (f a) (kshl 1 b)) j ↔ (if j = b then on ≠ 0 else bt (f a) j)) := by
    intro j j0 j1
    by_cases z : on = 0
    · rw [if_pos z, bt_and j0 j1, bt_not j0 j1, bt_one j0 j1 b0 (by omega)]
      by_cases y : j = b
      · rw [if_pos y]
        exact ⟨fun q => absurd y q.2, fun q => absurd z q⟩
      · rw [if_neg y]
        exact ⟨fun q => q.1, fun q => ⟨q, y⟩⟩
    · rw [if_neg z, bt_or j0 j1, bt_one j0 j1 b0 (by omega)]
      by_cases y : j = b
      · rw [if_pos y]
        exact ⟨fun _ => z, fun _ => Or.inr y⟩
      · rw [if_neg y]
        exact ⟨fun q => q.elim id (fun w => absurd w y), Or.inl⟩
  refine ⟨fun c d c0 c1 d0 d1 => ?_, fun c c0 c1 d d0 d1 => ?_, fun c d c0 c1 d0 d1 z => ?_⟩
  · by_cases e : c = a
    · rw [e, u1_s, hv d d0 (by omega)]
      by_cases e2 : d = b
      · rw [if_pos e2, e2, u1_s]
      · rw [if_neg e2, u1_n _ _ (by omega)]
        exact h.1 a d a0 a1 d0 d1
    · rw [u1_n _ _ e, u1_n _ _ (by omega)]
      exact h.1 c d c0 c1 d0 d1
  · by_cases e : c = a
    · rw [e, u1_s, hv d (by omega) d1, if_neg (by omega)]
      exact h.2.1 a a0 a1 d d0 d1
    · rw [u1_n _ _ e]
      exact h.2.1 c c0 c1 d d0 d1
  · rw [u1_n _ _ (by omega)]
    exact h.2.2 c d c0 c1 d0 d1 z
theorem TSe.roads {n x : Int} {f g g' : Int → Int} (h : TSe n f g) (n0 : 0 ≤ n) (n1 : n ≤ 24) (h1 : ∀ a b, 0 ≤ a → a < n → 0 ≤ b → b < n → (g' (24 * a + b) ≠ 0 ↔ RWx x a b n)) (h2 : ∀ a b, 0 ≤ a → a < 24 → 0 ≤ b → b < 24 → (n ≤ a ∨ n ≤ b) → g' (24 * a + b) = g (24 * a + b)) : TSe n (gF (rdF x n) f n) g' := by
  refine ⟨fun a b a0 a1 b0 b1 => ?_, fun a a0 a1 b b0 b1 => ?_, fun a b a0 a1 b0 b1 z => ?_⟩
  · unfold gF
    rw [if_pos ⟨a0, a1⟩, rdF_bt n0 n1 a0 a1 b0 (by omega), h1 a b a0 a1 b0 b1]
    exact ⟨fun z => z.2, fun z => ⟨b1, z⟩⟩
  · unfold gF
    rw [if_pos ⟨a0, a1⟩, rdF_bt n0 n1 a0 a1 (by omega) b1]
    omega
  · rw [h2 a b a0 a1 b0 b1 z]
    exact h.2.2 a b a0 a1 b0 b1 z
