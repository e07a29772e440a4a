/-! ===== the small machine: numbers are whole numbers, cells are counted from the law's first own cell on ===== -/
def w32 (x : Int) : Int := (x + 2147483648) % 4294967296 - 2147483648
def w64 (x : Int) : Int := (x + 9223372036854775808) % 18446744073709551616 - 9223372036854775808
/-- a value: 0 an int, 1 a long, 2 a reference (its cell's number, -1 for null); 9 a local that is not known -/
abbrev mV : Type := Nat × Int
/-- a heap: how many cells, how many slots; a cell's kind; its length; its fields; its elements -/
abbrev mH : Type := (Nat × Nat) × (Int → Nat) × (Int → Int) × (Int → Nat → Int) × (Int → Int → Int)
def hN (h : mH) : Nat := h.1.1
def hZ (h : mH) : Nat := h.1.2
def hK (h : mH) : Int → Nat := h.2.1
def hL (h : mH) : Int → Int := h.2.2.1
def hF (h : mH) : Int → Nat → Int := h.2.2.2.1
def hA (h : mH) : Int → Int → Int := h.2.2.2.2
def u1 {α : Type} (f : Int → α) (a : Int) (v : α) : Int → α := fun b => if b = a then v else f b
def u2 (f : Int → Nat → Int) (a : Int) (k : Nat) (v : Int) : Int → Nat → Int := fun b j => if j = k ∧ b = a then v else f b j
def sF (h : mH) (a : Int) (k : Nat) (v : Int) : mH := (h.1, h.2.1, h.2.2.1, u2 h.2.2.2.1 a k v, h.2.2.2.2)
def sA (h : mH) (a : Int) (f : Int → Int) : mH := (h.1, h.2.1, h.2.2.1, h.2.2.2.1, u1 h.2.2.2.2 a f)
def sE (h : mH) (a i v : Int) : mH := sA h a (u1 (hA h a) i v)
theorem u1_s {α : Type} (f : Int → α) (a : Int) (v : α) : u1 f a v a = v := by simp [u1]
theorem u1_n {α : Type} (f : Int → α) {a b : Int} (v : α) (h : b ≠ a) : u1 f a v b = f b := by simp [u1, h]
/-- the tag of a field's type -/
def tgT : FieldType → Nat
  | .long => 1
  | .object _ => 2
  | .array _ => 2
  | _ => 0
/-- kinds of cells: 0 to 6 the objects of vwCl; 10 to 15 arrays; 99 others -/
def aTy : Nat → FieldType := fun t => match t with
  | 10 => .int
  | 11 => .long
  | 12 => .boolean
  | 13 => .byte
  | 14 => .object "BeatBench$Sheet"
  | _ => .array .long
def cTy : Nat → Nat → FieldType := fun c => match c with
  | 0 => tyX0
  | 1 => tyX1
  | 2 => tyX2
  | 3 => tyX3
  | 4 => tyX4
  | 5 => tyX5
  | _ => tyX6
def cNf : Nat → Nat := fun c => match c with
  | 0 => 14
  | 1 => 5
  | 2 => 3
  | 3 => 14
  | 4 => 5
  | 5 => 10
  | _ => 45
def fTg (c k : Nat) : Nat := tgT (cTy c k)
def aTg (t : Nat) : Nat := tgT (aTy t)
def dfl (t : Nat) : Int := if t = 2 then -1 else 0
/-- a new object of kind c -/
def nO (h : mH) (c : Nat) : mH := ((h.1.1 + 1, h.1.2 + cNf c), u1 h.2.1 (h.1.1 : Int) c, h.2.2.1, u1 h.2.2.2.1 (h.1.1 : Int) (fun k => dfl (fTg c k)), h.2.2.2.2)
/-- a new array of kind t with n places -/
def nA (h : mH) (t : Nat) (n : Int) : mH := ((h.1.1 + 1, h.1.2 + n.toNat), u1 h.2.1 (h.1.1 : Int) t, u1 h.2.2.1 (h.1.1 : Int) n, h.2.2.2.1, u1 h.2.2.2.2 (h.1.1 : Int) (fun _ => dfl (aTg t)))
/-- a new array of n arrays of k longs -/
def nM (h : mH) (n k : Int) : mH := ((h.1.1 + 1 + n.toNat, h.1.2 + n.toNat + n.toNat * k.toNat), (fun b => if b = (h.1.1 : Int) then 15 else if (h.1.1 : Int) < b ∧ b ≤ (h.1.1 : Int) + n then 11 else h.2.1 b), (fun b => if b = (h.1.1 : Int) then n else if (h.1.1 : Int) < b ∧ b ≤ (h.1.1 : Int) + n then k else h.2.2.1 b), h.2.2.2.1, (fun b => if b = (h.1.1 : Int) then (fun i => (h.1.1 : Int) + 1 + i) else if (h.1.1 : Int) < b ∧ b ≤ (h.1.1 : Int) + n then (fun _ => 0) else h.2.2.2.2 b))
/-! a value of the machine and one of the small machine -/
def rV (sz : Nat) (v : mV) (x : Value) : Prop := match x with
  | .int k => v = (0, k.toInt)
  | .long k => v = (1, k.toInt)
  | .ref a => sz ≤ a ∧ v = (2, (a : Int) - (sz : Int))
  | .null => v = (2, -1)
  | _ => False
theorem rV_i {sz : Nat} {i : Int} {x : Value} (h : rV sz (0, i) x) : ∃ k : Int32, x = .int k ∧ k.toInt = i := by
  cases x <;> simp [rV] at h
  exact ⟨_, rfl, h.symm⟩
theorem rV_l {sz : Nat} {i : Int} {x : Value} (h : rV sz (1, i) x) : ∃ k : Int64, x = .long k ∧ k.toInt = i := by
  cases x <;> simp [rV] at h
  exact ⟨_, rfl, h.symm⟩
theorem rV_r {sz : Nat} {i : Int} {x : Value} (h : rV sz (2, i) x) : (i = -1 ∧ x = .null) ∨ (0 ≤ i ∧ x = .ref (sz + i.toNat)) := by
  cases x with
  | null => exact Or.inl ⟨(Prod.mk.inj h).2, rfl⟩
  | ref a =>
    obtain ⟨h1, h2⟩ := h
    have h3 : i = (a : Int) - (sz : Int) := (Prod.mk.inj h2).2
    refine Or.inr ⟨by omega, ?_⟩
    rw [show sz + i.toNat = a by omega]
  | int k => exact absurd (Prod.mk.inj h).1 (by decide)
  | long k => exact absurd (Prod.mk.inj h).1 (by decide)
  | _ => exact h.elim
theorem rV_cat1 {sz : Nat} {v : mV} {x : Value} (h : rV sz v x) (ht : v.1 = 0 ∨ v.1 = 2) : x.category = 1 := by
  cases x <;> simp [rV] at h <;> first | rfl | (obtain ⟨-, rfl⟩ := h; simp at ht) | (subst h; simp at ht)
theorem rV_cat2 {sz : Nat} {v : mV} {x : Value} (h : rV sz v x) (ht : v.1 = 1) : x.category = 2 := by
  cases x <;> simp [rV] at h <;> first | rfl | (obtain ⟨-, rfl⟩ := h; simp at ht) | (subst h; simp at ht)
def mI {sz : Nat} {k : Int32} {i : Int} (h : k.toInt = i) : rV sz (0, i) (.int k) := by simp [rV, h]
def mL {sz : Nat} {k : Int64} {i : Int} (h : k.toInt = i) : rV sz (1, i) (.long k) := by simp [rV, h]
theorem mR {sz : Nat} {a : Nat} {i : Int} (h : (a : Int) = sz + i) (h0 : 0 ≤ i) : rV sz (2, i) (.ref a) := by
  refine ⟨by omega, ?_⟩
  rw [show (a : Int) - sz = i by omega]
def rSt (sz : Nat) : List mV → List Value → Prop
  | [], [] => True
  | v :: S, x :: st => rV sz v x ∧ rSt sz S st
  | _, _ => False
theorem rSt_c {sz : Nat} {v : mV} {S : List mV} {st : List Value} (h : rSt sz (v :: S) st) : ∃ x r, st = x :: r ∧ rV sz v x ∧ rSt sz S r := by
  cases st with
  | nil => exact h.elim
  | cons x r => exact ⟨x, r, rfl, h.1, h.2⟩
def rLs (sz : Nat) (L : List mV) (ls : Array Slot) : Prop := ls.size = L.length ∧ lv_wf ls ∧ ∀ (i : Nat) (v : mV), L[i]? = some v → v.1 < 3 → ∃ x, ls[i]? = some (.val x) ∧ rV sz v x
/-- class numbers, slots, array class numbers -/
abbrev mD : Type := (Nat → ClassId) × (Nat → Nat → Nat) × (Nat → ClassId)
def rC (D : mD) (sz : Nat) (h : mH) (a : Nat) (H : Heap) : Prop := ∃ cell : Cell, H[sz + a]? = some cell ∧
  ((hK h a < 7 ∧ cell.vm = .none ∧ cell.cls = D.1 (hK h a) ∧ ∀ k, k < cNf (hK h a) → ∃ x, cell.slots[D.2.1 (hK h a) k]? = some x ∧ rV sz (fTg (hK h a) k, hF h a k) x) ∨
   (10 ≤ hK h a ∧ hK h a < 16 ∧ cell.vm = .none ∧ cell.cls = D.2.2 (hK h a) ∧ (cell.slots.size : Int) = hL h a ∧ ∀ i : Nat, i < cell.slots.size → ∃ x, cell.slots[i]? = some x ∧ rV sz (aTg (hK h a), hA h a i) x) ∨
   hK h a = 99)
def rH (D : mD) (sz : Nat) (h : mH) (H : Heap) : Prop := H.size = sz + hN h ∧ (∀ a : Nat, a < hN h → rC D sz h a H) ∧ ∀ a : Int, a < 0 ∨ (hN h : Int) ≤ a → hK h a = 98
def dTys (D : mD) : List (ClassId × FieldType) := [(D.2.2 10, .int), (D.2.2 11, .long), (D.2.2 12, .boolean), (D.2.2 13, .byte), (D.2.2 14, .object "BeatBench$Sheet"), (D.2.2 15, .array .long)]
def kD (D : mD) (s : State) : Prop := va_K (D.1, D.2.1) vwCl (dTys D) s ∧ va_AO "BeatBench$Sheet" s ∧ va_AOA .long s
theorem kD.moved {D : mD} {u U : State} (hvm : u.vm.Alike U.vm) (h : kD D u) : kD D U := ⟨h.1.moved hvm, h.2.1.moved hvm, h.2.2.moved hvm⟩
/-! arithmetic -/
theorem bmod32 (x : Int) : x.bmod (2 ^ 32) = w32 x := by
  have e : ((2 ^ 32 : Nat) : Int) = 4294967296 := by decide
  unfold w32 Int.bmod
  simp only [e]
  split <;> omega
theorem bmod64 (x : Int) : x.bmod (2 ^ 64) = w64 x := by
  have e : ((2 ^ 64 : Nat) : Int) = 18446744073709551616 := by decide
  unfold w64 Int.bmod
  simp only [e]
  split <;> omega
theorem o32 {x : Int32} {a : Int} (h : x.toInt = a) : Int32.ofInt a = x := by rw [← h]; exact Int32.ofInt_toInt x
theorem o64 {x : Int64} {a : Int} (h : x.toInt = a) : Int64.ofInt a = x := by rw [← h]; exact Int64.ofInt_toInt x
theorem t32 (a : Int) : (Int32.ofInt a).toInt = w32 a := by rw [Int32.toInt_ofInt]; exact bmod32 a
theorem t64 (a : Int) : (Int64.ofInt a).toInt = w64 a := by rw [Int64.toInt_ofInt]; exact bmod64 a
theorem add32 {x y : Int32} {a b : Int} (hx : x.toInt = a) (hy : y.toInt = b) : (x + y).toInt = w32 (a + b) := by rw [Int32.toInt_add, hx, hy]; exact bmod32 _
theorem sub32 {x y : Int32} {a b : Int} (hx : x.toInt = a) (hy : y.toInt = b) : (x - y).toInt = w32 (a - b) := by rw [Int32.toInt_sub, hx, hy]; exact bmod32 _
theorem mul32 {x y : Int32} {a b : Int} (hx : x.toInt = a) (hy : y.toInt = b) : (x * y).toInt = w32 (a * b) := by rw [Int32.toInt_mul, hx, hy]; exact bmod32 _
theorem div32 {x y : Int32} {a b : Int} (hx : x.toInt = a) (hy : y.toInt = b) : (x / y).toInt = w32 (a.tdiv b) := by rw [Int32.toInt_div, hx, hy]; exact bmod32 _
theorem neg32 {x : Int32} {a : Int} (hx : x.toInt = a) : (-x).toInt = w32 (-a) := by rw [Int32.toInt_neg, hx]; exact bmod32 _
theorem add64 {x y : Int64} {a b : Int} (hx : x.toInt = a) (hy : y.toInt = b) : (x + y).toInt = w64 (a + b) := by rw [Int64.toInt_add, hx, hy]; exact bmod64 _
theorem sub64 {x y : Int64} {a b : Int} (hx : x.toInt = a) (hy : y.toInt = b) : (x - y).toInt = w64 (a - b) := by rw [Int64.toInt_sub, hx, hy]; exact bmod64 _
theorem mul64 {x y : Int64} {a b : Int} (hx : x.toInt = a) (hy : y.toInt = b) : (x * y).toInt = w64 (a * b) := by rw [Int64.toInt_mul, hx, hy]; exact bmod64 _
theorem div64 {x y : Int64} {a b : Int} (hx : x.toInt = a) (hy : y.toInt = b) : (x / y).toInt = w64 (a.tdiv b) := by rw [Int64.toInt_div, hx, hy]; exact bmod64 _
theorem neg64 {x : Int64} {a : Int} (hx : x.toInt = a) : (-x).toInt = w64 (-a) := by rw [Int64.toInt_neg, hx]; exact bmod64 _
theorem rng32 (x : Int32) : -2147483648 ≤ x.toInt ∧ x.toInt < 2147483648 := ⟨by have := Int32.le_toInt x; omega, by have := Int32.toInt_lt x; omega⟩
theorem rng64 (x : Int64) : -9223372036854775808 ≤ x.toInt ∧ x.toInt < 9223372036854775808 := ⟨by have := Int64.le_toInt x; omega, by have := Int64.toInt_lt x; omega⟩
theorem w32_of {a : Int} (h1 : -2147483648 ≤ a) (h2 : a < 2147483648) : w32 a = a := by unfold w32; omega
theorem w64_of {a : Int} (h1 : -9223372036854775808 ≤ a) (h2 : a < 9223372036854775808) : w64 a = a := by unfold w64; omega
theorem w32_sub (a b : Int) : w32 (a - w32 b) = w32 (a - b) := by unfold w32; omega
theorem w32_add (a b : Int) : w32 (a + w32 b) = w32 (a + b) := by unfold w32; omega
theorem w64_sub (a b : Int) : w64 (a - w64 b) = w64 (a - b) := by unfold w64; omega
theorem w32_mul (a b : Int) : w32 (w32 a * b) = w32 (a * b) := by
  rw [← bmod32, ← bmod32, ← bmod32, Int.bmod_mul_bmod]
theorem w64_mul (a b : Int) : w64 (w64 a * b) = w64 (a * b) := by
  rw [← bmod64, ← bmod64, ← bmod64, Int.bmod_mul_bmod]
theorem tmod_rng {a b M : Int} (h : -M ≤ a ∧ a < M) : -M ≤ a.tmod b ∧ a.tmod b < M := by
  have h2 : (a.tmod b).natAbs ≤ a.natAbs := by rw [Int.natAbs_tmod]; exact Nat.mod_le _ _
  rcases Int.le_total 0 a with h0 | h0
  · have := Int.tmod_nonneg b h0
    omega
  · have h3 := Int.tmod_nonneg b (show 0 ≤ -a by omega)
    rw [Int.neg_tmod] at h3
    omega
theorem rem32 {x y : Int32} {a b : Int} (hx : x.toInt = a) (hy : y.toInt = b) : (x - x / y * y).toInt = a.tmod b := by
  rw [sub32 hx (mul32 (div32 hx hy) hy), w32_mul, w32_sub, show a - a.tdiv b * b = a.tmod b by rw [Int.tmod_def, Int.mul_comm]]
  have := tmod_rng (a := a) (b := b) (M := 2147483648) (by have := rng32 x; omega)
  exact w32_of this.1 this.2
theorem rem64 {x y : Int64} {a b : Int} (hx : x.toInt = a) (hy : y.toInt = b) : (x - x / y * y).toInt = a.tmod b := by
  rw [sub64 hx (mul64 (div64 hx hy) hy), w64_mul, w64_sub, show a - a.tdiv b * b = a.tmod b by rw [Int.tmod_def, Int.mul_comm]]
  have := tmod_rng (a := a) (b := b) (M := 9223372036854775808) (by have := rng64 x; omega)
  exact w64_of this.1 this.2
/-! what is told by the machine's own words -/
def kand (a b : Int) : Int := (Int32.ofInt a &&& Int32.ofInt b).toInt
def kor (a b : Int) : Int := (Int32.ofInt a ||| Int32.ofInt b).toInt
def kxor (a b : Int) : Int := (Int32.ofInt a ^^^ Int32.ofInt b).toInt
def qand (a b : Int) : Int := (Int64.ofInt a &&& Int64.ofInt b).toInt
def qor (a b : Int) : Int := (Int64.ofInt a ||| Int64.ofInt b).toInt
def qxor (a b : Int) : Int := (Int64.ofInt a ^^^ Int64.ofInt b).toInt
def cmpL (a b : Int) : Int := if b < a then 1 else if a = b then 0 else -1
theorem cmpL_of {x y : Int64} {a b : Int} (hx : x.toInt = a) (hy : y.toInt = b) : (lg_cmp x y).toInt = cmpL a b := by
  subst hx; subst hy
  unfold lg_cmp cmpL
  by_cases h1 : y.toInt < x.toInt
  · rw [if_pos h1, if_pos (Int64.lt_iff_toInt_lt.mpr h1)]; rfl
  · rw [if_neg h1, if_neg (fun q => h1 (Int64.lt_iff_toInt_lt.mp q))]
    by_cases h2 : x.toInt = y.toInt
    · rw [if_pos h2, if_pos (Int64.toInt_inj.mp h2)]; rfl
    · rw [if_neg h2, if_neg (fun q => h2 (by rw [q]))]; rfl
def kshl (a b : Int) : Int := (Int32.ofInt a <<< (Int32.ofInt b &&& 31)).toInt
def kshr (a b : Int) : Int := (Int32.ofInt a >>> (Int32.ofInt b &&& 31)).toInt
def kushr (a b : Int) : Int := ((Int32.ofInt a).toUInt32 >>> ((Int32.ofInt b).toUInt32 &&& Int32.toUInt32 31)).toInt32.toInt
def qshl (a b : Int) : Int := (Int64.ofInt a <<< ((Int32.ofInt b).toInt64 &&& 63)).toInt
def qshr (a b : Int) : Int := (Int64.ofInt a >>> ((Int32.ofInt b).toInt64 &&& 63)).toInt
def qushr (a b : Int) : Int := ((Int64.ofInt a).toUInt64 >>> ((Int32.ofInt b).toInt64.toUInt64 &&& Int64.toUInt64 63)).toInt64.toInt
