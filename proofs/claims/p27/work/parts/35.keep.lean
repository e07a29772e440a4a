/-- how many of the first n are their own home -/
def cR (g : Int → Int) : Nat → Nat
  | 0 => 0
  | n + 1 => cR g n + if g n = n then 1 else 0
theorem cR_le (g : Int → Int) : ∀ n, cR g n ≤ n
  | 0 => Nat.le_refl _
  | n + 1 => by
    have := cR_le g n
    show cR g n + _ ≤ _
    split <;> omega
theorem cR_st (g : Int → Int) {j : Int} (j0 : 0 ≤ j) : (cR g (j + 1).toNat : Int) = cR g j.toNat + if g j = j then 1 else 0 := by
  rw [show (j + 1).toNat = j.toNat + 1 by omega]
  show ((cR g j.toNat + if g (j.toNat : Int) = (j.toNat : Int) then 1 else 0 : Nat) : Int) = _
  rw [show ((j.toNat : Nat) : Int) = j by omega]
  split <;> rfl
theorem EN.rw' {h : mH} {af ho bs rw na nr n N : Int} (t : EN h af ho bs rw na nr) (h74 : 74 ≤ hN h) (N0 : 0 ≤ N) (N1 : N ≤ 62208) : EN (sF (sF (nA h 10 N) 17 3 (hN h : Int)) 17 4 n) af ho bs (hN h : Int) na N := by
  obtain ⟨⟨t0, k0, l0⟩, ⟨t1, k1, l1⟩, ⟨t2, k2, l2⟩, ⟨t3, k3, l3⟩, ⟨hn1, hn2, hn3, hn4, hn5, hn6⟩, ⟨y0, y1, y2, y3⟩, ⟨z0, z1, z2, z3⟩, ⟨b0, b1⟩, c0, c1⟩ := t
  refine ⟨⟨t0, (nA_K (h := h) (t := 10) (n := N) z0).trans k0, (nA_L (h := h) (t := 10) (n := N) z0).trans l0⟩, ⟨t1, (nA_K (h := h) (t := 10) (n := N) z1).trans k1, (nA_L (h := h) (t := 10) (n := N) z1).trans l1⟩, ⟨t2, (nA_K (h := h) (t := 10) (n := N) z2).trans k2, (nA_L (h := h) (t := 10) (n := N) z2).trans l2⟩, ⟨rfl, nA_Kn (h := h) (t := 10) (n := N), nA_Ln (h := h) (t := 10) (n := N)⟩, ⟨hn1, hn2, hn3, by omega, by omega, by omega⟩, ⟨y0, y1, y2, Or.inr (by omega)⟩, ⟨?_, ?_, ?_, ?_⟩, ⟨b0, b1⟩, N0, N1⟩
  · show _ < ((hN h + 1 : Nat) : Int)
    omega
  · show _ < ((hN h + 1 : Nat) : Int)
    omega
  · show _ < ((hN h + 1 : Nat) : Int)
    omega
  · show _ < ((hN h + 1 : Nat) : Int)
    omega
