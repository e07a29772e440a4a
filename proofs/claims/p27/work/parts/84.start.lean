def e9_w : mH := nA e9_177 11 1
theorem e9_sh : Sh e9_w := ⟨by decide +kernel, by decide +kernel, by decide +kernel, fun i i0 i1 => by rcases (show i = 0 ∨ i = 1 ∨ i = 2 ∨ i = 3 by omega) with rfl | rfl | rfl | rfl <;> decide +kernel, by decide +kernel⟩
theorem st_e {t : mH} (fr : Fr [64] [] e9_177 t) : (∀ a, hK (nA t 11 1) a = hK e9_w a) ∧ (∀ a, hL (nA t 11 1) a = hL e9_w a) ∧ (∀ a k, hF (nA t 11 1) a k = hF e9_w a k) ∧ (∀ a : Int, a < 73 → a ≠ 64 → hA (nA t 11 1) a = hA e9_177 a) ∧ hA (nA t 11 1) 64 = hA t 64 ∧ hN (nA t 11 1) = 74 ∧ hZ (nA t 11 1) = 168280 := by
  have hn : hN t = 73 := by rw [fr.1]; decide +kernel
  have hz : hZ t = 168279 := by rw [fr.2.1]; decide +kernel
  refine ⟨fun a => ?_, fun a => ?_, fun a k => fr.2.2.2.2.1 a k (by simp), fun a a0 a1 => ?_, ?_, ?_, ?_⟩
  · show u1 (hK t) (hN t : Int) 11 a = u1 (hK e9_177) (hN e9_177 : Int) 11 a
    rw [fr.2.2.1, fr.1]
  · show u1 (hL t) (hN t : Int) 1 a = u1 (hL e9_177) (hN e9_177 : Int) 1 a
    rw [fr.2.2.2.1, fr.1]
  · rw [nA_A (h := t) (t := 11) (n := 1) (by rw [hn]; exact a0)]
    exact fr.2.2.2.2.2 a (by simp; omega)
  · exact nA_A (h := t) (t := 11) (n := 1) (by rw [hn]; decide)
  · show hN t + 1 = 74
    rw [hn]
  · show hZ t + (1 : Int).toNat = 168280
    rw [hz]
    rfl
theorem st_sh {t : mH} (fr : Fr [64] [] e9_177 t) : Sh (nA t 11 1) := by
  obtain ⟨ek, el, ef, ea, -, en, -⟩ := st_e fr
  refine e9_sh.of (fun q _ => ek q.1) (fun q _ => el q.1) (fun q _ => ef q.1.1 q.1.2) ?_ (by rw [en]; decide +kernel)
  rw [ea 1 (by decide) (by decide)]
  exact (nA_A (h := e9_177) (t := 11) (n := 1) (by decide +kernel)).symm
theorem st_mi {t : mH} (fr : Fr [64] [] e9_177 t) (h64 : ∀ j, 0 ≤ j → j < 100 → hA t 64 j = gNO) : MI (nA t 11 1) := by
  obtain ⟨ek, el, ef, ea, e64, en, -⟩ := st_e fr
  refine ⟨⟨?_, ?_, ?_, fun k k0 k1 => ?_, fun i i0 i1 => ?_⟩, fun i i0 i1 => ?_, ⟨?_, fun k k0 k1 => ?_⟩, ?_, ?_, ?_⟩
  · rw [ef]; decide +kernel
  · rw [ef]; decide +kernel
  · rw [ef]; decide +kernel
  · rw [ef, show hF e9_w 41 6 = 0 by decide +kernel] at k1
    omega
  · rw [ea 47 (by decide) (by decide)]
    rcases (show i = 0 ∨ i = 1 ∨ i = 2 ∨ i = 3 ∨ i = 4 ∨ i = 5 ∨ i = 6 ∨ i = 7 ∨ i = 8 ∨ i = 9 ∨ i = 10 ∨ i = 11 ∨ i = 12 ∨ i = 13 ∨ i = 14 ∨ i = 15 by omega) with rfl | rfl | rfl | rfl | rfl | rfl | rfl | rfl | rfl | rfl | rfl | rfl | rfl | rfl | rfl | rfl <;> decide +kernel
  · rw [ea 43 (by decide) (by decide)]
    rcases (show i = 0 ∨ i = 1 ∨ i = 2 ∨ i = 3 by omega) with rfl | rfl | rfl | rfl <;> decide +kernel
  · rw [ef]; decide +kernel
  · rw [e64]
    exact Or.inl (h64 k k0 k1)
  · rw [ef]; decide +kernel
  · rw [ef]; decide +kernel
  · rw [ef]; decide +kernel
theorem st_ck {t : mH} (fr : Fr [64] [] e9_177 t) : CK (nA t 11 1) 512 := by
  obtain ⟨ek, el, ef, ea, e64, en, ez⟩ := st_e fr
  refine ⟨st_sh fr, ⟨?_, ?_, ?_, fun k k0 k1 => ?_, fun i i0 i1 => ?_⟩, ⟨24, 25, 27, 28, ⟨?_, ?_, Or.inl ⟨rfl, rfl⟩⟩, ⟨?_, ?_, Or.inl ⟨rfl, rfl⟩⟩, ?_, ?_, ?_⟩, ?_, ?_, fun i i0 i1 => ?_, ⟨14, 15, 16, 0, 0, 0, 18, 19, 20, 21, 0, 0, 30, 0, 0, 0, 3, ?_, ?_, ?_, ?_, ?_, ?_, ?_, ?_, ?_⟩⟩
  · rw [ef]; decide +kernel
  · rw [ef]; decide +kernel
  · rw [ef]; decide +kernel
  · rw [ef, show hF e9_w 2 1 = 0 by decide +kernel] at k1
    omega
  · rw [ea 7 (by decide) (by decide)]
    rcases (show i = 0 ∨ i = 1 ∨ i = 2 ∨ i = 3 ∨ i = 4 ∨ i = 5 ∨ i = 6 ∨ i = 7 ∨ i = 8 ∨ i = 9 ∨ i = 10 ∨ i = 11 ∨ i = 12 ∨ i = 13 ∨ i = 14 ∨ i = 15 by omega) with rfl | rfl | rfl | rfl | rfl | rfl | rfl | rfl | rfl | rfl | rfl | rfl | rfl | rfl | rfl | rfl <;> decide +kernel
  · rw [ef]; decide +kernel
  · rw [ef]; decide +kernel
  · rw [ef]; decide +kernel
  · rw [ef]; decide +kernel
  · rw [ef]; decide +kernel
  · rw [ef]; decide +kernel
  · rw [ef]; decide +kernel
  · rw [ef]; decide +kernel
  · rw [ef]; decide +kernel
  · rw [ef]
    rcases (show i = 0 ∨ i = 1 ∨ i = 2 ∨ i = 3 by omega) with rfl | rfl | rfl | rfl <;> decide +kernel
  · unfold TR
    rw [ef, ef, ef, ek, ek, ek, el, el, el, en]
    decide +kernel
  · unfold EN
    rw [ef, ef, ef, ef, ek, ek, ek, ek, el, el, el, el, en]
    decide +kernel
  · refine ⟨by rw [ef]; decide +kernel, by rw [ek]; decide +kernel, by rw [el]; decide +kernel, Or.inl rfl, by rw [en]; decide, Or.inl rfl, fun i i0 i1 => absurd i1 (by omega)⟩
  · rw [ef]; decide +kernel
  · decide
  · decide
  · intro z
    exact absurd z (by decide)
  · rw [ez]
    decide +kernel
  · rw [en]
    decide +kernel
