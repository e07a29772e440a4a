theorem sA_self {h : mH} {a : Int} : sA h a (hA h a) = h := by
  obtain ⟨x, y, z, f, g⟩ := h
  unfold sA hA
  simp only [Prod.mk.injEq, true_and]
  funext b
  unfold u1
  split
  · rename_i hb
    rw [hb]
  · rfl
theorem sA_sA {h : mH} {a : Int} {f g : Int → Int} : sA (sA h a f) a g = sA h a g := by
  obtain ⟨x, y, z, f', g'⟩ := h
  unfold sA
  simp only [Prod.mk.injEq, true_and]
  funext b
  unfold u1
  split <;> rfl
theorem hA_sAs {h : mH} {a : Int} {f : Int → Int} : hA (sA h a f) a = f := u1_s _ _ _
/-- a row whose first i places hold v -/
def flF (f : Int → Int) (i v : Int) : Int → Int := fun j => if 0 ≤ j ∧ j < i then v else f j
theorem flF_0 {f : Int → Int} {v : Int} : flF f 0 v = f := by
  funext j
  unfold flF
  rw [if_neg (by omega)]
theorem flF_s {f : Int → Int} {i v : Int} (hi : 0 ≤ i) : u1 (flF f i v) i v = flF f (i + 1) v := by
  funext j
  unfold u1 flF
  by_cases hj : j = i
  · rw [if_pos hj, if_pos (by omega)]
  · rw [if_neg hj]
    by_cases hk : 0 ≤ j ∧ j < i
    · rw [if_pos hk, if_pos (by omega)]
    · rw [if_neg hk, if_neg (by omega)]
theorem fillI_loop (d : Nat) (h : mH) (a v n : Int) (ka : hK h a = 10) (la : hL h a = n) (hn : n < 2147483648) : ∀ (m : Nat) (i : Int), (n - i).toNat < m → (0 ≤ i) → (i ≤ n) → Wp m_J7_fill_53178 d 5 [(2, a), (0, v), (0, i), (0, n)] [] (sA h a (flF (hA h a) i v)) (fun r t => r = none ∧ t = sA h a (flF (hA h a) n v)) := by
  intro m
  induction m with
  | zero => intro i hm; exact absurd hm (Nat.not_lt_zero _)
  | succ m ih =>
    intro i hm h0 h1
    refine Wp.ild_n (j := 2) rfl dJ7_fill_53178_5 ?_
    refine Wp.ild_n (j := 3) rfl dJ7_fill_53178_6 ?_
    refine Wp.icge dJ7_fill_53178_7 (by decide) (tgt := 20) (fun c7 => ?_) (fun c7 => ?_)
    · refine Wp.vret rfl dJ7_fill_53178_20 ?_
      have : i = n := by omega
      subst this
      exact ⟨rfl, rfl⟩
    · refine Wp.ald_n (j := 0) rfl dJ7_fill_53178_10 ?_
      refine Wp.ild_n (j := 2) rfl dJ7_fill_53178_11 ?_
      refine Wp.ild_n (j := 1) rfl dJ7_fill_53178_12 ?_
      refine Wp.iastore dJ7_fill_53178_13 ka (by omega) (ilt la (by omega)) ?_
      refine inc_4_2 rfl dJ7_fill_53178_14 (by first | exact w32_of (by omega) (by omega) | rfl) ?_
      refine Wp.goto (tgt := 5) dJ7_fill_53178_17 (by decide) ?_
      have e : sE (sA h a (flF (hA h a) i v)) a i v = sA h a (flF (hA h a) (i + 1) v) := by
        unfold sE
        rw [sA_sA, hA_sAs, flF_s h0]
      rw [e]
      exact ih (i + 1) (by omega) (by omega) (by omega)

theorem ct_fillI (d : Nat) (h : mH) (a v n : Int) (ka : hK h a = 10) (la : hL h a = n) (hn : n < 2147483648) (h0 : 0 ≤ n) : Ct m_J7_fill_53178 d [(2, a), (0, v)] h none (sA h a (flF (hA h a) n v)) := by
  refine Ct.of ?_
  show Wp m_J7_fill_53178 (d) 0 [(2, a), (0, v), (9, 0), (9, 0)] [] h _
  refine Wp.iconst dJ7_fill_53178_0 (by decide) ?_
  refine sti_4_2 rfl (dSt_n dJ7_fill_53178_1) ?_
  refine Wp.ald_n (j := 0) rfl dJ7_fill_53178_2 ?_
  refine Wp.alen dJ7_fill_53178_3 (by decide) (by decide) ka la (by omega) ?_
  refine sti_4_3 rfl (dSt_n dJ7_fill_53178_4) ?_
  have e : h = sA h a (flF (hA h a) 0 v) := by rw [flF_0, sA_self]
  have k := fillI_loop d h a v n ka la hn ((n - 0).toNat + 1) 0 (by omega) (by omega) h0
  rw [← e] at k
  exact k

theorem fillJ_loop (d : Nat) (h : mH) (a v n : Int) (ka : hK h a = 11) (la : hL h a = n) (hn : n < 2147483648) : ∀ (m : Nat) (i : Int), (n - i).toNat < m → (0 ≤ i) → (i ≤ n) → Wp m_J7_fill_d0a16 d 6 [(2, a), (1, v), (9, 0), (0, i), (0, n)] [] (sA h a (flF (hA h a) i v)) (fun r t => r = none ∧ t = sA h a (flF (hA h a) n v)) := by
  intro m
  induction m with
  | zero => intro i hm; exact absurd hm (Nat.not_lt_zero _)
  | succ m ih =>
    intro i hm h0 h1
    refine Wp.ild_n (j := 3) rfl dJ7_fill_d0a16_6 ?_
    refine Wp.ild (j := 4) rfl dJ7_fill_d0a16_7 ?_
    refine Wp.icge dJ7_fill_d0a16_9 (by decide) (tgt := 22) (fun c9 => ?_) (fun c9 => ?_)
    · refine Wp.vret rfl dJ7_fill_d0a16_22 ?_
      have : i = n := by omega
      subst this
      exact ⟨rfl, rfl⟩
    · refine Wp.ald_n (j := 0) rfl dJ7_fill_d0a16_12 ?_
      refine Wp.ild_n (j := 3) rfl dJ7_fill_d0a16_13 ?_
      refine Wp.lld_n (j := 1) rfl dJ7_fill_d0a16_14 ?_
      refine Wp.lastore dJ7_fill_d0a16_15 ka (by omega) (ilt la (by omega)) ?_
      refine inc_5_3 rfl dJ7_fill_d0a16_16 (by first | exact w32_of (by omega) (by omega) | rfl) ?_
      refine Wp.goto (tgt := 6) dJ7_fill_d0a16_19 (by decide) ?_
      have e : sE (sA h a (flF (hA h a) i v)) a i v = sA h a (flF (hA h a) (i + 1) v) := by
        unfold sE
        rw [sA_sA, hA_sAs, flF_s h0]
      rw [e]
      exact ih (i + 1) (by omega) (by omega) (by omega)

theorem ct_fillJ (d : Nat) (h : mH) (a v n : Int) (ka : hK h a = 11) (la : hL h a = n) (hn : n < 2147483648) (h0 : 0 ≤ n) : Ct m_J7_fill_d0a16 d [(2, a), (1, v)] h none (sA h a (flF (hA h a) n v)) := by
  refine Ct.of ?_
  show Wp m_J7_fill_d0a16 (d) 0 [(2, a), (1, v), (9, 0), (9, 0), (9, 0)] [] h _
  refine Wp.iconst dJ7_fill_d0a16_0 (by decide) ?_
  refine sti_5_3 rfl (dSt_n dJ7_fill_d0a16_1) ?_
  refine Wp.ald_n (j := 0) rfl dJ7_fill_d0a16_2 ?_
  refine Wp.alen dJ7_fill_d0a16_3 (by decide) (by decide) ka la (by omega) ?_
  refine sti_5_4 rfl (dSt_w dJ7_fill_d0a16_4) ?_
  have e : h = sA h a (flF (hA h a) 0 v) := by rw [flF_0, sA_self]
  have k := fillJ_loop d h a v n ka la hn ((n - 0).toNat + 1) 0 (by omega) (by omega) h0
  rw [← e] at k
  exact k

def kbc (x0 : Int) : Int := kand (w32 (w32 (kand (w32 (w32 (kand (w32 (x0 - kand (kushr x0 1) 1431655765)) 858993459 + kand (kushr (w32 (x0 - kand (kushr x0 1) 1431655765)) 2) 858993459) + kushr (w32 (kand (w32 (x0 - kand (kushr x0 1) 1431655765)) 858993459 + kand (kushr (w32 (x0 - kand (kushr x0 1) 1431655765)) 2) 858993459)) 4)) 252645135 + kushr (kand (w32 (w32 (kand (w32 (x0 - kand (kushr x0 1) 1431655765)) 858993459 + kand (kushr (w32 (x0 - kand (kushr x0 1) 1431655765)) 2) 858993459) + kushr (w32 (kand (w32 (x0 - kand (kushr x0 1) 1431655765)) 858993459 + kand (kushr (w32 (x0 - kand (kushr x0 1) 1431655765)) 2) 858993459)) 4)) 252645135) 8) + kushr (w32 (kand (w32 (w32 (kand (w32 (x0 - kand (kushr x0 1) 1431655765)) 858993459 + kand (kushr (w32 (x0 - kand (kushr x0 1) 1431655765)) 2) 858993459) + kushr (w32 (kand (w32 (x0 - kand (kushr x0 1) 1431655765)) 858993459 + kand (kushr (w32 (x0 - kand (kushr x0 1) 1431655765)) 2) 858993459)) 4)) 252645135 + kushr (kand (w32 (w32 (kand (w32 (x0 - kand (kushr x0 1) 1431655765)) 858993459 + kand (kushr (w32 (x0 - kand (kushr x0 1) 1431655765)) 2) 858993459) + kushr (w32 (kand (w32 (x0 - kand (kushr x0 1) 1431655765)) 858993459 + kand (kushr (w32 (x0 - kand (kushr x0 1) 1431655765)) 2) 858993459)) 4)) 252645135) 8)) 16)) 63
theorem ct_bitCount (d : Nat) (h : mH) (x : Int) : Ct m_J6_bitCount_0f7a4 d [(0, x)] h (some (0, kbc x)) h := by
  refine Ct.of ?_
  show Wp m_J6_bitCount_0f7a4 (d) 0 [(0, x)] [] h _
  refine Wp.ild_n (j := 0) rfl dJ6_bitCount_0f7a4_0 ?_
  refine Wp.ild_n (j := 0) rfl dJ6_bitCount_0f7a4_1 ?_
  refine Wp.iconst dJ6_bitCount_0f7a4_2 (by decide) ?_
  refine Wp.iushr dJ6_bitCount_0f7a4_3 ?_
  refine Wp.ldcw (z := 1431655765) lk_J6_265 (by decide) dJ6_bitCount_0f7a4_4 ?_
  refine Wp.iand dJ6_bitCount_0f7a4_7 ?_
  refine Wp.isubE dJ6_bitCount_0f7a4_8 rfl ?_
  refine sti_1_0 (dSt_n dJ6_bitCount_0f7a4_9) ?_
  refine Wp.ild_n (j := 0) rfl dJ6_bitCount_0f7a4_10 ?_
  refine Wp.ldcw (z := 858993459) lk_J6_266 (by decide) dJ6_bitCount_0f7a4_11 ?_
  refine Wp.iand dJ6_bitCount_0f7a4_14 ?_
  refine Wp.ild_n (j := 0) rfl dJ6_bitCount_0f7a4_15 ?_
  refine Wp.iconst dJ6_bitCount_0f7a4_16 (by decide) ?_
  refine Wp.iushr dJ6_bitCount_0f7a4_17 ?_
  refine Wp.ldcw (z := 858993459) lk_J6_266 (by decide) dJ6_bitCount_0f7a4_18 ?_
  refine Wp.iand dJ6_bitCount_0f7a4_21 ?_
  refine Wp.iaddE dJ6_bitCount_0f7a4_22 rfl ?_
  refine sti_1_0 (dSt_n dJ6_bitCount_0f7a4_23) ?_
  refine Wp.ild_n (j := 0) rfl dJ6_bitCount_0f7a4_24 ?_
  refine Wp.ild_n (j := 0) rfl dJ6_bitCount_0f7a4_25 ?_
  refine Wp.iconst dJ6_bitCount_0f7a4_26 (by decide) ?_
  refine Wp.iushr dJ6_bitCount_0f7a4_27 ?_
  refine Wp.iaddE dJ6_bitCount_0f7a4_28 rfl ?_
  refine Wp.ldcw (z := 252645135) lk_J6_267 (by decide) dJ6_bitCount_0f7a4_29 ?_
  refine Wp.iand dJ6_bitCount_0f7a4_32 ?_
  refine sti_1_0 (dSt_n dJ6_bitCount_0f7a4_33) ?_
  refine Wp.ild_n (j := 0) rfl dJ6_bitCount_0f7a4_34 ?_
  refine Wp.ild_n (j := 0) rfl dJ6_bitCount_0f7a4_35 ?_
  refine Wp.bipush dJ6_bitCount_0f7a4_36 (by decide) ?_
  refine Wp.iushr dJ6_bitCount_0f7a4_38 ?_
  refine Wp.iaddE dJ6_bitCount_0f7a4_39 rfl ?_
  refine sti_1_0 (dSt_n dJ6_bitCount_0f7a4_40) ?_
  refine Wp.ild_n (j := 0) rfl dJ6_bitCount_0f7a4_41 ?_
  refine Wp.ild_n (j := 0) rfl dJ6_bitCount_0f7a4_42 ?_
  refine Wp.bipush dJ6_bitCount_0f7a4_43 (by decide) ?_
  refine Wp.iushr dJ6_bitCount_0f7a4_45 ?_
  refine Wp.iaddE dJ6_bitCount_0f7a4_46 rfl ?_
  refine sti_1_0 (dSt_n dJ6_bitCount_0f7a4_47) ?_
  refine Wp.ild_n (j := 0) rfl dJ6_bitCount_0f7a4_48 ?_
  refine Wp.bipush dJ6_bitCount_0f7a4_49 (by decide) ?_
  refine Wp.iand dJ6_bitCount_0f7a4_51 ?_
  refine Wp.iret rfl dJ6_bitCount_0f7a4_52 ?_
  exact ⟨rfl, rfl⟩

