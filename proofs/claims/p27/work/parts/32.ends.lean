/-- the rooms of the ends: after, home, basin, rows -/
def EN (h : mH) (af ho bs rw na nr : Int) : Prop := (hF h 17 0 = af ∧ hK h af = 10 ∧ hL h af = na) ∧ (hF h 17 1 = ho ∧ hK h ho = 10 ∧ hL h ho = na) ∧ (hF h 17 2 = bs ∧ hK h bs = 10 ∧ hL h bs = na) ∧ (hF h 17 3 = rw ∧ hK h rw = 10 ∧ hL h rw = nr) ∧ (af ≠ ho ∧ af ≠ bs ∧ ho ≠ bs ∧ rw ≠ af ∧ rw ≠ ho ∧ rw ≠ bs) ∧ ((af = 18 ∨ 74 ≤ af) ∧ (ho = 19 ∨ 74 ≤ ho) ∧ (bs = 20 ∨ 74 ≤ bs) ∧ (rw = 21 ∨ 74 ≤ rw)) ∧ (af < hN h ∧ ho < hN h ∧ bs < hN h ∧ rw < hN h) ∧ (0 ≤ na ∧ na ≤ 20736) ∧ (0 ≤ nr ∧ nr ≤ 62208)
theorem EN.fq {A : Int → Prop} {G : List (Int × Nat)} {h h' : mH} {af ho bs rw na nr : Int} (t : EN h af ho bs rw na nr) (a : Fq A G h h') (h17 : 74 ≤ hN h) (g0 : ((17 : Int), 0) ∉ G) (g1 : ((17 : Int), 1) ∉ G) (g2 : ((17 : Int), 2) ∉ G) (g3 : ((17 : Int), 3) ∉ G) : EN h' af ho bs rw na nr := by
  obtain ⟨⟨t0, k0, l0⟩, ⟨t1, k1, l1⟩, ⟨t2, k2, l2⟩, ⟨t3, k3, l3⟩, hne, hy, ⟨z0, z1, z2, z3⟩, hb⟩ := t
  have hn := a.1
  exact ⟨⟨(a.2.2.2.2.1 17 0 (by omega) g0).trans t0, (a.2.2.1 af z0).trans k0, (a.2.2.2.1 af z0).trans l0⟩, ⟨(a.2.2.2.2.1 17 1 (by omega) g1).trans t1, (a.2.2.1 ho z1).trans k1, (a.2.2.2.1 ho z1).trans l1⟩, ⟨(a.2.2.2.2.1 17 2 (by omega) g2).trans t2, (a.2.2.1 bs z2).trans k2, (a.2.2.2.1 bs z2).trans l2⟩, ⟨(a.2.2.2.2.1 17 3 (by omega) g3).trans t3, (a.2.2.1 rw z3).trans k3, (a.2.2.2.1 rw z3).trans l3⟩, hne, hy, ⟨by omega, by omega, by omega, by omega⟩, hb⟩
theorem EN.fr {A : List Int} {h h' : mH} {af ho bs rw na nr : Int} (t : EN h af ho bs rw na nr) (a : Fr A [] h h') : EN h' af ho bs rw na nr := by
  obtain ⟨⟨t0, k0, l0⟩, ⟨t1, k1, l1⟩, ⟨t2, k2, l2⟩, ⟨t3, k3, l3⟩, hne, hy, ⟨z0, z1, z2, z3⟩, hb⟩ := t
  have hn := a.1
  have e : ∀ x k, hF h' x k = hF h x k := fun x k => a.2.2.2.2.1 x k (by simp)
  rw [← a.2.2.1] at k0 k1 k2 k3
  rw [← a.2.2.2.1] at l0 l1 l2 l3
  exact ⟨⟨(e _ _).trans t0, k0, l0⟩, ⟨(e _ _).trans t1, k1, l1⟩, ⟨(e _ _).trans t2, k2, l2⟩, ⟨(e _ _).trans t3, k3, l3⟩, hne, hy, ⟨by omega, by omega, by omega, by omega⟩, hb⟩
def psA (n : Int) : Int := if n < 20736 then 3 * (62208 - 2 * n) else 0
theorem psA_up {a b s : Int} (h0 : 0 ≤ a) (h1 : a < s) (h2 : s ≤ 20736) (hb : b = max s (min 20736 (2 * a))) : 3 * b + psA b ≤ psA a ∧ 6 + psA b ≤ psA a ∧ s ≤ b ∧ b ≤ 20736 := by
  unfold psA
  rw [if_pos (show a < 20736 by omega)]
  split <;> omega
/-- how many of the first n places hold v -/
def cE (g : Int → Int) (v : Int) : Nat → Nat
  | 0 => 0
  | n + 1 => cE g v n + if g n = v then 1 else 0
theorem cE_le (g : Int → Int) (v : Int) : ∀ n, cE g v n ≤ n
  | 0 => Nat.le_refl _
  | n + 1 => by
    have := cE_le g v n
    show cE g v n + _ ≤ _
    split <;> omega
theorem cE_pos {g : Int → Int} {v i : Int} (i0 : 0 ≤ i) (hi : g i = v) : ∀ n : Nat, i < n → 0 < cE g v n
  | 0, h => absurd h (by omega)
  | n + 1, h => by
    show 0 < cE g v n + _
    by_cases e : i = n
    · rw [← e, if_pos hi]
      omega
    · have := cE_pos i0 hi n (by omega)
      omega
theorem cE_up {g g2 : Int → Int} {v i : Int} (i0 : 0 ≤ i) (hi : g i = v) (hx : g2 i ≠ v) (hj : ∀ j, j ≠ i → g2 j = g j) : ∀ n : Nat, (i < n → cE g2 v n + 1 = cE g v n) ∧ ((n : Int) ≤ i → cE g2 v n = cE g v n)
  | 0 => ⟨fun h => absurd h (by omega), fun _ => rfl⟩
  | n + 1 => by
    have ih := cE_up i0 hi hx hj n
    refine ⟨fun h => ?_, fun h => ?_⟩
    · show cE g2 v n + (if g2 n = v then 1 else 0) + 1 = cE g v n + (if g n = v then 1 else 0)
      by_cases e : i = n
      · rw [← e, if_pos hi, if_neg hx, ih.2 (by omega)]
      · rw [hj n (fun z => e z.symm), ← ih.1 (by omega)]
        omega
    · show cE g2 v n + (if g2 n = v then 1 else 0) = cE g v n + (if g n = v then 1 else 0)
      rw [hj n (by omega), ih.2 (by omega)]
/-- a home that is told is the home of what comes after -/
def CL (S : Int) (f g : Int → Int) : Prop := ∀ s, 0 ≤ s → s < S → 0 ≤ g s → g (f s) = g s
/-- all of them come after -/
def RG (S : Int) (f : Int → Int) : Prop := ∀ s, 0 ≤ s → s < S → 0 ≤ f s ∧ f s < S
theorem cq_makeRoomE (d : Nat) (h : mH) (sh : Sh h) (af ho bs rw na nr : Int) (en : EN h af ho bs rw na nr) (S : Int) (S0 : 0 < S) (S1 : S ≤ 20736) : Cq m_X1_makeRoom (d + 1) [(2, 17), (0, S)] h (fun r t => r = none ∧ ∃ af' ho' bs' na', EN t af' ho' bs' rw na' nr ∧ S ≤ na' ∧ Fq (fun _ => False) [(17, 0), (17, 1), (17, 2)] h t ∧ ((af' = af ∧ ho' = ho ∧ bs' = bs) ∨ ((hN h : Int) ≤ af' ∧ (hN h : Int) ≤ ho' ∧ (hN h : Int) ≤ bs')) ∧ aC h t (psA na) (psA na')) := by
  refine Cq.of ?_
  show Wp m_X1_makeRoom ((d + 1)) 0 [(2, 17), (0, S), (9, 0)] [] h _
  obtain ⟨⟨t0, k0, l0⟩, ⟨t1, k1, l1⟩, ⟨t2, k2, l2⟩, ⟨t3, k3, l3⟩, ⟨hn1, hn2, hn3, hn4, hn5, hn6⟩, ⟨y0, y1, y2, y3⟩, ⟨z0, z1, z2, z3⟩, ⟨b0, b1⟩, c0, c1⟩ := id en
  have h74 := sh.2.2.2.2
  refine Wp.ald_n (j := 0) rfl dX1_makeRoom_0 ?_
  refine Wp.getf (k := 0) (tg := 2) kC1 (by decide) rfl lf_X1_9 dX1_makeRoom_1 (sK17 (h := h) sh) t0 ?_
  refine Wp.alen dX1_makeRoom_4 (by decide) (by decide) k0 l0 (by omega) ?_
  refine Wp.ild_n (j := 1) rfl dX1_makeRoom_5 ?_
  refine Wp.icge dX1_makeRoom_6 (by decide) (tgt := 48) (fun c6 => ?_) (fun c6 => ?_)
  · refine Wp.vret rfl dX1_makeRoom_48 ?_
    first
    | exact ⟨rfl, af, ho, bs, na, en, by omega, Fq.rf, Or.inl ⟨rfl, rfl, rfl⟩, aC.rf⟩
    | (have hu := psA_up (a := na) (b := max S (min 20736 (2 * na))) (s := S) b0 (by omega) S1 rfl
       refine ⟨rfl, ((hN h : Nat) : Int), ((hN h + 1 : Nat) : Int), ((hN h + 2 : Nat) : Int), max S (min 20736 (2 * na)), ⟨⟨rfl, ?_, ?_⟩, ⟨rfl, ?_, ?_⟩, ⟨rfl, ?_, ?_⟩, ⟨t3, ?_, ?_⟩, ⟨by omega, by omega, by omega, by omega, by omega, by omega⟩, ⟨Or.inr (by omega), Or.inr (by omega), Or.inr (by omega), y3⟩, ⟨?_, ?_, ?_, ?_⟩, ⟨by omega, by omega⟩, c0, c1⟩, by omega, ?_, Or.inr ⟨by omega, by omega, by omega⟩, ?_, ?_⟩
       · exact (nA_K (h := nA (nA h 10 (max S (min 20736 (2 * na)))) 10 (max S (min 20736 (2 * na)))) (t := 10) (n := max S (min 20736 (2 * na))) (show (hN h : Int) < ((hN h + 2 : Nat) : Int) by omega)).trans ((nA_K (h := nA h 10 (max S (min 20736 (2 * na)))) (t := 10) (n := max S (min 20736 (2 * na))) (show (hN h : Int) < ((hN h + 1 : Nat) : Int) by omega)).trans (nA_Kn (h := h) (t := 10) (n := max S (min 20736 (2 * na)))))
       · exact (nA_L (h := nA (nA h 10 (max S (min 20736 (2 * na)))) 10 (max S (min 20736 (2 * na)))) (t := 10) (n := max S (min 20736 (2 * na))) (show (hN h : Int) < ((hN h + 2 : Nat) : Int) by omega)).trans ((nA_L (h := nA h 10 (max S (min 20736 (2 * na)))) (t := 10) (n := max S (min 20736 (2 * na))) (show (hN h : Int) < ((hN h + 1 : Nat) : Int) by omega)).trans (nA_Ln (h := h) (t := 10) (n := max S (min 20736 (2 * na)))))
       · exact (nA_K (h := nA (nA h 10 (max S (min 20736 (2 * na)))) 10 (max S (min 20736 (2 * na)))) (t := 10) (n := max S (min 20736 (2 * na))) (show ((hN h + 1 : Nat) : Int) < ((hN h + 2 : Nat) : Int) by omega)).trans (nA_Kn (h := nA h 10 (max S (min 20736 (2 * na)))) (t := 10) (n := max S (min 20736 (2 * na))))
       · exact (nA_L (h := nA (nA h 10 (max S (min 20736 (2 * na)))) 10 (max S (min 20736 (2 * na)))) (t := 10) (n := max S (min 20736 (2 * na))) (show ((hN h + 1 : Nat) : Int) < ((hN h + 2 : Nat) : Int) by omega)).trans (nA_Ln (h := nA h 10 (max S (min 20736 (2 * na)))) (t := 10) (n := max S (min 20736 (2 * na))))
       · exact nA_Kn (h := nA (nA h 10 (max S (min 20736 (2 * na)))) 10 (max S (min 20736 (2 * na)))) (t := 10) (n := max S (min 20736 (2 * na)))
       · exact nA_Ln (h := nA (nA h 10 (max S (min 20736 (2 * na)))) 10 (max S (min 20736 (2 * na)))) (t := 10) (n := max S (min 20736 (2 * na)))
       · exact (nA_K (h := nA (nA h 10 (max S (min 20736 (2 * na)))) 10 (max S (min 20736 (2 * na)))) (t := 10) (n := max S (min 20736 (2 * na))) (show rw < ((hN h + 2 : Nat) : Int) by omega)).trans ((nA_K (h := nA h 10 (max S (min 20736 (2 * na)))) (t := 10) (n := max S (min 20736 (2 * na))) (show rw < ((hN h + 1 : Nat) : Int) by omega)).trans ((nA_K (h := h) (t := 10) (n := max S (min 20736 (2 * na))) z3).trans k3))
       · exact (nA_L (h := nA (nA h 10 (max S (min 20736 (2 * na)))) 10 (max S (min 20736 (2 * na)))) (t := 10) (n := max S (min 20736 (2 * na))) (show rw < ((hN h + 2 : Nat) : Int) by omega)).trans ((nA_L (h := nA h 10 (max S (min 20736 (2 * na)))) (t := 10) (n := max S (min 20736 (2 * na))) (show rw < ((hN h + 1 : Nat) : Int) by omega)).trans ((nA_L (h := h) (t := 10) (n := max S (min 20736 (2 * na))) z3).trans l3))
       · show _ < ((hN h + 3 : Nat) : Int)
         omega
       · show _ < ((hN h + 3 : Nat) : Int)
         omega
       · show _ < ((hN h + 3 : Nat) : Int)
         omega
       · show _ < ((hN h + 3 : Nat) : Int)
         omega
       · exact ((Fq.n (t := 10) (n := max S (min 20736 (2 * na)))).tr (Fq.f (by decide))).tr (((Fq.n (t := 10) (n := max S (min 20736 (2 * na)))).tr (Fq.f (by decide))).tr ((Fq.n (t := 10) (n := max S (min 20736 (2 * na)))).tr (Fq.f (by decide))))
       · show ((hZ h + (max S (min 20736 (2 * na))).toNat + (max S (min 20736 (2 * na))).toNat + (max S (min 20736 (2 * na))).toNat : Nat) : Int) + _ ≤ _
         omega
       · show 2 * ((hN h + 3 : Nat) : Int) + _ ≤ _
         omega)
  · refine Wp.ild_n (j := 1) rfl dX1_makeRoom_9 ?_
    refine Wp.sipush dX1_makeRoom_10 (by decide) ?_
    refine Wp.iconst dX1_makeRoom_13 (by decide) ?_
    refine Wp.ald_n (j := 0) rfl dX1_makeRoom_14 ?_
    refine Wp.getf (k := 0) (tg := 2) kC1 (by decide) rfl lf_X1_9 dX1_makeRoom_15 (sK17 (h := h) sh) t0 ?_
    refine Wp.alen dX1_makeRoom_18 (by decide) (by decide) k0 l0 (by omega) ?_
    refine Wp.imulE dX1_makeRoom_19 (by first | exact w32_of (by omega) (by omega) | rfl) ?_
    refine Wp.mmin wm_X1_48 dX1_makeRoom_20 (Nat.le_of_ble_eq_true rfl) ?_
    refine Wp.mmax wm_X1_54 dX1_makeRoom_23 (Nat.le_of_ble_eq_true rfl) ?_
    refine sti_3_2 rfl (dSt_n dX1_makeRoom_26) ?_
    refine Wp.ald_n (j := 0) rfl dX1_makeRoom_27 ?_
    refine Wp.ild_n (j := 2) rfl dX1_makeRoom_28 ?_
    refine Wp.newI wT_int dX1_makeRoom_29 (by omega) (by omega) ?_
    refine Wp.putf (k := 0) (tg := 2) kC1 (by decide) rfl rfl lf_X1_9 dX1_makeRoom_31 ((nA_K (h := h) (t := 10) (n := max S (min 20736 (2 * na))) (show (17 : Int) < ((hN h + 0 : Nat) : Int) by omega)).trans (sK17 (h := h) sh)) ?_
    refine Wp.ald_n (j := 0) rfl dX1_makeRoom_34 ?_
    refine Wp.ild_n (j := 2) rfl dX1_makeRoom_35 ?_
    refine Wp.newI wT_int dX1_makeRoom_36 (by omega) (by omega) ?_
    refine Wp.putf (k := 1) (tg := 2) kC1 (by decide) rfl rfl lf_X1_15 dX1_makeRoom_38 ((nA_K (h := (nA h 10 (max S (min 20736 (2 * na))))) (t := 10) (n := max S (min 20736 (2 * na))) (show (17 : Int) < ((hN h + 1 : Nat) : Int) by omega)).trans ((nA_K (h := h) (t := 10) (n := max S (min 20736 (2 * na))) (show (17 : Int) < ((hN h + 0 : Nat) : Int) by omega)).trans (sK17 (h := h) sh))) ?_
    refine Wp.ald_n (j := 0) rfl dX1_makeRoom_41 ?_
    refine Wp.ild_n (j := 2) rfl dX1_makeRoom_42 ?_
    refine Wp.newI wT_int dX1_makeRoom_43 (by omega) (by omega) ?_
    refine Wp.putf (k := 2) (tg := 2) kC1 (by decide) rfl rfl lf_X1_18 dX1_makeRoom_45 ((nA_K (h := (nA (nA h 10 (max S (min 20736 (2 * na)))) 10 (max S (min 20736 (2 * na))))) (t := 10) (n := max S (min 20736 (2 * na))) (show (17 : Int) < ((hN h + 2 : Nat) : Int) by omega)).trans ((nA_K (h := (nA h 10 (max S (min 20736 (2 * na))))) (t := 10) (n := max S (min 20736 (2 * na))) (show (17 : Int) < ((hN h + 1 : Nat) : Int) by omega)).trans ((nA_K (h := h) (t := 10) (n := max S (min 20736 (2 * na))) (show (17 : Int) < ((hN h + 0 : Nat) : Int) by omega)).trans (sK17 (h := h) sh)))) ?_
    refine Wp.vret rfl dX1_makeRoom_48 ?_
    first
    | exact ⟨rfl, af, ho, bs, na, en, by omega, Fq.rf, Or.inl ⟨rfl, rfl, rfl⟩, aC.rf⟩
    | (have hu := psA_up (a := na) (b := max S (min 20736 (2 * na))) (s := S) b0 (by omega) S1 rfl
       refine ⟨rfl, ((hN h : Nat) : Int), ((hN h + 1 : Nat) : Int), ((hN h + 2 : Nat) : Int), max S (min 20736 (2 * na)), ⟨⟨rfl, ?_, ?_⟩, ⟨rfl, ?_, ?_⟩, ⟨rfl, ?_, ?_⟩, ⟨t3, ?_, ?_⟩, ⟨by omega, by omega, by omega, by omega, by omega, by omega⟩, ⟨Or.inr (by omega), Or.inr (by omega), Or.inr (by omega), y3⟩, ⟨?_, ?_, ?_, ?_⟩, ⟨by omega, by omega⟩, c0, c1⟩, by omega, ?_, Or.inr ⟨by omega, by omega, by omega⟩, ?_, ?_⟩
       · exact (nA_K (h := nA (nA h 10 (max S (min 20736 (2 * na)))) 10 (max S (min 20736 (2 * na)))) (t := 10) (n := max S (min 20736 (2 * na))) (show (hN h : Int) < ((hN h + 2 : Nat) : Int) by omega)).trans ((nA_K (h := nA h 10 (max S (min 20736 (2 * na)))) (t := 10) (n := max S (min 20736 (2 * na))) (show (hN h : Int) < ((hN h + 1 : Nat) : Int) by omega)).trans (nA_Kn (h := h) (t := 10) (n := max S (min 20736 (2 * na)))))
       · exact (nA_L (h := nA (nA h 10 (max S (min 20736 (2 * na)))) 10 (max S (min 20736 (2 * na)))) (t := 10) (n := max S (min 20736 (2 * na))) (show (hN h : Int) < ((hN h + 2 : Nat) : Int) by omega)).trans ((nA_L (h := nA h 10 (max S (min 20736 (2 * na)))) (t := 10) (n := max S (min 20736 (2 * na))) (show (hN h : Int) < ((hN h + 1 : Nat) : Int) by omega)).trans (nA_Ln (h := h) (t := 10) (n := max S (min 20736 (2 * na)))))
       · exact (nA_K (h := nA (nA h 10 (max S (min 20736 (2 * na)))) 10 (max S (min 20736 (2 * na)))) (t := 10) (n := max S (min 20736 (2 * na))) (show ((hN h + 1 : Nat) : Int) < ((hN h + 2 : Nat) : Int) by omega)).trans (nA_Kn (h := nA h 10 (max S (min 20736 (2 * na)))) (t := 10) (n := max S (min 20736 (2 * na))))
       · exact (nA_L (h := nA (nA h 10 (max S (min 20736 (2 * na)))) 10 (max S (min 20736 (2 * na)))) (t := 10) (n := max S (min 20736 (2 * na))) (show ((hN h + 1 : Nat) : Int) < ((hN h + 2 : Nat) : Int) by omega)).trans (nA_Ln (h := nA h 10 (max S (min 20736 (2 * na)))) (t := 10) (n := max S (min 20736 (2 * na))))
       · exact nA_Kn (h := nA (nA h 10 (max S (min 20736 (2 * na)))) 10 (max S (min 20736 (2 * na)))) (t := 10) (n := max S (min 20736 (2 * na)))
       · exact nA_Ln (h := nA (nA h 10 (max S (min 20736 (2 * na)))) 10 (max S (min 20736 (2 * na)))) (t := 10) (n := max S (min 20736 (2 * na)))
       · exact (nA_K (h := nA (nA h 10 (max S (min 20736 (2 * na)))) 10 (max S (min 20736 (2 * na)))) (t := 10) (n := max S (min 20736 (2 * na))) (show rw < ((hN h + 2 : Nat) : Int) by omega)).trans ((nA_K (h := nA h 10 (max S (min 20736 (2 * na)))) (t := 10) (n := max S (min 20736 (2 * na))) (show rw < ((hN h + 1 : Nat) : Int) by omega)).trans ((nA_K (h := h) (t := 10) (n := max S (min 20736 (2 * na))) z3).trans k3))
       · exact (nA_L (h := nA (nA h 10 (max S (min 20736 (2 * na)))) 10 (max S (min 20736 (2 * na)))) (t := 10) (n := max S (min 20736 (2 * na))) (show rw < ((hN h + 2 : Nat) : Int) by omega)).trans ((nA_L (h := nA h 10 (max S (min 20736 (2 * na)))) (t := 10) (n := max S (min 20736 (2 * na))) (show rw < ((hN h + 1 : Nat) : Int) by omega)).trans ((nA_L (h := h) (t := 10) (n := max S (min 20736 (2 * na))) z3).trans l3))
       · show _ < ((hN h + 3 : Nat) : Int)
         omega
       · show _ < ((hN h + 3 : Nat) : Int)
         omega
       · show _ < ((hN h + 3 : Nat) : Int)
         omega
       · show _ < ((hN h + 3 : Nat) : Int)
         omega
       · exact ((Fq.n (t := 10) (n := max S (min 20736 (2 * na)))).tr (Fq.f (by decide))).tr (((Fq.n (t := 10) (n := max S (min 20736 (2 * na)))).tr (Fq.f (by decide))).tr ((Fq.n (t := 10) (n := max S (min 20736 (2 * na)))).tr (Fq.f (by decide))))
       · show ((hZ h + (max S (min 20736 (2 * na))).toNat + (max S (min 20736 (2 * na))).toNat + (max S (min 20736 (2 * na))).toNat : Nat) : Int) + _ ≤ _
         omega
       · show 2 * ((hN h + 3 : Nat) : Int) + _ ≤ _
         omega)

