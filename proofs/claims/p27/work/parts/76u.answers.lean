/-! ===== answers, told purely ===== -/
theorem bsm_le (x : Nat) : ∀ k, bsm x k ≤ k
  | 0 => Nat.le_refl _
  | k + 1 => by
    have := bsm_le x k
    show bsm x k + x / 2 ^ k % 2 ≤ k + 1
    omega
theorem kbc_bd (x : Int) : 0 ≤ kbc x ∧ kbc x ≤ 32 := by
  rw [kbc_bsm]
  have := bsm_le (U9 x) 32
  omega
def rs9 (f : Int → Int) : Nat → Int
  | 0 => 0
  | k + 1 => rs9 f k + kbc (f k)
theorem rs9_bd (f : Int → Int) : ∀ k, 0 ≤ rs9 f k ∧ rs9 f k ≤ 32 * (k : Int)
  | 0 => ⟨Int.le_refl _, Int.le_refl _⟩
  | k + 1 => by
    have := rs9_bd f k
    have := kbc_bd (f k)
    show 0 ≤ rs9 f k + kbc (f k) ∧ rs9 f k + kbc (f k) ≤ 32 * ((k + 1 : Nat) : Int)
    omega
theorem cnt9_bd (g : Int → Int) (a : Int) : ∀ k, 0 ≤ cnt9 g a k ∧ cnt9 g a k ≤ (k : Int)
  | 0 => ⟨Int.le_refl _, Int.le_refl _⟩
  | k + 1 => by
    have := cnt9_bd g a k
    show 0 ≤ cnt9 g a k + (if g (24 * a + k) = 0 then 0 else 1) ∧ cnt9 g a k + (if g (24 * a + k) = 0 then 0 else 1) ≤ ((k + 1 : Nat) : Int)
    split <;> omega
def ms9 (g : Int → Int) (n : Nat) : Nat → Int
  | 0 => 0
  | a + 1 => ms9 g n a + cnt9 g a n
theorem ms9_bd (g : Int → Int) (n : Nat) (n1 : n ≤ 24) : ∀ k, 0 ≤ ms9 g n k ∧ ms9 g n k ≤ 24 * (k : Int)
  | 0 => ⟨Int.le_refl _, Int.le_refl _⟩
  | k + 1 => by
    have := ms9_bd g n n1 k
    have := cnt9_bd g k n
    show 0 ≤ ms9 g n k + cnt9 g k n ∧ ms9 g n k + cnt9 g k n ≤ 24 * ((k + 1 : Nat) : Int)
    omega
theorem rs_ms {f g : Int → Int} {n : Int} (h : TSe n f g) (n0 : 0 ≤ n) (n1 : n ≤ 24) : ∀ k : Nat, (k : Int) ≤ n → rs9 f k = ms9 g n.toNat k
  | 0, _ => rfl
  | k + 1, hk => by
    have ih := rs_ms h n0 n1 k (by omega)
    show rs9 f k + kbc (f k) = ms9 g n.toNat k + cnt9 g k n.toNat
    rw [ih, kbc_cnt n0 n1 (fun b b0 b1 => h.1 k b (by omega) (by omega) b0 b1) (fun b b0 b1 => h.2.1 k (by omega) (by omega) b b0 b1)]
/-- those of a set are at one phase -/
def sp9 (f : Int → Int) (n s : Int) : Prop := ∀ a b, 0 ≤ a → a < n → 0 ≤ b → b < n → bt s a → bt s b → f a = f b
def IS (f : Int → Int) (s k p : Int) : Prop := (∀ j, 0 ≤ j → j < k → bt s j → f j = p) ∧ (p = -1 ∨ ∃ j, 0 ≤ j ∧ j < k ∧ bt s j ∧ f j = p)
theorem IS.zero {f : Int → Int} {s : Int} : IS f s 0 (-1) := ⟨fun j j0 j1 => by omega, Or.inl rfl⟩
theorem IS.no {f : Int → Int} {s k p : Int} (h : IS f s k p) (hn : ¬ bt s k) : IS f s (k + 1) p := by
  refine ⟨fun j j0 j1 hj => ?_, h.2.elim Or.inl (fun ⟨j, j0, j1, hj⟩ => Or.inr ⟨j, j0, by omega, hj⟩)⟩
  by_cases e : j = k
  · rw [e] at hj
    exact absurd hj hn
  · exact h.1 j j0 (by omega) hj
theorem IS.yes {f : Int → Int} {s k p : Int} (h : IS f s k p) (k0 : 0 ≤ k) (hb : bt s k) (hf : ∀ j, 0 ≤ j → j < k → 0 ≤ f j) (e : p = -1 ∨ p = f k) : IS f s (k + 1) (f k) := by
  refine ⟨fun j j0 j1 hj => ?_, Or.inr ⟨k, k0, by omega, hb, rfl⟩⟩
  by_cases q : j = k
  · rw [q]
  · have h1 := h.1 j j0 (by omega) hj
    have h2 := hf j j0 (by omega)
    rcases e with e | e
    · omega
    · rw [h1, e]
theorem IS.done {f : Int → Int} {s k n p : Int} (h : IS f s k p) (hk : n ≤ k) : sp9 f n s := fun a b a0 a1 b0 b1 ha hb => (h.1 a a0 (by omega) ha).trans (h.1 b b0 (by omega) hb).symm
theorem IS.bad {f : Int → Int} {s k n p : Int} (h : IS f s k p) (k0 : 0 ≤ k) (k1 : k < n) (hb : bt s k) (p1 : p ≠ -1) (e : p ≠ f k) : ¬ sp9 f n s := fun z => by
  rcases h.2 with q | ⟨j, j0, j1, hj, ej⟩
  · exact p1 q
  · exact e (ej.symm.trans (z j k j0 (by omega) k0 k1 hj hb))
theorem sp9_eq {f g : Int → Int} {n s : Int} (h : ∀ j, 0 ≤ j → j < n → f j = g j) : sp9 f n s ↔ sp9 g n s := ⟨fun z a b a0 a1 b0 b1 ha hb => by rw [← h a a0 a1, ← h b b0 b1]; exact z a b a0 a1 b0 b1 ha hb, fun z a b a0 a1 b0 b1 ha hb => by rw [h a a0 a1, h b b0 b1]; exact z a b a0 a1 b0 b1 ha hb⟩
/-- how far the farthest of a set is ahead of p; the least of these -/
def af9 (f : Int → Int) (r s p : Int) : Nat → Int
  | 0 => 0
  | k + 1 => if kand (kshr s k) 1 = 0 then af9 f r s p k else max (af9 f r s p k) (wrpC r (f k - p))
def la9 (f : Int → Int) (r s : Int) (n : Nat) : Nat → Int
  | 0 => r
  | k + 1 => if kand (kshr s k) 1 = 0 then la9 f r s n k else min (la9 f r s n k) (af9 f r s (f k) n)
theorem af9_s {f : Int → Int} {r s p k : Int} (k0 : 0 ≤ k) : af9 f r s p (k + 1).toNat = if kand (kshr s k) 1 = 0 then af9 f r s p k.toNat else max (af9 f r s p k.toNat) (wrpC r (f k - p)) := by
  rw [show (k + 1).toNat = k.toNat + 1 by omega]
  show (if kand (kshr s ((k.toNat : Nat) : Int)) 1 = 0 then _ else max _ (wrpC r (f ((k.toNat : Nat) : Int) - p))) = _
  rw [show ((k.toNat : Nat) : Int) = k by omega]
theorem la9_s {f : Int → Int} {r s k : Int} {n : Nat} (k0 : 0 ≤ k) : la9 f r s n (k + 1).toNat = if kand (kshr s k) 1 = 0 then la9 f r s n k.toNat else min (la9 f r s n k.toNat) (af9 f r s (f k) n) := by
  rw [show (k + 1).toNat = k.toNat + 1 by omega]
  show (if kand (kshr s ((k.toNat : Nat) : Int)) 1 = 0 then _ else min _ (af9 f r s (f ((k.toNat : Nat) : Int)) n)) = _
  rw [show ((k.toNat : Nat) : Int) = k by omega]
theorem af9_eq {f g : Int → Int} {r s p : Int} : ∀ k : Nat, (∀ j : Int, 0 ≤ j → j < k → f j = g j) → af9 f r s p k = af9 g r s p k
  | 0, _ => rfl
  | k + 1, h => by
    unfold af9
    rw [af9_eq k (fun j j0 j1 => h j j0 (by omega)), h k (by omega) (by omega)]
theorem la9_eq {f g : Int → Int} {r s : Int} {n : Nat} (h : ∀ j : Int, 0 ≤ j → j < n → f j = g j) : ∀ k : Nat, k ≤ n → la9 f r s n k = la9 g r s n k
  | 0, _ => rfl
  | k + 1, hk => by
    unfold la9
    rw [la9_eq h k (by omega), h k (by omega) (by omega), af9_eq n h]
theorem wrp_mw {r x : Int} (h1 : -r < x) (h2 : x < r) : (x + r).tmod r = wrpC r x := by
  unfold wrpC
  rw [if_neg (by omega)]
  by_cases z : x < 0
  · rw [if_pos z, tmd_small (by omega) (by omega)]
  · rw [if_neg z, tmd_up (by omega) (by omega)]
    omega
theorem IS.neg {f : Int → Int} {s k p : Int} (h : IS f s k p) (hf : ∀ j, 0 ≤ j → j < k → 0 ≤ f j) (hp : p < 0) : p = -1 := by
  rcases h.2 with q | ⟨j, j0, j1, hj, ej⟩
  · exact q
  · have := hf j j0 j1
    omega
theorem kand1 (y : Int) : kand y 1 = 0 ∨ kand y 1 = 1 := by
  have h : U9 (kand y 1) = U9 y % 2 := by
    rw [U9_and, show U9 1 = 1 by decide, Nat.and_one_is_mod]
  have h2 : kand y 1 = (U9 (kand y 1) : Nat) := by
    unfold kand at h ⊢
    exact U9_int (by rw [h]; omega)
  rw [h] at h2
  omega
theorem allRoadsX_loop (d : Nat) (h : mH) (sh : Sh h) (hn : hF h 2 1 ≤ 24) : ∀ (m : Nat) (i s : Int), (hF h 2 1 - i).toNat < m → (0 ≤ i) → (i ≤ hF h 2 1) → (s = rs9 (hA h 6) i.toNat) → Wp m_X0_allRoads (d + 1) 4 [(2, 2), (0, s), (0, i)] [] h (fun r t => r = some (0, rs9 (hA h 6) (hF h 2 1).toNat) ∧ t = h) := by
  intro m
  induction m with
  | zero => intro i s hm; exact absurd hm (Nat.not_lt_zero _)
  | succ m ih =>
    intro i s hm h0 h1 es
    have hb9 := rs9_bd (hA h 6) i.toNat
    have hk9 := kbc_bd (hA h 6 i)
    refine Wp.ild_n (j := 2) rfl dX0_allRoads_4 ?_
    refine Wp.ald_n (j := 0) rfl dX0_allRoads_5 ?_
    refine Wp.getf (k := 1) (tg := 0) kC0 (by decide) rfl lf_X0_15 dX0_allRoads_6 (sK2 (h := h) sh) (show hF _ 2 1 = hF h 2 1 from rfl) ?_
    refine Wp.icge dX0_allRoads_9 (by decide) (tgt := 30) (fun c9 => ?_) (fun c9 => ?_)
    · refine Wp.ild_n (j := 1) rfl dX0_allRoads_30 ?_
      refine Wp.iret rfl dX0_allRoads_31 ?_
      have ei : i = hF h 2 1 := by omega
      exact ⟨by rw [es, ei], rfl⟩
    · refine Wp.ild_n (j := 1) rfl dX0_allRoads_12 ?_
      refine Wp.ald_n (j := 0) rfl dX0_allRoads_13 ?_
      refine Wp.getf (k := 6) (tg := 2) kC0 (by decide) rfl lf_X0_31 dX0_allRoads_14 (sK2 (h := h) sh) (sF2_6 (h := h) sh) ?_
      refine Wp.ild_n (j := 2) rfl dX0_allRoads_17 ?_
      refine Wp.iaload dX0_allRoads_18 (sK6 (h := h) sh) (by omega) (ilt (sL6 (h := h) sh) (by omega)) (show hA _ 6 _ = hA h 6 _ from rfl) ?_
      refine Wp.callS1 (ct_bitCount d h _) wc_X0_59 sM_J6_bitCount_0f7a4 dX0_allRoads_19 rfl (Nat.le_of_ble_eq_true rfl) rfl (Nat.le_of_ble_eq_true rfl) ?_
      refine Wp.iaddE dX0_allRoads_22 (w32_of (by omega) (by omega)) ?_
      refine sti_3_1 rfl (dSt_n dX0_allRoads_23) ?_
      refine inc_3_2 rfl dX0_allRoads_24 (by first | exact w32_of (by omega) (by omega) | rfl) ?_
      refine Wp.goto (tgt := 4) dX0_allRoads_27 (by decide) ?_
      refine ih (i + 1) _ (by omega) (by omega) (by omega) ?_
      rw [es, show (i + 1).toNat = i.toNat + 1 by omega]
      show _ = rs9 (hA h 6) i.toNat + kbc (hA h 6 ((i.toNat : Nat) : Int))
      rw [show ((i.toNat : Nat) : Int) = i by omega]

theorem cq_allRoadsX (d : Nat) (h : mH) (sh : Sh h) (n0 : 0 ≤ hF h 2 1) (hn : hF h 2 1 ≤ 24) : Cq m_X0_allRoads (d + 1) [(2, 2)] h (fun r t => r = some (0, rs9 (hA h 6) (hF h 2 1).toNat) ∧ t = h) := by
  refine Cq.of ?_
  show Wp m_X0_allRoads ((d + 1)) 0 [(2, 2), (9, 0), (9, 0)] [] h _
  refine Wp.iconst dX0_allRoads_0 (by decide) ?_
  refine sti_3_1 rfl (dSt_n dX0_allRoads_1) ?_
  refine Wp.iconst dX0_allRoads_2 (by decide) ?_
  refine sti_3_2 rfl (dSt_n dX0_allRoads_3) ?_
  exact allRoadsX_loop d h sh hn _ 0 0 (Nat.lt_succ_self _) (by omega) n0 rfl

theorem cq_countX (d : Nat) (h : mH) (sh : Sh h) (bi : BI h) (x : Int) : Cq m_X5_count (d + 2) [(2, 0), (0, x)] h (fun r t => (∃ y, r = some (0, y) ∧ (x = 0 → y = hF h 2 2) ∧ (x = 1 → y = hF h 2 0) ∧ (x = 2 → y = hF h 2 1) ∧ (x = 3 → y = rs9 (hA h 6) (hF h 2 1).toNat) ∧ ((x < 0 ∨ 3 < x) → y = -1)) ∧ BI t ∧ Fr [] [(0, 0)] h t) := by
  refine Cq.of ?_
  show Wp m_X5_count ((d + 2)) 0 [(2, 0), (0, x)] [] h _
  obtain ⟨⟨r0, r1⟩, ⟨n0, n1⟩, ⟨m0, m1⟩, hp, hq⟩ := id bi
  refine Wp.ild_n (j := 1) rfl dX5_count_0 ?_
  rcases (show x = 0 ∨ x = 1 ∨ x = 2 ∨ x = 3 ∨ (x < 0 ∨ 3 < x) by omega) with c1 | c1 | c1 | c1 | c1
  · refine Wp.tabIn (tgt := 32) dX5_count_1 (by omega) (by omega) (by rw [c1]; rfl) (by decide) ?_
    refine Wp.ald_n (j := 0) rfl dX5_count_32 ?_
    refine Wp.ald_n (j := 0) rfl dX5_count_33 ?_
    refine Wp.getf (k := 2) (tg := 2) kC5 (by decide) rfl lf_X5_22 dX5_count_34 (sK0 (h := h) sh) (sF0_2 (h := h) sh) ?_
    refine Wp.getfN (k := 2) (tg := 0) kC0 (by decide) rfl lf_X5_164 dX5_count_37 (sK2 (h := h) sh) (show hF _ 2 2 = hF h 2 2 from rfl) ?_
    refine Wp.callV1 (ct_answer (d + 1) h sh _) wc_X5_126 iM_X5_answer se_X5_answer kC5 (sK0 (h := h) sh) dX5_count_40 rfl (Nat.le_of_ble_eq_true rfl) rfl (Nat.le_of_ble_eq_true rfl) ?_
    refine Wp.iret rfl dX5_count_43 ?_
    refine ⟨⟨_, rfl, fun z => ?_, fun z => ?_, fun z => ?_, fun z => ?_, fun z => ?_⟩, bi, Fr.f (by decide)⟩ <;> (first | rfl | omega)
  · refine Wp.tabIn (tgt := 44) dX5_count_1 (by omega) (by omega) (by rw [c1]; rfl) (by decide) ?_
    refine Wp.ald_n (j := 0) rfl dX5_count_44 ?_
    refine Wp.ald_n (j := 0) rfl dX5_count_45 ?_
    refine Wp.getf (k := 2) (tg := 2) kC5 (by decide) rfl lf_X5_22 dX5_count_46 (sK0 (h := h) sh) (sF0_2 (h := h) sh) ?_
    refine Wp.getfN (k := 0) (tg := 0) kC0 (by decide) rfl lf_X5_138 dX5_count_49 (sK2 (h := h) sh) (show hF _ 2 0 = hF h 2 0 from rfl) ?_
    refine Wp.callV1 (ct_answer (d + 1) h sh _) wc_X5_126 iM_X5_answer se_X5_answer kC5 (sK0 (h := h) sh) dX5_count_52 rfl (Nat.le_of_ble_eq_true rfl) rfl (Nat.le_of_ble_eq_true rfl) ?_
    refine Wp.iret rfl dX5_count_55 ?_
    refine ⟨⟨_, rfl, fun z => ?_, fun z => ?_, fun z => ?_, fun z => ?_, fun z => ?_⟩, bi, Fr.f (by decide)⟩ <;> (first | rfl | omega)
  · refine Wp.tabIn (tgt := 56) dX5_count_1 (by omega) (by omega) (by rw [c1]; rfl) (by decide) ?_
    refine Wp.ald_n (j := 0) rfl dX5_count_56 ?_
    refine Wp.ald_n (j := 0) rfl dX5_count_57 ?_
    refine Wp.getf (k := 2) (tg := 2) kC5 (by decide) rfl lf_X5_22 dX5_count_58 (sK0 (h := h) sh) (sF0_2 (h := h) sh) ?_
    refine Wp.getfN (k := 1) (tg := 0) kC0 (by decide) rfl lf_X5_119 dX5_count_61 (sK2 (h := h) sh) (show hF _ 2 1 = hF h 2 1 from rfl) ?_
    refine Wp.callV1 (ct_answer (d + 1) h sh _) wc_X5_126 iM_X5_answer se_X5_answer kC5 (sK0 (h := h) sh) dX5_count_64 rfl (Nat.le_of_ble_eq_true rfl) rfl (Nat.le_of_ble_eq_true rfl) ?_
    refine Wp.iret rfl dX5_count_67 ?_
    refine ⟨⟨_, rfl, fun z => ?_, fun z => ?_, fun z => ?_, fun z => ?_, fun z => ?_⟩, bi, Fr.f (by decide)⟩ <;> (first | rfl | omega)
  · refine Wp.tabIn (tgt := 68) dX5_count_1 (by omega) (by omega) (by rw [c1]; rfl) (by decide) ?_
    refine Wp.ald_n (j := 0) rfl dX5_count_68 ?_
    refine Wp.ald_n (j := 0) rfl dX5_count_69 ?_
    refine Wp.getf (k := 2) (tg := 2) kC5 (by decide) rfl lf_X5_22 dX5_count_70 (sK0 (h := h) sh) (sF0_2 (h := h) sh) ?_
    obtain ⟨_, t73, ct73, rfl, e73⟩ := cq_allRoadsX d h sh n0 n1
    rw [e73] at ct73
    refine Wp.callV1 (ct73) wc_X5_179 iM_X0_allRoads se_X0_allRoads kC0 (sK2 (h := h) sh) dX5_count_73 rfl (Nat.le_of_ble_eq_true rfl) rfl (Nat.le_of_ble_eq_true rfl) ?_
    refine Wp.callV1 (ct_answer (d + 1) h sh _) wc_X5_126 iM_X5_answer se_X5_answer kC5 (sK0 (h := h) sh) dX5_count_76 rfl (Nat.le_of_ble_eq_true rfl) rfl (Nat.le_of_ble_eq_true rfl) ?_
    refine Wp.iret rfl dX5_count_79 ?_
    refine ⟨⟨_, rfl, fun z => ?_, fun z => ?_, fun z => ?_, fun z => ?_, fun z => ?_⟩, bi, Fr.f (by decide)⟩ <;> (first | rfl | omega)
  · refine Wp.tabOut (tgt := 80) dX5_count_1 c1 (by decide) ?_
    refine Wp.ald_n (j := 0) rfl dX5_count_80 ?_
    refine Wp.iconst dX5_count_81 (by decide) ?_
    refine Wp.callV1 (ct_lack (d + 1) h sh 2) wc_X5_88 iM_X5_lack se_X5_lack kC5 (sK0 (h := h) sh) dX5_count_82 rfl (Nat.le_of_ble_eq_true rfl) rfl (Nat.le_of_ble_eq_true rfl) ?_
    refine Wp.iret rfl dX5_count_85 ?_
    refine ⟨⟨_, rfl, fun z => ?_, fun z => ?_, fun z => ?_, fun z => ?_, fun z => ?_⟩, bi, Fr.f (by decide)⟩ <;> (first | rfl | omega)

theorem ite10 {p : Prop} [Decidable p] (c : (if p then (1 : Int) else 0) = 0) : ¬ p := fun z => by
  rw [if_pos z] at c
  exact absurd c (by decide)
theorem cq_beatsX (d : Nat) (h : mH) (sh : Sh h) (bi : BI h) (b x : Int) : Cq m_X5_beats (d + 2) [(2, 0), (0, b), (0, x)] h (fun r t => (∃ y, r = some (0, y) ∧ ((¬ (0 ≤ b ∧ b < hF h 2 1) ∧ y = -1) ∨ ((0 ≤ b ∧ b < hF h 2 1) ∧ (x = 0 → y = hA h 4 b) ∧ (x = 1 → y = hA h 5 b) ∧ (x = 2 → y = hA h 3 b) ∧ (x = 3 → y = kbc (hA h 6 b)) ∧ ((x < 0 ∨ 3 < x) → y = -1)))) ∧ BI t ∧ Fr [] [(0, 0)] h t) := by
  refine Cq.of ?_
  show Wp m_X5_beats ((d + 2)) 0 [(2, 0), (0, b), (0, x)] [] h _
  obtain ⟨⟨r0, r1⟩, ⟨n0, n1⟩, ⟨m0, m1⟩, hp, hq⟩ := id bi
  refine Wp.ald_n (j := 0) rfl dX5_beats_0 ?_
  refine Wp.getf (k := 2) (tg := 2) kC5 (by decide) rfl lf_X5_22 dX5_beats_1 (sK0 (h := h) sh) (sF0_2 (h := h) sh) ?_
  refine Wp.ild_n (j := 1) rfl dX5_beats_4 ?_
  refine Wp.callV1 (ct_has (d + 1) h sh b) wc_X5_129 iM_X0_has se_X0_has kC0 (sK2 (h := h) sh) dX5_beats_5 rfl (Nat.le_of_ble_eq_true rfl) rfl (Nat.le_of_ble_eq_true rfl) ?_
  refine Wp.ifne dX5_beats_8 (by decide) (tgt := 17) (fun c8 => ?_) (fun c8 => ?_)
  · have hb := ite01 c8
    refine Wp.ild_n (j := 2) rfl dX5_beats_17 ?_
    rcases (show x = 0 ∨ x = 1 ∨ x = 2 ∨ x = 3 ∨ (x < 0 ∨ 3 < x) by omega) with c18 | c18 | c18 | c18 | c18
    · refine Wp.tabIn (tgt := 48) dX5_beats_18 (by omega) (by omega) (by rw [c18]; rfl) (by decide) ?_
      refine Wp.ald_n (j := 0) rfl dX5_beats_48 ?_
      refine Wp.ald_n (j := 0) rfl dX5_beats_49 ?_
      refine Wp.getf (k := 2) (tg := 2) kC5 (by decide) rfl lf_X5_22 dX5_beats_50 (sK0 (h := h) sh) (sF0_2 (h := h) sh) ?_
      refine Wp.getfN (k := 4) (tg := 2) kC0 (by decide) rfl lf_X5_135 dX5_beats_53 (sK2 (h := h) sh) (sF2_4 (h := h) sh) ?_
      refine Wp.ild_n (j := 1) rfl dX5_beats_56 ?_
      refine Wp.iaload dX5_beats_57 (sK4 (h := h) sh) (by omega) (ilt (sL4 (h := h) sh) (by omega)) (show hA _ 4 _ = hA h 4 _ from rfl) ?_
      refine Wp.callV1 (ct_answer (d + 1) h sh _) wc_X5_126 iM_X5_answer se_X5_answer kC5 (sK0 (h := h) sh) dX5_beats_58 rfl (Nat.le_of_ble_eq_true rfl) rfl (Nat.le_of_ble_eq_true rfl) ?_
      refine Wp.iret rfl dX5_beats_61 ?_
      refine ⟨⟨_, rfl, Or.inr ⟨hb, fun z => ?_, fun z => ?_, fun z => ?_, fun z => ?_, fun z => ?_⟩⟩, bi, Fr.f (by decide)⟩ <;> (first | rfl | omega)
    · refine Wp.tabIn (tgt := 62) dX5_beats_18 (by omega) (by omega) (by rw [c18]; rfl) (by decide) ?_
      refine Wp.ald_n (j := 0) rfl dX5_beats_62 ?_
      refine Wp.ald_n (j := 0) rfl dX5_beats_63 ?_
      refine Wp.getf (k := 2) (tg := 2) kC5 (by decide) rfl lf_X5_22 dX5_beats_64 (sK0 (h := h) sh) (sF0_2 (h := h) sh) ?_
      refine Wp.getfN (k := 5) (tg := 2) kC0 (by decide) rfl lf_X5_167 dX5_beats_67 (sK2 (h := h) sh) (sF2_5 (h := h) sh) ?_
      refine Wp.ild_n (j := 1) rfl dX5_beats_70 ?_
      refine Wp.iaload dX5_beats_71 (sK5 (h := h) sh) (by omega) (ilt (sL5 (h := h) sh) (by omega)) (show hA _ 5 _ = hA h 5 _ from rfl) ?_
      refine Wp.callV1 (ct_answer (d + 1) h sh _) wc_X5_126 iM_X5_answer se_X5_answer kC5 (sK0 (h := h) sh) dX5_beats_72 rfl (Nat.le_of_ble_eq_true rfl) rfl (Nat.le_of_ble_eq_true rfl) ?_
      refine Wp.iret rfl dX5_beats_75 ?_
      refine ⟨⟨_, rfl, Or.inr ⟨hb, fun z => ?_, fun z => ?_, fun z => ?_, fun z => ?_, fun z => ?_⟩⟩, bi, Fr.f (by decide)⟩ <;> (first | rfl | omega)
    · refine Wp.tabIn (tgt := 76) dX5_beats_18 (by omega) (by omega) (by rw [c18]; rfl) (by decide) ?_
      refine Wp.ald_n (j := 0) rfl dX5_beats_76 ?_
      refine Wp.ald_n (j := 0) rfl dX5_beats_77 ?_
      refine Wp.getf (k := 2) (tg := 2) kC5 (by decide) rfl lf_X5_22 dX5_beats_78 (sK0 (h := h) sh) (sF0_2 (h := h) sh) ?_
      refine Wp.getfN (k := 3) (tg := 2) kC0 (by decide) rfl lf_X5_132 dX5_beats_81 (sK2 (h := h) sh) (sF2_3 (h := h) sh) ?_
      refine Wp.ild_n (j := 1) rfl dX5_beats_84 ?_
      refine Wp.iaload dX5_beats_85 (sK3 (h := h) sh) (by omega) (ilt (sL3 (h := h) sh) (by omega)) (show hA _ 3 _ = hA h 3 _ from rfl) ?_
      refine Wp.callV1 (ct_answer (d + 1) h sh _) wc_X5_126 iM_X5_answer se_X5_answer kC5 (sK0 (h := h) sh) dX5_beats_86 rfl (Nat.le_of_ble_eq_true rfl) rfl (Nat.le_of_ble_eq_true rfl) ?_
      refine Wp.iret rfl dX5_beats_89 ?_
      refine ⟨⟨_, rfl, Or.inr ⟨hb, fun z => ?_, fun z => ?_, fun z => ?_, fun z => ?_, fun z => ?_⟩⟩, bi, Fr.f (by decide)⟩ <;> (first | rfl | omega)
    · refine Wp.tabIn (tgt := 90) dX5_beats_18 (by omega) (by omega) (by rw [c18]; rfl) (by decide) ?_
      refine Wp.ald_n (j := 0) rfl dX5_beats_90 ?_
      refine Wp.ald_n (j := 0) rfl dX5_beats_91 ?_
      refine Wp.getf (k := 2) (tg := 2) kC5 (by decide) rfl lf_X5_22 dX5_beats_92 (sK0 (h := h) sh) (sF0_2 (h := h) sh) ?_
      refine Wp.getfN (k := 6) (tg := 2) kC0 (by decide) rfl lf_X5_183 dX5_beats_95 (sK2 (h := h) sh) (sF2_6 (h := h) sh) ?_
      refine Wp.ild_n (j := 1) rfl dX5_beats_98 ?_
      refine Wp.iaload dX5_beats_99 (sK6 (h := h) sh) (by omega) (ilt (sL6 (h := h) sh) (by omega)) (show hA _ 6 _ = hA h 6 _ from rfl) ?_
      refine Wp.callS1 (ct_bitCount (d + 1) h _) wc_X5_186 sM_J6_bitCount_0f7a4 dX5_beats_100 rfl (Nat.le_of_ble_eq_true rfl) rfl (Nat.le_of_ble_eq_true rfl) ?_
      refine Wp.callV1 (ct_answer (d + 1) h sh _) wc_X5_126 iM_X5_answer se_X5_answer kC5 (sK0 (h := h) sh) dX5_beats_103 rfl (Nat.le_of_ble_eq_true rfl) rfl (Nat.le_of_ble_eq_true rfl) ?_
      refine Wp.iret rfl dX5_beats_106 ?_
      refine ⟨⟨_, rfl, Or.inr ⟨hb, fun z => ?_, fun z => ?_, fun z => ?_, fun z => ?_, fun z => ?_⟩⟩, bi, Fr.f (by decide)⟩ <;> (first | rfl | omega)
    · refine Wp.tabOut (tgt := 107) dX5_beats_18 c18 (by decide) ?_
      refine Wp.ald_n (j := 0) rfl dX5_beats_107 ?_
      refine Wp.iconst dX5_beats_108 (by decide) ?_
      refine Wp.callV1 (ct_lack (d + 1) h sh 2) wc_X5_88 iM_X5_lack se_X5_lack kC5 (sK0 (h := h) sh) dX5_beats_109 rfl (Nat.le_of_ble_eq_true rfl) rfl (Nat.le_of_ble_eq_true rfl) ?_
      refine Wp.iret rfl dX5_beats_112 ?_
      refine ⟨⟨_, rfl, Or.inr ⟨hb, fun z => ?_, fun z => ?_, fun z => ?_, fun z => ?_, fun z => ?_⟩⟩, bi, Fr.f (by decide)⟩ <;> (first | rfl | omega)
  · refine Wp.ald_n (j := 0) rfl dX5_beats_11 ?_
    refine Wp.iconst dX5_beats_12 (by decide) ?_
    refine Wp.callV1 (ct_lack (d + 1) h sh 2) wc_X5_88 iM_X5_lack se_X5_lack kC5 (sK0 (h := h) sh) dX5_beats_13 rfl (Nat.le_of_ble_eq_true rfl) rfl (Nat.le_of_ble_eq_true rfl) ?_
    refine Wp.iret rfl dX5_beats_16 ?_
    exact ⟨⟨_, rfl, Or.inl ⟨ite10 c8, rfl⟩⟩, bi, Fr.f (by decide)⟩

theorem cq_leaderX (d : Nat) (h : mH) (sh : Sh h) (ol : 0 ≤ hF h 0 7 ∧ hF h 0 7 ≤ 24) (k : Int) : Cq m_X5_leader (d + 1) [(2, 0), (0, k)] h (fun r t => (∃ y, r = some (0, y) ∧ ((¬ (0 ≤ k ∧ k < hF h 0 7) ∧ y = -1) ∨ ((0 ≤ k ∧ k < hF h 0 7) ∧ y = hA h 31 k))) ∧ Fr [] [(0, 0)] h t) := by
  refine Cq.of ?_
  show Wp m_X5_leader ((d + 1)) 0 [(2, 0), (0, k)] [] h _
  refine Wp.ild_n (j := 1) rfl dX5_leader_0 ?_
  refine Wp.iflt dX5_leader_1 (by decide) (tgt := 12) (fun c1 => ?_) (fun c1 => ?_)
  · refine Wp.ald_n (j := 0) rfl dX5_leader_12 ?_
    refine Wp.bipush dX5_leader_13 (by decide) ?_
    refine Wp.callV1 (ct_lack d h sh 8) wc_X5_88 iM_X5_lack se_X5_lack kC5 (sK0 (h := h) sh) dX5_leader_15 rfl (Nat.le_of_ble_eq_true rfl) rfl (Nat.le_of_ble_eq_true rfl) ?_
    refine Wp.iret rfl dX5_leader_18 ?_
    first
    | exact ⟨⟨_, rfl, Or.inl ⟨by omega, rfl⟩⟩, Fr.f (by decide)⟩
    | exact ⟨⟨_, rfl, Or.inr ⟨by omega, rfl⟩⟩, Fr.f (by decide)⟩
  · refine Wp.ild_n (j := 1) rfl dX5_leader_4 ?_
    refine Wp.ald_n (j := 0) rfl dX5_leader_5 ?_
    refine Wp.getf (k := 7) (tg := 0) kC5 (by decide) rfl lf_X5_51 dX5_leader_6 (sK0 (h := h) sh) (show hF _ 0 7 = hF h 0 7 from rfl) ?_
    refine Wp.iclt dX5_leader_9 (by decide) (tgt := 19) (fun c9 => ?_) (fun c9 => ?_)
    · refine Wp.ald_n (j := 0) rfl dX5_leader_19 ?_
      refine Wp.ald_n (j := 0) rfl dX5_leader_20 ?_
      refine Wp.getf (k := 6) (tg := 2) kC5 (by decide) rfl lf_X5_47 dX5_leader_21 (sK0 (h := h) sh) (sF0_6 (h := h) sh) ?_
      refine Wp.ild_n (j := 1) rfl dX5_leader_24 ?_
      refine Wp.iaload dX5_leader_25 (sK31 (h := h) sh) (by omega) (ilt (sL31 (h := h) sh) (by omega)) (show hA _ 31 _ = hA h 31 _ from rfl) ?_
      refine Wp.callV1 (ct_answer d h sh _) wc_X5_126 iM_X5_answer se_X5_answer kC5 (sK0 (h := h) sh) dX5_leader_26 rfl (Nat.le_of_ble_eq_true rfl) rfl (Nat.le_of_ble_eq_true rfl) ?_
      refine Wp.iret rfl dX5_leader_29 ?_
      first
      | exact ⟨⟨_, rfl, Or.inl ⟨by omega, rfl⟩⟩, Fr.f (by decide)⟩
      | exact ⟨⟨_, rfl, Or.inr ⟨by omega, rfl⟩⟩, Fr.f (by decide)⟩
    · refine Wp.ald_n (j := 0) rfl dX5_leader_12 ?_
      refine Wp.bipush dX5_leader_13 (by decide) ?_
      refine Wp.callV1 (ct_lack d h sh 8) wc_X5_88 iM_X5_lack se_X5_lack kC5 (sK0 (h := h) sh) dX5_leader_15 rfl (Nat.le_of_ble_eq_true rfl) rfl (Nat.le_of_ble_eq_true rfl) ?_
      refine Wp.iret rfl dX5_leader_18 ?_
      first
      | exact ⟨⟨_, rfl, Or.inl ⟨by omega, rfl⟩⟩, Fr.f (by decide)⟩
      | exact ⟨⟨_, rfl, Or.inr ⟨by omega, rfl⟩⟩, Fr.f (by decide)⟩

theorem cq_mleaderX (d : Nat) (h : mH) (sh : Sh h) (mi : MI h) (k : Int) : Cq m_X6_leader (d + 1) [(2, 41), (0, k)] h (fun r t => (∃ y, r = some (0, y) ∧ ((¬ (0 ≤ k ∧ k < hF h 41 28) ∧ y = -1) ∨ ((0 ≤ k ∧ k < hF h 41 28) ∧ y = hA h 63 k))) ∧ MI t ∧ Fr mAq mGq h t) := by
  refine Cq.of ?_
  show Wp m_X6_leader ((d + 1)) 0 [(2, 41), (0, k)] [] h _
  obtain ⟨⟨⟨r0, r1⟩, ⟨n0, n1⟩, ⟨m0, m1⟩, hp, hq⟩, hms, ⟨⟨z0, z1⟩, hsp⟩, hme⟩ := id mi
  have hm2 := hme.2.1
  refine Wp.ald_n (j := 0) rfl dX6_leader_0 ?_
  refine Wp.iconst dX6_leader_1 (by decide) ?_
  refine Wp.putf (k := 1) (tg := 0) kC6 (by decide) rfl rfl lf_X6_117 dX6_leader_2 (sK41 (h := h) sh) ?_
  refine Wp.ald_n (j := 0) rfl dX6_leader_5 ?_
  refine Wp.iconst dX6_leader_6 (by decide) ?_
  refine Wp.putf (k := 0) (tg := 0) kC6 (by decide) rfl rfl lf_X6_120 dX6_leader_7 (sK41 (h := h) sh) ?_
  refine Wp.ild_n (j := 1) rfl dX6_leader_10 ?_
  refine Wp.iflt dX6_leader_11 (by decide) (tgt := 22) (fun c11 => ?_) (fun c11 => ?_)
  · refine Wp.ald_n (j := 0) rfl dX6_leader_22 ?_
    refine Wp.bipush dX6_leader_23 (by decide) ?_
    refine Wp.callV1 (ct_mrefuse d (sF (sF h 41 1 0) 41 0 0) (sK41 (h := h) sh) 8) wc_X6_151 iM_X6_refuse se_X6_refuse kC6 (sK41 (h := h) sh) dX6_leader_25 rfl (Nat.le_of_ble_eq_true rfl) rfl (Nat.le_of_ble_eq_true rfl) ?_
    refine Wp.goto (tgt := 37) dX6_leader_28 (by decide) ?_
    refine Wp.iret rfl dX6_leader_37 ?_
    exact ⟨⟨_, rfl, Or.inl ⟨by omega, rfl⟩⟩, mi, ((Fr.f (by decide)).tr ((Fr.f (by decide)).tr (Fr.f (by decide))))⟩
  · refine Wp.ild_n (j := 1) rfl dX6_leader_14 ?_
    refine Wp.ald_n (j := 0) rfl dX6_leader_15 ?_
    refine Wp.getf (k := 28) (tg := 0) kC6 (by decide) rfl lf_X6_227 dX6_leader_16 (sK41 (h := h) sh) (show hF _ 41 28 = hF h 41 28 from rfl) ?_
    refine Wp.iclt dX6_leader_19 (by decide) (tgt := 31) (fun c19 => ?_) (fun c19 => ?_)
    · refine Wp.ald_n (j := 0) rfl dX6_leader_31 ?_
      refine Wp.getf (k := 29) (tg := 2) kC6 (by decide) rfl lf_X6_84 dX6_leader_32 (sK41 (h := h) sh) (sF41_29 (h := h) sh) ?_
      refine Wp.ild_n (j := 1) rfl dX6_leader_35 ?_
      refine Wp.iaload dX6_leader_36 (sK63 (h := h) sh) (by omega) (ilt (sL63 (h := h) sh) (by omega)) (show hA _ 63 _ = hA h 63 _ from rfl) ?_
      refine Wp.iret rfl dX6_leader_37 ?_
      exact ⟨⟨_, rfl, Or.inr ⟨by omega, rfl⟩⟩, mi, ((Fr.f (by decide)).tr (Fr.f (by decide)))⟩
    · refine Wp.ald_n (j := 0) rfl dX6_leader_22 ?_
      refine Wp.bipush dX6_leader_23 (by decide) ?_
      refine Wp.callV1 (ct_mrefuse d (sF (sF h 41 1 0) 41 0 0) (sK41 (h := h) sh) 8) wc_X6_151 iM_X6_refuse se_X6_refuse kC6 (sK41 (h := h) sh) dX6_leader_25 rfl (Nat.le_of_ble_eq_true rfl) rfl (Nat.le_of_ble_eq_true rfl) ?_
      refine Wp.goto (tgt := 37) dX6_leader_28 (by decide) ?_
      refine Wp.iret rfl dX6_leader_37 ?_
      exact ⟨⟨_, rfl, Or.inl ⟨by omega, rfl⟩⟩, mi, ((Fr.f (by decide)).tr ((Fr.f (by decide)).tr (Fr.f (by decide))))⟩

theorem inStepX_loop (d : Nat) (h : mH) (sh : Sh h) (a s : Int) (ka : hK h a = 10) (la : hL h a = 24) (hn : hF h 2 1 ≤ 24) (hr : ∀ j, 0 ≤ j → j < hF h 2 1 → 0 ≤ hA h a j) : ∀ (m : Nat) (k p : Int), (hF h 2 1 - k).toNat < m → (0 ≤ k) → (IS (hA h a) s k p) → Wp m_X0_inStep (d + 1) 5 [(2, 2), (2, a), (0, s), (0, p), (0, k)] [] h (fun r t => (∃ y, r = some (0, y) ∧ (y = 0 ∨ y = 1) ∧ (y = 1 ↔ sp9 (hA h a) (hF h 2 1) s)) ∧ t = h) := by
  intro m
  induction m with
  | zero => intro k p hm; exact absurd hm (Nat.not_lt_zero _)
  | succ m ih =>
    intro k p hm k0 is
    refine Wp.ild (j := 4) rfl dX0_inStep_5 ?_
    refine Wp.ald_n (j := 0) rfl dX0_inStep_7 ?_
    refine Wp.getf (k := 1) (tg := 0) kC0 (by decide) rfl lf_X0_15 dX0_inStep_8 (sK2 (h := h) sh) (show hF _ 2 1 = hF h 2 1 from rfl) ?_
    refine Wp.icge dX0_inStep_11 (by decide) (tgt := 49) (fun c11 => ?_) (fun c11 => ?_)
    · refine Wp.iconst dX0_inStep_49 (by decide) ?_
      refine Wp.zret rfl dX0_inStep_50 (by omega) ?_
      first
      | exact ⟨⟨_, rfl, Or.inr rfl, fun _ => is.done (by omega), fun _ => rfl⟩, rfl⟩
      | exact ⟨⟨_, rfl, Or.inl rfl, fun z => absurd z (by decide), fun z => absurd z (is.bad k0 (by omega) (holds_t c20) (by omega) (by omega))⟩, rfl⟩
    · refine Wp.ild_n (j := 2) rfl dX0_inStep_14 ?_
      refine Wp.ild (j := 4) rfl dX0_inStep_15 ?_
      refine Wp.callS1 (ct_holds d _ _ _) wc_X0_75 sM_X0_holds dX0_inStep_17 rfl (Nat.le_of_ble_eq_true rfl) rfl (Nat.le_of_ble_eq_true rfl) ?_
      refine Wp.ifeq dX0_inStep_20 (by decide) (tgt := 43) (fun c20 => ?_) (fun c20 => ?_)
      · refine inc_5_4 rfl dX0_inStep_43 (by first | exact w32_of (by omega) (by omega) | rfl) ?_
        refine Wp.goto (tgt := 5) dX0_inStep_46 (by decide) ?_
        exact ih (k + 1) _ (by omega) (by omega) (is.no (holds_f c20))
      · refine Wp.ild_n (j := 3) rfl dX0_inStep_23 ?_
        refine Wp.iconst dX0_inStep_24 (by decide) ?_
        refine Wp.iceq dX0_inStep_25 (by decide) (tgt := 38) (fun c25 => ?_) (fun c25 => ?_)
        · refine Wp.ald_n (j := 1) rfl dX0_inStep_38 ?_
          refine Wp.ild (j := 4) rfl dX0_inStep_39 ?_
          refine Wp.iaload dX0_inStep_41 ka (by omega) (ilt la (by omega)) (show hA _ a _ = hA h a _ from rfl) ?_
          refine sti_5_3 rfl (dSt_n dX0_inStep_42) ?_
          refine inc_5_4 rfl dX0_inStep_43 (by first | exact w32_of (by omega) (by omega) | rfl) ?_
          refine Wp.goto (tgt := 5) dX0_inStep_46 (by decide) ?_
          exact ih (k + 1) _ (by omega) (by omega) (is.yes k0 (holds_t c20) (fun j j0 j1 => hr j j0 (by omega)) (by omega))
        · refine Wp.ild_n (j := 3) rfl dX0_inStep_28 ?_
          refine Wp.ald_n (j := 1) rfl dX0_inStep_29 ?_
          refine Wp.ild (j := 4) rfl dX0_inStep_30 ?_
          refine Wp.iaload dX0_inStep_32 ka (by omega) (ilt la (by omega)) (show hA _ a _ = hA h a _ from rfl) ?_
          refine Wp.iceq dX0_inStep_33 (by decide) (tgt := 38) (fun c33 => ?_) (fun c33 => ?_)
          · refine Wp.ald_n (j := 1) rfl dX0_inStep_38 ?_
            refine Wp.ild (j := 4) rfl dX0_inStep_39 ?_
            refine Wp.iaload dX0_inStep_41 ka (by omega) (ilt la (by omega)) (show hA _ a _ = hA h a _ from rfl) ?_
            refine sti_5_3 rfl (dSt_n dX0_inStep_42) ?_
            refine inc_5_4 rfl dX0_inStep_43 (by first | exact w32_of (by omega) (by omega) | rfl) ?_
            refine Wp.goto (tgt := 5) dX0_inStep_46 (by decide) ?_
            exact ih (k + 1) _ (by omega) (by omega) (is.yes k0 (holds_t c20) (fun j j0 j1 => hr j j0 (by omega)) (by omega))
          · refine Wp.iconst dX0_inStep_36 (by decide) ?_
            refine Wp.zret rfl dX0_inStep_37 (by omega) ?_
            first
            | exact ⟨⟨_, rfl, Or.inr rfl, fun _ => is.done (by omega), fun _ => rfl⟩, rfl⟩
            | exact ⟨⟨_, rfl, Or.inl rfl, fun z => absurd z (by decide), fun z => absurd z (is.bad k0 (by omega) (holds_t c20) (by omega) (by omega))⟩, rfl⟩

theorem cq_inStepX (d : Nat) (h : mH) (sh : Sh h) (a s : Int) (ka : hK h a = 10) (la : hL h a = 24) (hn : hF h 2 1 ≤ 24) (hr : ∀ j, 0 ≤ j → j < hF h 2 1 → 0 ≤ hA h a j) : Cq m_X0_inStep (d + 1) [(2, 2), (2, a), (0, s)] h (fun r t => (∃ y, r = some (0, y) ∧ (y = 0 ∨ y = 1) ∧ (y = 1 ↔ sp9 (hA h a) (hF h 2 1) s)) ∧ t = h) := by
  refine Cq.of ?_
  show Wp m_X0_inStep ((d + 1)) 0 [(2, 2), (2, a), (0, s), (9, 0), (9, 0)] [] h _
  refine Wp.iconst dX0_inStep_0 (by decide) ?_
  refine sti_5_3 rfl (dSt_n dX0_inStep_1) ?_
  refine Wp.iconst dX0_inStep_2 (by decide) ?_
  refine sti_5_4 rfl (dSt_w dX0_inStep_3) ?_
  exact inStepX_loop d h sh a s ka la hn hr _ 0 _ (Nat.lt_succ_self _) (Int.le_refl _) IS.zero

theorem cq_stepX (d : Nat) (h : mH) (sh : Sh h) (bi : BI h) (s : Int) : Cq m_X5_step (d + 2) [(2, 0), (0, s)] h (fun r t => (∃ y, r = some (0, y) ∧ ((¬ kand s (kxor (w32 (kshl 1 (hF h 2 1) - 1)) (-1)) = 0 ∧ y = -1) ∨ (kand s (kxor (w32 (kshl 1 (hF h 2 1) - 1)) (-1)) = 0 ∧ (y = 0 ∨ y = 1) ∧ (y = 1 ↔ sp9 (hA h 4) (hF h 2 1) s)))) ∧ BI t ∧ Fr [] [(0, 0)] h t) := by
  refine Cq.of ?_
  show Wp m_X5_step ((d + 2)) 0 [(2, 0), (0, s)] [] h _
  obtain ⟨⟨r0, r1⟩, ⟨n0, n1⟩, ⟨m0, m1⟩, hp, hq⟩ := id bi
  refine Wp.ald_n (j := 0) rfl dX5_step_0 ?_
  refine Wp.getf (k := 2) (tg := 2) kC5 (by decide) rfl lf_X5_22 dX5_step_1 (sK0 (h := h) sh) (sF0_2 (h := h) sh) ?_
  refine Wp.ild_n (j := 1) rfl dX5_step_4 ?_
  refine Wp.callV1 (ct_isSet d h sh s) wc_X5_191 iM_X0_isSet se_X0_isSet kC0 (sK2 (h := h) sh) dX5_step_5 rfl (Nat.le_of_ble_eq_true rfl) rfl (Nat.le_of_ble_eq_true rfl) ?_
  refine Wp.ifne dX5_step_8 (by decide) (tgt := 17) (fun c8 => ?_) (fun c8 => ?_)
  · refine Wp.ald_n (j := 0) rfl dX5_step_17 ?_
    refine Wp.ald_n (j := 0) rfl dX5_step_18 ?_
    refine Wp.getf (k := 2) (tg := 2) kC5 (by decide) rfl lf_X5_22 dX5_step_19 (sK0 (h := h) sh) (sF0_2 (h := h) sh) ?_
    refine Wp.ald_n (j := 0) rfl dX5_step_22 ?_
    refine Wp.getf (k := 2) (tg := 2) kC5 (by decide) rfl lf_X5_22 dX5_step_23 (sK0 (h := h) sh) (sF0_2 (h := h) sh) ?_
    refine Wp.getfN (k := 4) (tg := 2) kC0 (by decide) rfl lf_X5_135 dX5_step_26 (sK2 (h := h) sh) (sF2_4 (h := h) sh) ?_
    refine Wp.ild_n (j := 1) rfl dX5_step_29 ?_
    obtain ⟨_, t30, ct30, ⟨y30, rfl, hy30, hs30⟩, e30⟩ := cq_inStepX d h sh 4 s (sK4 sh) (sL4 sh) n1 (fun j j0 j1 => (hp j j0 j1).1)
    rw [e30] at ct30
    refine Wp.callV1 (ct30) wc_X5_194 iM_X0_inStep se_X0_inStep kC0 (sK2 (h := h) sh) dX5_step_30 rfl (Nat.le_of_ble_eq_true rfl) rfl (Nat.le_of_ble_eq_true rfl) ?_
    refine Wp.ifeq dX5_step_33 (by decide) (tgt := 40) (fun c33 => ?_) (fun c33 => ?_)
    · refine Wp.iconst dX5_step_40 (by decide) ?_
      refine Wp.callV1 (ct_answer (d + 1) h sh _) wc_X5_126 iM_X5_answer se_X5_answer kC5 (sK0 (h := h) sh) dX5_step_41 rfl (Nat.le_of_ble_eq_true rfl) rfl (Nat.le_of_ble_eq_true rfl) ?_
      refine Wp.iret rfl dX5_step_44 ?_
      first
      | exact ⟨⟨_, rfl, Or.inl ⟨ite10 c8, rfl⟩⟩, bi, Fr.f (by decide)⟩
      | exact ⟨⟨_, rfl, Or.inr ⟨ite01 c8, Or.inr rfl, fun _ => hs30.mp (by omega), fun _ => rfl⟩⟩, bi, Fr.f (by decide)⟩
      | exact ⟨⟨_, rfl, Or.inr ⟨ite01 c8, Or.inl rfl, fun z => absurd z (by decide), fun z => absurd (hs30.mpr z) (by omega)⟩⟩, bi, Fr.f (by decide)⟩
    · refine Wp.iconst dX5_step_36 (by decide) ?_
      refine Wp.goto (tgt := 41) dX5_step_37 (by decide) ?_
      refine Wp.callV1 (ct_answer (d + 1) h sh _) wc_X5_126 iM_X5_answer se_X5_answer kC5 (sK0 (h := h) sh) dX5_step_41 rfl (Nat.le_of_ble_eq_true rfl) rfl (Nat.le_of_ble_eq_true rfl) ?_
      refine Wp.iret rfl dX5_step_44 ?_
      first
      | exact ⟨⟨_, rfl, Or.inl ⟨ite10 c8, rfl⟩⟩, bi, Fr.f (by decide)⟩
      | exact ⟨⟨_, rfl, Or.inr ⟨ite01 c8, Or.inr rfl, fun _ => hs30.mp (by omega), fun _ => rfl⟩⟩, bi, Fr.f (by decide)⟩
      | exact ⟨⟨_, rfl, Or.inr ⟨ite01 c8, Or.inl rfl, fun z => absurd z (by decide), fun z => absurd (hs30.mpr z) (by omega)⟩⟩, bi, Fr.f (by decide)⟩
  · refine Wp.ald_n (j := 0) rfl dX5_step_11 ?_
    refine Wp.iconst dX5_step_12 (by decide) ?_
    refine Wp.callV1 (ct_lack (d + 1) h sh 2) wc_X5_88 iM_X5_lack se_X5_lack kC5 (sK0 (h := h) sh) dX5_step_13 rfl (Nat.le_of_ble_eq_true rfl) rfl (Nat.le_of_ble_eq_true rfl) ?_
    refine Wp.iret rfl dX5_step_16 ?_
    first
    | exact ⟨⟨_, rfl, Or.inl ⟨ite10 c8, rfl⟩⟩, bi, Fr.f (by decide)⟩
    | exact ⟨⟨_, rfl, Or.inr ⟨ite01 c8, Or.inr rfl, fun _ => hs30.mp (by omega), fun _ => rfl⟩⟩, bi, Fr.f (by decide)⟩
    | exact ⟨⟨_, rfl, Or.inr ⟨ite01 c8, Or.inl rfl, fun z => absurd z (by decide), fun z => absurd (hs30.mpr z) (by omega)⟩⟩, bi, Fr.f (by decide)⟩

theorem arcFromX_loop (d : Nat) (h : mH) (sh : Sh h) (bi : BI h) (p s : Int) (p0 : 0 ≤ p ∧ p < hF h 2 0) : ∀ (m : Nat) (k f : Int), (hF h 2 1 - k).toNat < m → (0 ≤ k) → (k ≤ hF h 2 1) → (f = af9 (hA h 4) (hF h 2 0) s p k.toNat) → Wp m_X0_arcFrom (d + 1) 5 [(2, 2), (0, p), (0, s), (0, f), (0, k)] [] h (fun r t => r = some (0, af9 (hA h 4) (hF h 2 0) s p (hF h 2 1).toNat) ∧ t = h) := by
  intro m
  induction m with
  | zero => intro k f hm; exact absurd hm (Nat.not_lt_zero _)
  | succ m ih =>
    intro k f hm k0 k1 ef
    obtain ⟨⟨r0, r1⟩, ⟨n0, n1⟩, ⟨m0, m1⟩, hp, hq⟩ := id bi
    refine Wp.ild (j := 4) rfl dX0_arcFrom_5 ?_
    refine Wp.ald_n (j := 0) rfl dX0_arcFrom_7 ?_
    refine Wp.getf (k := 1) (tg := 0) kC0 (by decide) rfl lf_X0_15 dX0_arcFrom_8 (sK2 (h := h) sh) (show hF _ 2 1 = hF h 2 1 from rfl) ?_
    refine Wp.icge dX0_arcFrom_11 (by decide) (tgt := 47) (fun c11 => ?_) (fun c11 => ?_)
    · refine Wp.ild_n (j := 3) rfl dX0_arcFrom_47 ?_
      refine Wp.iret rfl dX0_arcFrom_48 ?_
      have ek : k = hF h 2 1 := by omega
      exact ⟨by rw [ef, ek], rfl⟩
    · refine Wp.ild_n (j := 2) rfl dX0_arcFrom_14 ?_
      refine Wp.ild (j := 4) rfl dX0_arcFrom_15 ?_
      refine Wp.callS1 (ct_holds d _ _ _) wc_X0_75 sM_X0_holds dX0_arcFrom_17 rfl (Nat.le_of_ble_eq_true rfl) rfl (Nat.le_of_ble_eq_true rfl) ?_
      refine Wp.ifeq dX0_arcFrom_20 (by decide) (tgt := 41) (fun c20 => ?_) (fun c20 => ?_)
      · refine inc_5_4 rfl dX0_arcFrom_41 (by first | exact w32_of (by omega) (by omega) | rfl) ?_
        refine Wp.goto (tgt := 5) dX0_arcFrom_44 (by decide) ?_
        exact ih (k + 1) _ (by omega) (by omega) (by omega) (by rw [af9_s k0, if_pos (Classical.byContradiction (fun z => holds_f c20 z))]; exact ef)
      · have hk := hp k k0 (by omega)
        refine Wp.ild_n (j := 3) rfl dX0_arcFrom_23 ?_
        refine Wp.ald_n (j := 0) rfl dX0_arcFrom_24 ?_
        refine Wp.ald_n (j := 0) rfl dX0_arcFrom_25 ?_
        refine Wp.getf (k := 4) (tg := 2) kC0 (by decide) rfl lf_X0_25 dX0_arcFrom_26 (sK2 (h := h) sh) (sF2_4 (h := h) sh) ?_
        refine Wp.ild (j := 4) rfl dX0_arcFrom_29 ?_
        refine Wp.iaload dX0_arcFrom_31 (sK4 (h := h) sh) (by omega) (ilt (sL4 (h := h) sh) (by omega)) (show hA _ 4 _ = hA h 4 _ from rfl) ?_
        refine Wp.ild_n (j := 1) rfl dX0_arcFrom_32 ?_
        refine Wp.isubE dX0_arcFrom_33 (by first | exact w32_of (by omega) (by omega) | rfl) ?_
        refine Wp.callV1 (ct_wrap d h sh _ (by omega) (by omega) (by omega) (by omega)) wc_X0_83 iM_X0_wrap se_X0_wrap kC0 (sK2 (h := h) sh) dX0_arcFrom_34 rfl (Nat.le_of_ble_eq_true rfl) rfl (Nat.le_of_ble_eq_true rfl) ?_
        refine Wp.mmax wm_X0_112 dX0_arcFrom_37 (Nat.le_of_ble_eq_true rfl) ?_
        refine sti_5_3 rfl (dSt_n dX0_arcFrom_40) ?_
        refine inc_5_4 rfl dX0_arcFrom_41 (by first | exact w32_of (by omega) (by omega) | rfl) ?_
        refine Wp.goto (tgt := 5) dX0_arcFrom_44 (by decide) ?_
        exact ih (k + 1) _ (by omega) (by omega) (by omega) (show max f (wrpC (hF h 2 0) (hA h 4 k - p)) = _ by rw [af9_s k0, if_neg (holds_t c20), ← ef])

theorem cq_arcFromX (d : Nat) (h : mH) (sh : Sh h) (bi : BI h) (p s : Int) (p0 : 0 ≤ p ∧ p < hF h 2 0) : Cq m_X0_arcFrom (d + 1) [(2, 2), (0, p), (0, s)] h (fun r t => r = some (0, af9 (hA h 4) (hF h 2 0) s p (hF h 2 1).toNat) ∧ t = h) := by
  refine Cq.of ?_
  show Wp m_X0_arcFrom ((d + 1)) 0 [(2, 2), (0, p), (0, s), (9, 0), (9, 0)] [] h _
  refine Wp.iconst dX0_arcFrom_0 (by decide) ?_
  refine sti_5_3 rfl (dSt_n dX0_arcFrom_1) ?_
  refine Wp.iconst dX0_arcFrom_2 (by decide) ?_
  refine sti_5_4 rfl (dSt_w dX0_arcFrom_3) ?_
  exact arcFromX_loop d h sh bi p s p0 _ 0 0 (Nat.lt_succ_self _) (Int.le_refl _) bi.2.1.1 rfl

theorem leastArcX_loop (d : Nat) (h : mH) (sh : Sh h) (bi : BI h) (s : Int) : ∀ (m : Nat) (k f : Int), (hF h 2 1 - k).toNat < m → (0 ≤ k) → (k ≤ hF h 2 1) → (f = la9 (hA h 4) (hF h 2 0) s (hF h 2 1).toNat k.toNat) → Wp m_X0_leastArc (d + 2) 7 [(2, 2), (0, s), (0, f), (0, k)] [] h (fun r t => r = some (0, la9 (hA h 4) (hF h 2 0) s (hF h 2 1).toNat (hF h 2 1).toNat) ∧ t = h) := by
  intro m
  induction m with
  | zero => intro k f hm; exact absurd hm (Nat.not_lt_zero _)
  | succ m ih =>
    intro k f hm k0 k1 ef
    obtain ⟨⟨r0, r1⟩, ⟨n0, n1⟩, ⟨m0, m1⟩, hp, hq⟩ := id bi
    refine Wp.ild_n (j := 3) rfl dX0_leastArc_7 ?_
    refine Wp.ald_n (j := 0) rfl dX0_leastArc_8 ?_
    refine Wp.getf (k := 1) (tg := 0) kC0 (by decide) rfl lf_X0_15 dX0_leastArc_9 (sK2 (h := h) sh) (show hF _ 2 1 = hF h 2 1 from rfl) ?_
    refine Wp.icge dX0_leastArc_12 (by decide) (tgt := 45) (fun c12 => ?_) (fun c12 => ?_)
    · refine Wp.ild_n (j := 2) rfl dX0_leastArc_45 ?_
      refine Wp.iret rfl dX0_leastArc_46 ?_
      have ek : k = hF h 2 1 := by omega
      exact ⟨by rw [ef, ek], rfl⟩
    · refine Wp.ild_n (j := 1) rfl dX0_leastArc_15 ?_
      refine Wp.ild_n (j := 3) rfl dX0_leastArc_16 ?_
      refine Wp.callS1 (ct_holds (d + 1) _ _ _) wc_X0_75 sM_X0_holds dX0_leastArc_17 rfl (Nat.le_of_ble_eq_true rfl) rfl (Nat.le_of_ble_eq_true rfl) ?_
      refine Wp.ifeq dX0_leastArc_20 (by decide) (tgt := 39) (fun c20 => ?_) (fun c20 => ?_)
      · refine inc_4_3 rfl dX0_leastArc_39 (by first | exact w32_of (by omega) (by omega) | rfl) ?_
        refine Wp.goto (tgt := 7) dX0_leastArc_42 (by decide) ?_
        exact ih (k + 1) _ (by omega) (by omega) (by omega) (by rw [la9_s k0, if_pos (Classical.byContradiction (fun z => holds_f c20 z))]; exact ef)
      · have hk := hp k k0 (by omega)
        refine Wp.ild_n (j := 2) rfl dX0_leastArc_23 ?_
        refine Wp.ald_n (j := 0) rfl dX0_leastArc_24 ?_
        refine Wp.ald_n (j := 0) rfl dX0_leastArc_25 ?_
        refine Wp.getf (k := 4) (tg := 2) kC0 (by decide) rfl lf_X0_25 dX0_leastArc_26 (sK2 (h := h) sh) (sF2_4 (h := h) sh) ?_
        refine Wp.ild_n (j := 3) rfl dX0_leastArc_29 ?_
        refine Wp.iaload dX0_leastArc_30 (sK4 (h := h) sh) (by omega) (ilt (sL4 (h := h) sh) (by omega)) (show hA _ 4 _ = hA h 4 _ from rfl) ?_
        refine Wp.ild_n (j := 1) rfl dX0_leastArc_31 ?_
        obtain ⟨_, t32, ct32, rfl, e32⟩ := cq_arcFromX d h sh bi (hA h 4 k) s hk
        rw [e32] at ct32
        refine Wp.callV1 (ct32) wc_X0_103 iM_X0_arcFrom se_X0_arcFrom kC0 (sK2 (h := h) sh) dX0_leastArc_32 rfl (Nat.le_of_ble_eq_true rfl) rfl (Nat.le_of_ble_eq_true rfl) ?_
        refine Wp.mmin wm_X0_107 dX0_leastArc_35 (Nat.le_of_ble_eq_true rfl) ?_
        refine sti_4_2 rfl (dSt_n dX0_leastArc_38) ?_
        refine inc_4_3 rfl dX0_leastArc_39 (by first | exact w32_of (by omega) (by omega) | rfl) ?_
        refine Wp.goto (tgt := 7) dX0_leastArc_42 (by decide) ?_
        exact ih (k + 1) _ (by omega) (by omega) (by omega) (show min f (af9 (hA h 4) (hF h 2 0) s (hA h 4 k) (hF h 2 1).toNat) = _ by rw [la9_s k0, if_neg (holds_t c20), ← ef])

theorem cq_leastArcX (d : Nat) (h : mH) (sh : Sh h) (bi : BI h) (s : Int) : Cq m_X0_leastArc (d + 2) [(2, 2), (0, s)] h (fun r t => r = some (0, la9 (hA h 4) (hF h 2 0) s (hF h 2 1).toNat (hF h 2 1).toNat) ∧ t = h) := by
  refine Cq.of ?_
  show Wp m_X0_leastArc ((d + 2)) 0 [(2, 2), (0, s), (9, 0), (9, 0)] [] h _
  refine Wp.ald_n (j := 0) rfl dX0_leastArc_0 ?_
  refine Wp.getf (k := 0) (tg := 0) kC0 (by decide) rfl lf_X0_9 dX0_leastArc_1 (sK2 (h := h) sh) (show hF _ 2 0 = hF h 2 0 from rfl) ?_
  refine sti_4_2 rfl (dSt_n dX0_leastArc_4) ?_
  refine Wp.iconst dX0_leastArc_5 (by decide) ?_
  refine sti_4_3 rfl (dSt_n dX0_leastArc_6) ?_
  exact leastArcX_loop d h sh bi s _ 0 _ (Nat.lt_succ_self _) (Int.le_refl _) bi.2.1.1 rfl

theorem cq_arcX (d : Nat) (h : mH) (sh : Sh h) (bi : BI h) (s : Int) : Cq m_X5_arc (d + 3) [(2, 0), (0, s)] h (fun r t => (∃ y, r = some (0, y) ∧ (((¬ kand s (kxor (w32 (kshl 1 (hF h 2 1) - 1)) (-1)) = 0 ∨ s = 0) ∧ y = -1) ∨ ((kand s (kxor (w32 (kshl 1 (hF h 2 1) - 1)) (-1)) = 0 ∧ s ≠ 0) ∧ y = la9 (hA h 4) (hF h 2 0) s (hF h 2 1).toNat (hF h 2 1).toNat))) ∧ BI t ∧ Fr [] [(0, 0)] h t) := by
  refine Cq.of ?_
  show Wp m_X5_arc ((d + 3)) 0 [(2, 0), (0, s)] [] h _
  obtain ⟨⟨r0, r1⟩, ⟨n0, n1⟩, ⟨m0, m1⟩, hp, hq⟩ := id bi
  refine Wp.ald_n (j := 0) rfl dX5_arc_0 ?_
  refine Wp.getf (k := 2) (tg := 2) kC5 (by decide) rfl lf_X5_22 dX5_arc_1 (sK0 (h := h) sh) (sF0_2 (h := h) sh) ?_
  refine Wp.ild_n (j := 1) rfl dX5_arc_4 ?_
  refine Wp.callV1 (ct_isSet (d + 1) h sh s) wc_X5_191 iM_X0_isSet se_X0_isSet kC0 (sK2 (h := h) sh) dX5_arc_5 rfl (Nat.le_of_ble_eq_true rfl) rfl (Nat.le_of_ble_eq_true rfl) ?_
  refine Wp.ifeq dX5_arc_8 (by decide) (tgt := 15) (fun c8 => ?_) (fun c8 => ?_)
  · refine Wp.ald_n (j := 0) rfl dX5_arc_15 ?_
    refine Wp.iconst dX5_arc_16 (by decide) ?_
    refine Wp.callV1 (ct_lack (d + 2) h sh 2) wc_X5_88 iM_X5_lack se_X5_lack kC5 (sK0 (h := h) sh) dX5_arc_17 rfl (Nat.le_of_ble_eq_true rfl) rfl (Nat.le_of_ble_eq_true rfl) ?_
    refine Wp.iret rfl dX5_arc_20 ?_
    first
    | exact ⟨⟨_, rfl, Or.inl ⟨Or.inl (ite10 c8), rfl⟩⟩, bi, Fr.f (by decide)⟩
    | exact ⟨⟨_, rfl, Or.inl ⟨Or.inr (by omega), rfl⟩⟩, bi, Fr.f (by decide)⟩
    | exact ⟨⟨_, rfl, Or.inr ⟨⟨ite01 c8, by omega⟩, rfl⟩⟩, bi, Fr.f (by decide)⟩
  · refine Wp.ild_n (j := 1) rfl dX5_arc_11 ?_
    refine Wp.ifne dX5_arc_12 (by decide) (tgt := 21) (fun c12 => ?_) (fun c12 => ?_)
    · refine Wp.ald_n (j := 0) rfl dX5_arc_21 ?_
      refine Wp.ald_n (j := 0) rfl dX5_arc_22 ?_
      refine Wp.getf (k := 2) (tg := 2) kC5 (by decide) rfl lf_X5_22 dX5_arc_23 (sK0 (h := h) sh) (sF0_2 (h := h) sh) ?_
      refine Wp.ild_n (j := 1) rfl dX5_arc_26 ?_
      obtain ⟨_, t27, ct27, rfl, e27⟩ := cq_leastArcX d h sh bi s
      rw [e27] at ct27
      refine Wp.callV1 (ct27) wc_X5_198 iM_X0_leastArc se_X0_leastArc kC0 (sK2 (h := h) sh) dX5_arc_27 rfl (Nat.le_of_ble_eq_true rfl) rfl (Nat.le_of_ble_eq_true rfl) ?_
      refine Wp.callV1 (ct_answer (d + 2) h sh _) wc_X5_126 iM_X5_answer se_X5_answer kC5 (sK0 (h := h) sh) dX5_arc_30 rfl (Nat.le_of_ble_eq_true rfl) rfl (Nat.le_of_ble_eq_true rfl) ?_
      refine Wp.iret rfl dX5_arc_33 ?_
      first
      | exact ⟨⟨_, rfl, Or.inl ⟨Or.inl (ite10 c8), rfl⟩⟩, bi, Fr.f (by decide)⟩
      | exact ⟨⟨_, rfl, Or.inl ⟨Or.inr (by omega), rfl⟩⟩, bi, Fr.f (by decide)⟩
      | exact ⟨⟨_, rfl, Or.inr ⟨⟨ite01 c8, by omega⟩, rfl⟩⟩, bi, Fr.f (by decide)⟩
    · refine Wp.ald_n (j := 0) rfl dX5_arc_15 ?_
      refine Wp.iconst dX5_arc_16 (by decide) ?_
      refine Wp.callV1 (ct_lack (d + 2) h sh 2) wc_X5_88 iM_X5_lack se_X5_lack kC5 (sK0 (h := h) sh) dX5_arc_17 rfl (Nat.le_of_ble_eq_true rfl) rfl (Nat.le_of_ble_eq_true rfl) ?_
      refine Wp.iret rfl dX5_arc_20 ?_
      first
      | exact ⟨⟨_, rfl, Or.inl ⟨Or.inl (ite10 c8), rfl⟩⟩, bi, Fr.f (by decide)⟩
      | exact ⟨⟨_, rfl, Or.inl ⟨Or.inr (by omega), rfl⟩⟩, bi, Fr.f (by decide)⟩
      | exact ⟨⟨_, rfl, Or.inr ⟨⟨ite01 c8, by omega⟩, rfl⟩⟩, bi, Fr.f (by decide)⟩

theorem seenByX_loop (d : Nat) (h : mH) (sh : Sh h) (n1 : hF h 41 6 ≤ 24) (a : Int) (a0 : 0 ≤ a) (a1 : a < 24) : ∀ (m : Nat) (k s : Int), (hF h 41 6 - k).toNat < m → (0 ≤ k) → (k ≤ hF h 41 6) → (s = cnt9 (hA h 49) a k.toNat) → Wp m_X6_seenBy d 4 [(2, 41), (0, a), (0, s), (0, k)] [] h (fun r t => r = some (0, cnt9 (hA h 49) a (hF h 41 6).toNat) ∧ t = h) := by
  intro m
  induction m with
  | zero => intro k s hm; exact absurd hm (Nat.not_lt_zero _)
  | succ m ih =>
    intro k s hm k0 k1 es
    have hb9 := cnt9_bd (hA h 49) a k.toNat
    refine Wp.ild_n (j := 3) rfl dX6_seenBy_4 ?_
    refine Wp.ald_n (j := 0) rfl dX6_seenBy_5 ?_
    refine Wp.getf (k := 6) (tg := 0) kC6 (by decide) rfl lf_X6_141 dX6_seenBy_6 (sK41 (h := h) sh) (show hF _ 41 6 = hF h 41 6 from rfl) ?_
    refine Wp.icge dX6_seenBy_9 (by decide) (tgt := 40) (fun c9 => ?_) (fun c9 => ?_)
    · refine Wp.ild_n (j := 2) rfl dX6_seenBy_40 ?_
      refine Wp.iret rfl dX6_seenBy_41 ?_
      have ek : k = hF h 41 6 := by omega
      exact ⟨by rw [es, ek], rfl⟩
    · refine Wp.ild_n (j := 2) rfl dX6_seenBy_12 ?_
      refine Wp.ald_n (j := 0) rfl dX6_seenBy_13 ?_
      refine Wp.getf (k := 13) (tg := 2) kC6 (by decide) rfl lf_X6_41 dX6_seenBy_14 (sK41 (h := h) sh) (sF41_13 (h := h) sh) ?_
      refine Wp.bipush dX6_seenBy_17 (by decide) ?_
      refine Wp.ild_n (j := 1) rfl dX6_seenBy_19 ?_
      refine Wp.imulE dX6_seenBy_20 (by first | exact w32_of (by omega) (by omega) | rfl) ?_
      refine Wp.ild_n (j := 3) rfl dX6_seenBy_21 ?_
      refine Wp.iaddE dX6_seenBy_22 (by first | exact w32_of (by omega) (by omega) | rfl) ?_
      refine Wp.zaload dX6_seenBy_23 (sK49 (h := h) sh) (by omega) (ilt (sL49 (h := h) sh) (by omega)) (show hA _ 49 _ = hA h 49 _ from rfl) ?_
      refine Wp.ifeq dX6_seenBy_24 (by decide) (tgt := 31) (fun c24 => ?_) (fun c24 => ?_)
      · refine Wp.iconst dX6_seenBy_31 (by decide) ?_
        refine Wp.iaddE dX6_seenBy_32 (w32_of (by omega) (by omega)) ?_
        refine sti_4_2 rfl (dSt_n dX6_seenBy_33) ?_
        refine inc_4_3 rfl dX6_seenBy_34 (by first | exact w32_of (by omega) (by omega) | rfl) ?_
        refine Wp.goto (tgt := 4) dX6_seenBy_37 (by decide) ?_
        refine ih (k + 1) _ (by omega) (by omega) (by omega) ?_
        rw [show (k + 1).toNat = k.toNat + 1 by omega]
        show _ = cnt9 (hA h 49) a k.toNat + (if hA h 49 (24 * a + ((k.toNat : Nat) : Int)) = 0 then 0 else 1)
        rw [show ((k.toNat : Nat) : Int) = k by omega]
        split <;> omega
      · refine Wp.iconst dX6_seenBy_27 (by decide) ?_
        refine Wp.goto (tgt := 32) dX6_seenBy_28 (by decide) ?_
        refine Wp.iaddE dX6_seenBy_32 (w32_of (by omega) (by omega)) ?_
        refine sti_4_2 rfl (dSt_n dX6_seenBy_33) ?_
        refine inc_4_3 rfl dX6_seenBy_34 (by first | exact w32_of (by omega) (by omega) | rfl) ?_
        refine Wp.goto (tgt := 4) dX6_seenBy_37 (by decide) ?_
        refine ih (k + 1) _ (by omega) (by omega) (by omega) ?_
        rw [show (k + 1).toNat = k.toNat + 1 by omega]
        show _ = cnt9 (hA h 49) a k.toNat + (if hA h 49 (24 * a + ((k.toNat : Nat) : Int)) = 0 then 0 else 1)
        rw [show ((k.toNat : Nat) : Int) = k by omega]
        split <;> omega

theorem cq_seenByX (d : Nat) (h : mH) (sh : Sh h) (n0 : 0 ≤ hF h 41 6) (n1 : hF h 41 6 ≤ 24) (a : Int) (a0 : 0 ≤ a) (a1 : a < 24) : Cq m_X6_seenBy d [(2, 41), (0, a)] h (fun r t => r = some (0, cnt9 (hA h 49) a (hF h 41 6).toNat) ∧ t = h) := by
  refine Cq.of ?_
  show Wp m_X6_seenBy (d) 0 [(2, 41), (0, a), (9, 0), (9, 0)] [] h _
  refine Wp.iconst dX6_seenBy_0 (by decide) ?_
  refine sti_4_2 rfl (dSt_n dX6_seenBy_1) ?_
  refine Wp.iconst dX6_seenBy_2 (by decide) ?_
  refine sti_4_3 rfl (dSt_n dX6_seenBy_3) ?_
  exact seenByX_loop d h sh n1 a a0 a1 _ 0 0 (Nat.lt_succ_self _) (by omega) n0 rfl

theorem mcountX_loop (d : Nat) (h : mH) (sh : Sh h) (mb : MB h) (x : Int) (hx : 0 ≤ x ∧ x ≤ 3) : ∀ (m : Nat) (a s : Int), (hF h 41 6 - a).toNat < m → (0 ≤ a) → (a ≤ hF h 41 6) → (s = ms9 (hA h 49) (hF h 41 6).toNat a.toNat) → Wp m_X6_count (d + 1) 29 [(2, 41), (0, x), (0, s), (0, a)] [] h (fun r t => (∃ y, r = some (0, y) ∧ ((x = 0 → y = hF h 41 7) ∧ (x = 1 → y = hF h 41 5) ∧ (x = 2 → y = hF h 41 6) ∧ (x = 3 → y = ms9 (hA h 49) (hF h 41 6).toNat (hF h 41 6).toNat))) ∧ t = h) := by
  intro m
  induction m with
  | zero => intro a s hm; exact absurd hm (Nat.not_lt_zero _)
  | succ m ih =>
    intro a s hm a0 a1 es
    obtain ⟨⟨r0, r1⟩, ⟨n0, n1⟩, ⟨m0, m1⟩, hp, hq⟩ := id mb
    have hb9 := ms9_bd (hA h 49) (hF h 41 6).toNat (by omega) a.toNat
    have hc9 := cnt9_bd (hA h 49) a (hF h 41 6).toNat
    refine Wp.ild_n (j := 3) rfl dX6_count_29 ?_
    refine Wp.ald_n (j := 0) rfl dX6_count_30 ?_
    refine Wp.getf (k := 6) (tg := 0) kC6 (by decide) rfl lf_X6_141 dX6_count_31 (sK41 (h := h) sh) (show hF _ 41 6 = hF h 41 6 from rfl) ?_
    refine Wp.icge dX6_count_34 (by decide) (tgt := 51) (fun c34 => ?_) (fun c34 => ?_)
    · refine Wp.ild_n (j := 1) rfl dX6_count_51 ?_
      refine Wp.ifne dX6_count_52 (by decide) (tgt := 62) (fun c52 => ?_) (fun c52 => ?_)
      · refine Wp.ild_n (j := 1) rfl dX6_count_62 ?_
        refine Wp.iconst dX6_count_63 (by decide) ?_
        refine Wp.icne dX6_count_64 (by decide) (tgt := 74) (fun c64 => ?_) (fun c64 => ?_)
        · refine Wp.ild_n (j := 1) rfl dX6_count_74 ?_
          refine Wp.iconst dX6_count_75 (by decide) ?_
          refine Wp.icne dX6_count_76 (by decide) (tgt := 86) (fun c76 => ?_) (fun c76 => ?_)
          · refine Wp.ild_n (j := 2) rfl dX6_count_86 ?_
            refine Wp.iret rfl dX6_count_87 ?_
            have ea : a = hF h 41 6 := by omega
            rw [ea] at es
            refine ⟨⟨_, rfl, fun z => ?_, fun z => ?_, fun z => ?_, fun z => ?_⟩, rfl⟩ <;> (first | rfl | omega | exact es)
          · refine Wp.ald_n (j := 0) rfl dX6_count_79 ?_
            refine Wp.getf (k := 6) (tg := 0) kC6 (by decide) rfl lf_X6_141 dX6_count_80 (sK41 (h := h) sh) (show hF _ 41 6 = hF h 41 6 from rfl) ?_
            refine Wp.goto (tgt := 87) dX6_count_83 (by decide) ?_
            refine Wp.iret rfl dX6_count_87 ?_
            have ea : a = hF h 41 6 := by omega
            rw [ea] at es
            refine ⟨⟨_, rfl, fun z => ?_, fun z => ?_, fun z => ?_, fun z => ?_⟩, rfl⟩ <;> (first | rfl | omega | exact es)
        · refine Wp.ald_n (j := 0) rfl dX6_count_67 ?_
          refine Wp.getf (k := 5) (tg := 0) kC6 (by decide) rfl lf_X6_22 dX6_count_68 (sK41 (h := h) sh) (show hF _ 41 5 = hF h 41 5 from rfl) ?_
          refine Wp.goto (tgt := 87) dX6_count_71 (by decide) ?_
          refine Wp.iret rfl dX6_count_87 ?_
          have ea : a = hF h 41 6 := by omega
          rw [ea] at es
          refine ⟨⟨_, rfl, fun z => ?_, fun z => ?_, fun z => ?_, fun z => ?_⟩, rfl⟩ <;> (first | rfl | omega | exact es)
      · refine Wp.ald_n (j := 0) rfl dX6_count_55 ?_
        refine Wp.getf (k := 7) (tg := 0) kC6 (by decide) rfl lf_X6_144 dX6_count_56 (sK41 (h := h) sh) (show hF _ 41 7 = hF h 41 7 from rfl) ?_
        refine Wp.goto (tgt := 87) dX6_count_59 (by decide) ?_
        refine Wp.iret rfl dX6_count_87 ?_
        have ea : a = hF h 41 6 := by omega
        rw [ea] at es
        refine ⟨⟨_, rfl, fun z => ?_, fun z => ?_, fun z => ?_, fun z => ?_⟩, rfl⟩ <;> (first | rfl | omega | exact es)
    · refine Wp.ild_n (j := 2) rfl dX6_count_37 ?_
      refine Wp.ald_n (j := 0) rfl dX6_count_38 ?_
      refine Wp.ild_n (j := 3) rfl dX6_count_39 ?_
      obtain ⟨_, t40, ct40, rfl, e40⟩ := cq_seenByX d h sh n0 n1 a a0 (by omega)
      rw [e40] at ct40
      refine Wp.callV1 (ct40) wc_X6_170 iM_X6_seenBy se_X6_seenBy kC6 (sK41 (h := h) sh) dX6_count_40 rfl (Nat.le_of_ble_eq_true rfl) rfl (Nat.le_of_ble_eq_true rfl) ?_
      refine Wp.iaddE dX6_count_43 (w32_of (by omega) (by omega)) ?_
      refine sti_4_2 rfl (dSt_n dX6_count_44) ?_
      refine inc_4_3 rfl dX6_count_45 (by first | exact w32_of (by omega) (by omega) | rfl) ?_
      refine Wp.goto (tgt := 29) dX6_count_48 (by decide) ?_
      refine ih (a + 1) _ (by omega) (by omega) (by omega) ?_
      rw [es, show (a + 1).toNat = a.toNat + 1 by omega]
      show _ = ms9 (hA h 49) (hF h 41 6).toNat a.toNat + cnt9 (hA h 49) ((a.toNat : Nat) : Int) (hF h 41 6).toNat
      rw [show ((a.toNat : Nat) : Int) = a by omega]

theorem cq_mcountX (d : Nat) (h : mH) (sh : Sh h) (mi : MI h) (x : Int) : Cq m_X6_count (d + 1) [(2, 41), (0, x)] h (fun r t => (∃ y, r = some (0, y) ∧ ((x = 0 → y = hF h 41 7) ∧ (x = 1 → y = hF h 41 5) ∧ (x = 2 → y = hF h 41 6) ∧ (x = 3 → y = ms9 (hA h 49) (hF h 41 6).toNat (hF h 41 6).toNat)) ∧ ((x < 0 ∨ 3 < x) → y = -1)) ∧ MI t ∧ Fr mAq mGq h t) := by
  refine Cq.of ?_
  show Wp m_X6_count ((d + 1)) 0 [(2, 41), (0, x), (9, 0), (9, 0)] [] h _
  refine Wp.ald_n (j := 0) rfl dX6_count_0 ?_
  refine Wp.iconst dX6_count_1 (by decide) ?_
  refine Wp.putf (k := 1) (tg := 0) kC6 (by decide) rfl rfl lf_X6_117 dX6_count_2 (sK41 (h := h) sh) ?_
  refine Wp.ald_n (j := 0) rfl dX6_count_5 ?_
  refine Wp.iconst dX6_count_6 (by decide) ?_
  refine Wp.putf (k := 0) (tg := 0) kC6 (by decide) rfl rfl lf_X6_120 dX6_count_7 (sK41 (h := h) sh) ?_
  refine Wp.ild_n (j := 1) rfl dX6_count_10 ?_
  refine Wp.iflt dX6_count_11 (by decide) (tgt := 19) (fun c11 => ?_) (fun c11 => ?_)
  · refine Wp.ald_n (j := 0) rfl dX6_count_19 ?_
    refine Wp.iconst dX6_count_20 (by decide) ?_
    refine Wp.callV1 (ct_mrefuse d (sF (sF h 41 1 0) 41 0 0) (sK41 (h := h) sh) 2) wc_X6_151 iM_X6_refuse se_X6_refuse kC6 (sK41 (h := h) sh) dX6_count_21 rfl (Nat.le_of_ble_eq_true rfl) rfl (Nat.le_of_ble_eq_true rfl) ?_
    refine Wp.iret rfl dX6_count_24 ?_
    refine ⟨⟨_, rfl, ⟨fun z => ?_, fun z => ?_, fun z => ?_, fun z => ?_⟩, fun z => ?_⟩, mi, ((Fr.f (by decide)).tr ((Fr.f (by decide)).tr (Fr.f (by decide))))⟩ <;> (first | rfl | omega)
  · refine Wp.ild_n (j := 1) rfl dX6_count_14 ?_
    refine Wp.iconst dX6_count_15 (by decide) ?_
    refine Wp.icle dX6_count_16 (by decide) (tgt := 25) (fun c16 => ?_) (fun c16 => ?_)
    · refine Wp.iconst dX6_count_25 (by decide) ?_
      refine sti_4_2 rfl (dSt_n dX6_count_26) ?_
      refine Wp.iconst dX6_count_27 (by decide) ?_
      refine sti_4_3 rfl (dSt_n dX6_count_28) ?_
      refine (mcountX_loop d (sF (sF h 41 1 0) 41 0 0) sh.m0 mi.1 x (by omega) _ 0 0 (Nat.lt_succ_self _) (by omega) mi.1.2.1.1 rfl).mono (fun r t q => ?_)
      obtain ⟨⟨y, hr, hm⟩, rfl⟩ := q
      exact ⟨⟨y, hr, hm, fun z => by omega⟩, mi, ((Fr.f (by decide)).tr (Fr.f (by decide)))⟩
    · refine Wp.ald_n (j := 0) rfl dX6_count_19 ?_
      refine Wp.iconst dX6_count_20 (by decide) ?_
      refine Wp.callV1 (ct_mrefuse d (sF (sF h 41 1 0) 41 0 0) (sK41 (h := h) sh) 2) wc_X6_151 iM_X6_refuse se_X6_refuse kC6 (sK41 (h := h) sh) dX6_count_21 rfl (Nat.le_of_ble_eq_true rfl) rfl (Nat.le_of_ble_eq_true rfl) ?_
      refine Wp.iret rfl dX6_count_24 ?_
      refine ⟨⟨_, rfl, ⟨fun z => ?_, fun z => ?_, fun z => ?_, fun z => ?_⟩, fun z => ?_⟩, mi, ((Fr.f (by decide)).tr ((Fr.f (by decide)).tr (Fr.f (by decide))))⟩ <;> (first | rfl | omega)

theorem cq_mbeatsX (d : Nat) (h : mH) (sh : Sh h) (mi : MI h) (b x : Int) : Cq m_X6_beats (d + 1) [(2, 41), (0, b), (0, x)] h (fun r t => (∃ y, r = some (0, y) ∧ ((¬ ((0 ≤ b ∧ b < hF h 41 6) ∧ 0 ≤ x ∧ x ≤ 3) ∧ y = -1) ∨ (((0 ≤ b ∧ b < hF h 41 6) ∧ 0 ≤ x ∧ x ≤ 3) ∧ (x = 0 → y = hA h 46 b) ∧ (x = 1 → y = w32 (hA h 48 b)) ∧ (x = 2 → y = hA h 45 b) ∧ (x = 3 → y = cnt9 (hA h 49) b (hF h 41 6).toNat)))) ∧ MI t ∧ Fr mAq mGq h t) := by
  refine Cq.of ?_
  show Wp m_X6_beats ((d + 1)) 0 [(2, 41), (0, b), (0, x)] [] h _
  obtain ⟨⟨⟨r0, r1⟩, ⟨n0, n1⟩, ⟨m0, m1⟩, hp, hq⟩, hms, ⟨⟨z0, z1⟩, hsp⟩, hme⟩ := id mi
  refine Wp.ald_n (j := 0) rfl dX6_beats_0 ?_
  refine Wp.iconst dX6_beats_1 (by decide) ?_
  refine Wp.putf (k := 1) (tg := 0) kC6 (by decide) rfl rfl lf_X6_117 dX6_beats_2 (sK41 (h := h) sh) ?_
  refine Wp.ald_n (j := 0) rfl dX6_beats_5 ?_
  refine Wp.iconst dX6_beats_6 (by decide) ?_
  refine Wp.putf (k := 0) (tg := 0) kC6 (by decide) rfl rfl lf_X6_120 dX6_beats_7 (sK41 (h := h) sh) ?_
  refine Wp.ald_n (j := 0) rfl dX6_beats_10 ?_
  refine Wp.ild_n (j := 1) rfl dX6_beats_11 ?_
  refine Wp.callV1 (show Ct m_X6_isBeater d [(2, 41), (0, b)] (sF (sF h 41 1 0) 41 0 0) (some (0, if 0 ≤ b ∧ b < hF h 41 6 then 1 else 0)) (sF (sF h 41 1 0) 41 0 0) from ct_isBeater d (sF (sF h 41 1 0) 41 0 0) (sK41 (h := h) sh) b) wc_X6_154 iM_X6_isBeater se_X6_isBeater kC6 (sK41 (h := h) sh) dX6_beats_12 rfl (Nat.le_of_ble_eq_true rfl) rfl (Nat.le_of_ble_eq_true rfl) ?_
  refine Wp.ifeq dX6_beats_15 (by decide) (tgt := 27) (fun c15 => ?_) (fun c15 => ?_)
  · refine Wp.ald_n (j := 0) rfl dX6_beats_27 ?_
    refine Wp.iconst dX6_beats_28 (by decide) ?_
    refine Wp.callV1 (ct_mrefuse d (sF (sF h 41 1 0) 41 0 0) (sK41 (h := h) sh) 2) wc_X6_151 iM_X6_refuse se_X6_refuse kC6 (sK41 (h := h) sh) dX6_beats_29 rfl (Nat.le_of_ble_eq_true rfl) rfl (Nat.le_of_ble_eq_true rfl) ?_
    refine Wp.iret rfl dX6_beats_32 ?_
    exact ⟨⟨_, rfl, Or.inl ⟨by omega, rfl⟩⟩, mi, ((Fr.f (by decide)).tr ((Fr.f (by decide)).tr (Fr.f (by decide))))⟩
  · refine Wp.ild_n (j := 2) rfl dX6_beats_18 ?_
    refine Wp.iflt dX6_beats_19 (by decide) (tgt := 27) (fun c19 => ?_) (fun c19 => ?_)
    · refine Wp.ald_n (j := 0) rfl dX6_beats_27 ?_
      refine Wp.iconst dX6_beats_28 (by decide) ?_
      refine Wp.callV1 (ct_mrefuse d (sF (sF h 41 1 0) 41 0 0) (sK41 (h := h) sh) 2) wc_X6_151 iM_X6_refuse se_X6_refuse kC6 (sK41 (h := h) sh) dX6_beats_29 rfl (Nat.le_of_ble_eq_true rfl) rfl (Nat.le_of_ble_eq_true rfl) ?_
      refine Wp.iret rfl dX6_beats_32 ?_
      exact ⟨⟨_, rfl, Or.inl ⟨by omega, rfl⟩⟩, mi, ((Fr.f (by decide)).tr ((Fr.f (by decide)).tr (Fr.f (by decide))))⟩
    · refine Wp.ild_n (j := 2) rfl dX6_beats_22 ?_
      refine Wp.iconst dX6_beats_23 (by decide) ?_
      refine Wp.icle dX6_beats_24 (by decide) (tgt := 33) (fun c24 => ?_) (fun c24 => ?_)
      · have hb : 0 ≤ b ∧ b < hF h 41 6 := by
          by_cases hb : 0 ≤ b ∧ b < hF h 41 6
          · exact hb
          · rw [if_neg hb] at c15
            exact absurd rfl c15
        refine Wp.ild_n (j := 2) rfl dX6_beats_33 ?_
        refine Wp.ifne dX6_beats_34 (by decide) (tgt := 46) (fun c34 => ?_) (fun c34 => ?_)
        · refine Wp.ild_n (j := 2) rfl dX6_beats_46 ?_
          refine Wp.iconst dX6_beats_47 (by decide) ?_
          refine Wp.icne dX6_beats_48 (by decide) (tgt := 61) (fun c48 => ?_) (fun c48 => ?_)
          · refine Wp.ild_n (j := 2) rfl dX6_beats_61 ?_
            refine Wp.iconst dX6_beats_62 (by decide) ?_
            refine Wp.icne dX6_beats_63 (by decide) (tgt := 75) (fun c63 => ?_) (fun c63 => ?_)
            · refine Wp.ald_n (j := 0) rfl dX6_beats_75 ?_
              refine Wp.ild_n (j := 1) rfl dX6_beats_76 ?_
              obtain ⟨_, t77, ct77, rfl, e77⟩ := cq_seenByX d (sF (sF h 41 1 0) 41 0 0) sh.m0 n0 n1 b hb.1 (by omega)
              rw [e77] at ct77
              refine Wp.callV1 (ct77) wc_X6_170 iM_X6_seenBy se_X6_seenBy kC6 (sK41 (h := h) sh) dX6_beats_77 rfl (Nat.le_of_ble_eq_true rfl) rfl (Nat.le_of_ble_eq_true rfl) ?_
              refine Wp.iret rfl dX6_beats_80 ?_
              refine ⟨⟨_, rfl, Or.inr ⟨by omega, fun z => ?_, fun z => ?_, fun z => ?_, fun z => ?_⟩⟩, mi, ((Fr.f (by decide)).tr (Fr.f (by decide)))⟩ <;> (first | rfl | omega)
            · refine Wp.ald_n (j := 0) rfl dX6_beats_66 ?_
              refine Wp.getf (k := 9) (tg := 2) kC6 (by decide) rfl lf_X6_29 dX6_beats_67 (sK41 (h := h) sh) (sF41_9 (h := h) sh) ?_
              refine Wp.ild_n (j := 1) rfl dX6_beats_70 ?_
              refine Wp.iaload dX6_beats_71 (sK45 (h := h) sh) (by omega) (ilt (sL45 (h := h) sh) (by omega)) (show hA _ 45 _ = hA h 45 _ from rfl) ?_
              refine Wp.goto (tgt := 80) dX6_beats_72 (by decide) ?_
              refine Wp.iret rfl dX6_beats_80 ?_
              refine ⟨⟨_, rfl, Or.inr ⟨by omega, fun z => ?_, fun z => ?_, fun z => ?_, fun z => ?_⟩⟩, mi, ((Fr.f (by decide)).tr (Fr.f (by decide)))⟩ <;> (first | rfl | omega)
          · refine Wp.ald_n (j := 0) rfl dX6_beats_51 ?_
            refine Wp.getf (k := 12) (tg := 2) kC6 (by decide) rfl lf_X6_38 dX6_beats_52 (sK41 (h := h) sh) (sF41_12 (h := h) sh) ?_
            refine Wp.ild_n (j := 1) rfl dX6_beats_55 ?_
            refine Wp.laload dX6_beats_56 (sK48 (h := h) sh) (by omega) (ilt (sL48 (h := h) sh) (by omega)) (show hA _ 48 _ = hA h 48 _ from rfl) ?_
            refine Wp.l2iE dX6_beats_57 rfl ?_
            refine Wp.goto (tgt := 80) dX6_beats_58 (by decide) ?_
            refine Wp.iret rfl dX6_beats_80 ?_
            refine ⟨⟨_, rfl, Or.inr ⟨by omega, fun z => ?_, fun z => ?_, fun z => ?_, fun z => ?_⟩⟩, mi, ((Fr.f (by decide)).tr (Fr.f (by decide)))⟩ <;> (first | rfl | omega)
        · refine Wp.ald_n (j := 0) rfl dX6_beats_37 ?_
          refine Wp.getf (k := 10) (tg := 2) kC6 (by decide) rfl lf_X6_32 dX6_beats_38 (sK41 (h := h) sh) (sF41_10 (h := h) sh) ?_
          refine Wp.ild_n (j := 1) rfl dX6_beats_41 ?_
          refine Wp.iaload dX6_beats_42 (sK46 (h := h) sh) (by omega) (ilt (sL46 (h := h) sh) (by omega)) (show hA _ 46 _ = hA h 46 _ from rfl) ?_
          refine Wp.goto (tgt := 80) dX6_beats_43 (by decide) ?_
          refine Wp.iret rfl dX6_beats_80 ?_
          refine ⟨⟨_, rfl, Or.inr ⟨by omega, fun z => ?_, fun z => ?_, fun z => ?_, fun z => ?_⟩⟩, mi, ((Fr.f (by decide)).tr (Fr.f (by decide)))⟩ <;> (first | rfl | omega)
      · refine Wp.ald_n (j := 0) rfl dX6_beats_27 ?_
        refine Wp.iconst dX6_beats_28 (by decide) ?_
        refine Wp.callV1 (ct_mrefuse d (sF (sF h 41 1 0) 41 0 0) (sK41 (h := h) sh) 2) wc_X6_151 iM_X6_refuse se_X6_refuse kC6 (sK41 (h := h) sh) dX6_beats_29 rfl (Nat.le_of_ble_eq_true rfl) rfl (Nat.le_of_ble_eq_true rfl) ?_
        refine Wp.iret rfl dX6_beats_32 ?_
        exact ⟨⟨_, rfl, Or.inl ⟨by omega, rfl⟩⟩, mi, ((Fr.f (by decide)).tr ((Fr.f (by decide)).tr (Fr.f (by decide))))⟩

theorem cq_misSetX (d : Nat) (h : mH) (hk : hK h 41 = 6) (s : Int) : Cq m_X6_isSet d [(2, 41), (0, s)] h (fun r t => (∃ y, r = some (0, y) ∧ ((y = 0 ∧ ¬ (0 ≤ s ∧ s < kshl 1 (hF h 41 6))) ∨ (y = 1 ∧ (0 ≤ s ∧ s < kshl 1 (hF h 41 6))))) ∧ t = h) := by
  refine Cq.of ?_
  show Wp m_X6_isSet (d) 0 [(2, 41), (0, s)] [] h _
  refine Wp.ild_n (j := 1) rfl dX6_isSet_0 ?_
  refine Wp.iflt dX6_isSet_1 (by decide) (tgt := 18) (fun c1 => ?_) (fun c1 => ?_)
  · refine Wp.iconst dX6_isSet_18 (by decide) ?_
    refine Wp.zret rfl dX6_isSet_19 (by omega) ?_
    first
    | exact ⟨⟨_, rfl, Or.inl ⟨rfl, by omega⟩⟩, rfl⟩
    | exact ⟨⟨_, rfl, Or.inr ⟨rfl, by omega⟩⟩, rfl⟩
  · refine Wp.ild_n (j := 1) rfl dX6_isSet_4 ?_
    refine Wp.iconst dX6_isSet_5 (by decide) ?_
    refine Wp.ald_n (j := 0) rfl dX6_isSet_6 ?_
    refine Wp.getf (k := 6) (tg := 0) kC6 (by decide) rfl lf_X6_141 dX6_isSet_7 hk (show hF _ 41 6 = hF h 41 6 from rfl) ?_
    refine Wp.ishl dX6_isSet_10 ?_
    refine Wp.icge dX6_isSet_11 (by decide) (tgt := 18) (fun c11 => ?_) (fun c11 => ?_)
    · refine Wp.iconst dX6_isSet_18 (by decide) ?_
      refine Wp.zret rfl dX6_isSet_19 (by omega) ?_
      first
      | exact ⟨⟨_, rfl, Or.inl ⟨rfl, by omega⟩⟩, rfl⟩
      | exact ⟨⟨_, rfl, Or.inr ⟨rfl, by omega⟩⟩, rfl⟩
    · refine Wp.iconst dX6_isSet_14 (by decide) ?_
      refine Wp.goto (tgt := 19) dX6_isSet_15 (by decide) ?_
      refine Wp.zret rfl dX6_isSet_19 (by omega) ?_
      first
      | exact ⟨⟨_, rfl, Or.inl ⟨rfl, by omega⟩⟩, rfl⟩
      | exact ⟨⟨_, rfl, Or.inr ⟨rfl, by omega⟩⟩, rfl⟩

theorem misInX_loop (d : Nat) (h : mH) (sh : Sh h) (n1 : hF h 41 6 ≤ 24) (ra : Int) (kr : hK h ra = 10) (lr : hL h ra = 24) (hr : ∀ j, 0 ≤ j → j < hF h 41 6 → 0 ≤ hA h ra j) (s : Int) : ∀ (m : Nat) (k p : Int), (hF h 41 6 - k).toNat < m → (0 ≤ k) → (IS (hA h ra) s k p) → Wp m_X6_isInStep d 5 [(2, 41), (2, ra), (0, s), (0, p), (0, k)] [] h (fun r t => (∃ y, r = some (0, y) ∧ (y = 0 ∨ y = 1) ∧ (y = 1 ↔ sp9 (hA h ra) (hF h 41 6) s)) ∧ t = h) := by
  intro m
  induction m with
  | zero => intro k p hm; exact absurd hm (Nat.not_lt_zero _)
  | succ m ih =>
    intro k p hm k0 is
    refine Wp.ild (j := 4) rfl dX6_isInStep_5 ?_
    refine Wp.ald_n (j := 0) rfl dX6_isInStep_7 ?_
    refine Wp.getf (k := 6) (tg := 0) kC6 (by decide) rfl lf_X6_141 dX6_isInStep_8 (sK41 (h := h) sh) (show hF _ 41 6 = hF h 41 6 from rfl) ?_
    refine Wp.icge dX6_isInStep_11 (by decide) (tgt := 51) (fun c11 => ?_) (fun c11 => ?_)
    · refine Wp.iconst dX6_isInStep_51 (by decide) ?_
      refine Wp.zret rfl dX6_isInStep_52 (by omega) ?_
      first
      | exact ⟨⟨_, rfl, Or.inr rfl, fun _ => is.done (by omega), fun _ => rfl⟩, rfl⟩
      | exact ⟨⟨_, rfl, Or.inl rfl, fun z => absurd z (by decide), fun z => absurd z (is.bad k0 (by omega) (show ¬ kand (kshr s k) 1 = 0 by assumption) (by omega) (by omega))⟩, rfl⟩
    · refine Wp.ild_n (j := 2) rfl dX6_isInStep_14 ?_
      refine Wp.ild (j := 4) rfl dX6_isInStep_15 ?_
      refine Wp.ishr dX6_isInStep_17 ?_
      refine Wp.iconst dX6_isInStep_18 (by decide) ?_
      refine Wp.iand dX6_isInStep_19 ?_
      refine Wp.ifne dX6_isInStep_20 (by decide) (tgt := 26) (fun c20 => ?_) (fun c20 => ?_)
      · refine Wp.ild_n (j := 3) rfl dX6_isInStep_26 ?_
        refine Wp.iflt dX6_isInStep_27 (by decide) (tgt := 40) (fun c27 => ?_) (fun c27 => ?_)
        · refine Wp.ald_n (j := 1) rfl dX6_isInStep_40 ?_
          refine Wp.ild (j := 4) rfl dX6_isInStep_41 ?_
          refine Wp.iaload dX6_isInStep_43 kr (by omega) (ilt lr (by omega)) (show hA _ ra _ = hA h ra _ from rfl) ?_
          refine sti_5_3 rfl (dSt_n dX6_isInStep_44) ?_
          refine inc_5_4 rfl dX6_isInStep_45 (by first | exact w32_of (by omega) (by omega) | rfl) ?_
          refine Wp.goto (tgt := 5) dX6_isInStep_48 (by decide) ?_
          have hf : ∀ j, 0 ≤ j → j < k → 0 ≤ hA h ra j := fun j j0 j1 => hr j j0 (by omega)
          first
          | exact ih (k + 1) _ (by omega) (by omega) (is.no (fun z => absurd (show kand (kshr s k) 1 = 0 by first | assumption | omega) z))
          | exact ih (k + 1) _ (by omega) (by omega) (is.yes k0 (show ¬ kand (kshr s k) 1 = 0 by assumption) hf (Or.inl (is.neg hf (by omega))))
          | exact ih (k + 1) _ (by omega) (by omega) (is.yes k0 (show ¬ kand (kshr s k) 1 = 0 by assumption) hf (Or.inr (by omega)))
        · refine Wp.ald_n (j := 1) rfl dX6_isInStep_30 ?_
          refine Wp.ild (j := 4) rfl dX6_isInStep_31 ?_
          refine Wp.iaload dX6_isInStep_33 kr (by omega) (ilt lr (by omega)) (show hA _ ra _ = hA h ra _ from rfl) ?_
          refine Wp.ild_n (j := 3) rfl dX6_isInStep_34 ?_
          refine Wp.iceq dX6_isInStep_35 (by decide) (tgt := 40) (fun c35 => ?_) (fun c35 => ?_)
          · refine Wp.ald_n (j := 1) rfl dX6_isInStep_40 ?_
            refine Wp.ild (j := 4) rfl dX6_isInStep_41 ?_
            refine Wp.iaload dX6_isInStep_43 kr (by omega) (ilt lr (by omega)) (show hA _ ra _ = hA h ra _ from rfl) ?_
            refine sti_5_3 rfl (dSt_n dX6_isInStep_44) ?_
            refine inc_5_4 rfl dX6_isInStep_45 (by first | exact w32_of (by omega) (by omega) | rfl) ?_
            refine Wp.goto (tgt := 5) dX6_isInStep_48 (by decide) ?_
            have hf : ∀ j, 0 ≤ j → j < k → 0 ≤ hA h ra j := fun j j0 j1 => hr j j0 (by omega)
            first
            | exact ih (k + 1) _ (by omega) (by omega) (is.no (fun z => absurd (show kand (kshr s k) 1 = 0 by first | assumption | omega) z))
            | exact ih (k + 1) _ (by omega) (by omega) (is.yes k0 (show ¬ kand (kshr s k) 1 = 0 by assumption) hf (Or.inl (is.neg hf (by omega))))
            | exact ih (k + 1) _ (by omega) (by omega) (is.yes k0 (show ¬ kand (kshr s k) 1 = 0 by assumption) hf (Or.inr (by omega)))
          · refine Wp.iconst dX6_isInStep_38 (by decide) ?_
            refine Wp.zret rfl dX6_isInStep_39 (by omega) ?_
            first
            | exact ⟨⟨_, rfl, Or.inr rfl, fun _ => is.done (by omega), fun _ => rfl⟩, rfl⟩
            | exact ⟨⟨_, rfl, Or.inl rfl, fun z => absurd z (by decide), fun z => absurd z (is.bad k0 (by omega) (show ¬ kand (kshr s k) 1 = 0 by assumption) (by omega) (by omega))⟩, rfl⟩
      · refine Wp.goto (tgt := 45) dX6_isInStep_23 (by decide) ?_
        refine inc_5_4 rfl dX6_isInStep_45 (by first | exact w32_of (by omega) (by omega) | rfl) ?_
        refine Wp.goto (tgt := 5) dX6_isInStep_48 (by decide) ?_
        have hf : ∀ j, 0 ≤ j → j < k → 0 ≤ hA h ra j := fun j j0 j1 => hr j j0 (by omega)
        first
        | exact ih (k + 1) _ (by omega) (by omega) (is.no (fun z => absurd (show kand (kshr s k) 1 = 0 by first | assumption | omega) z))
        | exact ih (k + 1) _ (by omega) (by omega) (is.yes k0 (show ¬ kand (kshr s k) 1 = 0 by assumption) hf (Or.inl (is.neg hf (by omega))))
        | exact ih (k + 1) _ (by omega) (by omega) (is.yes k0 (show ¬ kand (kshr s k) 1 = 0 by assumption) hf (Or.inr (by omega)))

theorem cq_misInStepX (d : Nat) (h : mH) (sh : Sh h) (n1 : hF h 41 6 ≤ 24) (ra : Int) (kr : hK h ra = 10) (lr : hL h ra = 24) (hr : ∀ j, 0 ≤ j → j < hF h 41 6 → 0 ≤ hA h ra j) (s : Int) : Cq m_X6_isInStep d [(2, 41), (2, ra), (0, s)] h (fun r t => (∃ y, r = some (0, y) ∧ (y = 0 ∨ y = 1) ∧ (y = 1 ↔ sp9 (hA h ra) (hF h 41 6) s)) ∧ t = h) := by
  refine Cq.of ?_
  show Wp m_X6_isInStep (d) 0 [(2, 41), (2, ra), (0, s), (9, 0), (9, 0)] [] h _
  refine Wp.iconst dX6_isInStep_0 (by decide) ?_
  refine sti_5_3 rfl (dSt_n dX6_isInStep_1) ?_
  refine Wp.iconst dX6_isInStep_2 (by decide) ?_
  refine sti_5_4 rfl (dSt_w dX6_isInStep_3) ?_
  exact misInX_loop d h sh n1 ra kr lr hr s _ 0 _ (Nat.lt_succ_self _) (by omega) IS.zero

theorem cq_mstepX (d : Nat) (h : mH) (sh : Sh h) (mi : MI h) (x : Int) : Cq m_X6_step (d + 1) [(2, 41), (0, x)] h (fun r t => (∃ y, r = some (0, y) ∧ ((¬ (0 ≤ x ∧ x < kshl 1 (hF h 41 6)) ∧ y = -1) ∨ ((0 ≤ x ∧ x < kshl 1 (hF h 41 6)) ∧ (y = 0 ∨ y = 1) ∧ (y = 1 ↔ sp9 (hA h 46) (hF h 41 6) x)))) ∧ MI t ∧ Fr mAq mGq h t) := by
  refine Cq.of ?_
  show Wp m_X6_step ((d + 1)) 0 [(2, 41), (0, x)] [] h _
  obtain ⟨⟨⟨r0, r1⟩, ⟨n0, n1⟩, ⟨m0, m1⟩, hp, hq⟩, hms, ⟨⟨z0, z1⟩, hsp⟩, hme⟩ := id mi
  refine Wp.ald_n (j := 0) rfl dX6_step_0 ?_
  refine Wp.iconst dX6_step_1 (by decide) ?_
  refine Wp.putf (k := 1) (tg := 0) kC6 (by decide) rfl rfl lf_X6_117 dX6_step_2 (sK41 (h := h) sh) ?_
  refine Wp.ald_n (j := 0) rfl dX6_step_5 ?_
  refine Wp.iconst dX6_step_6 (by decide) ?_
  refine Wp.putf (k := 0) (tg := 0) kC6 (by decide) rfl rfl lf_X6_120 dX6_step_7 (sK41 (h := h) sh) ?_
  refine Wp.ald_n (j := 0) rfl dX6_step_10 ?_
  refine Wp.ild_n (j := 1) rfl dX6_step_11 ?_
  obtain ⟨_, tq, ctq, ⟨yq, rfl, hyq⟩, eq⟩ := cq_misSetX d (sF (sF h 41 1 0) 41 0 0) (sK41 (h := h) sh) x
  rw [eq] at ctq
  have hyq : (yq = 0 ∧ ¬ (0 ≤ x ∧ x < kshl 1 (hF h 41 6))) ∨ (yq = 1 ∧ (0 ≤ x ∧ x < kshl 1 (hF h 41 6))) := hyq
  refine Wp.callV1 (ctq) wc_X6_173 iM_X6_isSet se_X6_isSet kC6 (sK41 (h := h) sh) dX6_step_12 rfl (Nat.le_of_ble_eq_true rfl) rfl (Nat.le_of_ble_eq_true rfl) ?_
  refine Wp.ifne dX6_step_15 (by decide) (tgt := 24) (fun c15 => ?_) (fun c15 => ?_)
  · refine Wp.ald_n (j := 0) rfl dX6_step_24 ?_
    refine Wp.ald_n (j := 0) rfl dX6_step_25 ?_
    refine Wp.getf (k := 10) (tg := 2) kC6 (by decide) rfl lf_X6_32 dX6_step_26 (sK41 (h := h) sh) (sF41_10 (h := h) sh) ?_
    refine Wp.ild_n (j := 1) rfl dX6_step_29 ?_
    obtain ⟨_, t30, ct30, ⟨y30, rfl, hy30, hs30⟩, e30⟩ := cq_misInStepX d (sF (sF h 41 1 0) 41 0 0) sh.m0 n1 46 (sK46 (h := h) sh) (sL46 (h := h) sh) (fun j j0 j1 => (hp j j0 j1).1) x
    rw [e30] at ct30
    have hs30 : y30 = 1 ↔ sp9 (hA h 46) (hF h 41 6) x := hs30
    refine Wp.callV1 (ct30) wc_X6_176 iM_X6_isInStep se_X6_isInStep kC6 (sK41 (h := h) sh) dX6_step_30 rfl (Nat.le_of_ble_eq_true rfl) rfl (Nat.le_of_ble_eq_true rfl) ?_
    refine Wp.ifeq dX6_step_33 (by decide) (tgt := 40) (fun c33 => ?_) (fun c33 => ?_)
    · refine Wp.iconst dX6_step_40 (by decide) ?_
      refine Wp.iret rfl dX6_step_41 ?_
      exact ⟨⟨_, rfl, Or.inr ⟨by omega, Or.inl rfl, fun z => absurd z (by decide), fun z => absurd (hs30.mpr z) (by omega)⟩⟩, mi, ((Fr.f (by decide)).tr (Fr.f (by decide)))⟩
    · refine Wp.iconst dX6_step_36 (by decide) ?_
      refine Wp.goto (tgt := 41) dX6_step_37 (by decide) ?_
      refine Wp.iret rfl dX6_step_41 ?_
      exact ⟨⟨_, rfl, Or.inr ⟨by omega, Or.inr rfl, fun _ => hs30.mp (by omega), fun _ => rfl⟩⟩, mi, ((Fr.f (by decide)).tr (Fr.f (by decide)))⟩
  · refine Wp.ald_n (j := 0) rfl dX6_step_18 ?_
    refine Wp.iconst dX6_step_19 (by decide) ?_
    refine Wp.callV1 (ct_mrefuse d (sF (sF h 41 1 0) 41 0 0) (sK41 (h := h) sh) 2) wc_X6_151 iM_X6_refuse se_X6_refuse kC6 (sK41 (h := h) sh) dX6_step_20 rfl (Nat.le_of_ble_eq_true rfl) rfl (Nat.le_of_ble_eq_true rfl) ?_
    refine Wp.iret rfl dX6_step_23 ?_
    exact ⟨⟨_, rfl, Or.inl ⟨by omega, rfl⟩⟩, mi, ((Fr.f (by decide)).tr ((Fr.f (by decide)).tr (Fr.f (by decide))))⟩

theorem marcX1 (d : Nat) (h : mH) (sh : Sh h) (mb : MB h) (x best a : Int) (a0 : 0 ≤ a ∧ a < hF h 41 6) (Q : Option mV → mH → Prop) (kq : ∀ b : Int, Wp m_X6_arc (d + 1) 116 [(2, 41), (0, x), (0, best), (0, a), (0, af9 (hA h 46) (hF h 41 5) x (hA h 46 a) (hF h 41 6).toNat), (0, b)] [] h Q) : ∀ (m : Nat) (b f : Int), (hF h 41 6 - b).toNat < m → (0 ≤ b) → (b ≤ hF h 41 6) → (f = af9 (hA h 46) (hF h 41 5) x (hA h 46 a) b.toNat) → Wp m_X6_arc (d + 1) 60 [(2, 41), (0, x), (0, best), (0, a), (0, f), (0, b)] [] h Q := by
  intro m
  induction m with
  | zero => intro b f hm; exact absurd hm (Nat.not_lt_zero _)
  | succ m ih =>
    intro b f hm b0 b1 ef
    obtain ⟨⟨r0, r1⟩, ⟨n0, n1⟩, ⟨m0, m1⟩, hp, hq⟩ := id mb
    refine Wp.ild (j := 5) rfl dX6_arc_60 ?_
    refine Wp.ald_n (j := 0) rfl dX6_arc_62 ?_
    refine Wp.getf (k := 6) (tg := 0) kC6 (by decide) rfl lf_X6_141 dX6_arc_63 (sK41 (h := h) sh) (show hF _ 41 6 = hF h 41 6 from rfl) ?_
    refine Wp.icge dX6_arc_66 (by decide) (tgt := 116) (fun c66 => ?_) (fun c66 => ?_)
    · have eb : b = hF h 41 6 := by omega
      have ef2 := ef
      rw [eb] at ef2
      rw [ef2]
      exact kq _
    · refine Wp.ild_n (j := 1) rfl dX6_arc_69 ?_
      refine Wp.ild (j := 5) rfl dX6_arc_70 ?_
      refine Wp.ishr dX6_arc_72 ?_
      refine Wp.iconst dX6_arc_73 (by decide) ?_
      refine Wp.iand dX6_arc_74 ?_
      refine Wp.iconst dX6_arc_75 (by decide) ?_
      refine Wp.icne dX6_arc_76 (by decide) (tgt := 110) (fun c76 => ?_) (fun c76 => ?_)
      · refine inc_6_5 rfl dX6_arc_110 (by first | exact w32_of (by omega) (by omega) | rfl) ?_
        refine Wp.goto (tgt := 60) dX6_arc_113 (by decide) ?_
        have k1 := kand1 (kshr x b)
        exact ih (b + 1) _ (by omega) (by omega) (by omega) (by rw [af9_s b0, if_pos (by omega)]; exact ef)
      · have hb := hp b b0 (by omega)
        have ha := hp a a0.1 (by omega)
        refine Wp.ild (j := 4) rfl dX6_arc_79 ?_
        refine Wp.ald_n (j := 0) rfl dX6_arc_81 ?_
        refine Wp.getf (k := 10) (tg := 2) kC6 (by decide) rfl lf_X6_32 dX6_arc_82 (sK41 (h := h) sh) (sF41_10 (h := h) sh) ?_
        refine Wp.ild (j := 5) rfl dX6_arc_85 ?_
        refine Wp.iaload dX6_arc_87 (sK46 (h := h) sh) (by omega) (ilt (sL46 (h := h) sh) (by omega)) (show hA _ 46 _ = hA h 46 _ from rfl) ?_
        refine Wp.ald_n (j := 0) rfl dX6_arc_88 ?_
        refine Wp.getf (k := 10) (tg := 2) kC6 (by decide) rfl lf_X6_32 dX6_arc_89 (sK41 (h := h) sh) (sF41_10 (h := h) sh) ?_
        refine Wp.ild_n (j := 3) rfl dX6_arc_92 ?_
        refine Wp.iaload dX6_arc_93 (sK46 (h := h) sh) (by omega) (ilt (sL46 (h := h) sh) (by omega)) (show hA _ 46 _ = hA h 46 _ from rfl) ?_
        refine Wp.isubE dX6_arc_94 (by first | exact w32_of (by omega) (by omega) | rfl) ?_
        refine Wp.ald_n (j := 0) rfl dX6_arc_95 ?_
        refine Wp.getf (k := 5) (tg := 0) kC6 (by decide) rfl lf_X6_22 dX6_arc_96 (sK41 (h := h) sh) (show hF _ 41 5 = hF h 41 5 from rfl) ?_
        refine Wp.iaddE dX6_arc_99 (by first | exact w32_of (by omega) (by omega) | rfl) ?_
        refine Wp.ald_n (j := 0) rfl dX6_arc_100 ?_
        refine Wp.getf (k := 5) (tg := 0) kC6 (by decide) rfl lf_X6_22 dX6_arc_101 (sK41 (h := h) sh) (show hF _ 41 5 = hF h 41 5 from rfl) ?_
        refine Wp.iremE dX6_arc_104 (by omega) rfl ?_
        refine Wp.mmax wm_X6_180 dX6_arc_105 (Nat.le_of_ble_eq_true rfl) ?_
        refine sti_6_4 rfl (dSt_w dX6_arc_108) ?_
        refine inc_6_5 rfl dX6_arc_110 (by first | exact w32_of (by omega) (by omega) | rfl) ?_
        refine Wp.goto (tgt := 60) dX6_arc_113 (by decide) ?_
        exact ih (b + 1) _ (by omega) (by omega) (by omega) (by rw [wrp_mw (by omega) (by omega), af9_s b0, if_neg (by omega), ← ef])

theorem marcX2 (d : Nat) (h : mH) (sh : Sh h) (mb : MB h) (x : Int) : ∀ (m : Nat) (a best : Int) (x4 x5 : mV), (hF h 41 6 - a).toNat < m → (0 ≤ a) → (a ≤ hF h 41 6) → (best = la9 (hA h 46) (hF h 41 5) x (hF h 41 6).toNat a.toNat) → Wp m_X6_arc (d + 1) 35 [(2, 41), (0, x), (0, best), (0, a), x4, x5] [] h (fun r t => r = some (0, la9 (hA h 46) (hF h 41 5) x (hF h 41 6).toNat (hF h 41 6).toNat) ∧ t = h) := by
  intro m
  induction m with
  | zero => intro a best x4 x5 hm; exact absurd hm (Nat.not_lt_zero _)
  | succ m ih =>
    intro a best x4 x5 hm a0 a1 ef
    obtain ⟨⟨r0, r1⟩, ⟨n0, n1⟩, ⟨m0, m1⟩, hp, hq⟩ := id mb
    refine Wp.ild_n (j := 3) rfl dX6_arc_35 ?_
    refine Wp.ald_n (j := 0) rfl dX6_arc_36 ?_
    refine Wp.getf (k := 6) (tg := 0) kC6 (by decide) rfl lf_X6_141 dX6_arc_37 (sK41 (h := h) sh) (show hF _ 41 6 = hF h 41 6 from rfl) ?_
    refine Wp.icge dX6_arc_40 (by decide) (tgt := 129) (fun c40 => ?_) (fun c40 => ?_)
    · refine Wp.ild_n (j := 2) rfl dX6_arc_129 ?_
      refine Wp.iret rfl dX6_arc_130 ?_
      have ea : a = hF h 41 6 := by omega
      exact ⟨by rw [ef, ea], rfl⟩
    · refine Wp.ild_n (j := 1) rfl dX6_arc_43 ?_
      refine Wp.ild_n (j := 3) rfl dX6_arc_44 ?_
      refine Wp.ishr dX6_arc_45 ?_
      refine Wp.iconst dX6_arc_46 (by decide) ?_
      refine Wp.iand dX6_arc_47 ?_
      refine Wp.ifne dX6_arc_48 (by decide) (tgt := 54) (fun c48 => ?_) (fun c48 => ?_)
      · refine Wp.iconst dX6_arc_54 (by decide) ?_
        refine sti_6_4 rfl (dSt_w dX6_arc_55) ?_
        refine Wp.iconst dX6_arc_57 (by decide) ?_
        refine sti_6_5 rfl (dSt_w dX6_arc_58) ?_
        refine marcX1 d h sh mb x best a ⟨a0, by omega⟩ _ (fun b => ?_) _ 0 0 (Nat.lt_succ_self _) (by omega) n0 rfl
        refine Wp.ild_n (j := 2) rfl dX6_arc_116 ?_
        refine Wp.ild (j := 4) rfl dX6_arc_117 ?_
        refine Wp.mmin wm_X6_185 dX6_arc_119 (Nat.le_of_ble_eq_true rfl) ?_
        refine sti_6_2 rfl (dSt_n dX6_arc_122) ?_
        refine inc_6_3 rfl dX6_arc_123 (w32_of (by omega) (by omega)) ?_
        refine Wp.goto (tgt := 35) dX6_arc_126 (by decide) ?_
        exact ih (a + 1) _ _ _ (by omega) (by omega) (by omega) (by rw [la9_s a0, if_neg (by first | assumption | omega), ← ef])
      · refine Wp.goto (tgt := 123) dX6_arc_51 (by decide) ?_
        refine inc_6_3 rfl dX6_arc_123 (by first | exact w32_of (by omega) (by omega) | rfl) ?_
        refine Wp.goto (tgt := 35) dX6_arc_126 (by decide) ?_
        exact ih (a + 1) _ _ _ (by omega) (by omega) (by omega) (by rw [la9_s a0, if_pos (by first | assumption | omega)]; exact ef)

theorem cq_marcX (d : Nat) (h : mH) (sh : Sh h) (mi : MI h) (x : Int) : Cq m_X6_arc (d + 1) [(2, 41), (0, x)] h (fun r t => (∃ y, r = some (0, y) ∧ (((¬ (0 ≤ x ∧ x < kshl 1 (hF h 41 6)) ∨ x = 0) ∧ y = -1) ∨ (((0 ≤ x ∧ x < kshl 1 (hF h 41 6)) ∧ x ≠ 0) ∧ y = la9 (hA h 46) (hF h 41 5) x (hF h 41 6).toNat (hF h 41 6).toNat))) ∧ MI t ∧ Fr mAq mGq h t) := by
  refine Cq.of ?_
  show Wp m_X6_arc ((d + 1)) 0 [(2, 41), (0, x), (9, 0), (9, 0), (9, 0), (9, 0)] [] h _
  refine Wp.ald_n (j := 0) rfl dX6_arc_0 ?_
  refine Wp.iconst dX6_arc_1 (by decide) ?_
  refine Wp.putf (k := 1) (tg := 0) kC6 (by decide) rfl rfl lf_X6_117 dX6_arc_2 (sK41 (h := h) sh) ?_
  refine Wp.ald_n (j := 0) rfl dX6_arc_5 ?_
  refine Wp.iconst dX6_arc_6 (by decide) ?_
  refine Wp.putf (k := 0) (tg := 0) kC6 (by decide) rfl rfl lf_X6_120 dX6_arc_7 (sK41 (h := h) sh) ?_
  refine Wp.ald_n (j := 0) rfl dX6_arc_10 ?_
  refine Wp.ild_n (j := 1) rfl dX6_arc_11 ?_
  obtain ⟨_, tq, ctq, ⟨yq, rfl, hyq⟩, eq⟩ := cq_misSetX d (sF (sF h 41 1 0) 41 0 0) (sK41 (h := h) sh) x
  rw [eq] at ctq
  have hyq : (yq = 0 ∧ ¬ (0 ≤ x ∧ x < kshl 1 (hF h 41 6))) ∨ (yq = 1 ∧ (0 ≤ x ∧ x < kshl 1 (hF h 41 6))) := hyq
  refine Wp.callV1 (ctq) wc_X6_173 iM_X6_isSet se_X6_isSet kC6 (sK41 (h := h) sh) dX6_arc_12 rfl (Nat.le_of_ble_eq_true rfl) rfl (Nat.le_of_ble_eq_true rfl) ?_
  refine Wp.ifeq dX6_arc_15 (by decide) (tgt := 22) (fun c15 => ?_) (fun c15 => ?_)
  · refine Wp.ald_n (j := 0) rfl dX6_arc_22 ?_
    refine Wp.iconst dX6_arc_23 (by decide) ?_
    refine Wp.callV1 (ct_mrefuse d (sF (sF h 41 1 0) 41 0 0) (sK41 (h := h) sh) 2) wc_X6_151 iM_X6_refuse se_X6_refuse kC6 (sK41 (h := h) sh) dX6_arc_24 rfl (Nat.le_of_ble_eq_true rfl) rfl (Nat.le_of_ble_eq_true rfl) ?_
    refine Wp.iret rfl dX6_arc_27 ?_
    exact ⟨⟨_, rfl, Or.inl ⟨by omega, rfl⟩⟩, mi, ((Fr.f (by decide)).tr ((Fr.f (by decide)).tr (Fr.f (by decide))))⟩
  · refine Wp.ild_n (j := 1) rfl dX6_arc_18 ?_
    refine Wp.ifne dX6_arc_19 (by decide) (tgt := 28) (fun c19 => ?_) (fun c19 => ?_)
    · refine Wp.ald_n (j := 0) rfl dX6_arc_28 ?_
      refine Wp.getf (k := 5) (tg := 0) kC6 (by decide) rfl lf_X6_22 dX6_arc_29 (sK41 (h := h) sh) (show hF _ 41 5 = hF h 41 5 from rfl) ?_
      refine sti_6_2 rfl (dSt_n dX6_arc_32) ?_
      refine Wp.iconst dX6_arc_33 (by decide) ?_
      refine sti_6_3 rfl (dSt_n dX6_arc_34) ?_
      refine (marcX2 d (sF (sF h 41 1 0) 41 0 0) sh.m0 mi.1 x _ 0 _ _ _ (Nat.lt_succ_self _) (by omega) mi.1.2.1.1 rfl).mono (fun r t q => ?_)
      obtain ⟨rfl, rfl⟩ := q
      exact ⟨⟨_, rfl, Or.inr ⟨by omega, rfl⟩⟩, mi, ((Fr.f (by decide)).tr (Fr.f (by decide)))⟩
    · refine Wp.ald_n (j := 0) rfl dX6_arc_22 ?_
      refine Wp.iconst dX6_arc_23 (by decide) ?_
      refine Wp.callV1 (ct_mrefuse d (sF (sF h 41 1 0) 41 0 0) (sK41 (h := h) sh) 2) wc_X6_151 iM_X6_refuse se_X6_refuse kC6 (sK41 (h := h) sh) dX6_arc_24 rfl (Nat.le_of_ble_eq_true rfl) rfl (Nat.le_of_ble_eq_true rfl) ?_
      refine Wp.iret rfl dX6_arc_27 ?_
      exact ⟨⟨_, rfl, Or.inl ⟨by omega, rfl⟩⟩, mi, ((Fr.f (by decide)).tr ((Fr.f (by decide)).tr (Fr.f (by decide))))⟩

