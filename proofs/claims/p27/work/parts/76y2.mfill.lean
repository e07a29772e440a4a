theorem statesX_loop (d : Nat) (h : mH) (sh : Sh h) (mb : MB h) (nz : hF h 41 6 ≠ 0) : ∀ (m : Nat) (k s : Int), (hF h 41 6 - k).toNat < m → (0 ≤ k) → (k ≤ hF h 41 6) → (s = hF h 41 5 ^ k.toNat) → (1 ≤ s) → (s ≤ 20736) → Wp m_X6_states d 13 [(2, 41), (0, s), (0, k)] [] h (fun r t => (∃ y, r = some (0, y) ∧ ((y = -1 ∧ (hF h 41 6 = 0 ∨ 20736 < hF h 41 5 ^ (hF h 41 6).toNat)) ∨ (y = hF h 41 5 ^ (hF h 41 6).toNat ∧ 1 ≤ y ∧ y ≤ 20736 ∧ hF h 41 6 ≠ 0))) ∧ t = h) := by
  intro m
  induction m with
  | zero => intro k s hm; exact absurd hm (Nat.not_lt_zero _)
  | succ m ih =>
    intro k s hm k0 k1 es s0 s1
    obtain ⟨⟨r0, r1⟩, ⟨n0, n1⟩, ⟨m0, m1⟩, hp, hq⟩ := id mb
    have hm := Int.mul_le_mul s1 r1 (by omega) (by omega)
    have hm0 := Int.mul_nonneg (show 0 ≤ s by omega) (show 0 ≤ hF h 41 5 by omega)
    refine Wp.ild_n (j := 2) rfl dX6_states_13 ?_
    refine Wp.ald_n (j := 0) rfl dX6_states_14 ?_
    refine Wp.getf (k := 6) (tg := 0) kC6 (by decide) rfl lf_X6_141 dX6_states_15 (sK41 (h := h) sh) (show hF _ 41 6 = hF h 41 6 from rfl) ?_
    refine Wp.icge dX6_states_18 (by decide) (tgt := 51) (fun c18 => ?_) (fun c18 => ?_)
    · refine Wp.ild_n (j := 1) rfl dX6_states_51 ?_
      refine Wp.iret rfl dX6_states_52 ?_
      refine ⟨⟨_, rfl, Or.inr ⟨?_, s0, s1, nz⟩⟩, rfl⟩
      rw [es, show k = hF h 41 6 by omega]
    · refine Wp.ild_n (j := 1) rfl dX6_states_21 ?_
      refine Wp.i2l dX6_states_22 ?_
      refine Wp.ald_n (j := 0) rfl dX6_states_23 ?_
      refine Wp.getf (k := 5) (tg := 0) kC6 (by decide) rfl lf_X6_22 dX6_states_24 (sK41 (h := h) sh) (show hF _ 41 5 = hF h 41 5 from rfl) ?_
      refine Wp.i2l dX6_states_27 ?_
      refine Wp.lmulE dX6_states_28 (by first | exact w64_of (by omega) (by omega) | rfl) ?_
      refine Wp.ldc2 (z := 20736) lk_X6_206 (by decide) dX6_states_29 ?_
      refine Wp.lcle dX6_states_32 dX6_states_33 (by decide) (tgt := 38) (fun c32 => ?_) (fun c32 => ?_)
      · refine Wp.ild_n (j := 1) rfl dX6_states_38 ?_
        refine Wp.ald_n (j := 0) rfl dX6_states_39 ?_
        refine Wp.getf (k := 5) (tg := 0) kC6 (by decide) rfl lf_X6_22 dX6_states_40 (sK41 (h := h) sh) (show hF _ 41 5 = hF h 41 5 from rfl) ?_
        refine Wp.imulE dX6_states_43 (by first | exact w32_of (by omega) (by omega) | rfl) ?_
        refine sti_3_1 rfl (dSt_n dX6_states_44) ?_
        refine inc_3_2 rfl dX6_states_45 (by first | exact w32_of (by omega) (by omega) | rfl) ?_
        refine Wp.goto (tgt := 13) dX6_states_48 (by decide) ?_
        refine ih (k + 1) _ (by omega) (by omega) (by omega) ?_ ?_ (by omega)
        · rw [es, ← Int.pow_succ, show (k + 1).toNat = k.toNat + 1 by omega]
        · have := Int.mul_le_mul s0 r0 (by omega) (by omega)
          omega
      · refine Wp.iconst dX6_states_36 (by decide) ?_
        refine Wp.iret rfl dX6_states_37 ?_
        have h9 := mpw_mono (r := hF h 41 5) (by omega) (show k.toNat + 1 ≤ (hF h 41 6).toNat by omega)
        rw [Int.pow_succ, ← es] at h9
        exact ⟨⟨_, rfl, Or.inl ⟨rfl, Or.inr (by omega)⟩⟩, rfl⟩

theorem cq_mstatesX (d : Nat) (h : mH) (sh : Sh h) (mb : MB h) : Cq m_X6_states d [(2, 41)] h (fun r t => (∃ y, r = some (0, y) ∧ ((y = -1 ∧ (hF h 41 6 = 0 ∨ 20736 < hF h 41 5 ^ (hF h 41 6).toNat)) ∨ (y = hF h 41 5 ^ (hF h 41 6).toNat ∧ 1 ≤ y ∧ y ≤ 20736 ∧ hF h 41 6 ≠ 0))) ∧ t = h) := by
  refine Cq.of ?_
  show Wp m_X6_states (d) 0 [(2, 41), (9, 0), (9, 0)] [] h _
  refine Wp.ald_n (j := 0) rfl dX6_states_0 ?_
  refine Wp.getf (k := 6) (tg := 0) kC6 (by decide) rfl lf_X6_141 dX6_states_1 (sK41 (h := h) sh) (show hF _ 41 6 = hF h 41 6 from rfl) ?_
  refine Wp.ifne dX6_states_4 (by decide) (tgt := 9) (fun c4 => ?_) (fun c4 => ?_)
  · refine Wp.iconst dX6_states_9 (by decide) ?_
    refine sti_3_1 rfl (dSt_n dX6_states_10) ?_
    refine Wp.iconst dX6_states_11 (by decide) ?_
    refine sti_3_2 rfl (dSt_n dX6_states_12) ?_
    exact statesX_loop d h sh mb (by omega) _ 0 1 (Nat.lt_succ_self _) (by omega) (by have := mb.2.1; omega) (by simp) (by omega) (by omega)
  · refine Wp.iconst dX6_states_7 (by decide) ?_
    refine Wp.iret rfl dX6_states_8 ?_
    exact ⟨⟨_, rfl, Or.inl ⟨rfl, Or.inl (by omega)⟩⟩, rfl⟩

theorem stateToX_loop (d : Nat) (h : mH) (sh : Sh h) (mb : MB h) (ra : Int) (kr : hK h ra = 10) (lr : hL h ra = 24) (r1 : ra ≠ 1) (s : Int) : ∀ (m : Nat) (k l : Int) (h' : mH), (hF h 41 6 - k).toNat < m → (0 ≤ k) → (0 ≤ l) → (l ≤ 100000) → (l = s / hF h 41 5 ^ k.toNat) → (Fr [ra] [] h h') → (∀ j, 0 ≤ j → j < k → hA h' ra j = dig9 (hF h 41 5) s j ∧ 0 ≤ hA h' ra j ∧ hA h' ra j < hF h 41 5) → Wp m_X6_stateTo d 5 [(2, 41), (0, s), (2, ra), (0, l), (0, k)] [] h' (fun r t => r = none ∧ Fr [ra] [] h t ∧ ∀ j, 0 ≤ j → j < hF h 41 6 → hA t ra j = dig9 (hF h 41 5) s j ∧ 0 ≤ hA t ra j ∧ hA t ra j < hF h 41 5) := by
  intro m
  induction m with
  | zero => intro k l h' hm; exact absurd hm (Nat.not_lt_zero _)
  | succ m ih =>
    intro k l h' hm k0 l0 l1 er fr hj
    obtain ⟨⟨r0, r1x⟩, ⟨n0, n1⟩, ⟨m0, m1⟩, hp, hq⟩ := id mb
    have sh' := sh.fr fr (by decide +kernel) (by simp; omega)
    have e6 : hF h' 41 6 = hF h 41 6 := fr.2.2.2.2.1 41 6 (by simp)
    have e5 : hF h' 41 5 = hF h 41 5 := fr.2.2.2.2.1 41 5 (by simp)
    have kr' : hK h' ra = 10 := by rw [fr.2.2.1]; exact kr
    have lr' : hL h' ra = 24 := by rw [fr.2.2.2.1]; exact lr
    refine Wp.ild (j := 4) rfl dX6_stateTo_5 ?_
    refine Wp.ald_n (j := 0) rfl dX6_stateTo_7 ?_
    refine Wp.getf (k := 6) (tg := 0) kC6 (by decide) rfl lf_X6_141 dX6_stateTo_8 (sK41 (h := h') sh') e6 ?_
    refine Wp.icge dX6_stateTo_11 (by decide) (tgt := 37) (fun c11 => ?_) (fun c11 => ?_)
    · refine Wp.vret rfl dX6_stateTo_37 ?_
      exact ⟨rfl, fr, fun j j0 j1 => hj j j0 (by omega)⟩
    · refine Wp.ald_n (j := 2) rfl dX6_stateTo_14 ?_
      refine Wp.ild (j := 4) rfl dX6_stateTo_15 ?_
      refine Wp.ild_n (j := 3) rfl dX6_stateTo_17 ?_
      refine Wp.ald_n (j := 0) rfl dX6_stateTo_18 ?_
      refine Wp.getf (k := 5) (tg := 0) kC6 (by decide) rfl lf_X6_22 dX6_stateTo_19 (sK41 (h := h') sh') e5 ?_
      refine Wp.iremE dX6_stateTo_22 (by omega) rfl ?_
      refine Wp.iastore dX6_stateTo_23 kr' (by omega) (ilt lr' (by omega)) ?_
      refine Wp.ild_n (j := 3) rfl dX6_stateTo_24 ?_
      refine Wp.ald_n (j := 0) rfl dX6_stateTo_25 ?_
      refine Wp.getf (k := 5) (tg := 0) kC6 (by decide) rfl lf_X6_22 dX6_stateTo_26 (sK41 (h := h') sh') e5 ?_
      refine Wp.idivE dX6_stateTo_29 (by omega) (w32_of (by have := tdn (a := l) (b := hF h 41 5) l0 (by omega); omega) (by have := tdn (a := l) (b := hF h 41 5) l0 (by omega); omega)) ?_
      refine sti_5_3 rfl (dSt_n dX6_stateTo_30) ?_
      refine inc_5_4 rfl dX6_stateTo_31 (by first | exact w32_of (by omega) (by omega) | rfl) ?_
      refine Wp.goto (tgt := 5) dX6_stateTo_34 (by decide) ?_
      have ht := tdn (a := l) (b := hF h 41 5) l0 (by omega)
      refine ih (k + 1) _ _ (by omega) (by omega) ht.1 (by omega) ?_ (fr.tr (Fr.e (by simp))) (fun j j0 j1 => ?_)
      · rw [Int.tdiv_eq_ediv_of_nonneg l0, er, Int.ediv_ediv_of_nonneg (Int.le_of_lt (Int.pow_pos (by omega))), ← Int.pow_succ, show (k + 1).toNat = k.toNat + 1 by omega]
      · rw [hA_sEs]
        by_cases e : j = k
        · rw [e, u1_s]
          refine ⟨?_, ht.2.2⟩
          rw [Int.tmod_eq_emod_of_nonneg l0, er]
          rfl
        · rw [u1_n _ _ e]
          exact hj j j0 (by omega)

theorem cq_stateToX (d : Nat) (h : mH) (sh : Sh h) (mb : MB h) (ra : Int) (kr : hK h ra = 10) (lr : hL h ra = 24) (r1 : ra ≠ 1) (s : Int) (s0 : 0 ≤ s) (s1 : s ≤ 100000) : Cq m_X6_stateTo d [(2, 41), (0, s), (2, ra)] h (fun r t => r = none ∧ Fr [ra] [] h t ∧ ∀ j, 0 ≤ j → j < hF h 41 6 → hA t ra j = dig9 (hF h 41 5) s j ∧ 0 ≤ hA t ra j ∧ hA t ra j < hF h 41 5) := by
  refine Cq.of ?_
  show Wp m_X6_stateTo (d) 0 [(2, 41), (0, s), (2, ra), (9, 0), (9, 0)] [] h _
  refine Wp.ild_n (j := 1) rfl dX6_stateTo_0 ?_
  refine sti_5_3 rfl (dSt_n dX6_stateTo_1) ?_
  refine Wp.iconst dX6_stateTo_2 (by decide) ?_
  refine sti_5_4 rfl (dSt_w dX6_stateTo_3) ?_
  exact stateToX_loop d h sh mb ra kr lr r1 s _ 0 s h (Nat.lt_succ_self _) (by omega) s0 s1 (by rw [show (0 : Int).toNat = 0 from rfl, Int.pow_zero, Int.ediv_one]) Fr.rf (fun j j0 j1 => absurd j1 (by omega))

theorem numberOfX_loop (d : Nat) (h : mH) (sh : Sh h) (mb : MB h) (ra : Int) (kr : hK h ra = 10) (lr : hL h ra = 24) (hr : ∀ j, 0 ≤ j → j < hF h 41 6 → 0 ≤ hA h ra j ∧ hA h ra j < hF h 41 5) (hs : hF h 41 5 ^ (hF h 41 6).toNat ≤ 20736) : ∀ (m : Nat) (k s : Int), (k + 1).toNat < m → (-1 ≤ k) → (k < hF h 41 6) → (s = ec9 (hA h ra) (hF h 41 5) (hF h 41 6) (hF h 41 6 - 1 - k).toNat) → (0 ≤ s) → (s < hF h 41 5 ^ (hF h 41 6 - 1 - k).toNat) → Wp m_X6_numberOf d 9 [(2, 41), (2, ra), (0, s), (0, k)] [] h (fun r t => (∃ y, r = some (0, y) ∧ y = ec9 (hA h ra) (hF h 41 5) (hF h 41 6) (hF h 41 6).toNat ∧ 0 ≤ y ∧ y < hF h 41 5 ^ (hF h 41 6).toNat) ∧ t = h) := by
  intro m
  induction m with
  | zero => intro k s hm; exact absurd hm (Nat.not_lt_zero _)
  | succ m ih =>
    intro k s hm k0 k1 en s0 s1
    obtain ⟨⟨r0, r1x⟩, ⟨n0, n1⟩, ⟨m0, m1⟩, hp, hq⟩ := id mb
    have hm0 := Int.mul_nonneg s0 (show 0 ≤ hF h 41 5 by omega)
    have hm2 := mpw_mono (r := hF h 41 5) (by omega) (show (hF h 41 6 - 1 - k).toNat ≤ (hF h 41 6).toNat by omega)
    have hm3 := Int.mul_le_mul_of_nonneg_right (show s + 1 ≤ hF h 41 5 ^ (hF h 41 6 - 1 - k).toNat by omega) (show 0 ≤ hF h 41 5 by omega)
    rw [Int.add_mul, Int.one_mul] at hm3
    have hm4 := Int.mul_le_mul_of_nonneg_right (show s ≤ 20736 by omega) (show 0 ≤ hF h 41 5 by omega)
    have hk := fun (z : 0 ≤ k) => hr k z k1
    refine Wp.ild_n (j := 3) rfl dX6_numberOf_9 ?_
    refine Wp.iflt dX6_numberOf_10 (by decide) (tgt := 30) (fun c10 => ?_) (fun c10 => ?_)
    · refine Wp.ild_n (j := 2) rfl dX6_numberOf_30 ?_
      refine Wp.iret rfl dX6_numberOf_31 ?_
      rw [show (hF h 41 6 - 1 - k).toNat = (hF h 41 6).toNat by omega] at s1 en
      exact ⟨⟨_, rfl, en, s0, s1⟩, rfl⟩
    · have hk := hk (by omega)
      refine Wp.ild_n (j := 2) rfl dX6_numberOf_13 ?_
      refine Wp.ald_n (j := 0) rfl dX6_numberOf_14 ?_
      refine Wp.getf (k := 5) (tg := 0) kC6 (by decide) rfl lf_X6_22 dX6_numberOf_15 (sK41 (h := h) sh) (show hF _ 41 5 = hF h 41 5 from rfl) ?_
      refine Wp.imulE dX6_numberOf_18 (by first | exact w32_of (by omega) (by omega) | rfl) ?_
      refine Wp.ald_n (j := 1) rfl dX6_numberOf_19 ?_
      refine Wp.ild_n (j := 3) rfl dX6_numberOf_20 ?_
      refine Wp.iaload dX6_numberOf_21 kr (by omega) (ilt lr (by omega)) (show hA _ ra _ = hA h ra _ from rfl) ?_
      refine Wp.iaddE dX6_numberOf_22 (by first | exact w32_of (by omega) (by omega) | rfl) ?_
      refine sti_4_2 rfl (dSt_n dX6_numberOf_23) ?_
      refine inc_4_3 rfl dX6_numberOf_24 (by first | exact w32_of (by omega) (by omega) | rfl) ?_
      refine Wp.goto (tgt := 9) dX6_numberOf_27 (by decide) ?_
      refine ih (k - 1) _ (by omega) (by omega) (by omega) ?_ (by omega) ?_
      · rw [show (hF h 41 6 - 1 - (k - 1)).toNat = (hF h 41 6 - 1 - k).toNat + 1 by omega]
        show _ = ec9 (hA h ra) (hF h 41 5) (hF h 41 6) (hF h 41 6 - 1 - k).toNat * hF h 41 5 + hA h ra (hF h 41 6 - 1 - (((hF h 41 6 - 1 - k).toNat : Nat) : Int))
        rw [← en, show hF h 41 6 - 1 - (((hF h 41 6 - 1 - k).toNat : Nat) : Int) = k by omega]
      have := hm3
      rw [show (hF h 41 6 - 1 - (k - 1)).toNat = (hF h 41 6 - 1 - k).toNat + 1 by omega, Int.pow_succ]
      omega

theorem cq_numberOfX (d : Nat) (h : mH) (sh : Sh h) (mb : MB h) (ra : Int) (kr : hK h ra = 10) (lr : hL h ra = 24) (hr : ∀ j, 0 ≤ j → j < hF h 41 6 → 0 ≤ hA h ra j ∧ hA h ra j < hF h 41 5) (hs : hF h 41 5 ^ (hF h 41 6).toNat ≤ 20736) : Cq m_X6_numberOf d [(2, 41), (2, ra)] h (fun r t => (∃ y, r = some (0, y) ∧ y = ec9 (hA h ra) (hF h 41 5) (hF h 41 6) (hF h 41 6).toNat ∧ 0 ≤ y ∧ y < hF h 41 5 ^ (hF h 41 6).toNat) ∧ t = h) := by
  refine Cq.of ?_
  show Wp m_X6_numberOf (d) 0 [(2, 41), (2, ra), (9, 0), (9, 0)] [] h _
  obtain ⟨⟨r0, r1⟩, ⟨n0, n1⟩, ⟨m0, m1⟩, hp, hq⟩ := id mb
  refine Wp.iconst dX6_numberOf_0 (by decide) ?_
  refine sti_4_2 rfl (dSt_n dX6_numberOf_1) ?_
  refine Wp.ald_n (j := 0) rfl dX6_numberOf_2 ?_
  refine Wp.getf (k := 6) (tg := 0) kC6 (by decide) rfl lf_X6_141 dX6_numberOf_3 (sK41 (h := h) sh) (show hF _ 41 6 = hF h 41 6 from rfl) ?_
  refine Wp.iconst dX6_numberOf_6 (by decide) ?_
  refine Wp.isubE dX6_numberOf_7 (by first | exact w32_of (by omega) (by omega) | rfl) ?_
  refine sti_4_3 rfl (dSt_n dX6_numberOf_8) ?_
  exact numberOfX_loop d h sh mb ra kr lr hr hs _ (hF h 41 6 - 1) 0 (Nat.lt_succ_self _) (by omega) (by omega) (by rw [show (hF h 41 6 - 1 - (hF h 41 6 - 1)).toNat = 0 by omega]; rfl) (by omega) (by have := mpw_pos (r := hF h 41 5) (by omega) (hF h 41 6 - 1 - (hF h 41 6 - 1)).toNat; omega)

/-- the state behind a state, the reference's -/
def mG9 (c : mCf) (s : Int) : Int := ec9 (mT c (dig9 c.1.2.1 s)) c.1.2.1 c.1.1 c.1.1.toNat
/-- colours and homes, some of them found -/
def EI9 (n : Int) (nx co eo : Int → Int) : Prop := ∀ j, 0 ≤ j → j < n → (co j ≠ 0 ↔ 0 ≤ eo j) ∧ (0 ≤ eo j → eo j < n ∧ hm9 nx j (eo j))
theorem EI9.step {n s l : Int} {nx co eo co1 eo1 : Int → Int} {m : Nat} (h : EI9 n nx co eo) (wc : WC n s nx co co1 m) (l0 : 0 ≤ l ∧ l < n) (hl : hm9 nx (itn nx m s) l) (e1 : ∀ i, i < m → eo1 (itn nx i s) = l) (e2 : ∀ q, (∀ i, i < m → itn nx i s ≠ q) → eo1 q = eo q) : EI9 n nx co1 eo1 := by
  intro j j0 j1
  by_cases hp : ∃ i, i < m ∧ itn nx i s = j
  · obtain ⟨i, hi, ei⟩ := hp
    have ej : eo1 j = l := by rw [← ei]; exact e1 i hi
    rw [ej]
    refine ⟨⟨fun _ => l0.1, fun _ => (wc.1 j j0 j1).mpr (Or.inr ⟨i, hi, ei⟩)⟩, fun _ => ⟨l0.2, hm9.back (i := m - i) ?_⟩⟩
    rw [← ei, ← itn_add, show m - i + i = m by omega]
    exact hl
  · rw [e2 j (fun i hi e => hp ⟨i, hi, e⟩)]
    refine ⟨?_, (h j j0 j1).2⟩
    rw [wc.1 j j0 j1, ← (h j j0 j1).1]
    exact ⟨fun z => z.elim id (fun y => absurd y hp), Or.inl⟩
theorem hm9_path {nx : Int → Int} {k l : Int} (per : ∃ c : Nat, 1 ≤ c ∧ itn nx c k = k) (hu : ∃ u : Nat, l = itn nx u k) (lo : ∀ i : Nat, l ≤ itn nx i k) : hm9 nx k l := by
  obtain ⟨u, eu⟩ := hu
  obtain ⟨c, c1, hc⟩ := per
  refine ⟨⟨u, eu.symm⟩, ⟨c, c1, ?_⟩, fun j => ?_⟩
  · have a := itn_add nx k c u
    have b := itn_add nx k u c
    rw [hc, ← eu] at b
    rw [← eu, Nat.add_comm, b] at a
    exact a.symm
  · have a := lo (j + u)
    rw [itn_add, ← eu] at a
    exact a
theorem HM9.ez {n : Int} {nx eo : Int → Int} (h : HM9 n nx eo) : EZ n nx eo := fun j j0 j1 => ⟨(h j j0 j1).1.1, (h j j0 j1).1.2, h.own j0 j1, (h j j0 j1).2.2.1⟩
theorem mfe2X (d : Nat) (h : mH) (sh : Sh h) (n s k : Int) (n1 : n ≤ 20736) (k0 : 0 ≤ k) (k1 : k < n) (hn : ∀ j, 0 ≤ j → j < n → 0 ≤ hA h 58 j ∧ hA h 58 j < n) (c : Nat) (hc : itn (hA h 58) c k = k) (Q : Option mV → mH → Prop) (kq : ∀ (l j : Int), (∃ u, l = itn (hA h 58) u k) → (∀ i : Nat, l ≤ itn (hA h 58) i k) → Wp m_X6_fillEnds (d + 2) 146 [(2, 41), (0, n), (0, s), (0, k), (0, l), (0, j)] [] h Q) : ∀ (m : Nat) (u : Nat) (l : Int), c - u < m → (u ≤ c) → (1 ≤ u) → (∃ u, l = itn (hA h 58) u k) → (∀ i : Nat, i < u → l ≤ itn (hA h 58) i k) → Wp m_X6_fillEnds (d + 2) 119 [(2, 41), (0, n), (0, s), (0, k), (0, l), (0, (itn (hA h 58) u k))] [] h Q := by
  intro m
  induction m with
  | zero => intro u l hm; exact absurd hm (Nat.not_lt_zero _)
  | succ m ih =>
    intro u l hm u1 u0 hl lo
    have hk := itn_in hn k0 k1 u
    refine Wp.ild (j := 5) rfl dX6_fillEnds_119 ?_
    refine Wp.ild_n (j := 3) rfl dX6_fillEnds_121 ?_
    refine Wp.iceq dX6_fillEnds_122 (by decide) (tgt := 146) (fun c122 => ?_) (fun c122 => ?_)
    · refine kq _ _ hl (fun i => ?_)
      obtain ⟨i', hi', ei'⟩ := itn_wrap (nx := hA h 58) (s := k) (m := u) (i0 := 0) (by omega) (show k = (itn (hA h 58) u k) from by first | exact c122.symm | (exact (Classical.byContradiction c122).symm)) i
      rw [← ei']
      exact lo i' hi'
    · refine Wp.ild (j := 4) rfl dX6_fillEnds_125 ?_
      refine Wp.ild (j := 5) rfl dX6_fillEnds_127 ?_
      refine Wp.mmin wm_X6_185 dX6_fillEnds_129 (Nat.le_of_ble_eq_true rfl) ?_
      refine sti_6_4 rfl (dSt_w dX6_fillEnds_132) ?_
      refine Wp.ald_n (j := 0) rfl dX6_fillEnds_134 ?_
      refine Wp.getf (k := 22) (tg := 2) kC6 (by decide) rfl lf_X6_69 dX6_fillEnds_135 (sK41 (h := h) sh) (sF41_22 (h := h) sh) ?_
      refine Wp.ild (j := 5) rfl dX6_fillEnds_138 ?_
      refine Wp.iaload dX6_fillEnds_140 (sK58 (h := h) sh) (by omega) (ilt (sL58 (h := h) sh) (by omega)) (show hA _ 58 _ = hA h 58 _ from rfl) ?_
      refine sti_6_5 rfl (dSt_w dX6_fillEnds_141) ?_
      refine Wp.goto (tgt := 119) dX6_fillEnds_143 (by decide) ?_
      have hne : u ≠ c := fun e => c122 (by rw [e]; exact hc)
      refine ih (u + 1) _ (by omega) (by omega) (by omega) ?_ (fun i hi => ?_)
      · rcases Int.le_total l (itn (hA h 58) u k) with z | z
        · rw [Int.min_eq_left z]
          exact hl
        · rw [Int.min_eq_right z]
          exact ⟨u, rfl⟩
      · by_cases z : i < u
        · have := lo i z
          omega
        · rw [show i = u by omega]
          omega

theorem mfe95X (d : Nat) (h : mH) (sh : Sh h) (n s k : Int) (x4 x5 : mV) (n1 : n ≤ 20736) (k0 : 0 ≤ k) (k1 : k < n) (hn : ∀ j, 0 ≤ j → j < n → 0 ≤ hA h 58 j ∧ hA h 58 j < n) (hc : hA h 59 k < 0 → ∃ c : Nat, 1 ≤ c ∧ itn (hA h 58) c k = k) (Q : Option mV → mH → Prop) (kq : ∀ (l : Int) (x5 : mV), (0 ≤ hA h 59 k → l = hA h 59 k) → (hA h 59 k < 0 → (∃ u, l = itn (hA h 58) u k) ∧ ∀ i : Nat, l ≤ itn (hA h 58) i k) → Wp m_X6_fillEnds (d + 2) 146 [(2, 41), (0, n), (0, s), (0, k), (0, l), x5] [] h Q) : Wp m_X6_fillEnds (d + 2) 95 [(2, 41), (0, n), (0, s), (0, k), x4, x5] [] h Q := by
  refine Wp.ald_n (j := 0) rfl dX6_fillEnds_95 ?_
  refine Wp.getf (k := 23) (tg := 2) kC6 (by decide) rfl lf_X6_72 dX6_fillEnds_96 (sK41 (h := h) sh) (sF41_23 (h := h) sh) ?_
  refine Wp.ild_n (j := 3) rfl dX6_fillEnds_99 ?_
  refine Wp.iaload dX6_fillEnds_100 (sK59 (h := h) sh) (by omega) (ilt (sL59 (h := h) sh) (by omega)) (show hA _ 59 _ = hA h 59 _ from rfl) ?_
  refine sti_6_4 rfl (dSt_w dX6_fillEnds_101) ?_
  refine Wp.ild (j := 4) rfl dX6_fillEnds_103 ?_
  refine Wp.ifge dX6_fillEnds_105 (by decide) (tgt := 146) (fun c105 => ?_) (fun c105 => ?_)
  · exact kq _ _ (fun _ => rfl) (fun z => absurd z (by omega))
  · refine Wp.ild_n (j := 3) rfl dX6_fillEnds_108 ?_
    refine sti_6_4 rfl (dSt_w dX6_fillEnds_109) ?_
    refine Wp.ald_n (j := 0) rfl dX6_fillEnds_111 ?_
    refine Wp.getf (k := 22) (tg := 2) kC6 (by decide) rfl lf_X6_69 dX6_fillEnds_112 (sK41 (h := h) sh) (sF41_22 (h := h) sh) ?_
    refine Wp.ild_n (j := 3) rfl dX6_fillEnds_115 ?_
    refine Wp.iaload dX6_fillEnds_116 (sK58 (h := h) sh) (by omega) (ilt (sL58 (h := h) sh) (by omega)) (show hA _ 58 _ = hA h 58 _ from rfl) ?_
    refine sti_6_5 rfl (dSt_w dX6_fillEnds_117) ?_
    obtain ⟨c, hc1, hc2⟩ := hc (by omega)
    exact mfe2X d h sh n s k n1 k0 k1 hn c hc2 Q (fun l j hl lo => kq l _ (fun z => absurd z (by omega)) (fun _ => ⟨hl, lo⟩)) _ 1 k (Nat.lt_succ_self _) hc1 (Nat.le_refl _) ⟨0, rfl⟩ (fun i hi => by rw [show i = 0 by omega]; exact Int.le_refl _)

theorem mfe4X (d : Nat) (h : mH) (sh : Sh h) (n : Int) (n1 : n ≤ 20736) : ∀ (m : Nat) (s : Int) (x3 x4 x5 : mV) (h' : mH), (n - s).toNat < m → (0 ≤ s) → (Fr [59, 70] [] h h') → (∀ j, 0 ≤ j → j < n → 0 ≤ hA h' 58 j ∧ hA h' 58 j < n) → (EI9 n (hA h' 58) (hA h' 70) (hA h' 59)) → (∀ j, 0 ≤ j → j < n → j < s → hA h' 70 j ≠ 0) → Wp m_X6_fillEnds (d + 2) 60 [(2, 41), (0, n), (0, s), x3, x4, x5] [] h' (fun r t => r = none ∧ Fr [59, 70] [] h t ∧ HM9 n (hA t 58) (hA t 59)) := by
  intro m
  induction m with
  | zero => intro s x3 x4 x5 h' hm; exact absurd hm (Nat.not_lt_zero _)
  | succ m ih =>
    intro s x3 x4 x5 h' hm s0 fr hn ei hs
    have sh' := sh.fr fr (by decide +kernel) (by decide)
    refine Wp.ild_n (j := 2) rfl dX6_fillEnds_60 ?_
    refine Wp.ild_n (j := 1) rfl dX6_fillEnds_61 ?_
    refine Wp.icge dX6_fillEnds_62 (by decide) (tgt := 186) (fun c62 => ?_) (fun c62 => ?_)
    · refine Wp.vret rfl dX6_fillEnds_186 ?_
      refine ⟨rfl, fr, fun j j0 j1 => ?_⟩
      have hx := ei j j0 j1
      have h1 := hx.1.mp (hs j j0 j1 (by omega))
      exact ⟨⟨h1, (hx.2 h1).1⟩, (hx.2 h1).2⟩
    · refine Wp.ild_n (j := 2) rfl dX6_fillEnds_65 ?_
      refine sti_6_3 rfl (dSt_n dX6_fillEnds_66) ?_
      refine mfe1 d h' sh' n s n1 s0 (by omega) hn _ _ _ (fun t m9 frt wct hkt => ?_) _ 0 h' (Nat.lt_succ_self _) Fr.rf ⟨fun j j0 j1 => ⟨Or.inl, fun z => z.elim id (fun ⟨i, hi, _⟩ => absurd hi (by omega))⟩, fun i hi => absurd hi (by omega), fun i i' _ hi => absurd hi (by omega)⟩
      have et58 : hA t 58 = hA h' 58 := frt.2.2.2.2.2 58 (by decide)
      have et59 : hA t 59 = hA h' 59 := frt.2.2.2.2.2 59 (by decide)
      have sht : Sh t := sh'.fr frt (by decide +kernel) (by decide)
      have km := itn_in hn s0 (by omega) m9
      have hpath : hA h' 59 (itn (hA h' 58) m9 s) < 0 → ∃ i, i < m9 ∧ itn (hA h' 58) i s = itn (hA h' 58) m9 s := fun z => by
        rcases (wct.1 _ km.1 km.2).mp hkt with y | y
        · have := (ei _ km.1 km.2).1.mp y
          omega
        · exact y
      have hper : hA h' 59 (itn (hA h' 58) m9 s) < 0 → ∃ c : Nat, 1 ≤ c ∧ itn (hA h' 58) c (itn (hA h' 58) m9 s) = itn (hA h' 58) m9 s := fun z => by
        obtain ⟨i0, hi0, ei0⟩ := hpath z
        refine ⟨m9 - i0, by omega, ?_⟩
        have hh : itn (hA h' 58) (m9 - i0) (itn (hA h' 58) i0 s) = itn (hA h' 58) m9 s := by rw [← itn_add, show m9 - i0 + i0 = m9 by omega]
        rw [ei0] at hh
        exact hh
      refine mfe95X d t sht n s (itn (hA h' 58) m9 s) _ _ n1 km.1 km.2 (by rw [et58]; exact hn) (fun z => ?_) _ (fun l x5 l1 l2 => ?_)
      · rw [et59] at z
        rw [et58]
        exact hper z
      rw [et59] at l1 l2
      rw [et58] at l2
      have hl : (0 ≤ l ∧ l < n) ∧ hm9 (hA h' 58) (itn (hA h' 58) m9 s) l := by
        by_cases z : 0 ≤ hA h' 59 (itn (hA h' 58) m9 s)
        · rw [l1 z]
          have hx := (ei _ km.1 km.2).2 z
          exact ⟨⟨z, hx.1⟩, hx.2⟩
        · obtain ⟨hu, lo⟩ := l2 (by omega)
          refine ⟨?_, hm9_path (hper (by omega)) hu lo⟩
          obtain ⟨u, hu⟩ := hu
          rw [hu]
          exact itn_in hn km.1 km.2 u
      refine Wp.ild_n (j := 2) rfl dX6_fillEnds_146 ?_
      refine sti_6_5 rfl (dSt_w dX6_fillEnds_147) ?_
      refine mfe3 d t sht n s n1 s0 (by omega) (by rw [et58]; exact hn) _ l m9 hl.1.1 (hA h' 70) ?_ (by rw [et58]; exact wct.2.2) ?_ _ (fun v j frv w1 w2 => ?_) _ 0 t (Nat.lt_succ_self _) Fr.rf (by omega) (fun i hi => absurd hi (by omega)) (fun q hq => rfl)
      · intro i hi
        rw [et58, et59]
        have hr := itn_in hn s0 (show s < n by omega) i
        have hz := wct.2.1 i hi
        by_cases z : hA h' 59 (itn (hA h' 58) i s) < 0
        · exact z
        · exact absurd hz ((ei _ hr.1 hr.2).1.mpr (by omega))
      · rw [et58, et59]
        by_cases z : hA h' 59 (itn (hA h' 58) m9 s) < 0
        · exact Or.inl (hpath z)
        · exact Or.inr (by omega)
      rw [et58] at w1 w2
      rw [et59] at w2
      have ev58 : hA v 58 = hA h' 58 := (frv.2.2.2.2.2 58 (by decide)).trans et58
      have ev70 : hA v 70 = hA t 70 := frv.2.2.2.2.2 70 (by decide)
      refine inc_6_2 rfl dX6_fillEnds_180 (w32_of (by omega) (by omega)) ?_
      refine Wp.goto (tgt := 60) dX6_fillEnds_183 (by decide) ?_
      refine ih (s + 1) _ _ _ v (by clear l1 l2 hpath hper hl; omega) (by clear l1 l2 hpath hper hl; omega) ((fr.tr (frt.mono (by decide) (by simp))).tr (frv.mono (by decide) (by simp))) (by rw [ev58]; exact hn) ?_ (fun j j0 j1 j2 => ?_)
      · rw [ev58, ev70]
        exact ei.step wct hl.1 hl.2 w1 w2
      · rw [ev70]
        by_cases e : j = s
        · subst e
          by_cases z : m9 = 0
          · subst z
            exact hkt
          · exact (wct.1 j j0 j1).mpr (Or.inr ⟨0, by omega, rfl⟩)
        · exact (wct.1 j j0 j1).mpr (Or.inl (hs j j0 j1 (by omega)))

theorem mfe0X (d : Nat) (h : mH) (sh : Sh h) (mb : MB h) (n : Int) (en : n = hF h 41 5 ^ (hF h 41 6).toNat) (n1 : n ≤ 20736) (Q : Option mV → mH → Prop) (kq : ∀ (t : mH) (s : Int), Fr [50, 51, 52, 53, 54, 58, 59, 70] [] h t → (∀ j, 0 ≤ j → j < n → (0 ≤ hA t 58 j ∧ hA t 58 j < n) ∧ hA t 70 j = 0 ∧ hA t 59 j = -1 ∧ hA t 58 j = mG9 (mcf h) j) → Wp m_X6_fillEnds (d + 2) 58 [(2, 41), (0, n), (0, s), (9, 0), (9, 0), (9, 0)] [] t Q) : ∀ (m : Nat) (s : Int) (h' : mH), (n - s).toNat < m → (Fr [50, 51, 52, 53, 54, 58, 59, 70] [] h h') → (0 ≤ s) → (∀ j, 0 ≤ j → j < s → (0 ≤ hA h' 58 j ∧ hA h' 58 j < n) ∧ hA h' 70 j = 0 ∧ hA h' 59 j = -1 ∧ hA h' 58 j = mG9 (mcf h) j) → Wp m_X6_fillEnds (d + 2) 2 [(2, 41), (0, n), (0, s), (9, 0), (9, 0), (9, 0)] [] h' Q := by
  intro m
  induction m with
  | zero => intro s h' hm; exact absurd hm (Nat.not_lt_zero _)
  | succ m ih =>
    intro s h' hm fr s0 hj
    have sh' := sh.fr fr (by decide +kernel) (by decide)
    have e5 : hF h' 41 5 = hF h 41 5 := fr.2.2.2.2.1 41 5 (by decide)
    have e6 : hF h' 41 6 = hF h 41 6 := fr.2.2.2.2.1 41 6 (by decide)
    refine Wp.ild_n (j := 2) rfl dX6_fillEnds_2 ?_
    refine Wp.ild_n (j := 1) rfl dX6_fillEnds_3 ?_
    refine Wp.icge dX6_fillEnds_4 (by decide) (tgt := 58) (fun c4 => ?_) (fun c4 => ?_)
    · exact kq _ _ fr (fun j j0 j1 => hj j j0 (by omega))
    · refine Wp.ald_n (j := 0) rfl dX6_fillEnds_7 ?_
      refine Wp.ild_n (j := 2) rfl dX6_fillEnds_8 ?_
      refine Wp.ald_n (j := 0) rfl dX6_fillEnds_9 ?_
      refine Wp.getf (k := 18) (tg := 2) kC6 (by decide) rfl lf_X6_57 dX6_fillEnds_10 (sK41 (h := h') sh') (sF41_18 (h := h') sh') ?_
      have mb' : MB h' := mb.fr fr (by decide) (by decide) (by decide) (by decide) (by decide)
      have cf' : mcf h' = mcf h := mcf_fr fr (by decide) (by decide) (by decide) (by decide) (by decide) (by decide)
      obtain ⟨_, t13, ct13, rfl, f13, r13⟩ := cq_stateToX (d + 1) h' sh' mb' 54 (sK54 sh') (sL54 sh') (by decide) s s0 (by omega)
      have sh13 : Sh t13 := sh'.fr f13 (by decide +kernel) (by decide)
      have mb13 : MB t13 := mb'.fr f13 (by decide) (by decide) (by decide) (by decide) (by decide)
      have cf13 : mcf t13 = mcf h := (mcf_fr f13 (by decide) (by decide) (by decide) (by decide) (by decide) (by decide)).trans cf'
      have g5 : hF t13 41 5 = hF h' 41 5 := f13.2.2.2.2.1 41 5 (by decide)
      have g6 : hF t13 41 6 = hF h' 41 6 := f13.2.2.2.2.1 41 6 (by decide)
      refine Wp.callV0 (ct13) wc_X6_208 iM_X6_stateTo se_X6_stateTo kC6 (sK41 (h := h') sh') dX6_fillEnds_13 rfl (Nat.le_of_ble_eq_true rfl) rfl (Nat.le_of_ble_eq_true rfl) ?_
      refine Wp.ald_n (j := 0) rfl dX6_fillEnds_16 ?_
      refine Wp.ald_n (j := 0) rfl dX6_fillEnds_17 ?_
      refine Wp.getf (k := 18) (tg := 2) kC6 (by decide) rfl lf_X6_57 dX6_fillEnds_18 (sK41 (h := t13) sh13) (sF41_18 (h := t13) sh13) ?_
      obtain ⟨_, t21, ct21, rfl, f21, r21⟩ := cq_mtick d t13 sh13 mb13 54 (sK54 sh13) (sL54 sh13) (by decide) (by rw [g5, g6]; exact fun j j0 j1 => (r13 j j0 j1).2)
      have sh21 : Sh t21 := sh13.fr f21 (by decide +kernel) (by decide)
      have mb21 : MB t21 := mb13.fr f21 (by decide) (by decide) (by decide) (by decide) (by decide)
      have q5 : hF t21 41 5 = hF t13 41 5 := f21.2.2.2.2.1 41 5 (by decide)
      have q6 : hF t21 41 6 = hF t13 41 6 := f21.2.2.2.2.1 41 6 (by decide)
      refine Wp.callV0 (ct21) wc_X6_166 iM_X6_tick se_X6_tick kC6 (sK41 (h := t13) sh13) dX6_fillEnds_21 rfl (Nat.le_of_ble_eq_true rfl) rfl (Nat.le_of_ble_eq_true rfl) ?_
      refine Wp.ald_n (j := 0) rfl dX6_fillEnds_24 ?_
      refine Wp.getf (k := 22) (tg := 2) kC6 (by decide) rfl lf_X6_69 dX6_fillEnds_25 (sK41 (h := t21) sh21) (sF41_22 (h := t21) sh21) ?_
      refine Wp.ild_n (j := 2) rfl dX6_fillEnds_28 ?_
      refine Wp.ald_n (j := 0) rfl dX6_fillEnds_29 ?_
      refine Wp.ald_n (j := 0) rfl dX6_fillEnds_30 ?_
      refine Wp.getf (k := 18) (tg := 2) kC6 (by decide) rfl lf_X6_57 dX6_fillEnds_31 (sK41 (h := t21) sh21) (sF41_18 (h := t21) sh21) ?_
      obtain ⟨_, t34, ct34, ⟨y34, rfl, ey34, hy34⟩, e34⟩ := cq_numberOfX (d + 1) t21 sh21 mb21 54 (sK54 sh21) (sL54 sh21) (by rw [q5, q6]; exact fun j j0 j1 => (r21 j j0 j1).2) (by rw [q5, q6, g5, g6, e5, e6, ← en]; exact n1)
      rw [e34] at ct34
      rw [q5, q6, g5, g6, e5, e6] at hy34 ey34
      have ey34 : y34 = mG9 (mcf h) s := by
        rw [ey34]
        show _ = ec9 (mT (mcf h) (dig9 (hF h 41 5) s)) (hF h 41 5) (hF h 41 6) (hF h 41 6).toNat
        have n0 := mb.2.1.1
        refine ec9_cg _ (by omega) (fun j j0 j1 => ?_)
        rw [(r21 j j0 (by rw [g6, e6]; exact j1)).1, cf13, mT_eq (c := mcf h) (f := hA t13 54) (g := dig9 (hF h 41 5) s) (fun i i0 (i1 : i < hF h 41 6) => by rw [(r13 i i0 (by rw [e6]; exact i1)).1, e5])]
      refine Wp.callV1 (ct34) wc_X6_212 iM_X6_numberOf se_X6_numberOf kC6 (sK41 (h := t21) sh21) dX6_fillEnds_34 rfl (Nat.le_of_ble_eq_true rfl) rfl (Nat.le_of_ble_eq_true rfl) ?_
      refine Wp.iastore dX6_fillEnds_37 (sK58 (h := t21) sh21) (by omega) (ilt (sL58 (h := t21) sh21) (by omega)) ?_
      refine Wp.ald_n (j := 0) rfl dX6_fillEnds_38 ?_
      refine Wp.getf (k := 42) (tg := 2) kC6 (by decide) rfl lf_X6_106 dX6_fillEnds_39 (sK41 (h := t21) sh21) (sF41_42 (h := t21) sh21) ?_
      refine Wp.ild_n (j := 2) rfl dX6_fillEnds_42 ?_
      refine Wp.iconst dX6_fillEnds_43 (by decide) ?_
      refine Wp.iastore dX6_fillEnds_44 (sK70 (h := t21) sh21) (by omega) (ilt (sL70 (h := t21) sh21) (by omega)) ?_
      refine Wp.ald_n (j := 0) rfl dX6_fillEnds_45 ?_
      refine Wp.getf (k := 23) (tg := 2) kC6 (by decide) rfl lf_X6_72 dX6_fillEnds_46 (sK41 (h := t21) sh21) (sF41_23 (h := t21) sh21) ?_
      refine Wp.ild_n (j := 2) rfl dX6_fillEnds_49 ?_
      refine Wp.iconst dX6_fillEnds_50 (by decide) ?_
      refine Wp.iastore dX6_fillEnds_51 (sK59 (h := t21) sh21) (by omega) (ilt (sL59 (h := t21) sh21) (by omega)) ?_
      refine inc_6_2 rfl dX6_fillEnds_52 (by first | exact w32_of (by omega) (by omega) | rfl) ?_
      refine Wp.goto (tgt := 2) dX6_fillEnds_55 (by decide) ?_
      refine ih (s + 1) _ (by omega) ((fr.tr (f13.mono (by decide) (by simp))).tr ((f21.mono (by decide) (by simp)).tr ((Fr.e (by decide)).tr ((Fr.e (by decide)).tr (Fr.e (by decide)))))) (by omega) (fun j j0 j1 => ?_)
      show (0 ≤ u1 (hA t21 58) s y34 j ∧ u1 (hA t21 58) s y34 j < n) ∧ u1 (hA t21 70) s 0 j = 0 ∧ u1 (hA t21 59) s (-1) j = -1 ∧ u1 (hA t21 58) s y34 j = mG9 (mcf h) j
      by_cases e : j = s
      · rw [e, u1_s, u1_s, u1_s]
        exact ⟨⟨hy34.1, by rw [en]; exact hy34.2⟩, rfl, rfl, ey34⟩
      · rw [u1_n _ _ e, u1_n _ _ e, u1_n _ _ e, f21.2.2.2.2.2 58 (by decide), f21.2.2.2.2.2 59 (by decide), f21.2.2.2.2.2 70 (by decide), f13.2.2.2.2.2 58 (by decide), f13.2.2.2.2.2 59 (by decide), f13.2.2.2.2.2 70 (by decide)]
        exact hj j j0 (by omega)

theorem cq_fillEndsX (d : Nat) (h : mH) (sh : Sh h) (mb : MB h) (n : Int) (en : n = hF h 41 5 ^ (hF h 41 6).toNat) (n1 : n ≤ 20736) : Cq m_X6_fillEnds (d + 2) [(2, 41), (0, n)] h (fun r t => r = none ∧ Fr [50, 51, 52, 53, 54, 58, 59, 70] [] h t ∧ RG n (hA t 58) ∧ (∀ j, 0 ≤ j → j < n → hA t 58 j = mG9 (mcf h) j) ∧ HM9 n (hA t 58) (hA t 59)) := by
  refine Cq.of ?_
  show Wp m_X6_fillEnds ((d + 2)) 0 [(2, 41), (0, n), (9, 0), (9, 0), (9, 0), (9, 0)] [] h _
  refine Wp.iconst dX6_fillEnds_0 (by decide) ?_
  refine sti_6_2 rfl (dSt_n dX6_fillEnds_1) ?_
  refine mfe0X d h sh mb n en n1 _ (fun t s frt ht => ?_) _ 0 h (Nat.lt_succ_self _) Fr.rf (by omega) (fun j j0 j1 => absurd j1 (by omega))
  refine Wp.iconst dX6_fillEnds_58 (by decide) ?_
  refine sti_6_2 rfl (dSt_n dX6_fillEnds_59) ?_
  refine (mfe4X d t (sh.fr frt (by decide +kernel) (by decide)) n n1 _ 0 _ _ _ t (Nat.lt_succ_self _) (by omega) Fr.rf (fun j j0 j1 => (ht j j0 j1).1) (fun j j0 j1 => ?_) (fun j j0 j1 j2 => absurd j2 (by omega))).mono (fun r v q => ?_)
  · rw [(ht j j0 j1).2.1, (ht j j0 j1).2.2.1]
    exact ⟨⟨fun z => absurd rfl z, fun z => absurd z (by decide)⟩, fun z => absurd z (by decide)⟩
  · obtain ⟨hr, frv, ez⟩ := q
    have e58 : hA v 58 = hA t 58 := frv.2.2.2.2.2 58 (by decide)
    refine ⟨hr, frt.tr (frv.mono (by decide) (by simp)), fun j j0 j1 => ?_, fun j j0 j1 => ?_, ez⟩
    · rw [e58]
      exact (ht j j0 j1).1
    · rw [e58]
      exact (ht j j0 j1).2.2.2

