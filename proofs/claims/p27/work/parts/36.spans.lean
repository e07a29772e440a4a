theorem ct_place (d : Nat) (h : mH) (i j : Int) (i0 : -1000 ≤ i) (i1 : i ≤ 1000) (j0 : -1000 ≤ j) (j1 : j ≤ 1000) : Ct m_X3_place d [(0, i), (0, j)] h (some (0, i * 10 + j)) h := by
  refine Ct.of ?_
  show Wp m_X3_place (d) 0 [(0, i), (0, j)] [] h _
  refine Wp.ild_n (j := 0) rfl dX3_place_0 ?_
  refine Wp.bipush dX3_place_1 (by decide) ?_
  refine Wp.imulE dX3_place_3 (by first | exact w32_of (by omega) (by omega) | rfl) ?_
  refine Wp.ild_n (j := 1) rfl dX3_place_4 ?_
  refine Wp.iaddE dX3_place_5 (by first | exact w32_of (by omega) (by omega) | rfl) ?_
  refine Wp.iret rfl dX3_place_6 ?_
  exact ⟨rfl, rfl⟩

theorem cq_join (d : Nat) (h : mH) (a b : Int) : Cq m_X3_join d [(1, a), (1, b)] h (fun r t => (∃ y, r = some (1, y)) ∧ t = h) := by
  refine Cq.of ?_
  show Wp m_X3_join (d) 0 [(1, a), (9, 0), (1, b), (9, 0)] [] h _
  refine Wp.lld_n (j := 0) rfl dX3_join_0 ?_
  refine Wp.ldc2 (z := -9223372036854775808) lk_X3_58 (by decide) dX3_join_1 ?_
  refine Wp.lceq dX3_join_4 dX3_join_5 (by decide) (tgt := 16) (fun c4 => ?_) (fun c4 => ?_)
  · refine Wp.ldc2 (z := -9223372036854775808) lk_X3_58 (by decide) dX3_join_16 ?_
    refine Wp.goto (tgt := 25) dX3_join_19 (by decide) ?_
    refine Wp.lret rfl dX3_join_25 ?_
    exact ⟨⟨_, rfl⟩, rfl⟩
  · refine Wp.lld_n (j := 2) rfl dX3_join_8 ?_
    refine Wp.ldc2 (z := -9223372036854775808) lk_X3_58 (by decide) dX3_join_9 ?_
    refine Wp.lcne dX3_join_12 dX3_join_13 (by decide) (tgt := 22) (fun c12 => ?_) (fun c12 => ?_)
    · refine Wp.lld_n (j := 0) rfl dX3_join_22 ?_
      refine Wp.lld_n (j := 2) rfl dX3_join_23 ?_
      refine Wp.laddE dX3_join_24 rfl ?_
      refine Wp.lret rfl dX3_join_25 ?_
      exact ⟨⟨_, rfl⟩, rfl⟩
    · refine Wp.ldc2 (z := -9223372036854775808) lk_X3_58 (by decide) dX3_join_16 ?_
      refine Wp.goto (tgt := 25) dX3_join_19 (by decide) ?_
      refine Wp.lret rfl dX3_join_25 ?_
      exact ⟨⟨_, rfl⟩, rfl⟩

/-- the rooms of the spans -/
def SP (h : mH) (pw sp rr sr : Int) : Prop := (hF h 22 2 = pw ∧ hF h 22 3 = sp ∧ ((pw = 24 ∧ sp = 25) ∨ (pw = 25 ∧ sp = 24))) ∧ (hF h 22 5 = rr ∧ hF h 22 6 = sr ∧ ((rr = 27 ∧ sr = 28) ∨ (rr = 28 ∧ sr = 27))) ∧ (0 ≤ hF h 22 0 ∧ hF h 22 0 ≤ 10) ∧ (0 ≤ hF h 22 11 ∧ hF h 22 11 ≤ 10) ∧ (1 ≤ hF h 22 10 ∧ hF h 22 10 ≤ 10)
def SPx (h : mH) : Prop := ∃ pw sp rr sr, SP h pw sp rr sr
abbrev sAr : List Int := [23, 24, 25, 26, 27, 28, 29]
abbrev sGf : List (Int × Nat) := [(22, 0), (22, 2), (22, 3), (22, 5), (22, 6), (22, 9), (22, 10), (22, 11), (22, 12), (22, 13)]
theorem SP.k {h : mH} {pw sp rr sr : Int} (s : SP h pw sp rr sr) (sh : Sh h) : (hK h pw = 11 ∧ hL h pw = 100) ∧ (hK h sp = 11 ∧ hL h sp = 100) ∧ (hK h rr = 11 ∧ hL h rr = 10) ∧ (hK h sr = 11 ∧ hL h sr = 10) := by
  obtain ⟨⟨-, -, e⟩, ⟨-, -, e2⟩, -⟩ := s
  rcases e with ⟨rfl, rfl⟩ | ⟨rfl, rfl⟩ <;> rcases e2 with ⟨rfl, rfl⟩ | ⟨rfl, rfl⟩ <;> exact ⟨⟨by first | exact sK24 sh | exact sK25 sh, by first | exact sL24 sh | exact sL25 sh⟩, ⟨by first | exact sK24 sh | exact sK25 sh, by first | exact sL24 sh | exact sL25 sh⟩, ⟨by first | exact sK27 sh | exact sK28 sh, by first | exact sL27 sh | exact sL28 sh⟩, ⟨by first | exact sK27 sh | exact sK28 sh, by first | exact sL27 sh | exact sL28 sh⟩⟩
theorem SP.fr {A : List Int} {G : List (Int × Nat)} {h h' : mH} {pw sp rr sr : Int} (s : SP h pw sp rr sr) (f : Fr A G h h') (hG : ∀ k ∈ [0, 2, 3, 5, 6, 10, 11], ((22 : Int), k) ∉ G) : SP h' pw sp rr sr := by
  have e : ∀ k ∈ [0, 2, 3, 5, 6, 10, 11], hF h' 22 k = hF h 22 k := fun k hk => f.2.2.2.2.1 22 k (hG k hk)
  unfold SP
  rw [e 0 (by decide), e 2 (by decide), e 3 (by decide), e 5 (by decide), e 6 (by decide), e 10 (by decide), e 11 (by decide)]
  exact s
theorem SPx.fr {A : List Int} {G : List (Int × Nat)} {h h' : mH} (s : SPx h) (f : Fr A G h h') (hG : ∀ k ∈ [0, 2, 3, 5, 6, 10, 11], ((22 : Int), k) ∉ G) : SPx h' := by
  obtain ⟨pw, sp, rr, sr, s⟩ := s
  exact ⟨pw, sp, rr, sr, s.fr f hG⟩
theorem ne1 {h : mH} {c : Int} (sh : Sh h) (kc : hK h c = 11) : c ≠ 1 := fun e => by
  rw [e, sK1 sh] at kc
  exact absurd kc (by decide)
theorem cq_sempty (d : Nat) (h : mH) (sh : Sh h) (spx : SPx h) (n : Int) (n0 : 0 ≤ n) (n1 : n ≤ 10) : Cq m_X3_empty (d + 1) [(2, 22), (0, n)] h (fun r t => r = none ∧ SPx t ∧ Fr sAr sGf h t) := by
  refine Cq.of ?_
  show Wp m_X3_empty ((d + 1)) 0 [(2, 22), (0, n)] [] h _
  obtain ⟨pw, sp, rr, sr, spq⟩ := id spx
  have kl := spq.k sh
  obtain ⟨⟨p0, p1, p2⟩, ⟨r0, r1, r2⟩, ⟨z0, z1⟩, ⟨q0, q1⟩, ⟨o0, o1⟩⟩ := id spq
  refine Wp.ald_n (j := 0) rfl dX3_empty_0 ?_
  refine Wp.ild_n (j := 1) rfl dX3_empty_1 ?_
  refine Wp.putf (k := 0) (tg := 0) kC3 (by decide) rfl rfl lf_X3_9 dX3_empty_2 (sK22 (h := h) sh) ?_
  refine Wp.ald_n (j := 0) rfl dX3_empty_5 ?_
  refine Wp.getf (k := 1) (tg := 2) kC3 (by decide) rfl lf_X3_15 dX3_empty_6 (sK22 (h := h) sh) (sF22_1 (h := h) sh) ?_
  refine Wp.ldc2 (z := -9223372036854775808) lk_X3_58 (by decide) dX3_empty_9 ?_
  refine Wp.callS0 (ct_fillJ d _ 23 _ 100 (sK23 (h := h) sh) (sL23 (h := h) sh) (by decide) (by decide)) wc_X3_60 sM_J7_fill_d0a16 dX3_empty_12 rfl (Nat.le_of_ble_eq_true rfl) rfl (Nat.le_of_ble_eq_true rfl) ?_
  refine Wp.vret rfl dX3_empty_15 ?_
  exact ⟨rfl, ⟨pw, sp, rr, sr, ⟨p0, p1, p2⟩, ⟨r0, r1, r2⟩, ⟨n0, n1⟩, ⟨q0, q1⟩, ⟨o0, o1⟩⟩, (Fr.f (by decide)).tr (Fr.a (by decide))⟩

theorem cq_has (d : Nat) (h : mH) (sh : Sh h) (i j : Int) : Cq m_X3_has d [(2, 22), (0, i), (0, j)] h (fun r t => r = some (0, if (0 ≤ i ∧ i < hF h 22 0) ∧ 0 ≤ j ∧ j < hF h 22 0 then 1 else 0) ∧ t = h) := by
  refine Cq.of ?_
  show Wp m_X3_has (d) 0 [(2, 22), (0, i), (0, j)] [] h _
  refine Wp.ild_n (j := 1) rfl dX3_has_0 ?_
  refine Wp.iflt dX3_has_1 (by decide) (tgt := 28) (fun c1 => ?_) (fun c1 => ?_)
  · refine Wp.iconst dX3_has_28 (by decide) ?_
    refine Wp.zret rfl dX3_has_29 (by omega) ?_
    first
    | exact ⟨by rw [if_pos (by omega)], rfl⟩
    | exact ⟨by rw [if_neg (by omega)], rfl⟩
  · refine Wp.ild_n (j := 1) rfl dX3_has_4 ?_
    refine Wp.ald_n (j := 0) rfl dX3_has_5 ?_
    refine Wp.getf (k := 0) (tg := 0) kC3 (by decide) rfl lf_X3_9 dX3_has_6 (sK22 (h := h) sh) (show hF _ 22 0 = hF h 22 0 from rfl) ?_
    refine Wp.icge dX3_has_9 (by decide) (tgt := 28) (fun c9 => ?_) (fun c9 => ?_)
    · refine Wp.iconst dX3_has_28 (by decide) ?_
      refine Wp.zret rfl dX3_has_29 (by omega) ?_
      first
      | exact ⟨by rw [if_pos (by omega)], rfl⟩
      | exact ⟨by rw [if_neg (by omega)], rfl⟩
    · refine Wp.ild_n (j := 2) rfl dX3_has_12 ?_
      refine Wp.iflt dX3_has_13 (by decide) (tgt := 28) (fun c13 => ?_) (fun c13 => ?_)
      · refine Wp.iconst dX3_has_28 (by decide) ?_
        refine Wp.zret rfl dX3_has_29 (by omega) ?_
        first
        | exact ⟨by rw [if_pos (by omega)], rfl⟩
        | exact ⟨by rw [if_neg (by omega)], rfl⟩
      · refine Wp.ild_n (j := 2) rfl dX3_has_16 ?_
        refine Wp.ald_n (j := 0) rfl dX3_has_17 ?_
        refine Wp.getf (k := 0) (tg := 0) kC3 (by decide) rfl lf_X3_9 dX3_has_18 (sK22 (h := h) sh) (show hF _ 22 0 = hF h 22 0 from rfl) ?_
        refine Wp.icge dX3_has_21 (by decide) (tgt := 28) (fun c21 => ?_) (fun c21 => ?_)
        · refine Wp.iconst dX3_has_28 (by decide) ?_
          refine Wp.zret rfl dX3_has_29 (by omega) ?_
          first
          | exact ⟨by rw [if_pos (by omega)], rfl⟩
          | exact ⟨by rw [if_neg (by omega)], rfl⟩
        · refine Wp.iconst dX3_has_24 (by decide) ?_
          refine Wp.goto (tgt := 29) dX3_has_25 (by decide) ?_
          refine Wp.zret rfl dX3_has_29 (by omega) ?_
          first
          | exact ⟨by rw [if_pos (by omega)], rfl⟩
          | exact ⟨by rw [if_neg (by omega)], rfl⟩

theorem ct_sput (d : Nat) (h : mH) (sh : Sh h) (i j : Int) (i0 : 0 ≤ i) (i1 : i < 10) (j0 : 0 ≤ j) (j1 : j < 10) (v : Int) : Ct m_X3_put (d + 1) [(2, 22), (0, i), (0, j), (1, v)] h none (sE h 23 (i * 10 + j) v) := by
  refine Ct.of ?_
  show Wp m_X3_put ((d + 1)) 0 [(2, 22), (0, i), (0, j), (1, v), (9, 0)] [] h _
  refine Wp.ald_n (j := 0) rfl dX3_put_0 ?_
  refine Wp.getf (k := 1) (tg := 2) kC3 (by decide) rfl lf_X3_15 dX3_put_1 (sK22 (h := h) sh) (sF22_1 (h := h) sh) ?_
  refine Wp.ild_n (j := 1) rfl dX3_put_4 ?_
  refine Wp.ild_n (j := 2) rfl dX3_put_5 ?_
  refine Wp.callS1 (ct_place d _ _ _ (by omega) (by omega) (by omega) (by omega)) wc_X3_66 sM_X3_place dX3_put_6 rfl (Nat.le_of_ble_eq_true rfl) rfl (Nat.le_of_ble_eq_true rfl) ?_
  refine Wp.lld_n (j := 3) rfl dX3_put_9 ?_
  refine Wp.lastore dX3_put_10 (sK23 (h := h) sh) (by omega) (ilt (sL23 (h := h) sh) (by omega)) ?_
  refine Wp.vret rfl dX3_put_11 ?_
  exact ⟨rfl, rfl⟩

theorem cq_sremove (d : Nat) (h : mH) (sh : Sh h) (i j : Int) (i0 : 0 ≤ i) (i1 : i < 10) (j0 : 0 ≤ j) (j1 : j < 10) : Cq m_X3_remove (d + 1) [(2, 22), (0, i), (0, j)] h (fun r t => (∃ y, r = some (0, y) ∧ (y = 0 ∨ y = 1)) ∧ Fr [23] [] h t) := by
  refine Cq.of ?_
  show Wp m_X3_remove ((d + 1)) 0 [(2, 22), (0, i), (0, j), (9, 0)] [] h _
  refine Wp.ald_n (j := 0) rfl dX3_remove_0 ?_
  refine Wp.getf (k := 1) (tg := 2) kC3 (by decide) rfl lf_X3_15 dX3_remove_1 (sK22 (h := h) sh) (sF22_1 (h := h) sh) ?_
  refine Wp.ild_n (j := 1) rfl dX3_remove_4 ?_
  refine Wp.ild_n (j := 2) rfl dX3_remove_5 ?_
  refine Wp.callS1 (ct_place d _ _ _ (by omega) (by omega) (by omega) (by omega)) wc_X3_66 sM_X3_place dX3_remove_6 rfl (Nat.le_of_ble_eq_true rfl) rfl (Nat.le_of_ble_eq_true rfl) ?_
  refine Wp.laload dX3_remove_9 (sK23 (h := h) sh) (by omega) (ilt (sL23 (h := h) sh) (by omega)) (show hA _ 23 _ = hA h 23 _ from rfl) ?_
  refine Wp.ldc2 (z := -9223372036854775808) lk_X3_58 (by decide) dX3_remove_10 ?_
  refine Wp.lceq dX3_remove_13 dX3_remove_14 (by decide) (tgt := 21) (fun c13 => ?_) (fun c13 => ?_)
  · refine Wp.iconst dX3_remove_21 (by decide) ?_
    refine sti_4_3 rfl (dSt_n dX3_remove_22) ?_
    refine Wp.ald_n (j := 0) rfl dX3_remove_23 ?_
    refine Wp.getf (k := 1) (tg := 2) kC3 (by decide) rfl lf_X3_15 dX3_remove_24 (sK22 (h := h) sh) (sF22_1 (h := h) sh) ?_
    refine Wp.ild_n (j := 1) rfl dX3_remove_27 ?_
    refine Wp.ild_n (j := 2) rfl dX3_remove_28 ?_
    refine Wp.callS1 (ct_place d _ _ _ (by omega) (by omega) (by omega) (by omega)) wc_X3_66 sM_X3_place dX3_remove_29 rfl (Nat.le_of_ble_eq_true rfl) rfl (Nat.le_of_ble_eq_true rfl) ?_
    refine Wp.ldc2 (z := -9223372036854775808) lk_X3_58 (by decide) dX3_remove_32 ?_
    refine Wp.lastore dX3_remove_35 (sK23 (h := h) sh) (by omega) (ilt (sL23 (h := h) sh) (by omega)) ?_
    refine Wp.ild_n (j := 3) rfl dX3_remove_36 ?_
    refine Wp.zret rfl dX3_remove_37 (by omega) ?_
    exact ⟨⟨_, rfl, by omega⟩, Fr.e (by decide)⟩
  · refine Wp.iconst dX3_remove_17 (by decide) ?_
    refine Wp.goto (tgt := 22) dX3_remove_18 (by decide) ?_
    refine sti_4_3 rfl (dSt_n dX3_remove_22) ?_
    refine Wp.ald_n (j := 0) rfl dX3_remove_23 ?_
    refine Wp.getf (k := 1) (tg := 2) kC3 (by decide) rfl lf_X3_15 dX3_remove_24 (sK22 (h := h) sh) (sF22_1 (h := h) sh) ?_
    refine Wp.ild_n (j := 1) rfl dX3_remove_27 ?_
    refine Wp.ild_n (j := 2) rfl dX3_remove_28 ?_
    refine Wp.callS1 (ct_place d _ _ _ (by omega) (by omega) (by omega) (by omega)) wc_X3_66 sM_X3_place dX3_remove_29 rfl (Nat.le_of_ble_eq_true rfl) rfl (Nat.le_of_ble_eq_true rfl) ?_
    refine Wp.ldc2 (z := -9223372036854775808) lk_X3_58 (by decide) dX3_remove_32 ?_
    refine Wp.lastore dX3_remove_35 (sK23 (h := h) sh) (by omega) (ilt (sL23 (h := h) sh) (by omega)) ?_
    refine Wp.ild_n (j := 3) rfl dX3_remove_36 ?_
    refine Wp.zret rfl dX3_remove_37 (by omega) ?_
    exact ⟨⟨_, rfl, by omega⟩, Fr.e (by decide)⟩

theorem takeBetter_loop (d : Nat) (h : mH) (sh : Sh h) (hz : hF h 22 0 ≤ 10) (b c : Int) (kb : hK h b = 11) (lb : hL h b = 100) (kc : hK h c = 11) (lc : hL h c = 100) (k i : Int) (k0 : 0 ≤ k) (k1 : k < 10) (i0 : 0 ≤ i) (i1 : i < 10) (x : Int) : ∀ (m : Nat) (j : Int) (u10 u11 : mV) (h' : mH), (10 - j).toNat < m → (0 ≤ j) → (Fr [c] [] h h') → Wp m_X3_takeBetter (d + 1) 19 [(2, 22), (1, x), (9, 0), (2, b), (0, k), (2, c), (0, i), (0, (k * 10 + 0)), (0, (i * 10 + 0)), (0, j), u10, u11] [] h' (fun r t => r = none ∧ Fr [c] [] h t) := by
  intro m
  induction m with
  | zero => intro j u10 u11 h' hm; exact absurd hm (Nat.not_lt_zero _)
  | succ m ih =>
    intro j u10 u11 h' hm j0 fr
    have hc1 := ne1 sh kc
    have sh' := sh.fr fr (by decide +kernel) (by simp; omega)
    have kb' : hK h' b = 11 := by rw [fr.2.2.1]; exact kb
    have lb' : hL h' b = 100 := by rw [fr.2.2.2.1]; exact lb
    have kc' : hK h' c = 11 := by rw [fr.2.2.1]; exact kc
    have lc' : hL h' c = 100 := by rw [fr.2.2.2.1]; exact lc
    have e0 : hF h' 22 0 = hF h 22 0 := fr.2.2.2.2.1 22 0 (by simp)
    refine Wp.ild (j := 9) rfl dX3_takeBetter_19 ?_
    refine Wp.ald_n (j := 0) rfl dX3_takeBetter_21 ?_
    refine Wp.getf (k := 0) (tg := 0) kC3 (by decide) rfl lf_X3_9 dX3_takeBetter_22 (sK22 (h := h') sh') e0 ?_
    refine Wp.icge dX3_takeBetter_25 (by decide) (tgt := 80) (fun c25 => ?_) (fun c25 => ?_)
    · refine Wp.vret rfl dX3_takeBetter_80 ?_
      exact ⟨rfl, fr⟩
    · refine Wp.ald_n (j := 3) rfl dX3_takeBetter_28 ?_
      refine Wp.ild (j := 7) rfl dX3_takeBetter_29 ?_
      refine Wp.ild (j := 9) rfl dX3_takeBetter_31 ?_
      refine Wp.iaddE dX3_takeBetter_33 (by first | exact w32_of (by omega) (by omega) | rfl) ?_
      refine Wp.laload dX3_takeBetter_34 kb' (by omega) (ilt lb' (by omega)) (show hA _ b _ = hA h' b _ from rfl) ?_
      refine stl_12_10 rfl (dSt_w dX3_takeBetter_35) ?_
      refine Wp.lld (j := 10) rfl dX3_takeBetter_37 ?_
      refine Wp.ldc2 (z := -9223372036854775808) lk_X3_58 (by decide) dX3_takeBetter_39 ?_
      refine Wp.lceq dX3_takeBetter_42 dX3_takeBetter_43 (by decide) (tgt := 74) (fun c42 => ?_) (fun c42 => ?_)
      · refine inc_12_9 rfl dX3_takeBetter_74 (by first | exact w32_of (by omega) (by omega) | rfl) ?_
        refine Wp.goto (tgt := 19) dX3_takeBetter_77 (by decide) ?_
        first
        | exact ih (j + 1) _ _ _ (by omega) (by omega) (fr.tr (Fr.e (List.mem_singleton.mpr rfl)))
        | exact ih (j + 1) _ _ _ (by omega) (by omega) fr
      · refine Wp.lld_n (j := 1) rfl dX3_takeBetter_46 ?_
        refine Wp.lld (j := 10) rfl dX3_takeBetter_47 ?_
        refine Wp.laddE dX3_takeBetter_49 rfl ?_
        refine Wp.ald (j := 5) rfl dX3_takeBetter_50 ?_
        refine Wp.ild (j := 8) rfl dX3_takeBetter_52 ?_
        refine Wp.ild (j := 9) rfl dX3_takeBetter_54 ?_
        refine Wp.iaddE dX3_takeBetter_56 (by first | exact w32_of (by omega) (by omega) | rfl) ?_
        refine Wp.laload dX3_takeBetter_57 kc' (by omega) (ilt lc' (by omega)) (show hA _ c _ = hA h' c _ from rfl) ?_
        refine Wp.lcle dX3_takeBetter_58 dX3_takeBetter_59 (by decide) (tgt := 74) (fun c58 => ?_) (fun c58 => ?_)
        · refine inc_12_9 rfl dX3_takeBetter_74 (by first | exact w32_of (by omega) (by omega) | rfl) ?_
          refine Wp.goto (tgt := 19) dX3_takeBetter_77 (by decide) ?_
          first
          | exact ih (j + 1) _ _ _ (by omega) (by omega) (fr.tr (Fr.e (List.mem_singleton.mpr rfl)))
          | exact ih (j + 1) _ _ _ (by omega) (by omega) fr
        · refine Wp.ald (j := 5) rfl dX3_takeBetter_62 ?_
          refine Wp.ild (j := 8) rfl dX3_takeBetter_64 ?_
          refine Wp.ild (j := 9) rfl dX3_takeBetter_66 ?_
          refine Wp.iaddE dX3_takeBetter_68 (by first | exact w32_of (by omega) (by omega) | rfl) ?_
          refine Wp.lld_n (j := 1) rfl dX3_takeBetter_69 ?_
          refine Wp.lld (j := 10) rfl dX3_takeBetter_70 ?_
          refine Wp.laddE dX3_takeBetter_72 rfl ?_
          refine Wp.lastore dX3_takeBetter_73 kc' (by omega) (ilt lc' (by omega)) ?_
          refine inc_12_9 rfl dX3_takeBetter_74 (by first | exact w32_of (by omega) (by omega) | rfl) ?_
          refine Wp.goto (tgt := 19) dX3_takeBetter_77 (by decide) ?_
          first
          | exact ih (j + 1) _ _ _ (by omega) (by omega) (fr.tr (Fr.e (List.mem_singleton.mpr rfl)))
          | exact ih (j + 1) _ _ _ (by omega) (by omega) fr

theorem cq_takeBetter (d : Nat) (h : mH) (sh : Sh h) (hz : hF h 22 0 ≤ 10) (b c : Int) (kb : hK h b = 11) (lb : hL h b = 100) (kc : hK h c = 11) (lc : hL h c = 100) (k i : Int) (k0 : 0 ≤ k) (k1 : k < 10) (i0 : 0 ≤ i) (i1 : i < 10) (x : Int) : Cq m_X3_takeBetter (d + 1) [(2, 22), (1, x), (2, b), (0, k), (2, c), (0, i)] h (fun r t => r = none ∧ Fr [c] [] h t) := by
  refine Cq.of ?_
  show Wp m_X3_takeBetter ((d + 1)) 0 [(2, 22), (1, x), (9, 0), (2, b), (0, k), (2, c), (0, i), (9, 0), (9, 0), (9, 0), (9, 0), (9, 0)] [] h _
  refine Wp.ild (j := 4) rfl dX3_takeBetter_0 ?_
  refine Wp.iconst dX3_takeBetter_2 (by decide) ?_
  refine Wp.callS1 (ct_place d _ _ _ (by omega) (by omega) (by omega) (by omega)) wc_X3_66 sM_X3_place dX3_takeBetter_3 rfl (Nat.le_of_ble_eq_true rfl) rfl (Nat.le_of_ble_eq_true rfl) ?_
  refine sti_12_7 rfl (dSt_w dX3_takeBetter_6) ?_
  refine Wp.ild (j := 6) rfl dX3_takeBetter_8 ?_
  refine Wp.iconst dX3_takeBetter_10 (by decide) ?_
  refine Wp.callS1 (ct_place d _ _ _ (by omega) (by omega) (by omega) (by omega)) wc_X3_66 sM_X3_place dX3_takeBetter_11 rfl (Nat.le_of_ble_eq_true rfl) rfl (Nat.le_of_ble_eq_true rfl) ?_
  refine sti_12_8 rfl (dSt_w dX3_takeBetter_14) ?_
  refine Wp.iconst dX3_takeBetter_16 (by decide) ?_
  refine sti_12_9 rfl (dSt_w dX3_takeBetter_17) ?_
  exact takeBetter_loop d h sh hz b c kb lb kc lc k i k0 k1 i0 i1 x _ 0 _ _ h (Nat.lt_succ_self _) (Int.le_refl _) Fr.rf

theorem multiply_in (d : Nat) (h : mH) (sh : Sh h) (hz : hF h 22 0 ≤ 10) (a : Int) (ka : hK h a = 11) (la : hL h a = 100) (b c : Int) (kb : hK h b = 11) (lb : hL h b = 100) (kc : hK h c = 11) (lc : hL h c = 100) (i : Int) (i0 : 0 ≤ i) (i1 : i < 10) (Q : Option mV → mH → Prop) (kq : ∀ (u5 u6 u7 : mV) (t : mH), Fr [c] [] h t → Wp m_X3_multiply (d + 2) 10 [(2, 22), (2, a), (2, b), (2, c), (0, i + 1), u5, u6, u7] [] t Q) : ∀ (m : Nat) (k : Int) (u6 u7 : mV) (h' : mH), (10 - k).toNat < m → (0 ≤ k) → (Fr [c] [] h h') → Wp m_X3_multiply (d + 2) 22 [(2, 22), (2, a), (2, b), (2, c), (0, i), (0, k), u6, u7] [] h' Q := by
  intro m
  induction m with
  | zero => intro k u6 u7 h' hm; exact absurd hm (Nat.not_lt_zero _)
  | succ m ih =>
    intro k u6 u7 h' hm k0 fr
    have hc1 := ne1 sh kc
    have sh' := sh.fr fr (by decide +kernel) (by simp; omega)
    have kb' : hK h' b = 11 := by rw [fr.2.2.1]; exact kb
    have lb' : hL h' b = 100 := by rw [fr.2.2.2.1]; exact lb
    have kc' : hK h' c = 11 := by rw [fr.2.2.1]; exact kc
    have lc' : hL h' c = 100 := by rw [fr.2.2.2.1]; exact lc
    have e0 : hF h' 22 0 = hF h 22 0 := fr.2.2.2.2.1 22 0 (by simp)
    have ka' : hK h' a = 11 := by rw [fr.2.2.1]; exact ka
    have la' : hL h' a = 100 := by rw [fr.2.2.2.1]; exact la
    refine Wp.ild (j := 5) rfl dX3_multiply_22 ?_
    refine Wp.ald_n (j := 0) rfl dX3_multiply_24 ?_
    refine Wp.getf (k := 0) (tg := 0) kC3 (by decide) rfl lf_X3_9 dX3_multiply_25 (sK22 (h := h') sh') e0 ?_
    refine Wp.icge dX3_multiply_28 (by decide) (tgt := 69) (fun c28 => ?_) (fun c28 => ?_)
    · refine inc_8_4 rfl dX3_multiply_69 (by first | exact w32_of (by omega) (by omega) | rfl) ?_
      refine Wp.goto (tgt := 10) dX3_multiply_72 (by decide) ?_
      exact kq _ _ _ _ fr
    · refine Wp.ald_n (j := 1) rfl dX3_multiply_31 ?_
      refine Wp.ild (j := 4) rfl dX3_multiply_32 ?_
      refine Wp.ild (j := 5) rfl dX3_multiply_34 ?_
      refine Wp.callS1 (ct_place (d + 1) _ _ _ (by omega) (by omega) (by omega) (by omega)) wc_X3_66 sM_X3_place dX3_multiply_36 rfl (Nat.le_of_ble_eq_true rfl) rfl (Nat.le_of_ble_eq_true rfl) ?_
      refine Wp.laload dX3_multiply_39 ka' (by omega) (ilt la' (by omega)) (show hA _ a _ = hA h' a _ from rfl) ?_
      refine stl_8_6 rfl (dSt_w dX3_multiply_40) ?_
      refine Wp.lld (j := 6) rfl dX3_multiply_42 ?_
      refine Wp.ldc2 (z := -9223372036854775808) lk_X3_58 (by decide) dX3_multiply_44 ?_
      refine Wp.lceq dX3_multiply_47 dX3_multiply_48 (by decide) (tgt := 63) (fun c47 => ?_) (fun c47 => ?_)
      · refine inc_8_5 rfl dX3_multiply_63 (by first | exact w32_of (by omega) (by omega) | rfl) ?_
        refine Wp.goto (tgt := 22) dX3_multiply_66 (by decide) ?_
        first
        | exact ih (k + 1) _ _ _ (by omega) (by omega) (fr.tr f60)
        | exact ih (k + 1) _ _ _ (by omega) (by omega) fr
      · refine Wp.ald_n (j := 0) rfl dX3_multiply_51 ?_
        refine Wp.lld (j := 6) rfl dX3_multiply_52 ?_
        refine Wp.ald_n (j := 2) rfl dX3_multiply_54 ?_
        refine Wp.ild (j := 5) rfl dX3_multiply_55 ?_
        refine Wp.ald_n (j := 3) rfl dX3_multiply_57 ?_
        refine Wp.ild (j := 4) rfl dX3_multiply_58 ?_
        obtain ⟨_, t60, ct60, rfl, f60⟩ := cq_takeBetter d h' sh' (by omega) b c kb' lb' kc' lc' k i k0 (by omega) i0 (by omega) (hA h' a (i * 10 + k))
        refine Wp.callV0 (ct60) wc_X3_70 iM_X3_takeBetter se_X3_takeBetter kC3 (sK22 (h := h') sh') dX3_multiply_60 rfl (Nat.le_of_ble_eq_true rfl) rfl (Nat.le_of_ble_eq_true rfl) ?_
        refine inc_8_5 rfl dX3_multiply_63 (by first | exact w32_of (by omega) (by omega) | rfl) ?_
        refine Wp.goto (tgt := 22) dX3_multiply_66 (by decide) ?_
        first
        | exact ih (k + 1) _ _ _ (by omega) (by omega) (fr.tr f60)
        | exact ih (k + 1) _ _ _ (by omega) (by omega) fr

theorem multiply_out (d : Nat) (h : mH) (sh : Sh h) (hz : hF h 22 0 ≤ 10) (a : Int) (ka : hK h a = 11) (la : hL h a = 100) (b c : Int) (kb : hK h b = 11) (lb : hL h b = 100) (kc : hK h c = 11) (lc : hL h c = 100) : ∀ (m : Nat) (i : Int) (u5 u6 u7 : mV) (h' : mH), (10 - i).toNat < m → (0 ≤ i) → (Fr [c] [] h h') → Wp m_X3_multiply (d + 2) 10 [(2, 22), (2, a), (2, b), (2, c), (0, i), u5, u6, u7] [] h' (fun r t => r = none ∧ Fr [c] [] h t) := by
  intro m
  induction m with
  | zero => intro i u5 u6 u7 h' hm; exact absurd hm (Nat.not_lt_zero _)
  | succ m ih =>
    intro i u5 u6 u7 h' hm i0 fr
    have hc1 := ne1 sh kc
    have sh' := sh.fr fr (by decide +kernel) (by simp; omega)
    have kb' : hK h' b = 11 := by rw [fr.2.2.1]; exact kb
    have lb' : hL h' b = 100 := by rw [fr.2.2.2.1]; exact lb
    have kc' : hK h' c = 11 := by rw [fr.2.2.1]; exact kc
    have lc' : hL h' c = 100 := by rw [fr.2.2.2.1]; exact lc
    have e0 : hF h' 22 0 = hF h 22 0 := fr.2.2.2.2.1 22 0 (by simp)
    have ka' : hK h' a = 11 := by rw [fr.2.2.1]; exact ka
    have la' : hL h' a = 100 := by rw [fr.2.2.2.1]; exact la
    refine Wp.ild (j := 4) rfl dX3_multiply_10 ?_
    refine Wp.ald_n (j := 0) rfl dX3_multiply_12 ?_
    refine Wp.getf (k := 0) (tg := 0) kC3 (by decide) rfl lf_X3_9 dX3_multiply_13 (sK22 (h := h') sh') e0 ?_
    refine Wp.icge dX3_multiply_16 (by decide) (tgt := 75) (fun c16 => ?_) (fun c16 => ?_)
    · refine Wp.vret rfl dX3_multiply_75 ?_
      exact ⟨rfl, fr⟩
    · refine Wp.iconst dX3_multiply_19 (by decide) ?_
      refine sti_8_5 rfl (dSt_w dX3_multiply_20) ?_
      exact multiply_in d h' sh' (by omega) a ka' la' b c kb' lb' kc' lc' i i0 (by omega) _ (fun u5 u6 u7 t ft => ih (i + 1) _ _ _ t (by omega) (by omega) (fr.tr ft)) _ 0 _ _ h' (Nat.lt_succ_self _) (Int.le_refl _) Fr.rf

theorem cq_multiply (d : Nat) (h : mH) (sh : Sh h) (hz : hF h 22 0 ≤ 10) (a : Int) (ka : hK h a = 11) (la : hL h a = 100) (b c : Int) (kb : hK h b = 11) (lb : hL h b = 100) (kc : hK h c = 11) (lc : hL h c = 100) : Cq m_X3_multiply (d + 2) [(2, 22), (2, a), (2, b), (2, c)] h (fun r t => r = none ∧ Fr [c] [] h t) := by
  refine Cq.of ?_
  show Wp m_X3_multiply ((d + 2)) 0 [(2, 22), (2, a), (2, b), (2, c), (9, 0), (9, 0), (9, 0), (9, 0)] [] h _
  refine Wp.ald_n (j := 3) rfl dX3_multiply_0 ?_
  refine Wp.ldc2 (z := -9223372036854775808) lk_X3_58 (by decide) dX3_multiply_1 ?_
  refine Wp.callS0 (ct_fillJ (d + 1) h c _ 100 kc lc (by decide) (by decide)) wc_X3_60 sM_J7_fill_d0a16 dX3_multiply_4 rfl (Nat.le_of_ble_eq_true rfl) rfl (Nat.le_of_ble_eq_true rfl) ?_
  refine Wp.iconst dX3_multiply_7 (by decide) ?_
  refine sti_8_4 rfl (dSt_w dX3_multiply_8) ?_
  have f10 : Fr [c] [] h (sA h c (flF (hA h c) 100 (-9223372036854775808))) := Fr.a (List.mem_singleton.mpr rfl)
  exact (multiply_out d _ (sh.fr f10 (by decide +kernel) (by have := ne1 sh kc; simp; omega)) hz a ka la b c kb lb kc lc _ 0 _ _ _ _ (Nat.lt_succ_self _) (Int.le_refl _) Fr.rf).mono (fun r t q => ⟨q.1, f10.tr q.2⟩)

theorem cq_multiplyPower (d : Nat) (h : mH) (sh : Sh h) (spx : SPx h) (a : Int) (ka : hK h a = 11) (la : hL h a = 100) : Cq m_X3_multiplyPower (d + 3) [(2, 22), (2, a)] h (fun r t => r = none ∧ SPx t ∧ Fr sAr sGf h t) := by
  refine Cq.of ?_
  show Wp m_X3_multiplyPower ((d + 3)) 0 [(2, 22), (2, a), (9, 0)] [] h _
  obtain ⟨pw, sp, rr, sr, spq⟩ := id spx
  have kl := spq.k sh
  obtain ⟨⟨p0, p1, p2⟩, ⟨r0, r1, r2⟩, ⟨z0, z1⟩, ⟨q0, q1⟩, ⟨o0, o1⟩⟩ := id spq
  refine Wp.ald_n (j := 0) rfl dX3_multiplyPower_0 ?_
  refine Wp.ald_n (j := 1) rfl dX3_multiplyPower_1 ?_
  refine Wp.ald_n (j := 0) rfl dX3_multiplyPower_2 ?_
  refine Wp.getf (k := 2) (tg := 2) kC3 (by decide) rfl lf_X3_19 dX3_multiplyPower_3 (sK22 (h := h) sh) p0 ?_
  refine Wp.ald_n (j := 0) rfl dX3_multiplyPower_6 ?_
  refine Wp.getf (k := 3) (tg := 2) kC3 (by decide) rfl lf_X3_22 dX3_multiplyPower_7 (sK22 (h := h) sh) p1 ?_
  obtain ⟨_, t10, ct10, rfl, f10⟩ := cq_multiply d h sh z1 a ka la pw sp kl.1.1 kl.1.2 kl.2.1.1 kl.2.1.2
  have sh10 := sh.fr f10 (by decide +kernel) (by simp; omega)
  have p10 : hF t10 22 3 = sp := (f10.2.2.2.2.1 22 3 (by simp)).trans p1
  have p11 : hF t10 22 2 = pw := (f10.2.2.2.2.1 22 2 (by simp)).trans p0
  refine Wp.callV0 (ct10) wc_X3_74 iM_X3_multiply se_X3_multiply kC3 (sK22 (h := h) sh) dX3_multiplyPower_10 rfl (Nat.le_of_ble_eq_true rfl) rfl (Nat.le_of_ble_eq_true rfl) ?_
  refine Wp.ald_n (j := 0) rfl dX3_multiplyPower_13 ?_
  refine Wp.getf (k := 3) (tg := 2) kC3 (by decide) rfl lf_X3_22 dX3_multiplyPower_14 (sK22 (h := t10) sh10) p10 ?_
  refine sta_3_2 rfl (dSt_n dX3_multiplyPower_17) ?_
  refine Wp.ald_n (j := 0) rfl dX3_multiplyPower_18 ?_
  refine Wp.ald_n (j := 0) rfl dX3_multiplyPower_19 ?_
  refine Wp.getf (k := 2) (tg := 2) kC3 (by decide) rfl lf_X3_19 dX3_multiplyPower_20 (sK22 (h := t10) sh10) p11 ?_
  refine Wp.putf (k := 3) (tg := 2) kC3 (by decide) rfl rfl lf_X3_22 dX3_multiplyPower_23 (sK22 (h := t10) sh10) ?_
  refine Wp.ald_n (j := 0) rfl dX3_multiplyPower_26 ?_
  refine Wp.ald_n (j := 2) rfl dX3_multiplyPower_27 ?_
  refine Wp.putf (k := 2) (tg := 2) kC3 (by decide) rfl rfl lf_X3_19 dX3_multiplyPower_28 (sK22 (h := t10) sh10) ?_
  refine Wp.vret rfl dX3_multiplyPower_31 ?_
  refine ⟨rfl, ⟨sp, pw, rr, sr, ⟨rfl, rfl, by omega⟩, ⟨(f10.2.2.2.2.1 22 5 (by simp)).trans r0, (f10.2.2.2.2.1 22 6 (by simp)).trans r1, r2⟩, ?_, ?_, ?_⟩, ?_⟩
  · show 0 ≤ hF t10 22 0 ∧ hF t10 22 0 ≤ 10
    rw [f10.2.2.2.2.1 22 0 (by simp)]
    exact ⟨z0, z1⟩
  · show 0 ≤ hF t10 22 11 ∧ hF t10 22 11 ≤ 10
    rw [f10.2.2.2.2.1 22 11 (by simp)]
    exact ⟨q0, q1⟩
  · show 1 ≤ hF t10 22 10 ∧ hF t10 22 10 ≤ 10
    rw [f10.2.2.2.2.1 22 10 (by simp)]
    exact ⟨o0, o1⟩
  · exact (f10.mono (by simp; omega) (by simp)).tr ((Fr.f (by decide)).tr (Fr.f (by decide)))

theorem cq_startRow (d : Nat) (h : mH) (sh : Sh h) (spx : SPx h) (j : Int) (j0 : 0 ≤ j) (j1 : j < 10) : Cq m_X3_startRow (d + 1) [(2, 22), (0, j)] h (fun r t => r = none ∧ SPx t ∧ Fr sAr sGf h t) := by
  refine Cq.of ?_
  show Wp m_X3_startRow ((d + 1)) 0 [(2, 22), (0, j)] [] h _
  obtain ⟨pw, sp, rr, sr, spq⟩ := id spx
  have kl := spq.k sh
  obtain ⟨⟨p0, p1, p2⟩, ⟨r0, r1, r2⟩, ⟨z0, z1⟩, ⟨q0, q1⟩, ⟨o0, o1⟩⟩ := id spq
  refine Wp.ald_n (j := 0) rfl dX3_startRow_0 ?_
  refine Wp.getf (k := 5) (tg := 2) kC3 (by decide) rfl lf_X3_28 dX3_startRow_1 (sK22 (h := h) sh) r0 ?_
  refine Wp.ldc2 (z := -9223372036854775808) lk_X3_58 (by decide) dX3_startRow_4 ?_
  refine Wp.callS0 (ct_fillJ d _ rr _ 10 kl.2.2.1.1 kl.2.2.1.2 (by decide) (by decide)) wc_X3_60 sM_J7_fill_d0a16 dX3_startRow_7 rfl (Nat.le_of_ble_eq_true rfl) rfl (Nat.le_of_ble_eq_true rfl) ?_
  refine Wp.ald_n (j := 0) rfl dX3_startRow_10 ?_
  refine Wp.getf (k := 5) (tg := 2) kC3 (by decide) rfl lf_X3_28 dX3_startRow_11 (sK22 (h := h) sh) r0 ?_
  refine Wp.ild_n (j := 1) rfl dX3_startRow_14 ?_
  refine Wp.lconst (z := 0) dX3_startRow_15 (by decide) ?_
  refine Wp.lastore dX3_startRow_16 kl.2.2.1.1 (by omega) (ilt kl.2.2.1.2 (by omega)) ?_
  refine Wp.vret rfl dX3_startRow_17 ?_
  have f : Fr sAr [] h (sE (sA h rr (flF (hA h rr) 10 (-9223372036854775808))) rr j 0) := (Fr.a (by simp; omega)).tr (Fr.e (by simp; omega))
  exact ⟨rfl, spx.fr f (by decide), f.mono (fun _ z => z) (by simp)⟩

