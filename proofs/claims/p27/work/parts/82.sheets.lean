abbrev I32 (x : Int) : Prop := -2147483648 ≤ x ∧ x < 2147483648
theorem shI {h : mH} {s a c : Int} (sh : Sh h) (ss : SHs h) (s0 : 0 ≤ s ∧ s < 4) (ea : a = 33 + 2 * s) (ec : c = 34 + 2 * s) : hK h a = 2 ∧ hF h a 2 = c ∧ hK h c = 11 ∧ hL h c = 100 ∧ hF h a 1 ≤ 100 ∧ hA h 1 s = a := by
  have h1 := ss s s0.1 s0.2
  have h2 := sh.2.2.2.1 s s0.1 s0.2
  rw [← ea] at h1 h2
  rcases (show s = 0 ∨ s = 1 ∨ s = 2 ∨ s = 3 by omega) with z | z | z | z
  · obtain rfl : a = 33 := by omega
    obtain rfl : c = 34 := by omega
    exact ⟨sK33 sh, sF33_2 sh, sK34 sh, sL34 sh, h1, h2⟩
  · obtain rfl : a = 35 := by omega
    obtain rfl : c = 36 := by omega
    exact ⟨sK35 sh, sF35_2 sh, sK36 sh, sL36 sh, h1, h2⟩
  · obtain rfl : a = 37 := by omega
    obtain rfl : c = 38 := by omega
    exact ⟨sK37 sh, sF37_2 sh, sK38 sh, sL38 sh, h1, h2⟩
  · obtain rfl : a = 39 := by omega
    obtain rfl : c = 40 := by omega
    exact ⟨sK39 sh, sF39_2 sh, sK40 sh, sL40 sh, h1, h2⟩
theorem shC {s : Int} (s0 : 0 ≤ s ∧ s < 4) : (33 + 2 * s, 0) ∈ cGf ∧ (33 + 2 * s, 1) ∈ cGf ∧ 34 + 2 * s ∈ cAr := by
  rcases (show s = 0 ∨ s = 1 ∨ s = 2 ∨ s = 3 by omega) with z | z | z | z <;> subst z <;> decide
theorem CK.sheet {h t : mH} {K s a c : Int} (ck : CK h (K + 1)) (s0 : 0 ≤ s ∧ s < 4) (ea : a = 33 + 2 * s) (ec : c = 34 + 2 * s) (fr : Fr [c] [(a, 0), (a, 1), (0, 0)] h t) (hs : SHs t) : CK t K ∧ Kp h t ∧ Kl h t ∧ Kr h t := by
  suffices z : CK t K ∧ Kp h t from ⟨z.1, z.2, Kl.fr fr (by simp; omega) (by simp), Kr.fr ck fr (fun x hx => by simp only [List.mem_singleton] at hx; omega) (by simp) (by simp)⟩
  have hm := shC s0
  rw [← ea, ← ec] at hm
  have e7 : ((0 : Int), 7) ∉ [(a, 0), (a, 1), (0, 0)] := by simp
  have e9 : ((0 : Int), 9) ∉ [(a, 0), (a, 1), (0, 0)] := by simp
  refine ck.fr (fr.mono (fun x z => by simp only [List.mem_singleton] at z; rw [z]; exact hm.2.2) (fun x z => ?_)) (ck.2.1.fr fr (by simp; omega) (by simp; omega) (by simp; omega) (by simp; omega) (by simp)) (ck.2.2.1.fr fr (fun k hk z => ?_)) (by rw [fr.2.2.2.2.1 0 7 e7]; exact ck.2.2.2.1) (by rw [fr.2.2.2.2.1 0 9 e9]; exact ck.2.2.2.2.1) hs
  · simp only [List.mem_cons, List.not_mem_nil, or_false] at z
    rcases z with z | z | z
    · rw [z]; exact hm.1
    · rw [z]; exact hm.2.1
    · rw [z]; decide
  · simp only [List.mem_cons, List.not_mem_nil, or_false, Prod.mk.injEq] at z
    omega
theorem CK.stat0 {h t : mH} {K : Int} (ck : CK h (K + 1)) (fr : Fr [] [(0, 0)] h t) : CK t K ∧ Kp h t ∧ Kl h t ∧ Kr h t := ⟨(ck.stat fr).1, (ck.stat fr).2.1, (ck.stat fr).2.2.2⟩
theorem SHs.fr {A : List Int} {G : List (Int × Nat)} {h t : mH} (ss : SHs h) (fr : Fr A G h t) (hG : ∀ i, 0 ≤ i → i < 4 → ((33 + 2 * i : Int), 1) ∉ G) : SHs t := fun i i0 i1 => by rw [fr.2.2.2.2.1 _ _ (hG i i0 i1)]; exact ss i i0 i1
theorem sheetAt_in (d : Nat) (h : mH) (sh : Sh h) (s a : Int) (s0 : 0 ≤ s ∧ s < 4) (h1 : hA h 1 s = a) (ha : 0 ≤ a) : Wp m_X5_sheetAt d 0 [(2, 0), (0, s)] [] h (fun r t => r = some (2, a) ∧ t = h) := by
  refine Wp.ild_n (j := 1) rfl dX5_sheetAt_0 ?_
  refine Wp.iflt dX5_sheetAt_1 (by decide) (tgt := 22) (fun c1 => absurd c1 (by omega)) (fun _ => ?_)
  refine Wp.ild_n (j := 1) rfl dX5_sheetAt_4 ?_
  refine Wp.ald_n (j := 0) rfl dX5_sheetAt_5 ?_
  refine Wp.getf (k := 1) (tg := 2) kC5 (by decide) rfl lf_X5_15 dX5_sheetAt_6 (sK0 (h := h) sh) (sF0_1 (h := h) sh) ?_
  refine Wp.alen dX5_sheetAt_9 (by decide) (by decide) (sK1 (h := h) sh) (sL1 (h := h) sh) (by omega) ?_
  refine Wp.icge dX5_sheetAt_10 (by decide) (tgt := 22) (fun c10 => absurd c10 (by omega)) (fun _ => ?_)
  refine Wp.ald_n (j := 0) rfl dX5_sheetAt_13 ?_
  refine Wp.getf (k := 1) (tg := 2) kC5 (by decide) rfl lf_X5_15 dX5_sheetAt_14 (sK0 (h := h) sh) (sF0_1 (h := h) sh) ?_
  refine Wp.ild_n (j := 1) rfl dX5_sheetAt_17 ?_
  refine Wp.aaload dX5_sheetAt_18 (Or.inl rfl) (sK1 (h := h) sh) (by omega) (ilt (sL1 (h := h) sh) (by omega)) h1 ?_
  refine Wp.goto (tgt := 23) dX5_sheetAt_19 (by decide) ?_
  refine Wp.aret rfl (Or.inl ⟨_, rfl⟩) dX5_sheetAt_23 ?_
  exact ⟨rfl, rfl⟩

theorem ct_sheetAt (d : Nat) (h : mH) (sh : Sh h) (s a : Int) (s0 : 0 ≤ s ∧ s < 4) (h1 : hA h 1 s = a) (ha : 0 ≤ a) : Ct m_X5_sheetAt d [(2, 0), (0, s)] h (some (2, a)) h := Ct.of (sheetAt_in d h sh s a s0 h1 ha)
theorem ct_sheetNo (d : Nat) (h : mH) (sh : Sh h) (s : Int) (s0 : ¬ (0 ≤ s ∧ s < 4)) : Ct m_X5_sheetAt d [(2, 0), (0, s)] h (some (2, -1)) h := by
  refine Ct.of ?_
  show Wp m_X5_sheetAt (d) 0 [(2, 0), (0, s)] [] h _
  refine Wp.ild_n (j := 1) rfl dX5_sheetAt_0 ?_
  refine Wp.iflt dX5_sheetAt_1 (by decide) (tgt := 22) (fun c1 => ?_) (fun c1 => ?_)
  · refine Wp.null dX5_sheetAt_22 ?_
    refine Wp.aret rfl (Or.inl ⟨_, rfl⟩) dX5_sheetAt_23 ?_
    exact ⟨rfl, rfl⟩
  · refine Wp.ild_n (j := 1) rfl dX5_sheetAt_4 ?_
    refine Wp.ald_n (j := 0) rfl dX5_sheetAt_5 ?_
    refine Wp.getf (k := 1) (tg := 2) kC5 (by decide) rfl lf_X5_15 dX5_sheetAt_6 (sK0 (h := h) sh) (sF0_1 (h := h) sh) ?_
    refine Wp.alen dX5_sheetAt_9 (by decide) (by decide) (sK1 (h := h) sh) (sL1 (h := h) sh) (by omega) ?_
    refine Wp.icge dX5_sheetAt_10 (by decide) (tgt := 22) (fun _ => ?_) (fun c10 => absurd c10 (by omega))
    refine Wp.null dX5_sheetAt_22 ?_
    refine Wp.aret rfl (Or.inl ⟨_, rfl⟩) dX5_sheetAt_23 ?_
    exact ⟨rfl, rfl⟩

theorem kx_sheet_no (h : mH) (K : Int) (ck : CK h (K + 1)) (s : Int) (s0 : ¬ (0 ≤ s ∧ s < 4)) (so mn : Int) : Cq m_X5_sheet 9 [(2, 0), (0, s), (0, so), (0, mn)] h (QC 0 1 ((0 ≤ s ∧ s < 4) ∧ (0 ≤ so ∧ so < 4) ∧ 0 ≤ mn ∧ mn ≤ 100) (fun h t => Cb h t ∧ SEe s so mn (cTb h) (cTb t)) K h) := by
  refine Cq.of ?_
  show Wp m_X5_sheet (9) 0 [(2, 0), (0, s), (0, so), (0, mn), (9, 0)] [] h _
  have sh := ck.1
  have bi := ck.2.1
  have ss := ck.2.2.2.2.2.1
  obtain ⟨⟨r0, r1⟩, ⟨n0, n1⟩, ⟨m0, m1⟩, hp, hq⟩ := id bi
  refine Wp.ald_n (j := 0) rfl dX5_sheet_0 ?_
  refine Wp.ild_n (j := 1) rfl dX5_sheet_1 ?_
  refine Wp.callV1 (ct_sheetNo 8 h sh s s0) wc_X5_61 iM_X5_sheetAt se_X5_sheetAt kC5 (sK0 (h := h) sh) dX5_sheet_2 rfl (Nat.le_of_ble_eq_true rfl) rfl (Nat.le_of_ble_eq_true rfl) ?_
  refine sta_5_4 rfl (dSt_w dX5_sheet_5) ?_
  refine Wp.ald (j := 4) rfl dX5_sheet_7 ?_
  refine Wp.ifnullN dX5_sheet_9 (tgt := 21) (by decide) ?_
  refine Wp.ald_n (j := 0) rfl dX5_sheet_21 ?_
  refine Wp.iconst dX5_sheet_22 (by decide) ?_
  refine Wp.callV1 (ct_refuse 8 h sh 1) wc_X5_65 iM_X5_refuse se_X5_refuse kC5 (sK0 (h := h) sh) dX5_sheet_23 rfl (Nat.le_of_ble_eq_true rfl) rfl (Nat.le_of_ble_eq_true rfl) ?_
  refine Wp.zret rfl dX5_sheet_26 (by omega) ?_
  exact ⟨⟨_, rfl, Or.inl ⟨rfl, by omega, Cn.fr (A := []) (G := [(0, 0)]) (Fr.f (by decide)) (by decide) (by decide)⟩⟩, ck.stat0 (Fr.f (by decide))⟩

theorem kx_sheet_in (h : mH) (K : Int) (ck : CK h (K + 1)) (s a c : Int) (s0 : 0 ≤ s ∧ s < 4) (ea : a = 33 + 2 * s) (ec : c = 34 + 2 * s) (so mn : Int) : Cq m_X5_sheet 9 [(2, 0), (0, s), (0, so), (0, mn)] h (QC 0 1 ((0 ≤ s ∧ s < 4) ∧ (0 ≤ so ∧ so < 4) ∧ 0 ≤ mn ∧ mn ≤ 100) (fun h t => Cb h t ∧ SEe s so mn (cTb h) (cTb t)) K h) := by
  refine Cq.of ?_
  show Wp m_X5_sheet (9) 0 [(2, 0), (0, s), (0, so), (0, mn), (9, 0)] [] h _
  have sh := ck.1
  have bi := ck.2.1
  have ss := ck.2.2.2.2.2.1
  obtain ⟨⟨r0, r1⟩, ⟨n0, n1⟩, ⟨m0, m1⟩, hp, hq⟩ := id bi
  obtain ⟨ka, hca, kc, lc, hl1, h1s⟩ := shI sh ss s0 ea ec
  refine Wp.ald_n (j := 0) rfl dX5_sheet_0 ?_
  refine Wp.ild_n (j := 1) rfl dX5_sheet_1 ?_
  refine Wp.callV1 (ct_sheetAt 8 h sh s a s0 h1s (by omega)) wc_X5_61 iM_X5_sheetAt se_X5_sheetAt kC5 (sK0 (h := h) sh) dX5_sheet_2 rfl (Nat.le_of_ble_eq_true rfl) rfl (Nat.le_of_ble_eq_true rfl) ?_
  refine sta_5_4 rfl (dSt_w dX5_sheet_5) ?_
  refine Wp.ald (j := 4) rfl dX5_sheet_7 ?_
  refine Wp.ifnull dX5_sheet_9 (by omega) ?_
  refine Wp.ild_n (j := 2) rfl dX5_sheet_12 ?_
  refine Wp.iflt dX5_sheet_13 (by decide) (tgt := 21) (fun c13 => ?_) (fun c13 => ?_)
  · refine Wp.ald_n (j := 0) rfl dX5_sheet_21 ?_
    refine Wp.iconst dX5_sheet_22 (by decide) ?_
    refine Wp.callV1 (ct_refuse 8 h sh 1) wc_X5_65 iM_X5_refuse se_X5_refuse kC5 (sK0 (h := h) sh) dX5_sheet_23 rfl (Nat.le_of_ble_eq_true rfl) rfl (Nat.le_of_ble_eq_true rfl) ?_
    refine Wp.zret rfl dX5_sheet_26 (by omega) ?_
    exact ⟨⟨_, rfl, Or.inl ⟨rfl, by omega, Cn.fr (A := []) (G := [(0, 0)]) (Fr.f (by decide)) (by decide) (by decide)⟩⟩, ck.stat0 (Fr.f (by decide))⟩
  · refine Wp.ild_n (j := 2) rfl dX5_sheet_16 ?_
    refine Wp.iconst dX5_sheet_17 (by decide) ?_
    refine Wp.iclt dX5_sheet_18 (by decide) (tgt := 27) (fun c18 => ?_) (fun c18 => ?_)
    · refine Wp.ild_n (j := 3) rfl dX5_sheet_27 ?_
      refine Wp.bipush dX5_sheet_28 (by decide) ?_
      refine Wp.icle dX5_sheet_30 (by decide) (tgt := 39) (fun c30 => ?_) (fun c30 => ?_)
      · refine Wp.ild_n (j := 3) rfl dX5_sheet_39 ?_
        refine Wp.ifge dX5_sheet_40 (by decide) (tgt := 50) (fun c40 => ?_) (fun c40 => ?_)
        · refine Wp.ald (j := 4) rfl dX5_sheet_50 ?_
          refine Wp.ild_n (j := 2) rfl dX5_sheet_52 ?_
          refine Wp.ild_n (j := 3) rfl dX5_sheet_53 ?_
          refine Wp.callV0 (ct_make 7 h a c ka hca kc lc so mn) wc_X5_69 iM_X2_make se_X2_make kC2 ka dX5_sheet_54 rfl (Nat.le_of_ble_eq_true rfl) rfl (Nat.le_of_ble_eq_true rfl) ?_
          refine Wp.ald_n (j := 0) rfl dX5_sheet_57 ?_
          have hok : okG [(a, 0), (a, 1)] = true := by
            rcases (show s = 0 ∨ s = 1 ∨ s = 2 ∨ s = 3 by omega) with z | z | z | z <;> subst z <;> subst ea <;> decide +kernel
          refine Wp.callV1 (ct_accept 8 _ (sh.fr (A := [c]) (G := [(a, 0), (a, 1)]) (((Fr.f (by simp)).tr (Fr.f (by simp))).tr (Fr.a (by simp))) hok (by simp; omega))) wc_X5_73 iM_X5_accept se_X5_accept kC5 (sK0 (h := h) sh) dX5_sheet_58 rfl (Nat.le_of_ble_eq_true rfl) rfl (Nat.le_of_ble_eq_true rfl) ?_
          refine Wp.zret rfl dX5_sheet_61 (by omega) ?_
          refine ⟨⟨_, rfl, Or.inr ⟨rfl, by omega, Cb.fr (A := [c]) (G := [(a, 0), (a, 1), (0, 0)]) (((Fr.f (by simp)).tr (Fr.f (by simp))).tr ((Fr.a (by simp)).tr (Fr.f (by simp)))) (fun k => by simp; omega) (fun x x0 x1 => by simp; omega), by subst ea; subst ec; exact SEe_c s0 (by omega)⟩⟩, ck.sheet s0 ea ec (((Fr.f (by simp)).tr (Fr.f (by simp))).tr ((Fr.a (by simp)).tr (Fr.f (by simp)))) (fun i i0 i1 => ?_)⟩
          show (if 1 = 0 ∧ (33 + 2 * i : Int) = 0 then (0 : Int) else if 1 = 1 ∧ (33 + 2 * i : Int) = a then mn else if 1 = 0 ∧ (33 + 2 * i : Int) = a then so else hF h (33 + 2 * i) 1) ≤ 100
          rw [if_neg (by omega)]
          by_cases e : (33 + 2 * i : Int) = a
          · rw [if_pos ⟨rfl, e⟩]
            omega
          · rw [if_neg (fun z => e z.2), if_neg (by omega)]
            exact ss i i0 i1
        · refine Wp.ald_n (j := 0) rfl dX5_sheet_43 ?_
          refine Wp.bipush dX5_sheet_44 (by decide) ?_
          refine Wp.callV1 (ct_refuse 8 h sh 6) wc_X5_65 iM_X5_refuse se_X5_refuse kC5 (sK0 (h := h) sh) dX5_sheet_46 rfl (Nat.le_of_ble_eq_true rfl) rfl (Nat.le_of_ble_eq_true rfl) ?_
          refine Wp.zret rfl dX5_sheet_49 (by omega) ?_
          exact ⟨⟨_, rfl, Or.inl ⟨rfl, by omega, Cn.fr (A := []) (G := [(0, 0)]) (Fr.f (by decide)) (by decide) (by decide)⟩⟩, ck.stat0 (Fr.f (by decide))⟩
      · refine Wp.ald_n (j := 0) rfl dX5_sheet_33 ?_
        refine Wp.iconst dX5_sheet_34 (by decide) ?_
        refine Wp.callV1 (ct_refuse 8 h sh 2) wc_X5_65 iM_X5_refuse se_X5_refuse kC5 (sK0 (h := h) sh) dX5_sheet_35 rfl (Nat.le_of_ble_eq_true rfl) rfl (Nat.le_of_ble_eq_true rfl) ?_
        refine Wp.zret rfl dX5_sheet_38 (by omega) ?_
        exact ⟨⟨_, rfl, Or.inl ⟨rfl, by omega, Cn.fr (A := []) (G := [(0, 0)]) (Fr.f (by decide)) (by decide) (by decide)⟩⟩, ck.stat0 (Fr.f (by decide))⟩
    · refine Wp.ald_n (j := 0) rfl dX5_sheet_21 ?_
      refine Wp.iconst dX5_sheet_22 (by decide) ?_
      refine Wp.callV1 (ct_refuse 8 h sh 1) wc_X5_65 iM_X5_refuse se_X5_refuse kC5 (sK0 (h := h) sh) dX5_sheet_23 rfl (Nat.le_of_ble_eq_true rfl) rfl (Nat.le_of_ble_eq_true rfl) ?_
      refine Wp.zret rfl dX5_sheet_26 (by omega) ?_
      exact ⟨⟨_, rfl, Or.inl ⟨rfl, by omega, Cn.fr (A := []) (G := [(0, 0)]) (Fr.f (by decide)) (by decide) (by decide)⟩⟩, ck.stat0 (Fr.f (by decide))⟩

theorem kx_sheet (h : mH) (K : Int) (ck : CK h (K + 1)) (s so mn : Int) : Cq m_X5_sheet 9 [(2, 0), (0, s), (0, so), (0, mn)] h (QC 0 1 ((0 ≤ s ∧ s < 4) ∧ (0 ≤ so ∧ so < 4) ∧ 0 ≤ mn ∧ mn ≤ 100) (fun h t => Cb h t ∧ SEe s so mn (cTb h) (cTb t)) K h) := by
  by_cases s0 : 0 ≤ s ∧ s < 4
  · exact kx_sheet_in h K ck s _ _ s0 rfl rfl so mn
  · exact kx_sheet_no h K ck s s0 so mn
theorem kx_write_no (h : mH) (K : Int) (ck : CK h (K + 1)) (s : Int) (s0 : ¬ (0 ≤ s ∧ s < 4)) (p v : Int) : Cq m_X5_write 9 [(2, 0), (0, s), (0, p), (1, v)] h (QC 0 1 ((0 ≤ s ∧ s < 4) ∧ 0 ≤ p ∧ p < hF h (33 + 2 * s) 1) (fun h t => Cb h t ∧ WEe s p v (cTb h) (cTb t)) K h) := by
  refine Cq.of ?_
  show Wp m_X5_write (9) 0 [(2, 0), (0, s), (0, p), (1, v), (9, 0), (9, 0)] [] h _
  have sh := ck.1
  have bi := ck.2.1
  have ss := ck.2.2.2.2.2.1
  obtain ⟨⟨r0, r1⟩, ⟨n0, n1⟩, ⟨m0, m1⟩, hp, hq⟩ := id bi
  refine Wp.ald_n (j := 0) rfl dX5_write_0 ?_
  refine Wp.ild_n (j := 1) rfl dX5_write_1 ?_
  refine Wp.callV1 (ct_sheetNo 8 h sh s s0) wc_X5_61 iM_X5_sheetAt se_X5_sheetAt kC5 (sK0 (h := h) sh) dX5_write_2 rfl (Nat.le_of_ble_eq_true rfl) rfl (Nat.le_of_ble_eq_true rfl) ?_
  refine sta_6_5 rfl (dSt_w dX5_write_5) ?_
  refine Wp.ald (j := 5) rfl dX5_write_7 ?_
  refine Wp.ifnonnullN dX5_write_9 ?_
  refine Wp.ald_n (j := 0) rfl dX5_write_12 ?_
  refine Wp.iconst dX5_write_13 (by decide) ?_
  refine Wp.callV1 (ct_refuse 8 h sh 1) wc_X5_65 iM_X5_refuse se_X5_refuse kC5 (sK0 (h := h) sh) dX5_write_14 rfl (Nat.le_of_ble_eq_true rfl) rfl (Nat.le_of_ble_eq_true rfl) ?_
  refine Wp.zret rfl dX5_write_17 (by omega) ?_
  exact ⟨⟨_, rfl, Or.inl ⟨rfl, by omega, Cn.fr (A := []) (G := [(0, 0)]) (Fr.f (by decide)) (by decide) (by decide)⟩⟩, ck.stat0 (Fr.f (by decide))⟩

theorem kx_write_in (h : mH) (K : Int) (ck : CK h (K + 1)) (s a c : Int) (s0 : 0 ≤ s ∧ s < 4) (ea : a = 33 + 2 * s) (ec : c = 34 + 2 * s) (p v : Int) (rp : I32 p) : Cq m_X5_write 9 [(2, 0), (0, s), (0, p), (1, v)] h (QC 0 1 ((0 ≤ s ∧ s < 4) ∧ 0 ≤ p ∧ p < hF h a 1) (fun h t => Cb h t ∧ WEe s p v (cTb h) (cTb t)) K h) := by
  refine Cq.of ?_
  show Wp m_X5_write (9) 0 [(2, 0), (0, s), (0, p), (1, v), (9, 0), (9, 0)] [] h _
  have sh := ck.1
  have bi := ck.2.1
  have ss := ck.2.2.2.2.2.1
  obtain ⟨⟨r0, r1⟩, ⟨n0, n1⟩, ⟨m0, m1⟩, hp, hq⟩ := id bi
  obtain ⟨ka, hca, kc, lc, hl1, h1s⟩ := shI sh ss s0 ea ec
  refine Wp.ald_n (j := 0) rfl dX5_write_0 ?_
  refine Wp.ild_n (j := 1) rfl dX5_write_1 ?_
  refine Wp.callV1 (ct_sheetAt 8 h sh s a s0 h1s (by omega)) wc_X5_61 iM_X5_sheetAt se_X5_sheetAt kC5 (sK0 (h := h) sh) dX5_write_2 rfl (Nat.le_of_ble_eq_true rfl) rfl (Nat.le_of_ble_eq_true rfl) ?_
  refine sta_6_5 rfl (dSt_w dX5_write_5) ?_
  refine Wp.ald (j := 5) rfl dX5_write_7 ?_
  refine Wp.ifnonnull dX5_write_9 (tgt := 18) (by decide) (by omega) ?_
  refine Wp.ald (j := 5) rfl dX5_write_18 ?_
  refine Wp.callV1 (ct_isMissing 8 h a c ka hca kc lc) wc_X5_77 iM_X2_isMissing se_X2_isMissing kC2 ka dX5_write_20 rfl (Nat.le_of_ble_eq_true rfl) rfl (Nat.le_of_ble_eq_true rfl) ?_
  refine Wp.ifeq dX5_write_23 (by decide) (tgt := 32) (fun c23 => ?_) (fun c23 => ?_)
  · refine Wp.ald (j := 5) rfl dX5_write_32 ?_
    refine Wp.ild_n (j := 2) rfl dX5_write_34 ?_
    refine Wp.iconst dX5_write_35 (by decide) ?_
    refine Wp.callV1 (ct_hasPlaces 8 h a c ka hca kc lc p 1 rp (by decide)) wc_X5_80 iM_X2_hasPlaces se_X2_hasPlaces kC2 ka dX5_write_36 rfl (Nat.le_of_ble_eq_true rfl) rfl (Nat.le_of_ble_eq_true rfl) ?_
    refine Wp.ifne dX5_write_39 (by decide) (tgt := 48) (fun c39 => ?_) (fun c39 => ?_)
    · have c39q : 0 ≤ p ∧ (0 : Int) ≤ 1 ∧ p + 1 ≤ hF h a 1 := by
        by_cases hb : 0 ≤ p ∧ (0 : Int) ≤ 1 ∧ p + 1 ≤ hF h a 1
        · exact hb
        · rw [if_neg hb] at c39
          exact absurd rfl c39
      refine Wp.ald (j := 5) rfl dX5_write_48 ?_
      refine Wp.ild_n (j := 2) rfl dX5_write_50 ?_
      refine Wp.lld_n (j := 3) rfl dX5_write_51 ?_
      refine Wp.callV0 (ct_put 7 h a c ka hca kc lc hl1 p v (by omega)) wc_X5_84 iM_X2_put se_X2_put kC2 ka dX5_write_52 rfl (Nat.le_of_ble_eq_true rfl) rfl (Nat.le_of_ble_eq_true rfl) ?_
      refine Wp.ald_n (j := 0) rfl dX5_write_55 ?_
      refine Wp.callV1 (ct_accept 8 _ (sh.fr (A := [c]) (G := []) (Fr.e (by simp)) (by decide +kernel) (by simp; omega))) wc_X5_73 iM_X5_accept se_X5_accept kC5 (sK0 (h := h) sh) dX5_write_56 rfl (Nat.le_of_ble_eq_true rfl) rfl (Nat.le_of_ble_eq_true rfl) ?_
      refine Wp.zret rfl dX5_write_59 (by omega) ?_
      exact ⟨⟨_, rfl, Or.inr ⟨rfl, by omega, Cb.fr (A := [c]) (G := [(0, 0)]) ((Fr.e (by simp)).tr (Fr.f (by simp))) (fun k => by simp) (fun x x0 x1 => by simp; omega), by subst ea; subst ec; exact WEe_c⟩⟩, ck.sheet s0 ea ec ((Fr.e (by simp)).tr (Fr.f (by simp))) (ss.fr (A := [c]) (G := [(0, 0)]) ((Fr.e (by simp)).tr (Fr.f (by simp))) (fun i i0 i1 => by simp))⟩
    · refine Wp.ald_n (j := 0) rfl dX5_write_42 ?_
      refine Wp.iconst dX5_write_43 (by decide) ?_
      refine Wp.callV1 (ct_refuse 8 h sh 4) wc_X5_65 iM_X5_refuse se_X5_refuse kC5 (sK0 (h := h) sh) dX5_write_44 rfl (Nat.le_of_ble_eq_true rfl) rfl (Nat.le_of_ble_eq_true rfl) ?_
      refine Wp.zret rfl dX5_write_47 (by omega) ?_
      exact ⟨⟨_, rfl, Or.inl ⟨rfl, by omega, Cn.fr (A := []) (G := [(0, 0)]) (Fr.f (by decide)) (by decide) (by decide)⟩⟩, ck.stat0 (Fr.f (by decide))⟩
  · refine Wp.ald_n (j := 0) rfl dX5_write_26 ?_
    refine Wp.iconst dX5_write_27 (by decide) ?_
    refine Wp.callV1 (ct_refuse 8 h sh 3) wc_X5_65 iM_X5_refuse se_X5_refuse kC5 (sK0 (h := h) sh) dX5_write_28 rfl (Nat.le_of_ble_eq_true rfl) rfl (Nat.le_of_ble_eq_true rfl) ?_
    refine Wp.zret rfl dX5_write_31 (by omega) ?_
    exact ⟨⟨_, rfl, Or.inl ⟨rfl, by omega, Cn.fr (A := []) (G := [(0, 0)]) (Fr.f (by decide)) (by decide) (by decide)⟩⟩, ck.stat0 (Fr.f (by decide))⟩

theorem kx_write (h : mH) (K : Int) (ck : CK h (K + 1)) (s p v : Int) (rp : I32 p) : Cq m_X5_write 9 [(2, 0), (0, s), (0, p), (1, v)] h (QC 0 1 ((0 ≤ s ∧ s < 4) ∧ 0 ≤ p ∧ p < hF h (33 + 2 * s) 1) (fun h t => Cb h t ∧ WEe s p v (cTb h) (cTb t)) K h) := by
  by_cases s0 : 0 ≤ s ∧ s < 4
  · exact kx_write_in h K ck s _ _ s0 rfl rfl p v rp
  · exact kx_write_no h K ck s s0 p v
theorem kx_read_no (h : mH) (K : Int) (ck : CK h (K + 1)) (s : Int) (s0 : ¬ (0 ≤ s ∧ s < 4)) (p : Int) : Cq m_X5_read 9 [(2, 0), (0, s), (0, p)] h (fun r t => (∃ y, r = some (1, y) ∧ ((y = -1 ∧ ¬ ((0 ≤ s ∧ s < 4) ∧ 0 ≤ p ∧ p < hF h (33 + 2 * s) 1)) ∨ (y = hA h (34 + 2 * s) p ∧ ((0 ≤ s ∧ s < 4) ∧ 0 ≤ p ∧ p < hF h (33 + 2 * s) 1)))) ∧ CK t K ∧ Kp h t ∧ Cn h t ∧ Kl h t ∧ Kr h t) := by
  refine Cq.of ?_
  show Wp m_X5_read (9) 0 [(2, 0), (0, s), (0, p), (9, 0)] [] h _
  have sh := ck.1
  have bi := ck.2.1
  have ss := ck.2.2.2.2.2.1
  obtain ⟨⟨r0, r1⟩, ⟨n0, n1⟩, ⟨m0, m1⟩, hp, hq⟩ := id bi
  refine Wp.ald_n (j := 0) rfl dX5_read_0 ?_
  refine Wp.ild_n (j := 1) rfl dX5_read_1 ?_
  refine Wp.callV1 (ct_sheetNo 8 h sh s s0) wc_X5_61 iM_X5_sheetAt se_X5_sheetAt kC5 (sK0 (h := h) sh) dX5_read_2 rfl (Nat.le_of_ble_eq_true rfl) rfl (Nat.le_of_ble_eq_true rfl) ?_
  refine sta_4_3 rfl (dSt_n dX5_read_5) ?_
  refine Wp.ald_n (j := 3) rfl dX5_read_6 ?_
  refine Wp.ifnonnullN dX5_read_7 ?_
  refine Wp.ald_n (j := 0) rfl dX5_read_10 ?_
  refine Wp.iconst dX5_read_11 (by decide) ?_
  refine Wp.callV1 (ct_lack 8 h sh 1) wc_X5_88 iM_X5_lack se_X5_lack kC5 (sK0 (h := h) sh) dX5_read_12 rfl (Nat.le_of_ble_eq_true rfl) rfl (Nat.le_of_ble_eq_true rfl) ?_
  refine Wp.i2l dX5_read_15 ?_
  refine Wp.lret rfl dX5_read_16 ?_
  exact ⟨⟨_, rfl, Or.inl ⟨rfl, by omega⟩⟩, ck.stat (Fr.f (by decide))⟩

theorem kx_read_in (h : mH) (K : Int) (ck : CK h (K + 1)) (s a c : Int) (s0 : 0 ≤ s ∧ s < 4) (ea : a = 33 + 2 * s) (ec : c = 34 + 2 * s) (p : Int) (rp : I32 p) : Cq m_X5_read 9 [(2, 0), (0, s), (0, p)] h (fun r t => (∃ y, r = some (1, y) ∧ ((y = -1 ∧ ¬ ((0 ≤ s ∧ s < 4) ∧ 0 ≤ p ∧ p < hF h a 1)) ∨ (y = hA h c p ∧ ((0 ≤ s ∧ s < 4) ∧ 0 ≤ p ∧ p < hF h a 1)))) ∧ CK t K ∧ Kp h t ∧ Cn h t ∧ Kl h t ∧ Kr h t) := by
  refine Cq.of ?_
  show Wp m_X5_read (9) 0 [(2, 0), (0, s), (0, p), (9, 0)] [] h _
  have sh := ck.1
  have bi := ck.2.1
  have ss := ck.2.2.2.2.2.1
  obtain ⟨⟨r0, r1⟩, ⟨n0, n1⟩, ⟨m0, m1⟩, hp, hq⟩ := id bi
  obtain ⟨ka, hca, kc, lc, hl1, h1s⟩ := shI sh ss s0 ea ec
  refine Wp.ald_n (j := 0) rfl dX5_read_0 ?_
  refine Wp.ild_n (j := 1) rfl dX5_read_1 ?_
  refine Wp.callV1 (ct_sheetAt 8 h sh s a s0 h1s (by omega)) wc_X5_61 iM_X5_sheetAt se_X5_sheetAt kC5 (sK0 (h := h) sh) dX5_read_2 rfl (Nat.le_of_ble_eq_true rfl) rfl (Nat.le_of_ble_eq_true rfl) ?_
  refine sta_4_3 rfl (dSt_n dX5_read_5) ?_
  refine Wp.ald_n (j := 3) rfl dX5_read_6 ?_
  refine Wp.ifnonnull dX5_read_7 (tgt := 17) (by decide) (by omega) ?_
  refine Wp.ald_n (j := 3) rfl dX5_read_17 ?_
  refine Wp.callV1 (ct_isMissing 8 h a c ka hca kc lc) wc_X5_77 iM_X2_isMissing se_X2_isMissing kC2 ka dX5_read_18 rfl (Nat.le_of_ble_eq_true rfl) rfl (Nat.le_of_ble_eq_true rfl) ?_
  refine Wp.ifeq dX5_read_21 (by decide) (tgt := 31) (fun c21 => ?_) (fun c21 => ?_)
  · refine Wp.ald_n (j := 3) rfl dX5_read_31 ?_
    refine Wp.ild_n (j := 2) rfl dX5_read_32 ?_
    refine Wp.iconst dX5_read_33 (by decide) ?_
    refine Wp.callV1 (ct_hasPlaces 8 h a c ka hca kc lc p 1 rp (by decide)) wc_X5_80 iM_X2_hasPlaces se_X2_hasPlaces kC2 ka dX5_read_34 rfl (Nat.le_of_ble_eq_true rfl) rfl (Nat.le_of_ble_eq_true rfl) ?_
    refine Wp.ifne dX5_read_37 (by decide) (tgt := 47) (fun c37 => ?_) (fun c37 => ?_)
    · refine Wp.ald_n (j := 0) rfl dX5_read_47 ?_
      refine Wp.iconst dX5_read_48 (by decide) ?_
      refine Wp.putf (k := 0) (tg := 0) kC5 (by decide) rfl rfl lf_X5_9 dX5_read_49 (sK0 (h := h) sh) ?_
      refine Wp.ald_n (j := 3) rfl dX5_read_52 ?_
      refine Wp.ild_n (j := 2) rfl dX5_read_53 ?_
      have ha0 : a ≠ 0 := by omega
      refine Wp.callV1 (ct_at 7 (sF h 0 0 0) a c ka (by rw [hF_sF, if_neg (fun z => ha0 z.2)]; exact hca) kc lc (by rw [hF_sF, if_neg (fun z => ha0 z.2)]; exact hl1) p rp) wc_X5_92 iM_X2_at se_X2_at kC2 ka dX5_read_54 rfl (Nat.le_of_ble_eq_true rfl) rfl (Nat.le_of_ble_eq_true rfl) ?_
      refine Wp.lret rfl dX5_read_57 ?_
      first
      | exact ⟨⟨_, rfl, Or.inl ⟨rfl, by omega⟩⟩, ck.stat (Fr.f (by decide))⟩
      | exact ⟨⟨_, rfl, Or.inr ⟨by show (if 0 ≤ p ∧ p + 1 ≤ hF h a 1 then hA h c p else 0) = hA h c p; rw [if_pos (by omega)], by omega⟩⟩, ck.stat (Fr.f (by decide))⟩
    · refine Wp.ald_n (j := 0) rfl dX5_read_40 ?_
      refine Wp.iconst dX5_read_41 (by decide) ?_
      refine Wp.callV1 (ct_lack 8 h sh 4) wc_X5_88 iM_X5_lack se_X5_lack kC5 (sK0 (h := h) sh) dX5_read_42 rfl (Nat.le_of_ble_eq_true rfl) rfl (Nat.le_of_ble_eq_true rfl) ?_
      refine Wp.i2l dX5_read_45 ?_
      refine Wp.lret rfl dX5_read_46 ?_
      first
      | exact ⟨⟨_, rfl, Or.inl ⟨rfl, by omega⟩⟩, ck.stat (Fr.f (by decide))⟩
      | exact ⟨⟨_, rfl, Or.inr ⟨by show (if 0 ≤ p ∧ p + 1 ≤ hF h a 1 then hA h c p else 0) = hA h c p; rw [if_pos (by omega)], by omega⟩⟩, ck.stat (Fr.f (by decide))⟩
  · refine Wp.ald_n (j := 0) rfl dX5_read_24 ?_
    refine Wp.iconst dX5_read_25 (by decide) ?_
    refine Wp.callV1 (ct_lack 8 h sh 3) wc_X5_88 iM_X5_lack se_X5_lack kC5 (sK0 (h := h) sh) dX5_read_26 rfl (Nat.le_of_ble_eq_true rfl) rfl (Nat.le_of_ble_eq_true rfl) ?_
    refine Wp.i2l dX5_read_29 ?_
    refine Wp.lret rfl dX5_read_30 ?_
    first
    | exact ⟨⟨_, rfl, Or.inl ⟨rfl, by omega⟩⟩, ck.stat (Fr.f (by decide))⟩
    | exact ⟨⟨_, rfl, Or.inr ⟨by show (if 0 ≤ p ∧ p + 1 ≤ hF h a 1 then hA h c p else 0) = hA h c p; rw [if_pos (by omega)], by omega⟩⟩, ck.stat (Fr.f (by decide))⟩

theorem kx_read (h : mH) (K : Int) (ck : CK h (K + 1)) (s p : Int) (rp : I32 p) : Cq m_X5_read 9 [(2, 0), (0, s), (0, p)] h (fun r t => (∃ y, r = some (1, y) ∧ ((y = -1 ∧ ¬ ((0 ≤ s ∧ s < 4) ∧ 0 ≤ p ∧ p < hF h (33 + 2 * s) 1)) ∨ (y = hA h (34 + 2 * s) p ∧ ((0 ≤ s ∧ s < 4) ∧ 0 ≤ p ∧ p < hF h (33 + 2 * s) 1)))) ∧ CK t K ∧ Kp h t ∧ Cn h t ∧ Kl h t ∧ Kr h t) := by
  by_cases s0 : 0 ≤ s ∧ s < 4
  · exact kx_read_in h K ck s _ _ s0 rfl rfl p rp
  · exact kx_read_no h K ck s s0 p
theorem kx_phases_no (h : mH) (K : Int) (ck : CK h (K + 1)) (s : Int) (s0 : ¬ (0 ≤ s ∧ s < 4)) : Cq m_X5_phases 9 [(2, 0), (0, s)] h (QC 0 1 ((0 ≤ s ∧ s < 4) ∧ hF h (33 + 2 * s) 1 ≠ -1 ∧ hF h 2 1 ≤ hF h (33 + 2 * s) 1 ∧ ∀ k, 0 ≤ k → k < hF h 2 1 → 0 ≤ hA h (34 + 2 * s) k ∧ hA h (34 + 2 * s) k ≤ hF h 2 0 - 1) (fun h t => hA t 4 = ciF (hA h (34 + 2 * s)) (hA h 4) (hF h 2 1) ∧ Cx [4] [] h t) K h) := by
  refine Cq.of ?_
  show Wp m_X5_phases (9) 0 [(2, 0), (0, s), (9, 0)] [] h _
  have sh := ck.1
  have bi := ck.2.1
  have ss := ck.2.2.2.2.2.1
  obtain ⟨⟨r0, r1⟩, ⟨n0, n1⟩, ⟨m0, m1⟩, hp, hq⟩ := id bi
  refine Wp.ald_n (j := 0) rfl dX5_phases_0 ?_
  refine Wp.ild_n (j := 1) rfl dX5_phases_1 ?_
  refine Wp.callV1 (ct_sheetNo 8 h sh s s0) wc_X5_61 iM_X5_sheetAt se_X5_sheetAt kC5 (sK0 (h := h) sh) dX5_phases_2 rfl (Nat.le_of_ble_eq_true rfl) rfl (Nat.le_of_ble_eq_true rfl) ?_
  refine sta_3_2 rfl (dSt_n dX5_phases_5) ?_
  refine Wp.ald_n (j := 2) rfl dX5_phases_6 ?_
  refine Wp.ifnonnullN dX5_phases_7 ?_
  refine Wp.ald_n (j := 0) rfl dX5_phases_10 ?_
  refine Wp.iconst dX5_phases_11 (by decide) ?_
  refine Wp.callV1 (ct_refuse 8 h sh 1) wc_X5_65 iM_X5_refuse se_X5_refuse kC5 (sK0 (h := h) sh) dX5_phases_12 rfl (Nat.le_of_ble_eq_true rfl) rfl (Nat.le_of_ble_eq_true rfl) ?_
  refine Wp.zret rfl dX5_phases_15 (by omega) ?_
  exact ⟨⟨_, rfl, Or.inl ⟨rfl, fun z => s0 z.1, Cn.fr (A := []) (G := [(0, 0)]) (Fr.f (by decide)) (by decide) (by decide)⟩⟩, ck.stat0 (Fr.f (by decide))⟩

theorem kx_phases_in (h : mH) (K : Int) (ck : CK h (K + 1)) (s a c : Int) (s0 : 0 ≤ s ∧ s < 4) (ea : a = 33 + 2 * s) (ec : c = 34 + 2 * s) : Cq m_X5_phases 9 [(2, 0), (0, s)] h (QC 0 1 ((0 ≤ s ∧ s < 4) ∧ hF h a 1 ≠ -1 ∧ hF h 2 1 ≤ hF h a 1 ∧ ∀ k, 0 ≤ k → k < hF h 2 1 → 0 ≤ hA h c k ∧ hA h c k ≤ hF h 2 0 - 1) (fun h t => hA t 4 = ciF (hA h c) (hA h 4) (hF h 2 1) ∧ Cx [4] [] h t) K h) := by
  refine Cq.of ?_
  show Wp m_X5_phases (9) 0 [(2, 0), (0, s), (9, 0)] [] h _
  have sh := ck.1
  have bi := ck.2.1
  have ss := ck.2.2.2.2.2.1
  obtain ⟨⟨r0, r1⟩, ⟨n0, n1⟩, ⟨m0, m1⟩, hp, hq⟩ := id bi
  obtain ⟨ka, hca, kc, lc, hl1, h1s⟩ := shI sh ss s0 ea ec
  refine Wp.ald_n (j := 0) rfl dX5_phases_0 ?_
  refine Wp.ild_n (j := 1) rfl dX5_phases_1 ?_
  refine Wp.callV1 (ct_sheetAt 8 h sh s a s0 h1s (by omega)) wc_X5_61 iM_X5_sheetAt se_X5_sheetAt kC5 (sK0 (h := h) sh) dX5_phases_2 rfl (Nat.le_of_ble_eq_true rfl) rfl (Nat.le_of_ble_eq_true rfl) ?_
  refine sta_3_2 rfl (dSt_n dX5_phases_5) ?_
  refine Wp.ald_n (j := 2) rfl dX5_phases_6 ?_
  refine Wp.ifnonnull dX5_phases_7 (tgt := 16) (by decide) (by omega) ?_
  refine Wp.ald_n (j := 2) rfl dX5_phases_16 ?_
  refine Wp.callV1 (ct_isMissing 8 h a c ka hca kc lc) wc_X5_77 iM_X2_isMissing se_X2_isMissing kC2 ka dX5_phases_17 rfl (Nat.le_of_ble_eq_true rfl) rfl (Nat.le_of_ble_eq_true rfl) ?_
  refine Wp.ifeq dX5_phases_20 (by decide) (tgt := 29) (fun c20 => ?_) (fun c20 => ?_)
  · refine Wp.ald_n (j := 2) rfl dX5_phases_29 ?_
    refine Wp.iconst dX5_phases_30 (by decide) ?_
    refine Wp.ald_n (j := 0) rfl dX5_phases_31 ?_
    refine Wp.getf (k := 2) (tg := 2) kC5 (by decide) rfl lf_X5_22 dX5_phases_32 (sK0 (h := h) sh) (sF0_2 (h := h) sh) ?_
    refine Wp.getfN (k := 1) (tg := 0) kC0 (by decide) rfl lf_X5_119 dX5_phases_35 (sK2 (h := h) sh) (show hF _ 2 1 = hF h 2 1 from rfl) ?_
    refine Wp.callV1 (ct_hasPlaces 8 h a c ka hca kc lc 0 (hF h 2 1) (by decide) (by omega)) wc_X5_80 iM_X2_hasPlaces se_X2_hasPlaces kC2 ka dX5_phases_38 rfl (Nat.le_of_ble_eq_true rfl) rfl (Nat.le_of_ble_eq_true rfl) ?_
    refine Wp.ifne dX5_phases_41 (by decide) (tgt := 50) (fun c41 => ?_) (fun c41 => ?_)
    · have c41q : (0 : Int) ≤ 0 ∧ 0 ≤ hF h 2 1 ∧ 0 + hF h 2 1 ≤ hF h a 1 := by
        by_cases hb : (0 : Int) ≤ 0 ∧ 0 ≤ hF h 2 1 ∧ 0 + hF h 2 1 ≤ hF h a 1
        · exact hb
        · rw [if_neg hb] at c41
          exact absurd rfl c41
      refine Wp.ald_n (j := 2) rfl dX5_phases_50 ?_
      refine Wp.ald_n (j := 0) rfl dX5_phases_51 ?_
      refine Wp.getf (k := 2) (tg := 2) kC5 (by decide) rfl lf_X5_22 dX5_phases_52 (sK0 (h := h) sh) (sF0_2 (h := h) sh) ?_
      refine Wp.getfN (k := 1) (tg := 0) kC0 (by decide) rfl lf_X5_119 dX5_phases_55 (sK2 (h := h) sh) (show hF _ 2 1 = hF h 2 1 from rfl) ?_
      refine Wp.ald_n (j := 0) rfl dX5_phases_58 ?_
      refine Wp.getf (k := 2) (tg := 2) kC5 (by decide) rfl lf_X5_22 dX5_phases_59 (sK0 (h := h) sh) (sF0_2 (h := h) sh) ?_
      refine Wp.getfN (k := 0) (tg := 0) kC0 (by decide) rfl lf_X5_138 dX5_phases_62 (sK2 (h := h) sh) (show hF _ 2 0 = hF h 2 0 from rfl) ?_
      refine Wp.iconst dX5_phases_65 (by decide) ?_
      refine Wp.isubE dX5_phases_66 (by first | exact w32_of (by omega) (by omega) | rfl) ?_
      refine Wp.i2l dX5_phases_67 ?_
      obtain ⟨_, t68, ct68, e68, y68, rfl, hy68, hi68⟩ := cq_lies 6 h a c ka hca kc lc (hF h 2 1) (hF h 2 0 - 1) hl1 (by omega)
      rw [e68] at ct68
      refine Wp.callV1 (ct68) wc_X5_141 iM_X2_liesWithin se_X2_liesWithin kC2 ka dX5_phases_68 rfl (Nat.le_of_ble_eq_true rfl) rfl (Nat.le_of_ble_eq_true rfl) ?_
      refine Wp.ifne dX5_phases_71 (by decide) (tgt := 80) (fun c71 => ?_) (fun c71 => ?_)
      · refine Wp.ald_n (j := 2) rfl dX5_phases_80 ?_
        refine Wp.ald_n (j := 0) rfl dX5_phases_81 ?_
        refine Wp.getf (k := 2) (tg := 2) kC5 (by decide) rfl lf_X5_22 dX5_phases_82 (sK0 (h := h) sh) (sF0_2 (h := h) sh) ?_
        refine Wp.getfN (k := 4) (tg := 2) kC0 (by decide) rfl lf_X5_135 dX5_phases_85 (sK2 (h := h) sh) (sF2_4 (h := h) sh) ?_
        refine Wp.ald_n (j := 0) rfl dX5_phases_88 ?_
        refine Wp.getf (k := 2) (tg := 2) kC5 (by decide) rfl lf_X5_22 dX5_phases_89 (sK0 (h := h) sh) (sF0_2 (h := h) sh) ?_
        refine Wp.getfN (k := 1) (tg := 0) kC0 (by decide) rfl lf_X5_119 dX5_phases_92 (sK2 (h := h) sh) (show hF _ 2 1 = hF h 2 1 from rfl) ?_
        refine Wp.callV0 (ct_copyInts 6 h a c ka hca kc lc 4 24 (hF h 2 1) (sK4 sh) (sL4 sh) (by decide) (by omega) hl1 (by omega) n1 n0) wc_X5_145 iM_X2_copyInts se_X2_copyInts kC2 ka dX5_phases_95 rfl (Nat.le_of_ble_eq_true rfl) rfl (Nat.le_of_ble_eq_true rfl) ?_
        refine Wp.ald_n (j := 0) rfl dX5_phases_98 ?_
        refine Wp.callV1 (ct_accept 8 _ (sh.fr (A := [4]) (G := []) (Fr.a (by decide)) (by decide +kernel) (by decide))) wc_X5_73 iM_X5_accept se_X5_accept kC5 (sK0 (h := h) sh) dX5_phases_99 rfl (Nat.le_of_ble_eq_true rfl) rfl (Nat.le_of_ble_eq_true rfl) ?_
        refine Wp.zret rfl dX5_phases_102 (by omega) ?_
        refine ⟨⟨_, rfl, Or.inr ⟨rfl, ⟨s0, by omega, by omega, hi68.mp (by omega)⟩, rfl, Cx.fr (A := [4]) (G := [(0, 0)]) ((Fr.a (by decide)).tr (Fr.f (by decide))) (by decide) (by decide)⟩⟩, ck.bench0 ((Fr.a (by decide)).tr (Fr.f (by decide))) ⟨⟨r0, r1⟩, ⟨n0, n1⟩, ⟨m0, m1⟩, fun k k0 k1 => ?_, hq⟩⟩
        show 0 ≤ hA (sA h 4 (ciF (hA h c) (hA h 4) (hF h 2 1))) 4 k ∧ hA (sA h 4 (ciF (hA h c) (hA h 4) (hF h 2 1))) 4 k < hF h 2 0
        have k1 : k < hF h 2 1 := k1
        rw [hA_sAs]
        unfold ciF
        rw [if_pos ⟨k0, k1⟩]
        have hz : y68 = 1 := by omega
        have hk := hi68.mp hz k k0 k1
        rw [w32_of (by omega) (by omega)]
        omega
      · refine Wp.ald_n (j := 0) rfl dX5_phases_74 ?_
        refine Wp.iconst dX5_phases_75 (by decide) ?_
        refine Wp.callV1 (ct_refuse 8 h sh 2) wc_X5_65 iM_X5_refuse se_X5_refuse kC5 (sK0 (h := h) sh) dX5_phases_76 rfl (Nat.le_of_ble_eq_true rfl) rfl (Nat.le_of_ble_eq_true rfl) ?_
        refine Wp.zret rfl dX5_phases_79 (by omega) ?_
        first
        | exact ⟨⟨_, rfl, Or.inl ⟨rfl, fun z => by obtain ⟨-, z1, z2, -⟩ := z; omega, Cn.fr (A := []) (G := [(0, 0)]) (Fr.f (by decide)) (by decide) (by decide)⟩⟩, ck.stat0 (Fr.f (by decide))⟩
        | exact ⟨⟨_, rfl, Or.inl ⟨rfl, fun z => absurd (hi68.mpr z.2.2.2) (by omega), Cn.fr (A := []) (G := [(0, 0)]) (Fr.f (by decide)) (by decide) (by decide)⟩⟩, ck.stat0 (Fr.f (by decide))⟩
    · refine Wp.ald_n (j := 0) rfl dX5_phases_44 ?_
      refine Wp.iconst dX5_phases_45 (by decide) ?_
      refine Wp.callV1 (ct_refuse 8 h sh 4) wc_X5_65 iM_X5_refuse se_X5_refuse kC5 (sK0 (h := h) sh) dX5_phases_46 rfl (Nat.le_of_ble_eq_true rfl) rfl (Nat.le_of_ble_eq_true rfl) ?_
      refine Wp.zret rfl dX5_phases_49 (by omega) ?_
      first
      | exact ⟨⟨_, rfl, Or.inl ⟨rfl, fun z => by obtain ⟨-, z1, z2, -⟩ := z; omega, Cn.fr (A := []) (G := [(0, 0)]) (Fr.f (by decide)) (by decide) (by decide)⟩⟩, ck.stat0 (Fr.f (by decide))⟩
      | exact ⟨⟨_, rfl, Or.inl ⟨rfl, fun z => absurd (hi68.mpr z.2.2.2) (by omega), Cn.fr (A := []) (G := [(0, 0)]) (Fr.f (by decide)) (by decide) (by decide)⟩⟩, ck.stat0 (Fr.f (by decide))⟩
  · refine Wp.ald_n (j := 0) rfl dX5_phases_23 ?_
    refine Wp.iconst dX5_phases_24 (by decide) ?_
    refine Wp.callV1 (ct_refuse 8 h sh 3) wc_X5_65 iM_X5_refuse se_X5_refuse kC5 (sK0 (h := h) sh) dX5_phases_25 rfl (Nat.le_of_ble_eq_true rfl) rfl (Nat.le_of_ble_eq_true rfl) ?_
    refine Wp.zret rfl dX5_phases_28 (by omega) ?_
    first
    | exact ⟨⟨_, rfl, Or.inl ⟨rfl, fun z => by obtain ⟨-, z1, z2, -⟩ := z; omega, Cn.fr (A := []) (G := [(0, 0)]) (Fr.f (by decide)) (by decide) (by decide)⟩⟩, ck.stat0 (Fr.f (by decide))⟩
    | exact ⟨⟨_, rfl, Or.inl ⟨rfl, fun z => absurd (hi68.mpr z.2.2.2) (by omega), Cn.fr (A := []) (G := [(0, 0)]) (Fr.f (by decide)) (by decide) (by decide)⟩⟩, ck.stat0 (Fr.f (by decide))⟩

theorem kx_phases (h : mH) (K : Int) (ck : CK h (K + 1)) (s : Int) : Cq m_X5_phases 9 [(2, 0), (0, s)] h (QC 0 1 ((0 ≤ s ∧ s < 4) ∧ hF h (33 + 2 * s) 1 ≠ -1 ∧ hF h 2 1 ≤ hF h (33 + 2 * s) 1 ∧ ∀ k, 0 ≤ k → k < hF h 2 1 → 0 ≤ hA h (34 + 2 * s) k ∧ hA h (34 + 2 * s) k ≤ hF h 2 0 - 1) (fun h t => hA t 4 = ciF (hA h (34 + 2 * s)) (hA h 4) (hF h 2 1) ∧ Cx [4] [] h t) K h) := by
  by_cases s0 : 0 ≤ s ∧ s < 4
  · exact kx_phases_in h K ck s _ _ s0 rfl rfl
  · exact kx_phases_no h K ck s s0
theorem kx_push_no (h : mH) (K : Int) (ck : CK h (K + 1)) (s : Int) (s0 : ¬ (0 ≤ s ∧ s < 4)) (mn : Int) : Cq m_X5_push 9 [(2, 0), (0, s), (0, mn)] h (QC 0 1 ((0 ≤ s ∧ s < 4) ∧ hF h (33 + 2 * s) 1 ≠ -1 ∧ (1 ≤ mn ∧ mn ≤ 16) ∧ mn ≤ hF h (33 + 2 * s) 1 ∧ ∀ k, 0 ≤ k → k < mn → 0 ≤ hA h (34 + 2 * s) k ∧ hA h (34 + 2 * s) k ≤ 4096) (fun h t => hA t 7 = ciF (hA h (34 + 2 * s)) (hA h 7) mn ∧ hF t 2 8 = mn ∧ Cx [7] [8] h t) K h) := by
  refine Cq.of ?_
  show Wp m_X5_push (9) 0 [(2, 0), (0, s), (0, mn), (9, 0)] [] h _
  have sh := ck.1
  have bi := ck.2.1
  have ss := ck.2.2.2.2.2.1
  obtain ⟨⟨r0, r1⟩, ⟨n0, n1⟩, ⟨m0, m1⟩, hp, hq⟩ := id bi
  refine Wp.ald_n (j := 0) rfl dX5_push_0 ?_
  refine Wp.ild_n (j := 1) rfl dX5_push_1 ?_
  refine Wp.callV1 (ct_sheetNo 8 h sh s s0) wc_X5_61 iM_X5_sheetAt se_X5_sheetAt kC5 (sK0 (h := h) sh) dX5_push_2 rfl (Nat.le_of_ble_eq_true rfl) rfl (Nat.le_of_ble_eq_true rfl) ?_
  refine sta_4_3 rfl (dSt_n dX5_push_5) ?_
  refine Wp.ald_n (j := 3) rfl dX5_push_6 ?_
  refine Wp.ifnonnullN dX5_push_7 ?_
  refine Wp.ald_n (j := 0) rfl dX5_push_10 ?_
  refine Wp.iconst dX5_push_11 (by decide) ?_
  refine Wp.callV1 (ct_refuse 8 h sh 1) wc_X5_65 iM_X5_refuse se_X5_refuse kC5 (sK0 (h := h) sh) dX5_push_12 rfl (Nat.le_of_ble_eq_true rfl) rfl (Nat.le_of_ble_eq_true rfl) ?_
  refine Wp.zret rfl dX5_push_15 (by omega) ?_
  exact ⟨⟨_, rfl, Or.inl ⟨rfl, fun z => s0 z.1, Cn.fr (A := []) (G := [(0, 0)]) (Fr.f (by decide)) (by decide) (by decide)⟩⟩, ck.stat0 (Fr.f (by decide))⟩

theorem kx_push_in (h : mH) (K : Int) (ck : CK h (K + 1)) (s a c : Int) (s0 : 0 ≤ s ∧ s < 4) (ea : a = 33 + 2 * s) (ec : c = 34 + 2 * s) (mn : Int) : Cq m_X5_push 9 [(2, 0), (0, s), (0, mn)] h (QC 0 1 ((0 ≤ s ∧ s < 4) ∧ hF h a 1 ≠ -1 ∧ (1 ≤ mn ∧ mn ≤ 16) ∧ mn ≤ hF h a 1 ∧ ∀ k, 0 ≤ k → k < mn → 0 ≤ hA h c k ∧ hA h c k ≤ 4096) (fun h t => hA t 7 = ciF (hA h c) (hA h 7) mn ∧ hF t 2 8 = mn ∧ Cx [7] [8] h t) K h) := by
  refine Cq.of ?_
  show Wp m_X5_push (9) 0 [(2, 0), (0, s), (0, mn), (9, 0)] [] h _
  have sh := ck.1
  have bi := ck.2.1
  have ss := ck.2.2.2.2.2.1
  obtain ⟨⟨r0, r1⟩, ⟨n0, n1⟩, ⟨m0, m1⟩, hp, hq⟩ := id bi
  obtain ⟨ka, hca, kc, lc, hl1, h1s⟩ := shI sh ss s0 ea ec
  refine Wp.ald_n (j := 0) rfl dX5_push_0 ?_
  refine Wp.ild_n (j := 1) rfl dX5_push_1 ?_
  refine Wp.callV1 (ct_sheetAt 8 h sh s a s0 h1s (by omega)) wc_X5_61 iM_X5_sheetAt se_X5_sheetAt kC5 (sK0 (h := h) sh) dX5_push_2 rfl (Nat.le_of_ble_eq_true rfl) rfl (Nat.le_of_ble_eq_true rfl) ?_
  refine sta_4_3 rfl (dSt_n dX5_push_5) ?_
  refine Wp.ald_n (j := 3) rfl dX5_push_6 ?_
  refine Wp.ifnonnull dX5_push_7 (tgt := 16) (by decide) (by omega) ?_
  refine Wp.ald_n (j := 3) rfl dX5_push_16 ?_
  refine Wp.callV1 (ct_isMissing 8 h a c ka hca kc lc) wc_X5_77 iM_X2_isMissing se_X2_isMissing kC2 ka dX5_push_17 rfl (Nat.le_of_ble_eq_true rfl) rfl (Nat.le_of_ble_eq_true rfl) ?_
  refine Wp.ifeq dX5_push_20 (by decide) (tgt := 29) (fun c20 => ?_) (fun c20 => ?_)
  · refine Wp.ild_n (j := 2) rfl dX5_push_29 ?_
    refine Wp.iconst dX5_push_30 (by decide) ?_
    refine Wp.iclt dX5_push_31 (by decide) (tgt := 40) (fun c31 => ?_) (fun c31 => ?_)
    · refine Wp.ald_n (j := 0) rfl dX5_push_40 ?_
      refine Wp.iconst dX5_push_41 (by decide) ?_
      refine Wp.callV1 (ct_refuse 8 h sh 2) wc_X5_65 iM_X5_refuse se_X5_refuse kC5 (sK0 (h := h) sh) dX5_push_42 rfl (Nat.le_of_ble_eq_true rfl) rfl (Nat.le_of_ble_eq_true rfl) ?_
      refine Wp.zret rfl dX5_push_45 (by omega) ?_
      first
      | exact ⟨⟨_, rfl, Or.inl ⟨rfl, fun z => by obtain ⟨-, z1, z2, z3, -⟩ := z; omega, Cn.fr (A := []) (G := [(0, 0)]) (Fr.f (by decide)) (by decide) (by decide)⟩⟩, ck.stat0 (Fr.f (by decide))⟩
      | exact ⟨⟨_, rfl, Or.inl ⟨rfl, fun z => absurd (hi66.mpr z.2.2.2.2) (by omega), Cn.fr (A := []) (G := [(0, 0)]) (Fr.f (by decide)) (by decide) (by decide)⟩⟩, ck.stat0 (Fr.f (by decide))⟩
    · refine Wp.ild_n (j := 2) rfl dX5_push_34 ?_
      refine Wp.bipush dX5_push_35 (by decide) ?_
      refine Wp.icle dX5_push_37 (by decide) (tgt := 46) (fun c37 => ?_) (fun c37 => ?_)
      · refine Wp.ald_n (j := 3) rfl dX5_push_46 ?_
        refine Wp.iconst dX5_push_47 (by decide) ?_
        refine Wp.ild_n (j := 2) rfl dX5_push_48 ?_
        refine Wp.callV1 (ct_hasPlaces 8 h a c ka hca kc lc 0 mn (by decide) (by omega)) wc_X5_80 iM_X2_hasPlaces se_X2_hasPlaces kC2 ka dX5_push_49 rfl (Nat.le_of_ble_eq_true rfl) rfl (Nat.le_of_ble_eq_true rfl) ?_
        refine Wp.ifne dX5_push_52 (by decide) (tgt := 61) (fun c52 => ?_) (fun c52 => ?_)
        · have c52q : (0 : Int) ≤ 0 ∧ 0 ≤ mn ∧ 0 + mn ≤ hF h a 1 := by
            by_cases hb : (0 : Int) ≤ 0 ∧ 0 ≤ mn ∧ 0 + mn ≤ hF h a 1
            · exact hb
            · rw [if_neg hb] at c52
              exact absurd rfl c52
          refine Wp.ald_n (j := 3) rfl dX5_push_61 ?_
          refine Wp.ild_n (j := 2) rfl dX5_push_62 ?_
          refine Wp.ldc2 (z := 4096) lk_X5_156 (by decide) dX5_push_63 ?_
          obtain ⟨_, t66, ct66, e66, y66, rfl, hy66, hi66⟩ := cq_lies 6 h a c ka hca kc lc mn 4096 hl1 (by omega)
          rw [e66] at ct66
          refine Wp.callV1 (ct66) wc_X5_141 iM_X2_liesWithin se_X2_liesWithin kC2 ka dX5_push_66 rfl (Nat.le_of_ble_eq_true rfl) rfl (Nat.le_of_ble_eq_true rfl) ?_
          refine Wp.ifne dX5_push_69 (by decide) (tgt := 78) (fun c69 => ?_) (fun c69 => ?_)
          · refine Wp.ald_n (j := 3) rfl dX5_push_78 ?_
            refine Wp.ald_n (j := 0) rfl dX5_push_79 ?_
            refine Wp.getf (k := 2) (tg := 2) kC5 (by decide) rfl lf_X5_22 dX5_push_80 (sK0 (h := h) sh) (sF0_2 (h := h) sh) ?_
            refine Wp.getfN (k := 7) (tg := 2) kC0 (by decide) rfl lf_X5_158 dX5_push_83 (sK2 (h := h) sh) (sF2_7 (h := h) sh) ?_
            refine Wp.ild_n (j := 2) rfl dX5_push_86 ?_
            refine Wp.callV0 (ct_copyInts 6 h a c ka hca kc lc 7 16 mn (sK7 sh) (sL7 sh) (by decide) (by omega) hl1 (by omega) (by omega) (by omega)) wc_X5_145 iM_X2_copyInts se_X2_copyInts kC2 ka dX5_push_87 rfl (Nat.le_of_ble_eq_true rfl) rfl (Nat.le_of_ble_eq_true rfl) ?_
            refine Wp.ald_n (j := 0) rfl dX5_push_90 ?_
            refine Wp.getf (k := 2) (tg := 2) kC5 (by decide) rfl lf_X5_22 dX5_push_91 (sK0 (h := h) sh) (sF0_2 (h := h) sh) ?_
            refine Wp.ild_n (j := 2) rfl dX5_push_94 ?_
            refine Wp.putfN (k := 8) (tg := 0) kC0 (by decide) rfl rfl lf_X5_161 dX5_push_95 (sK2 (h := h) sh) ?_
            refine Wp.ald_n (j := 0) rfl dX5_push_98 ?_
            refine Wp.callV1 (ct_accept 8 _ (sh.fr (A := [7]) (G := [(2, 8)]) ((Fr.a (by decide)).tr (Fr.f (by decide))) (by decide +kernel) (by decide))) wc_X5_73 iM_X5_accept se_X5_accept kC5 (sK0 (h := h) sh) dX5_push_99 rfl (Nat.le_of_ble_eq_true rfl) rfl (Nat.le_of_ble_eq_true rfl) ?_
            refine Wp.zret rfl dX5_push_102 (by omega) ?_
            refine ⟨⟨_, rfl, Or.inr ⟨rfl, ⟨s0, by omega, by omega, by omega, hi66.mp (by omega)⟩, rfl, rfl, Cx.fr (A := [7]) (G := [(0, 0), (2, 8)]) ((Fr.a (by decide)).tr ((Fr.f (by decide)).tr (Fr.f (by decide)))) (by decide) (by decide)⟩⟩, ck.bench0 ((Fr.a (by decide)).tr ((Fr.f (by decide)).tr (Fr.f (by decide)))) ⟨⟨r0, r1⟩, ⟨n0, n1⟩, ⟨by show 1 ≤ mn; omega, by show mn ≤ 16; omega⟩, hp, fun k k0 k1 => ?_⟩⟩
            show 0 ≤ hA (sA h 7 (ciF (hA h c) (hA h 7) mn)) 7 k ∧ hA (sA h 7 (ciF (hA h c) (hA h 7) mn)) 7 k ≤ 4096
            rw [hA_sAs]
            unfold ciF
            by_cases e : 0 ≤ k ∧ k < mn
            · rw [if_pos e]
              have hz : y66 = 1 := by omega
              have hk := hi66.mp hz k e.1 e.2
              rw [w32_of (by omega) (by omega)]
              omega
            · rw [if_neg e]
              exact hq k k0 k1
          · refine Wp.ald_n (j := 0) rfl dX5_push_72 ?_
            refine Wp.iconst dX5_push_73 (by decide) ?_
            refine Wp.callV1 (ct_refuse 8 h sh 2) wc_X5_65 iM_X5_refuse se_X5_refuse kC5 (sK0 (h := h) sh) dX5_push_74 rfl (Nat.le_of_ble_eq_true rfl) rfl (Nat.le_of_ble_eq_true rfl) ?_
            refine Wp.zret rfl dX5_push_77 (by omega) ?_
            first
            | exact ⟨⟨_, rfl, Or.inl ⟨rfl, fun z => by obtain ⟨-, z1, z2, z3, -⟩ := z; omega, Cn.fr (A := []) (G := [(0, 0)]) (Fr.f (by decide)) (by decide) (by decide)⟩⟩, ck.stat0 (Fr.f (by decide))⟩
            | exact ⟨⟨_, rfl, Or.inl ⟨rfl, fun z => absurd (hi66.mpr z.2.2.2.2) (by omega), Cn.fr (A := []) (G := [(0, 0)]) (Fr.f (by decide)) (by decide) (by decide)⟩⟩, ck.stat0 (Fr.f (by decide))⟩
        · refine Wp.ald_n (j := 0) rfl dX5_push_55 ?_
          refine Wp.iconst dX5_push_56 (by decide) ?_
          refine Wp.callV1 (ct_refuse 8 h sh 4) wc_X5_65 iM_X5_refuse se_X5_refuse kC5 (sK0 (h := h) sh) dX5_push_57 rfl (Nat.le_of_ble_eq_true rfl) rfl (Nat.le_of_ble_eq_true rfl) ?_
          refine Wp.zret rfl dX5_push_60 (by omega) ?_
          first
          | exact ⟨⟨_, rfl, Or.inl ⟨rfl, fun z => by obtain ⟨-, z1, z2, z3, -⟩ := z; omega, Cn.fr (A := []) (G := [(0, 0)]) (Fr.f (by decide)) (by decide) (by decide)⟩⟩, ck.stat0 (Fr.f (by decide))⟩
          | exact ⟨⟨_, rfl, Or.inl ⟨rfl, fun z => absurd (hi66.mpr z.2.2.2.2) (by omega), Cn.fr (A := []) (G := [(0, 0)]) (Fr.f (by decide)) (by decide) (by decide)⟩⟩, ck.stat0 (Fr.f (by decide))⟩
      · refine Wp.ald_n (j := 0) rfl dX5_push_40 ?_
        refine Wp.iconst dX5_push_41 (by decide) ?_
        refine Wp.callV1 (ct_refuse 8 h sh 2) wc_X5_65 iM_X5_refuse se_X5_refuse kC5 (sK0 (h := h) sh) dX5_push_42 rfl (Nat.le_of_ble_eq_true rfl) rfl (Nat.le_of_ble_eq_true rfl) ?_
        refine Wp.zret rfl dX5_push_45 (by omega) ?_
        first
        | exact ⟨⟨_, rfl, Or.inl ⟨rfl, fun z => by obtain ⟨-, z1, z2, z3, -⟩ := z; omega, Cn.fr (A := []) (G := [(0, 0)]) (Fr.f (by decide)) (by decide) (by decide)⟩⟩, ck.stat0 (Fr.f (by decide))⟩
        | exact ⟨⟨_, rfl, Or.inl ⟨rfl, fun z => absurd (hi66.mpr z.2.2.2.2) (by omega), Cn.fr (A := []) (G := [(0, 0)]) (Fr.f (by decide)) (by decide) (by decide)⟩⟩, ck.stat0 (Fr.f (by decide))⟩
  · refine Wp.ald_n (j := 0) rfl dX5_push_23 ?_
    refine Wp.iconst dX5_push_24 (by decide) ?_
    refine Wp.callV1 (ct_refuse 8 h sh 3) wc_X5_65 iM_X5_refuse se_X5_refuse kC5 (sK0 (h := h) sh) dX5_push_25 rfl (Nat.le_of_ble_eq_true rfl) rfl (Nat.le_of_ble_eq_true rfl) ?_
    refine Wp.zret rfl dX5_push_28 (by omega) ?_
    first
    | exact ⟨⟨_, rfl, Or.inl ⟨rfl, fun z => by obtain ⟨-, z1, z2, z3, -⟩ := z; omega, Cn.fr (A := []) (G := [(0, 0)]) (Fr.f (by decide)) (by decide) (by decide)⟩⟩, ck.stat0 (Fr.f (by decide))⟩
    | exact ⟨⟨_, rfl, Or.inl ⟨rfl, fun z => absurd (hi66.mpr z.2.2.2.2) (by omega), Cn.fr (A := []) (G := [(0, 0)]) (Fr.f (by decide)) (by decide) (by decide)⟩⟩, ck.stat0 (Fr.f (by decide))⟩

theorem kx_push (h : mH) (K : Int) (ck : CK h (K + 1)) (s mn : Int) : Cq m_X5_push 9 [(2, 0), (0, s), (0, mn)] h (QC 0 1 ((0 ≤ s ∧ s < 4) ∧ hF h (33 + 2 * s) 1 ≠ -1 ∧ (1 ≤ mn ∧ mn ≤ 16) ∧ mn ≤ hF h (33 + 2 * s) 1 ∧ ∀ k, 0 ≤ k → k < mn → 0 ≤ hA h (34 + 2 * s) k ∧ hA h (34 + 2 * s) k ≤ 4096) (fun h t => hA t 7 = ciF (hA h (34 + 2 * s)) (hA h 7) mn ∧ hF t 2 8 = mn ∧ Cx [7] [8] h t) K h) := by
  by_cases s0 : 0 ≤ s ∧ s < 4
  · exact kx_push_in h K ck s _ _ s0 rfl rfl mn
  · exact kx_push_no h K ck s s0 mn
theorem kx_pour_nn (h : mH) (K : Int) (ck : CK h (K + 1)) (s : Int) (s0 : ¬ (0 ≤ s ∧ s < 4)) (i t9 j mn : Int) (t0 : ¬ (0 ≤ t9 ∧ t9 < 4)) : Cq m_X5_pour 9 [(2, 0), (0, s), (0, i), (0, t9), (0, j), (0, mn)] h (QC 0 1 (((0 ≤ s ∧ s < 4) ∧ (0 ≤ t9 ∧ t9 < 4)) ∧ (hF h (33 + 2 * s) 1 ≠ -1 ∧ hF h (33 + 2 * t9) 1 ≠ -1) ∧ hF h (33 + 2 * s) 0 = hF h (33 + 2 * t9) 0 ∧ 0 ≤ mn ∧ 0 ≤ i ∧ 0 ≤ j ∧ i + mn ≤ hF h (33 + 2 * s) 1 ∧ j + mn ≤ hF h (33 + 2 * t9) 1) (fun h t => Cb h t ∧ PEe s i t9 j mn (cTb h) (cTb t)) K h) := by
  refine Cq.of ?_
  show Wp m_X5_pour (9) 0 [(2, 0), (0, s), (0, i), (0, t9), (0, j), (0, mn), (9, 0), (9, 0)] [] h _
  have sh := ck.1
  have bi := ck.2.1
  have ss := ck.2.2.2.2.2.1
  obtain ⟨⟨r0, r1⟩, ⟨n0, n1⟩, ⟨m0, m1⟩, hp, hq⟩ := id bi
  refine Wp.ald_n (j := 0) rfl dX5_pour_0 ?_
  refine Wp.ild_n (j := 1) rfl dX5_pour_1 ?_
  refine Wp.callV1 (ct_sheetNo 8 h sh s s0) wc_X5_61 iM_X5_sheetAt se_X5_sheetAt kC5 (sK0 (h := h) sh) dX5_pour_2 rfl (Nat.le_of_ble_eq_true rfl) rfl (Nat.le_of_ble_eq_true rfl) ?_
  refine sta_8_6 rfl (dSt_w dX5_pour_5) ?_
  refine Wp.ald_n (j := 0) rfl dX5_pour_7 ?_
  refine Wp.ild_n (j := 3) rfl dX5_pour_8 ?_
  refine Wp.callV1 (ct_sheetNo 8 h sh t9 t0) wc_X5_61 iM_X5_sheetAt se_X5_sheetAt kC5 (sK0 (h := h) sh) dX5_pour_9 rfl (Nat.le_of_ble_eq_true rfl) rfl (Nat.le_of_ble_eq_true rfl) ?_
  refine sta_8_7 rfl (dSt_w dX5_pour_12) ?_
  refine Wp.ald (j := 6) rfl dX5_pour_14 ?_
  refine Wp.ifnullN dX5_pour_16 (tgt := 24) (by decide) ?_
  refine Wp.ald_n (j := 0) rfl dX5_pour_24 ?_
  refine Wp.iconst dX5_pour_25 (by decide) ?_
  refine Wp.callV1 (ct_refuse 8 h sh 1) wc_X5_65 iM_X5_refuse se_X5_refuse kC5 (sK0 (h := h) sh) dX5_pour_26 rfl (Nat.le_of_ble_eq_true rfl) rfl (Nat.le_of_ble_eq_true rfl) ?_
  refine Wp.zret rfl dX5_pour_29 (by omega) ?_
  exact ⟨⟨_, rfl, Or.inl ⟨rfl, by omega, Cn.fr (A := []) (G := [(0, 0)]) (Fr.f (by decide)) (by decide) (by decide)⟩⟩, ck.stat0 (Fr.f (by decide))⟩

theorem kx_pour_ny (h : mH) (K : Int) (ck : CK h (K + 1)) (s : Int) (s0 : ¬ (0 ≤ s ∧ s < 4)) (i j mn : Int) (b e : Int) (t9 : Int) (t0 : 0 ≤ t9 ∧ t9 < 4) (eb : b = 33 + 2 * t9) (ee : e = 34 + 2 * t9) : Cq m_X5_pour 9 [(2, 0), (0, s), (0, i), (0, t9), (0, j), (0, mn)] h (QC 0 1 (((0 ≤ s ∧ s < 4) ∧ (0 ≤ t9 ∧ t9 < 4)) ∧ (hF h (33 + 2 * s) 1 ≠ -1 ∧ hF h b 1 ≠ -1) ∧ hF h (33 + 2 * s) 0 = hF h b 0 ∧ 0 ≤ mn ∧ 0 ≤ i ∧ 0 ≤ j ∧ i + mn ≤ hF h (33 + 2 * s) 1 ∧ j + mn ≤ hF h b 1) (fun h t => Cb h t ∧ PEe s i t9 j mn (cTb h) (cTb t)) K h) := by
  refine Cq.of ?_
  show Wp m_X5_pour (9) 0 [(2, 0), (0, s), (0, i), (0, t9), (0, j), (0, mn), (9, 0), (9, 0)] [] h _
  have sh := ck.1
  have bi := ck.2.1
  have ss := ck.2.2.2.2.2.1
  obtain ⟨⟨r0, r1⟩, ⟨n0, n1⟩, ⟨m0, m1⟩, hp, hq⟩ := id bi
  obtain ⟨kb, hcb, ke, le, hl2, h1t⟩ := shI sh ss t0 eb ee
  refine Wp.ald_n (j := 0) rfl dX5_pour_0 ?_
  refine Wp.ild_n (j := 1) rfl dX5_pour_1 ?_
  refine Wp.callV1 (ct_sheetNo 8 h sh s s0) wc_X5_61 iM_X5_sheetAt se_X5_sheetAt kC5 (sK0 (h := h) sh) dX5_pour_2 rfl (Nat.le_of_ble_eq_true rfl) rfl (Nat.le_of_ble_eq_true rfl) ?_
  refine sta_8_6 rfl (dSt_w dX5_pour_5) ?_
  refine Wp.ald_n (j := 0) rfl dX5_pour_7 ?_
  refine Wp.ild_n (j := 3) rfl dX5_pour_8 ?_
  refine Wp.callV1 (ct_sheetAt 8 h sh t9 b t0 h1t (by omega)) wc_X5_61 iM_X5_sheetAt se_X5_sheetAt kC5 (sK0 (h := h) sh) dX5_pour_9 rfl (Nat.le_of_ble_eq_true rfl) rfl (Nat.le_of_ble_eq_true rfl) ?_
  refine sta_8_7 rfl (dSt_w dX5_pour_12) ?_
  refine Wp.ald (j := 6) rfl dX5_pour_14 ?_
  refine Wp.ifnullN dX5_pour_16 (tgt := 24) (by decide) ?_
  refine Wp.ald_n (j := 0) rfl dX5_pour_24 ?_
  refine Wp.iconst dX5_pour_25 (by decide) ?_
  refine Wp.callV1 (ct_refuse 8 h sh 1) wc_X5_65 iM_X5_refuse se_X5_refuse kC5 (sK0 (h := h) sh) dX5_pour_26 rfl (Nat.le_of_ble_eq_true rfl) rfl (Nat.le_of_ble_eq_true rfl) ?_
  refine Wp.zret rfl dX5_pour_29 (by omega) ?_
  exact ⟨⟨_, rfl, Or.inl ⟨rfl, by omega, Cn.fr (A := []) (G := [(0, 0)]) (Fr.f (by decide)) (by decide) (by decide)⟩⟩, ck.stat0 (Fr.f (by decide))⟩

theorem kx_pour_yn (h : mH) (K : Int) (ck : CK h (K + 1)) (s a c : Int) (s0 : 0 ≤ s ∧ s < 4) (ea : a = 33 + 2 * s) (ec : c = 34 + 2 * s) (i t9 j mn : Int) (t0 : ¬ (0 ≤ t9 ∧ t9 < 4)) : Cq m_X5_pour 9 [(2, 0), (0, s), (0, i), (0, t9), (0, j), (0, mn)] h (QC 0 1 (((0 ≤ s ∧ s < 4) ∧ (0 ≤ t9 ∧ t9 < 4)) ∧ (hF h a 1 ≠ -1 ∧ hF h (33 + 2 * t9) 1 ≠ -1) ∧ hF h a 0 = hF h (33 + 2 * t9) 0 ∧ 0 ≤ mn ∧ 0 ≤ i ∧ 0 ≤ j ∧ i + mn ≤ hF h a 1 ∧ j + mn ≤ hF h (33 + 2 * t9) 1) (fun h t => Cb h t ∧ PEe s i t9 j mn (cTb h) (cTb t)) K h) := by
  refine Cq.of ?_
  show Wp m_X5_pour (9) 0 [(2, 0), (0, s), (0, i), (0, t9), (0, j), (0, mn), (9, 0), (9, 0)] [] h _
  have sh := ck.1
  have bi := ck.2.1
  have ss := ck.2.2.2.2.2.1
  obtain ⟨⟨r0, r1⟩, ⟨n0, n1⟩, ⟨m0, m1⟩, hp, hq⟩ := id bi
  obtain ⟨ka, hca, kc, lc, hl1, h1s⟩ := shI sh ss s0 ea ec
  refine Wp.ald_n (j := 0) rfl dX5_pour_0 ?_
  refine Wp.ild_n (j := 1) rfl dX5_pour_1 ?_
  refine Wp.callV1 (ct_sheetAt 8 h sh s a s0 h1s (by omega)) wc_X5_61 iM_X5_sheetAt se_X5_sheetAt kC5 (sK0 (h := h) sh) dX5_pour_2 rfl (Nat.le_of_ble_eq_true rfl) rfl (Nat.le_of_ble_eq_true rfl) ?_
  refine sta_8_6 rfl (dSt_w dX5_pour_5) ?_
  refine Wp.ald_n (j := 0) rfl dX5_pour_7 ?_
  refine Wp.ild_n (j := 3) rfl dX5_pour_8 ?_
  refine Wp.callV1 (ct_sheetNo 8 h sh t9 t0) wc_X5_61 iM_X5_sheetAt se_X5_sheetAt kC5 (sK0 (h := h) sh) dX5_pour_9 rfl (Nat.le_of_ble_eq_true rfl) rfl (Nat.le_of_ble_eq_true rfl) ?_
  refine sta_8_7 rfl (dSt_w dX5_pour_12) ?_
  refine Wp.ald (j := 6) rfl dX5_pour_14 ?_
  refine Wp.ifnull dX5_pour_16 (by omega) ?_
  refine Wp.ald (j := 7) rfl dX5_pour_19 ?_
  refine Wp.ifnonnullN dX5_pour_21 ?_
  refine Wp.ald_n (j := 0) rfl dX5_pour_24 ?_
  refine Wp.iconst dX5_pour_25 (by decide) ?_
  refine Wp.callV1 (ct_refuse 8 h sh 1) wc_X5_65 iM_X5_refuse se_X5_refuse kC5 (sK0 (h := h) sh) dX5_pour_26 rfl (Nat.le_of_ble_eq_true rfl) rfl (Nat.le_of_ble_eq_true rfl) ?_
  refine Wp.zret rfl dX5_pour_29 (by omega) ?_
  exact ⟨⟨_, rfl, Or.inl ⟨rfl, by omega, Cn.fr (A := []) (G := [(0, 0)]) (Fr.f (by decide)) (by decide) (by decide)⟩⟩, ck.stat0 (Fr.f (by decide))⟩

theorem kx_pour_yy (h : mH) (K : Int) (ck : CK h (K + 1)) (s a c : Int) (s0 : 0 ≤ s ∧ s < 4) (ea : a = 33 + 2 * s) (ec : c = 34 + 2 * s) (i j mn : Int) (b e : Int) (t9 : Int) (t0 : 0 ≤ t9 ∧ t9 < 4) (eb : b = 33 + 2 * t9) (ee : e = 34 + 2 * t9) (ri : I32 i) (rj : I32 j) (rn : I32 mn) : Cq m_X5_pour 9 [(2, 0), (0, s), (0, i), (0, t9), (0, j), (0, mn)] h (QC 0 1 (((0 ≤ s ∧ s < 4) ∧ (0 ≤ t9 ∧ t9 < 4)) ∧ (hF h a 1 ≠ -1 ∧ hF h b 1 ≠ -1) ∧ hF h a 0 = hF h b 0 ∧ 0 ≤ mn ∧ 0 ≤ i ∧ 0 ≤ j ∧ i + mn ≤ hF h a 1 ∧ j + mn ≤ hF h b 1) (fun h t => Cb h t ∧ PEe s i t9 j mn (cTb h) (cTb t)) K h) := by
  refine Cq.of ?_
  show Wp m_X5_pour (9) 0 [(2, 0), (0, s), (0, i), (0, t9), (0, j), (0, mn), (9, 0), (9, 0)] [] h _
  have sh := ck.1
  have bi := ck.2.1
  have ss := ck.2.2.2.2.2.1
  obtain ⟨⟨r0, r1⟩, ⟨n0, n1⟩, ⟨m0, m1⟩, hp, hq⟩ := id bi
  obtain ⟨ka, hca, kc, lc, hl1, h1s⟩ := shI sh ss s0 ea ec
  obtain ⟨kb, hcb, ke, le, hl2, h1t⟩ := shI sh ss t0 eb ee
  refine Wp.ald_n (j := 0) rfl dX5_pour_0 ?_
  refine Wp.ild_n (j := 1) rfl dX5_pour_1 ?_
  refine Wp.callV1 (ct_sheetAt 8 h sh s a s0 h1s (by omega)) wc_X5_61 iM_X5_sheetAt se_X5_sheetAt kC5 (sK0 (h := h) sh) dX5_pour_2 rfl (Nat.le_of_ble_eq_true rfl) rfl (Nat.le_of_ble_eq_true rfl) ?_
  refine sta_8_6 rfl (dSt_w dX5_pour_5) ?_
  refine Wp.ald_n (j := 0) rfl dX5_pour_7 ?_
  refine Wp.ild_n (j := 3) rfl dX5_pour_8 ?_
  refine Wp.callV1 (ct_sheetAt 8 h sh t9 b t0 h1t (by omega)) wc_X5_61 iM_X5_sheetAt se_X5_sheetAt kC5 (sK0 (h := h) sh) dX5_pour_9 rfl (Nat.le_of_ble_eq_true rfl) rfl (Nat.le_of_ble_eq_true rfl) ?_
  refine sta_8_7 rfl (dSt_w dX5_pour_12) ?_
  refine Wp.ald (j := 6) rfl dX5_pour_14 ?_
  refine Wp.ifnull dX5_pour_16 (by omega) ?_
  refine Wp.ald (j := 7) rfl dX5_pour_19 ?_
  refine Wp.ifnonnull dX5_pour_21 (tgt := 30) (by decide) (by omega) ?_
  refine Wp.ald (j := 6) rfl dX5_pour_30 ?_
  refine Wp.callV1 (ct_isMissing 8 h a c ka hca kc lc) wc_X5_77 iM_X2_isMissing se_X2_isMissing kC2 ka dX5_pour_32 rfl (Nat.le_of_ble_eq_true rfl) rfl (Nat.le_of_ble_eq_true rfl) ?_
  refine Wp.ifne dX5_pour_35 (by decide) (tgt := 46) (fun c35 => ?_) (fun c35 => ?_)
  · refine Wp.ald_n (j := 0) rfl dX5_pour_46 ?_
    refine Wp.iconst dX5_pour_47 (by decide) ?_
    refine Wp.callV1 (ct_refuse 8 h sh 3) wc_X5_65 iM_X5_refuse se_X5_refuse kC5 (sK0 (h := h) sh) dX5_pour_48 rfl (Nat.le_of_ble_eq_true rfl) rfl (Nat.le_of_ble_eq_true rfl) ?_
    refine Wp.zret rfl dX5_pour_51 (by omega) ?_
    exact ⟨⟨_, rfl, Or.inl ⟨rfl, by omega, Cn.fr (A := []) (G := [(0, 0)]) (Fr.f (by decide)) (by decide) (by decide)⟩⟩, ck.stat0 (Fr.f (by decide))⟩
  · refine Wp.ald (j := 7) rfl dX5_pour_38 ?_
    refine Wp.callV1 (ct_isMissing 8 h b e kb hcb ke le) wc_X5_77 iM_X2_isMissing se_X2_isMissing kC2 kb dX5_pour_40 rfl (Nat.le_of_ble_eq_true rfl) rfl (Nat.le_of_ble_eq_true rfl) ?_
    refine Wp.ifeq dX5_pour_43 (by decide) (tgt := 52) (fun c43 => ?_) (fun c43 => ?_)
    · refine Wp.ald (j := 6) rfl dX5_pour_52 ?_
      refine Wp.getfN (k := 0) (tg := 0) kC2 (by decide) rfl lf_X5_96 dX5_pour_54 ka (show hF _ a 0 = hF h a 0 from rfl) ?_
      refine Wp.ald (j := 7) rfl dX5_pour_57 ?_
      refine Wp.getfN (k := 0) (tg := 0) kC2 (by decide) rfl lf_X5_96 dX5_pour_59 kb (show hF _ b 0 = hF h b 0 from rfl) ?_
      refine Wp.iceq dX5_pour_62 (by decide) (tgt := 72) (fun c62 => ?_) (fun c62 => ?_)
      · refine Wp.ild (j := 5) rfl dX5_pour_72 ?_
        refine Wp.ifge dX5_pour_74 (by decide) (tgt := 84) (fun c74 => ?_) (fun c74 => ?_)
        · refine Wp.ald (j := 6) rfl dX5_pour_84 ?_
          refine Wp.ild_n (j := 2) rfl dX5_pour_86 ?_
          refine Wp.ild (j := 5) rfl dX5_pour_87 ?_
          refine Wp.callV1 (ct_hasPlaces 8 h a c ka hca kc lc i mn ri rn) wc_X5_80 iM_X2_hasPlaces se_X2_hasPlaces kC2 ka dX5_pour_89 rfl (Nat.le_of_ble_eq_true rfl) rfl (Nat.le_of_ble_eq_true rfl) ?_
          refine Wp.ifeq dX5_pour_92 (by decide) (tgt := 107) (fun c92 => ?_) (fun c92 => ?_)
          · refine Wp.ald_n (j := 0) rfl dX5_pour_107 ?_
            refine Wp.iconst dX5_pour_108 (by decide) ?_
            refine Wp.callV1 (ct_refuse 8 h sh 4) wc_X5_65 iM_X5_refuse se_X5_refuse kC5 (sK0 (h := h) sh) dX5_pour_109 rfl (Nat.le_of_ble_eq_true rfl) rfl (Nat.le_of_ble_eq_true rfl) ?_
            refine Wp.zret rfl dX5_pour_112 (by omega) ?_
            exact ⟨⟨_, rfl, Or.inl ⟨rfl, by omega, Cn.fr (A := []) (G := [(0, 0)]) (Fr.f (by decide)) (by decide) (by decide)⟩⟩, ck.stat0 (Fr.f (by decide))⟩
          · refine Wp.ald (j := 7) rfl dX5_pour_95 ?_
            refine Wp.ild (j := 4) rfl dX5_pour_97 ?_
            refine Wp.ild (j := 5) rfl dX5_pour_99 ?_
            refine Wp.callV1 (ct_hasPlaces 8 h b e kb hcb ke le j mn rj rn) wc_X5_80 iM_X2_hasPlaces se_X2_hasPlaces kC2 kb dX5_pour_101 rfl (Nat.le_of_ble_eq_true rfl) rfl (Nat.le_of_ble_eq_true rfl) ?_
            refine Wp.ifne dX5_pour_104 (by decide) (tgt := 113) (fun c104 => ?_) (fun c104 => ?_)
            · have c92q : 0 ≤ i ∧ 0 ≤ mn ∧ i + mn ≤ hF h a 1 := by
                by_cases hb : 0 ≤ i ∧ 0 ≤ mn ∧ i + mn ≤ hF h a 1
                · exact hb
                · rw [if_neg hb] at c92
                  exact absurd rfl c92
              have c104q : 0 ≤ j ∧ 0 ≤ mn ∧ j + mn ≤ hF h b 1 := by
                by_cases hb : 0 ≤ j ∧ 0 ≤ mn ∧ j + mn ≤ hF h b 1
                · exact hb
                · rw [if_neg hb] at c104
                  exact absurd rfl c104
              refine Wp.ald (j := 6) rfl dX5_pour_113 ?_
              refine Wp.getfN (k := 2) (tg := 2) kC2 (by decide) rfl lf_X5_99 dX5_pour_115 ka hca ?_
              refine Wp.ild_n (j := 2) rfl dX5_pour_118 ?_
              refine Wp.ald (j := 7) rfl dX5_pour_119 ?_
              refine Wp.getfN (k := 2) (tg := 2) kC2 (by decide) rfl lf_X5_99 dX5_pour_121 kb hcb ?_
              refine Wp.ild (j := 4) rfl dX5_pour_124 ?_
              refine Wp.ild (j := 5) rfl dX5_pour_126 ?_
              refine Wp.acopy (t := 11) (Or.inr rfl) wa_X5_103 wA2 wA3 wA4 dX5_pour_128 kc ke (by omega) (by omega) (by omega) (ile lc (by omega)) (ile le (by omega)) (Nat.le_of_ble_eq_true rfl) ?_
              refine Wp.ald_n (j := 0) rfl dX5_pour_131 ?_
              refine Wp.callV1 (ct_accept 8 _ (sh.fr (A := [e]) (G := []) (Fr.a (by simp)) (by decide +kernel) (by simp; omega))) wc_X5_73 iM_X5_accept se_X5_accept kC5 (sK0 (h := h) sh) dX5_pour_132 rfl (Nat.le_of_ble_eq_true rfl) rfl (Nat.le_of_ble_eq_true rfl) ?_
              refine Wp.zret rfl dX5_pour_135 (by omega) ?_
              exact ⟨⟨_, rfl, Or.inr ⟨rfl, by omega, Cb.fr (A := [e]) (G := [(0, 0)]) ((Fr.a (by simp)).tr (Fr.f (by simp))) (fun k => by simp) (fun x x0 x1 => by simp; omega), by subst ea; subst ec; subst eb; subst ee; exact PEe_c⟩⟩, ck.sheet t0 eb ee ((Fr.a (by simp)).tr (Fr.f (by simp))) (ss.fr (A := [e]) (G := [(0, 0)]) ((Fr.a (by simp)).tr (Fr.f (by simp))) (fun i i0 i1 => by simp))⟩
            · refine Wp.ald_n (j := 0) rfl dX5_pour_107 ?_
              refine Wp.iconst dX5_pour_108 (by decide) ?_
              refine Wp.callV1 (ct_refuse 8 h sh 4) wc_X5_65 iM_X5_refuse se_X5_refuse kC5 (sK0 (h := h) sh) dX5_pour_109 rfl (Nat.le_of_ble_eq_true rfl) rfl (Nat.le_of_ble_eq_true rfl) ?_
              refine Wp.zret rfl dX5_pour_112 (by omega) ?_
              exact ⟨⟨_, rfl, Or.inl ⟨rfl, by omega, Cn.fr (A := []) (G := [(0, 0)]) (Fr.f (by decide)) (by decide) (by decide)⟩⟩, ck.stat0 (Fr.f (by decide))⟩
        · refine Wp.ald_n (j := 0) rfl dX5_pour_77 ?_
          refine Wp.bipush dX5_pour_78 (by decide) ?_
          refine Wp.callV1 (ct_refuse 8 h sh 6) wc_X5_65 iM_X5_refuse se_X5_refuse kC5 (sK0 (h := h) sh) dX5_pour_80 rfl (Nat.le_of_ble_eq_true rfl) rfl (Nat.le_of_ble_eq_true rfl) ?_
          refine Wp.zret rfl dX5_pour_83 (by omega) ?_
          exact ⟨⟨_, rfl, Or.inl ⟨rfl, by omega, Cn.fr (A := []) (G := [(0, 0)]) (Fr.f (by decide)) (by decide) (by decide)⟩⟩, ck.stat0 (Fr.f (by decide))⟩
      · refine Wp.ald_n (j := 0) rfl dX5_pour_65 ?_
        refine Wp.bipush dX5_pour_66 (by decide) ?_
        refine Wp.callV1 (ct_refuse 8 h sh 11) wc_X5_65 iM_X5_refuse se_X5_refuse kC5 (sK0 (h := h) sh) dX5_pour_68 rfl (Nat.le_of_ble_eq_true rfl) rfl (Nat.le_of_ble_eq_true rfl) ?_
        refine Wp.zret rfl dX5_pour_71 (by omega) ?_
        exact ⟨⟨_, rfl, Or.inl ⟨rfl, by omega, Cn.fr (A := []) (G := [(0, 0)]) (Fr.f (by decide)) (by decide) (by decide)⟩⟩, ck.stat0 (Fr.f (by decide))⟩
    · refine Wp.ald_n (j := 0) rfl dX5_pour_46 ?_
      refine Wp.iconst dX5_pour_47 (by decide) ?_
      refine Wp.callV1 (ct_refuse 8 h sh 3) wc_X5_65 iM_X5_refuse se_X5_refuse kC5 (sK0 (h := h) sh) dX5_pour_48 rfl (Nat.le_of_ble_eq_true rfl) rfl (Nat.le_of_ble_eq_true rfl) ?_
      refine Wp.zret rfl dX5_pour_51 (by omega) ?_
      exact ⟨⟨_, rfl, Or.inl ⟨rfl, by omega, Cn.fr (A := []) (G := [(0, 0)]) (Fr.f (by decide)) (by decide) (by decide)⟩⟩, ck.stat0 (Fr.f (by decide))⟩

theorem kx_pour (h : mH) (K : Int) (ck : CK h (K + 1)) (s i t9 j mn : Int) (ri : I32 i) (rj : I32 j) (rn : I32 mn) : Cq m_X5_pour 9 [(2, 0), (0, s), (0, i), (0, t9), (0, j), (0, mn)] h (QC 0 1 (((0 ≤ s ∧ s < 4) ∧ (0 ≤ t9 ∧ t9 < 4)) ∧ (hF h (33 + 2 * s) 1 ≠ -1 ∧ hF h (33 + 2 * t9) 1 ≠ -1) ∧ hF h (33 + 2 * s) 0 = hF h (33 + 2 * t9) 0 ∧ 0 ≤ mn ∧ 0 ≤ i ∧ 0 ≤ j ∧ i + mn ≤ hF h (33 + 2 * s) 1 ∧ j + mn ≤ hF h (33 + 2 * t9) 1) (fun h t => Cb h t ∧ PEe s i t9 j mn (cTb h) (cTb t)) K h) := by
  by_cases s0 : 0 ≤ s ∧ s < 4
  · by_cases t0 : 0 ≤ t9 ∧ t9 < 4
    · exact kx_pour_yy h K ck s _ _ s0 rfl rfl i j mn _ _ t9 t0 rfl rfl ri rj rn
    · exact kx_pour_yn h K ck s _ _ s0 rfl rfl i t9 j mn t0
  · by_cases t0 : 0 ≤ t9 ∧ t9 < 4
    · exact kx_pour_ny h K ck s s0 i j mn _ _ t9 t0 rfl rfl
    · exact kx_pour_nn h K ck s s0 i t9 j mn t0
