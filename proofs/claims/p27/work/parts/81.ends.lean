theorem psR_keep {K w9 w' nr nv mn fd : Int} (h2 : 0 ≤ nv) (h3 : 0 ≤ w9 ∧ w9 ≤ 3) (h4 : w9 ≤ 1 ↔ nv < 3 * mn) (h5 : (w9 = 0 ∨ w9 = 2) → fd = mn) (hw : w' = if nv < 3 * fd then 0 else 2) : psR K w' nr nv ≤ psR (K + 1) w9 nr nv := by
  refine psR_call ?_
  by_cases z : nv < 3 * fd
  · rw [if_pos z] at hw
    omega
  · rw [if_neg z] at hw
    by_cases y : w9 = 0
    · have := h5 (Or.inl y)
      omega
    · omega
theorem psR_make {K w9 nr nv mn fd nr' : Int} (h0 : 0 ≤ mn ∧ mn ≤ 15552) (h1 : 3 * mn ≤ nr) (h1' : nv ≤ nr) (h2 : 0 ≤ nv) (h3 : 0 ≤ w9 ∧ w9 ≤ 3) (h4 : w9 ≤ 1 ↔ nv < 3 * mn) (h5 : (w9 = 0 ∨ w9 = 2) → fd = mn) (hf : 0 ≤ fd ∧ fd ≤ 15552) (hr : nr < 3 * fd) (hn : nr' = max fd (min 20736 (2 * mn)) * 3) : nr' + psR K 0 nr' nr ≤ psR (K + 1) w9 nr nv := by
  have hw : w9 = 1 ∨ w9 = 3 := by
    by_cases y : w9 = 0 ∨ w9 = 2
    · have := h5 y
      omega
    · omega
  unfold psR
  rcases hw with y | y
  · split <;> split <;> omega
  · split <;> split <;> omega
theorem kx_ends (h : mH) (K : Int) (ck : CK h (K + 1)) : Cq m_X5_ends 9 [(2, 0)] h (fun r t => (∃ y, r = some (0, y) ∧ ((¬ (hF h 2 1 ≠ 0 ∧ hF h 2 0 ^ (hF h 2 1).toNat ≤ 20736) ∧ y = -1 ∧ Kr h t) ∨ ((hF h 2 1 ≠ 0 ∧ hF h 2 0 ^ (hF h 2 1).toNat ≤ 20736) ∧ ∃ H : Int → Int, HM9 (hF h 2 0 ^ (hF h 2 1).toNat) (G9 (ccf h)) H ∧ RG (hF h 2 0 ^ (hF h 2 1).toNat) (G9 (ccf h)) ∧ y = ((cR H (hF h 2 0 ^ (hF h 2 1).toNat).toNat : Nat) : Int) ∧ hF t 17 4 = y ∧ RW9 (G9 (ccf h)) H (fun k => hA t (hF t 17 3) (3 * k)) (fun k => hA t (hF t 17 3) (3 * k + 1)) (fun k => hA t (hF t 17 3) (3 * k + 2)) (hF h 2 0 ^ (hF h 2 1).toNat) (hF h 2 0 ^ (hF h 2 1).toNat)))) ∧ CK t K ∧ Kp h t ∧ Cn h t ∧ Kl h t) := by
  refine Cq.of ?_
  show Wp m_X5_ends (9) 0 [(2, 0), (9, 0)] [] h _
  have sh := ck.1
  have bi := ck.2.1
  obtain ⟨⟨r0, r1⟩, ⟨n0, n1⟩, ⟨m0, m1⟩, hp, hq⟩ := id bi
  obtain ⟨hd, lk, wd, nh, nl, nw, af, ho, bs, rw, na, nr, ob, n9, mn, nv, w9, kq⟩ := id ck.2.2.2.2.2.2
  have tr := kq.1
  have h74 := sh.2.2.2.2
  obtain ⟨-, en0, ob9, hm, ⟨⟨c0, c1⟩, c2, c3⟩, ⟨c4, c5, c6⟩, c7, c8, c9⟩ := id kq
  refine Wp.ald_n (j := 0) rfl dX5_ends_0 ?_
  refine Wp.getf (k := 2) (tg := 2) kC5 (by decide) rfl lf_X5_22 dX5_ends_1 (sK0 (h := h) sh) (sF0_2 (h := h) sh) ?_
  obtain ⟨_, tq, ctq, ⟨yq, rfl, hyq⟩, eq⟩ := cq_smallX 8 h sh bi
  rw [eq] at ctq
  refine Wp.callV1 (ctq) wc_X5_217 iM_X0_smallStates se_X0_smallStates kC0 (sK2 (h := h) sh) dX5_ends_4 rfl (Nat.le_of_ble_eq_true rfl) rfl (Nat.le_of_ble_eq_true rfl) ?_
  refine sti_2_1 rfl (dSt_n dX5_ends_7) ?_
  refine Wp.ild_n (j := 1) rfl dX5_ends_8 ?_
  refine Wp.ifne dX5_ends_9 (by decide) (tgt := 18) (fun c9 => ?_) (fun c9 => ?_)
  · refine Wp.ald_n (j := 0) rfl dX5_ends_18 ?_
    refine Wp.getf (k := 4) (tg := 2) kC5 (by decide) rfl lf_X5_36 dX5_ends_19 (sK0 (h := h) sh) (sF0_4 (h := h) sh) ?_
    refine Wp.ald_n (j := 0) rfl dX5_ends_22 ?_
    refine Wp.getf (k := 2) (tg := 2) kC5 (by decide) rfl lf_X5_22 dX5_ends_23 (sK0 (h := h) sh) (sF0_2 (h := h) sh) ?_
    refine Wp.ild_n (j := 1) rfl dX5_ends_26 ?_
    obtain ⟨hn9, hS9, hS1⟩ : 0 < hF h 2 1 ∧ yq = hF h 2 0 ^ (hF h 2 1).toNat ∧ yq ≤ 20736 := by
      rcases hyq with z | z
      · omega
      · exact z
    obtain ⟨S0, hfol⟩ := kx_follow ck kq.2.1 hn9 hS9 hS1
    obtain ⟨_, t27, ct27, rfl, af', ho', bs', na', en', sn', rg', hle', hfn', fq', ac', hf9', hm9', hbz'⟩ := hfol
    have sht27 : Sh t27 := sh.fq fq' (by decide +kernel) (fq_no kq.2.1 (by decide) (by decide))
    have h74t27 := sht27.2.2.2.2
    have hmt27 : hF t27 17 4 = mn := (fq'.2.2.2.2.1 17 4 (by omega) (by decide)).trans hm
    refine Wp.callV0 (ct27) wc_X5_220 iM_X1_follow se_X1_follow kC1 (sK17 (h := h) sh) dX5_ends_27 rfl (Nat.le_of_ble_eq_true rfl) rfl (Nat.le_of_ble_eq_true rfl) ?_
    refine Wp.ald_n (j := 0) rfl dX5_ends_30 ?_
    refine Wp.getf (k := 4) (tg := 2) kC5 (by decide) rfl lf_X5_36 dX5_ends_31 (sK0 (h := t27) sht27) (sF0_4 (h := t27) sht27) ?_
    refine Wp.ild_n (j := 1) rfl dX5_ends_34 ?_
    obtain ⟨_, t35, ct35, rfl, rw', nr', en35, hm35, fq35, hcase, hrow⟩ := cq_keepX 7 t27 sht27 af' ho' bs' rw na' nr en' yq S0 hS1 sn' rg' (fun l l0 l1 hl => hm9'.per l0 l1 hl) mn hmt27 c0 (by omega)
    have rwx := en'.2.2.2.2.2.1.2.2.2
    have sh35 : Sh t35 := sht27.fq fq35 (by decide +kernel) (fun z => by omega)
    have h7435 := sh35.2.2.2.2
    refine Wp.callV0 (ct35) wc_X5_224 iM_X1_keep se_X1_keep kC1 (sK17 (h := t27) sht27) dX5_ends_35 rfl (Nat.le_of_ble_eq_true rfl) rfl (Nat.le_of_ble_eq_true rfl) ?_
    refine Wp.ald_n (j := 0) rfl dX5_ends_38 ?_
    refine Wp.ald_n (j := 0) rfl dX5_ends_39 ?_
    refine Wp.getf (k := 4) (tg := 2) kC5 (by decide) rfl lf_X5_36 dX5_ends_40 (sK0 (h := t35) sh35) (sF0_4 (h := t35) sh35) ?_
    refine Wp.getfN (k := 4) (tg := 0) kC1 (by decide) rfl lf_X5_227 dX5_ends_43 (sK17 (h := t35) sh35) (show hF _ 17 4 = hF t35 17 4 from rfl) ?_
    refine Wp.callV1 (ct_answer 8 t35 sh35 _) wc_X5_126 iM_X5_answer se_X5_answer kC5 (sK0 (h := t35) sh35) dX5_ends_46 rfl (Nat.le_of_ble_eq_true rfl) rfl (Nat.le_of_ble_eq_true rfl) ?_
    refine Wp.iret rfl dX5_ends_49 ?_
    have fqz : Fq (fun a => a ∈ [8, 9, 12, 11, af, ho, bs] ∨ a = rw) [(0, 0), (17, 0), (17, 1), (17, 2), (17, 3), (17, 4)] h (sF t35 0 0 0) := (((fq'.mono (A' := (fun a => a ∈ [8, 9, 12, 11, af, ho, bs] ∨ a = rw)) (G' := [(0, 0), (17, 0), (17, 1), (17, 2), (17, 3), (17, 4)]) (fun x _ z => Or.inl z) (by simp)).tr (fq35.mono (A' := (fun a => a ∈ [8, 9, 12, 11, af, ho, bs] ∨ a = rw)) (G' := [(0, 0), (17, 0), (17, 1), (17, 2), (17, 3), (17, 4)]) (fun x _ z => Or.inr z) (by simp))).tr (Fq.f (by decide)))
    have hno : ∀ a : Int, a < 74 → a ∉ [8, 9, 12, 11, 18, 19, 20, 21] → ¬ (a ∈ [8, 9, 12, 11, af, ho, bs] ∨ a = rw) := fun a a1 a2 z => by
      rcases z with z | z
      · exact fq_no en0 a1 (fun y => a2 (by revert y; simp only [List.mem_cons, List.not_mem_nil, or_false]; omega)) z
      · have := en0.2.2.2.2.2.1.2.2.2
        simp only [List.mem_cons, List.not_mem_nil, or_false] at a2
        omega
    have efn : FNd (sF t35 0 0 0) = FNd h := by
      unfold FNd
      rw [ccf_fq fqz h74 (hno 3 (by decide) (by decide)) (hno 6 (by decide) (by decide)) (hno 7 (by decide) (by decide)) (by decide) (by decide) (by decide), fqz.2.2.2.2.1 2 0 (by omega) (by decide), fqz.2.2.2.2.1 2 1 (by omega) (by decide)]
    have a1 := ac'.1
    have a2 := ac'.2
    have enz : EN (sF t35 0 0 0) af' ho' bs' rw' na' nr' := en35.fq (A := fun _ => False) (G := [(0, 0)]) (Fq.f (by decide)) h7435 (by decide) (by decide) (by decide) (by decide)
    have trz := tr.fq fqz h74 (by decide) (by decide) (by decide)
    have obz := ob9.fq fqz h74 (by decide) (fun z => z.elim (ob_no en0 ob9).1 (ob_no en0 ob9).2)
    refine ⟨⟨_, rfl, Or.inr ⟨⟨by omega, by omega⟩, hA t27 ho', ?_, ?_, (by rw [← hS9]; exact hm35), rfl, ?_⟩⟩, ck.fq0 fqz (by decide +kernel) (hno 1 (by decide) (by decide)) (bi.fq fqz h74 (hno 4 (by decide) (by decide)) (hno 7 (by decide) (by decide)) (by decide) (by decide) (by decide)) (ck.2.2.1.fq fqz h74 (by decide)) (by decide) (by decide) (fun i i0 i1 => by simp; omega) (fun a a0 a1 => hno a a1 (by simp; omega)) (fun k => by simp) ?_ (fun a a0 => hno a (by omega) (by simp; omega)) (by decide)⟩
    · rw [← hS9]
      exact hm9'.cg rg' hf9' (fun _ _ _ => rfl)
    · rw [← hS9]
      exact fun x x0 x1 => by
        rw [← hf9' x x0 x1]
        exact rg' x x0 x1
    · rw [← hS9]
      intro x x0 x1 hx
      have z := hrow x x0 x1 hx
      rw [← en35.2.2.2.1.1] at z
      exact ⟨z.1, z.2.1.cg rg' hf9' x0 x1, z.2.2.trans (hbz' x x0 x1)⟩
    have htr := tr.2.2.2.2.2.2.2.2.2.2.2.1
    have hnn := fq'.1
    rw [hfn'] at hm35 hcase
    have hle2 : FNd h ≤ 15552 := by rw [← hfn']; omega
    have hge2 : 0 ≤ FNd h := by rw [← hfn']; omega
    have hmz : hF (sF t35 0 0 0) 17 4 = FNd h := hm35
    have hZz : hZ (sF t35 0 0 0) = hZ t35 := rfl
    have hNz : hN (sF t35 0 0 0) = hN t35 := rfl
    rcases hcase with ⟨e1, e2, e3, e4, e5⟩ | ⟨e1, e2, e3, e4, e6⟩
    · have hk := psR_keep (K := K) (w9 := w9) (nr := nr) (nv := nv) (mn := mn) (fd := FNd h) (w' := if nv < 3 * FNd h then 0 else 2) c4 c5 c6 c7 rfl
      refine ⟨hd, lk, wd, nh, nl, nw, af', ho', bs', rw', na', nr', ob, n9, FNd h, nv, if nv < 3 * FNd h then 0 else 2, trz, enz, obz, hmz, ⟨⟨hge2, hle2⟩, by omega, by omega, by rw [e1]; exact c3.2⟩, ⟨c4, ?_, ?_⟩, fun _ => efn, ?_, ?_⟩
      · split <;> omega
      · split
        · omega
        · omega
      · rw [hZz, e4, e2]
        omega
      · rw [hNz, e3]
        omega
    · have hk := psR_make (K := K) (w9 := w9) (nr := nr) (nv := nv) (mn := mn) (fd := FNd h) (nr' := nr') ⟨c0, c1⟩ c2 c3.1 c4 c5 c6 c7 ⟨hge2, hle2⟩ e1 e2
      have h3n : 3 * FNd h ≤ nr' := by omega
      refine ⟨hd, lk, wd, nh, nl, nw, af', ho', bs', rw', na', nr', ob, n9, FNd h, nr, 0, trz, enz, obz, hmz, ⟨⟨hge2, hle2⟩, h3n, by omega, by omega, by omega⟩, ⟨by omega, by omega, by omega⟩, fun _ => efn, ?_, ?_⟩
      · rw [hZz, e4]
        omega
      · rw [hNz, e3]
        omega
  · refine Wp.ald_n (j := 0) rfl dX5_ends_12 ?_
    refine Wp.iconst dX5_ends_13 (by decide) ?_
    refine Wp.callV1 (ct_lack 8 h sh 5) wc_X5_88 iM_X5_lack se_X5_lack kC5 (sK0 (h := h) sh) dX5_ends_14 rfl (Nat.le_of_ble_eq_true rfl) rfl (Nat.le_of_ble_eq_true rfl) ?_
    refine Wp.iret rfl dX5_ends_17 ?_
    have ns : ¬ (hF h 2 1 ≠ 0 ∧ hF h 2 0 ^ (hF h 2 1).toNat ≤ 20736) := fun z => by
      rcases hyq with y | y
      · have := z.1
        have := z.2
        omega
      · have := y.2.1
        have := pw_pos r0 (hF h 2 1).toNat
        omega
    have z := ck.stat (t := sF h 0 0 5) (Fr.f (by decide))
    exact ⟨⟨_, rfl, Or.inl ⟨ns, rfl, z.2.2.2.2⟩⟩, z.1, z.2.1, z.2.2.1, z.2.2.2.1⟩

