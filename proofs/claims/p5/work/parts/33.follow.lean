theorem ff_fin {S M l e s : Int} {f G g : Int → Int} (rg : RG S f) (hM : M < 0) (cl : CL S f G) (R : ∀ x, 0 ≤ x → x < S → g x = G x ∨ (G x = M ∧ g x = l)) (b : G s = M ∨ s = e) (c : ∀ x, 0 ≤ x → x < S → G x = M → g x = l → g (f x) = l ∨ f x = s) (he : G e ≠ M → G e = l) (hs : g s ≠ M) (s0 : 0 ≤ s) (s1 : s < S) : CL S f g := by
  have gs : g s = l := by
    rcases R s s0 s1 with r | r
    · rcases b with b | b
      · exact absurd (r.trans b) hs
      · subst b
        exact r.trans (he (fun z => hs (r.trans z)))
    · exact r.2
  intro x x0 x1 hx
  rcases R x x0 x1 with r | r
  · have h1 := cl x x0 x1 (by omega)
    have hf := rg x x0 x1
    rcases R (f x) hf.1 hf.2 with q | q
    · omega
    · omega
  · rcases c x x0 x1 r.1 r.2 with q | q
    · omega
    · rw [q, gs, r.2]
theorem ff_st2 {S M l e s : Int} {f G g : Int → Int} (rg : RG S f) (P1 : ∀ x, 0 ≤ x → x < S → G x = M → G (f x) = M ∨ f x = e) (R : ∀ x, 0 ≤ x → x < S → g x = G x ∨ (G x = M ∧ g x = l)) (c : ∀ x, 0 ≤ x → x < S → G x = M → g x = l → g (f x) = l ∨ f x = s) (hs : g s = M) (s0 : 0 ≤ s) (s1 : s < S) : (∀ x, 0 ≤ x → x < S → u1 g s l x = G x ∨ (G x = M ∧ u1 g s l x = l)) ∧ (G (f s) = M ∨ f s = e) ∧ (∀ x, 0 ≤ x → x < S → G x = M → u1 g s l x = l → u1 g s l (f x) = l ∨ f x = f s) := by
  have hG : G s = M := by
    rcases R s s0 s1 with r | r
    · omega
    · exact r.1
  refine ⟨fun x x0 x1 => ?_, P1 s s0 s1 hG, fun x x0 x1 hx hl => ?_⟩
  · by_cases e : x = s
    · subst e
      exact Or.inr ⟨hG, u1_s _ _ _⟩
    · rw [u1_n _ _ e]
      exact R x x0 x1
  · by_cases e : x = s
    · subst e
      exact Or.inr rfl
    · rw [u1_n _ _ e] at hl
      refine Or.inl ?_
      by_cases e2 : f x = s
      · rw [e2]
        exact u1_s _ _ _
      · rw [u1_n _ _ e2]
        exact (c x x0 x1 hx hl).resolve_right e2
theorem ff_st1 {S M u s : Int} {f g0 g : Int → Int} (hM : M < -1) (i2 : ∀ x, 0 ≤ x → x < S → g x = g0 x ∨ (g0 x = -1 ∧ g x = M)) (i3 : ∀ x, 0 ≤ x → x < S → g x = M → g (f x) = M ∨ f x = s) (i4 : g u = M ∨ u = s) (hs : g s = -1) (s0 : 0 ≤ s) (s1 : s < S) : (∀ x, 0 ≤ x → x < S → u1 g s M x = g0 x ∨ (g0 x = -1 ∧ u1 g s M x = M)) ∧ (∀ x, 0 ≤ x → x < S → u1 g s M x = M → u1 g s M (f x) = M ∨ f x = f s) ∧ (u1 g s M u = M ∨ u = f s) := by
  refine ⟨fun x x0 x1 => ?_, fun x x0 x1 hx => ?_, ?_⟩
  · by_cases e : x = s
    · subst e
      refine Or.inr ⟨?_, u1_s _ _ _⟩
      rcases i2 x x0 x1 with r | r
      · omega
      · exact r.1
    · rw [u1_n _ _ e]
      exact i2 x x0 x1
  · by_cases e : x = s
    · subst e
      exact Or.inr rfl
    · rw [u1_n _ _ e] at hx
      refine Or.inl ?_
      by_cases e2 : f x = s
      · rw [e2]
        exact u1_s _ _ _
      · rw [u1_n _ _ e2]
        exact (i3 x x0 x1 hx).resolve_right e2
  · refine Or.inl ?_
    by_cases e : u = s
    · subst e
      exact u1_s _ _ _
    · rw [u1_n _ _ e]
      exact i4.resolve_right e
theorem ff_loop2 (d : Nat) (h : mH) (sh : Sh h) (af ho bs rw na nr : Int) (en : EN h af ho bs rw na nr) (S : Int) (S0 : 0 < S) (S1 : S ≤ 20736) (Sn : S ≤ na) (rg : RG S (hA h af)) (u : Int) (v0 : 0 ≤ u) (v1 : u < S) (l e : Int) (cl : CL S (hA h af) (hA h ho)) (P1 : ∀ x, 0 ≤ x → x < S → hA h ho x = -2 - u → hA h ho (hA h af x) = -2 - u ∨ hA h af x = e) (he : hA h ho e ≠ -2 - u → hA h ho e = l) (hl : l ≠ -2 - u) (hl2 : -2 - u ≤ l) (lo : ∀ x, 0 ≤ x → x < S → -2 - u ≤ hA h ho x) : ∀ (m : Nat) (s n : Int) (h' : mH), (S - n).toNat < m → (0 ≤ n) → (0 ≤ s) → (s < S) → (Fr [ho] [] h h') → (∀ x, 0 ≤ x → x < S → hA h' ho x = hA h ho x ∨ (hA h ho x = -2 - u ∧ hA h' ho x = l)) → (hA h ho s = -2 - u ∨ s = e) → (∀ x, 0 ≤ x → x < S → hA h ho x = -2 - u → hA h' ho x = l → hA h' ho (hA h af x) = l ∨ hA h af x = s) → (n + cE (hA h' ho) (-2 - u) S.toNat ≤ S) → Wp m_X1_followFrom (d + 1) 87 [(2, 17), (0, u), (0, S), (0, (-2 - u)), (0, s), (0, l), (0, n)] [] h' (fun r t => r = none ∧ Fr [ho] [] h t ∧ CL S (hA h af) (hA t ho) ∧ ∀ x, 0 ≤ x → x < S → -2 - u ≤ hA t ho x) := by
  intro m
  induction m with
  | zero => intro s n h' hm; exact absurd hm (Nat.not_lt_zero _)
  | succ m ih =>
    intro s n h' hm n0 s0 s1 fr R b c ce
    obtain ⟨⟨t0, k0, l0⟩, ⟨t1, k1, l1⟩, ⟨t2, k2, l2⟩, ⟨t3, k3, l3⟩, ⟨hn1, hn2, hn3, hn4, hn5, hn6⟩, ⟨y0, y1, y2, y3⟩, ⟨z0, z1, z2, z3⟩, ⟨b0, b1⟩, c0, c1⟩ := id en
    have h74 := sh.2.2.2.2
    have en' := en.fr fr
    have ea : hA h' af = hA h af := fr.2.2.2.2.2 af (by simp; omega)
    have sh' := sh.fr fr (by decide +kernel) (by simp; omega)
    obtain ⟨⟨t0', k0', l0'⟩, ⟨t1', k1', l1'⟩, ⟨t2', k2', l2'⟩, ⟨t3', k3', l3'⟩, -⟩ := id en'
    refine Wp.ild (j := 6) rfl dX1_followFrom_87 ?_
    refine Wp.ild_n (j := 2) rfl dX1_followFrom_89 ?_
    refine Wp.icge dX1_followFrom_90 (by decide) (tgt := 128) (fun c90 => ?_) (fun c90 => ?_)
    · refine Wp.vret rfl dX1_followFrom_128 ?_
      have hs : hA h' ho s ≠ -2 - u := by
        first
        | assumption
        | (intro z
           have := cE_pos s0 z S.toNat (by omega)
           omega)
      refine ⟨rfl, fr, ff_fin rg (by omega) cl R b c he hs s0 s1, fun x x0 x1 => ?_⟩
      rcases R x x0 x1 with r | r
      · have := lo x x0 x1
        omega
      · omega
    · refine Wp.ald_n (j := 0) rfl dX1_followFrom_93 ?_
      refine Wp.getf (k := 1) (tg := 2) kC1 (by decide) rfl lf_X1_15 dX1_followFrom_94 (sK17 (h := h') sh') t1' ?_
      refine Wp.ild (j := 4) rfl dX1_followFrom_97 ?_
      refine Wp.iaload dX1_followFrom_99 k1' (by omega) (ilt l1' (by omega)) (show hA _ ho _ = hA h' ho _ from rfl) ?_
      refine Wp.ild_n (j := 3) rfl dX1_followFrom_100 ?_
      refine Wp.icne dX1_followFrom_101 (by decide) (tgt := 128) (fun c101 => ?_) (fun c101 => ?_)
      · refine Wp.vret rfl dX1_followFrom_128 ?_
        have hs : hA h' ho s ≠ -2 - u := by
          first
          | assumption
          | (intro z
             have := cE_pos s0 z S.toNat (by omega)
             omega)
        refine ⟨rfl, fr, ff_fin rg (by omega) cl R b c he hs s0 s1, fun x x0 x1 => ?_⟩
        rcases R x x0 x1 with r | r
        · have := lo x x0 x1
          omega
        · omega
      · refine Wp.ald_n (j := 0) rfl dX1_followFrom_104 ?_
        refine Wp.getf (k := 1) (tg := 2) kC1 (by decide) rfl lf_X1_15 dX1_followFrom_105 (sK17 (h := h') sh') t1' ?_
        refine Wp.ild (j := 4) rfl dX1_followFrom_108 ?_
        refine Wp.ild (j := 5) rfl dX1_followFrom_110 ?_
        refine Wp.iastore dX1_followFrom_112 k1' (by omega) (ilt l1' (by omega)) ?_
        refine Wp.ald_n (j := 0) rfl dX1_followFrom_113 ?_
        refine Wp.getf (k := 0) (tg := 2) kC1 (by decide) rfl lf_X1_9 dX1_followFrom_114 (sK17 (h := h') sh') t0' ?_
        refine Wp.ild (j := 4) rfl dX1_followFrom_117 ?_
        refine Wp.iaload dX1_followFrom_119 k0' (by omega) (ilt l0' (by omega)) (show hA _ af _ = hA h af _ by rw [show ∀ v, hA (sE h' ho s v) af = hA h' af from fun v => hA_sEn (by omega), ea]) ?_
        refine sti_7_4 rfl (dSt_w dX1_followFrom_120) ?_
        refine inc_7_6 rfl dX1_followFrom_122 (by first | exact w32_of (by omega) (by omega) | rfl) ?_
        refine Wp.goto (tgt := 87) dX1_followFrom_125 (by decide) ?_
        have hs := rg s s0 s1
        have st := ff_st2 rg P1 R c (by omega) s0 s1
        have cu := (cE_up (g := hA h' ho) (g2 := u1 (hA h' ho) s l) (v := -2 - u) (i := s) s0 (by omega) (by rw [u1_s]; exact hl) (fun j hj => u1_n _ _ hj) S.toNat).1 (by omega)
        refine ih _ (n + 1) _ (by omega) (by omega) hs.1 hs.2 (fr.tr (Fr.e (List.mem_singleton.mpr rfl))) ?_ st.2.1 ?_ ?_
        · rw [hA_sEs]
          exact st.1
        · rw [hA_sEs]
          exact st.2.2
        · rw [hA_sEs]
          omega

theorem ff_rest (d : Nat) (h : mH) (sh : Sh h) (af ho bs rw na nr : Int) (en : EN h af ho bs rw na nr) (S : Int) (S0 : 0 < S) (S1 : S ≤ 20736) (Sn : S ≤ na) (rg : RG S (hA h af)) (u : Int) (v0 : 0 ≤ u) (v1 : u < S) (s n : Int) (u6 : mV) (s0 : 0 ≤ s) (s1 : s < S) (cl : CL S (hA h af) (hA h ho)) (P1 : ∀ x, 0 ≤ x → x < S → hA h ho x = -2 - u → hA h ho (hA h af x) = -2 - u ∨ hA h af x = s) (P0 : hA h ho u = -2 - u ∨ u = s) (lo : ∀ x, 0 ≤ x → x < S → -2 - u ≤ hA h ho x) : Wp m_X1_followFrom (d + 2) 51 [(2, 17), (0, u), (0, S), (0, (-2 - u)), (0, s), (0, n), u6] [] h (fun r t => r = none ∧ Fr [ho] [] h t ∧ CL S (hA h af) (hA t ho) ∧ ∀ x, 0 ≤ x → x < S → -2 - u ≤ hA t ho x) := by
  obtain ⟨⟨t0, k0, l0⟩, ⟨t1, k1, l1⟩, ⟨t2, k2, l2⟩, ⟨t3, k3, l3⟩, ⟨hn1, hn2, hn3, hn4, hn5, hn6⟩, ⟨y0, y1, y2, y3⟩, ⟨z0, z1, z2, z3⟩, ⟨b0, b1⟩, c0, c1⟩ := id en
  have h74 := sh.2.2.2.2
  refine Wp.ald_n (j := 0) rfl dX1_followFrom_51 ?_
  refine Wp.getf (k := 1) (tg := 2) kC1 (by decide) rfl lf_X1_15 dX1_followFrom_52 (sK17 (h := h) sh) t1 ?_
  refine Wp.ild (j := 4) rfl dX1_followFrom_55 ?_
  refine Wp.iaload dX1_followFrom_57 k1 (by omega) (ilt l1 (by omega)) (show hA _ ho _ = hA h ho _ from rfl) ?_
  refine Wp.ild_n (j := 3) rfl dX1_followFrom_58 ?_
  refine Wp.icne dX1_followFrom_59 (by decide) (tgt := 72) (fun c59 => ?_) (fun c59 => ?_)
  · refine Wp.ald_n (j := 0) rfl dX1_followFrom_72 ?_
    refine Wp.getf (k := 1) (tg := 2) kC1 (by decide) rfl lf_X1_15 dX1_followFrom_73 (sK17 (h := h) sh) t1 ?_
    refine Wp.ild (j := 4) rfl dX1_followFrom_76 ?_
    refine Wp.iaload dX1_followFrom_78 k1 (by omega) (ilt l1 (by omega)) (show hA _ ho _ = hA h ho _ from rfl) ?_
    refine sti_7_5 rfl (dSt_w dX1_followFrom_79) ?_
    refine Wp.ild_n (j := 1) rfl dX1_followFrom_81 ?_
    refine sti_7_4 rfl (dSt_w dX1_followFrom_82) ?_
    refine Wp.iconst dX1_followFrom_84 (by decide) ?_
    refine sti_7_6 rfl (dSt_w dX1_followFrom_85) ?_
    have ceb := cE_le (hA h ho) (-2 - u) S.toNat
    first
    | exact ff_loop2 (d + 1) h sh af ho bs rw na nr en S S0 S1 Sn rg u v0 v1 y66 s cl P1 (fun z => absurd c59 z) (by omega) (by omega) lo _ u 0 h (Nat.lt_succ_self _) (Int.le_refl _) v0 v1 Fr.rf (fun x _ _ => Or.inl rfl) P0 (fun x x0 x1 z z2 => absurd z (by omega)) (by omega)
    | exact ff_loop2 (d + 1) h sh af ho bs rw na nr en S S0 S1 Sn rg u v0 v1 (hA h ho s) s cl P1 (fun _ => rfl) (by omega) (lo s s0 s1) lo _ u 0 h (Nat.lt_succ_self _) (Int.le_refl _) v0 v1 Fr.rf (fun x _ _ => Or.inl rfl) P0 (fun x x0 x1 z z2 => absurd z (by omega)) (by omega)
  · refine Wp.ald_n (j := 0) rfl dX1_followFrom_62 ?_
    refine Wp.ild (j := 4) rfl dX1_followFrom_63 ?_
    refine Wp.ild_n (j := 2) rfl dX1_followFrom_65 ?_
    obtain ⟨_, t66, ct66, ⟨y66, rfl, y0', y1'⟩, e66⟩ := cq_leastOfRound d h sh af ho bs rw na nr en S S0 S1 Sn rg s s0 s1
    rw [e66] at ct66
    refine Wp.callV1 (ct66) wc_X1_57 iM_X1_leastOfRound se_X1_leastOfRound kC1 (sK17 (h := h) sh) dX1_followFrom_66 rfl (Nat.le_of_ble_eq_true rfl) rfl (Nat.le_of_ble_eq_true rfl) ?_
    refine Wp.goto (tgt := 79) dX1_followFrom_69 (by decide) ?_
    refine sti_7_5 rfl (dSt_w dX1_followFrom_79) ?_
    refine Wp.ild_n (j := 1) rfl dX1_followFrom_81 ?_
    refine sti_7_4 rfl (dSt_w dX1_followFrom_82) ?_
    refine Wp.iconst dX1_followFrom_84 (by decide) ?_
    refine sti_7_6 rfl (dSt_w dX1_followFrom_85) ?_
    have ceb := cE_le (hA h ho) (-2 - u) S.toNat
    first
    | exact ff_loop2 (d + 1) h sh af ho bs rw na nr en S S0 S1 Sn rg u v0 v1 y66 s cl P1 (fun z => absurd c59 z) (by omega) (by omega) lo _ u 0 h (Nat.lt_succ_self _) (Int.le_refl _) v0 v1 Fr.rf (fun x _ _ => Or.inl rfl) P0 (fun x x0 x1 z z2 => absurd z (by omega)) (by omega)
    | exact ff_loop2 (d + 1) h sh af ho bs rw na nr en S S0 S1 Sn rg u v0 v1 (hA h ho s) s cl P1 (fun _ => rfl) (by omega) (lo s s0 s1) lo _ u 0 h (Nat.lt_succ_self _) (Int.le_refl _) v0 v1 Fr.rf (fun x _ _ => Or.inl rfl) P0 (fun x x0 x1 z z2 => absurd z (by omega)) (by omega)

theorem ff_loop1 (d : Nat) (h : mH) (sh : Sh h) (af ho bs rw na nr : Int) (en : EN h af ho bs rw na nr) (S : Int) (S0 : 0 < S) (S1 : S ≤ 20736) (Sn : S ≤ na) (rg : RG S (hA h af)) (u : Int) (v0 : 0 ≤ u) (v1 : u < S) (u6 : mV) (cl : CL S (hA h af) (hA h ho)) (lo : ∀ x, 0 ≤ x → x < S → -1 - u ≤ hA h ho x) : ∀ (m : Nat) (s n : Int) (h' : mH), (S - n).toNat < m → (0 ≤ n) → (0 ≤ s) → (s < S) → (Fr [ho] [] h h') → (∀ x, 0 ≤ x → x < S → hA h' ho x = hA h ho x ∨ (hA h ho x = -1 ∧ hA h' ho x = -2 - u)) → (∀ x, 0 ≤ x → x < S → hA h' ho x = -2 - u → hA h' ho (hA h af x) = -2 - u ∨ hA h af x = s) → (hA h' ho u = -2 - u ∨ u = s) → Wp m_X1_followFrom (d + 2) 11 [(2, 17), (0, u), (0, S), (0, (-2 - u)), (0, s), (0, n), u6] [] h' (fun r t => r = none ∧ Fr [ho] [] h t ∧ CL S (hA h af) (hA t ho) ∧ ∀ x, 0 ≤ x → x < S → -2 - u ≤ hA t ho x) := by
  intro m
  induction m with
  | zero => intro s n h' hm; exact absurd hm (Nat.not_lt_zero _)
  | succ m ih =>
    intro s n h' hm n0 s0 s1 fr i2 i3 i4
    obtain ⟨⟨t0, k0, l0⟩, ⟨t1, k1, l1⟩, ⟨t2, k2, l2⟩, ⟨t3, k3, l3⟩, ⟨hn1, hn2, hn3, hn4, hn5, hn6⟩, ⟨y0, y1, y2, y3⟩, ⟨z0, z1, z2, z3⟩, ⟨b0, b1⟩, c0, c1⟩ := id en
    have h74 := sh.2.2.2.2
    have en' := en.fr fr
    have ea : hA h' af = hA h af := fr.2.2.2.2.2 af (by simp; omega)
    have sh' := sh.fr fr (by decide +kernel) (by simp; omega)
    obtain ⟨⟨t0', k0', l0'⟩, ⟨t1', k1', l1'⟩, ⟨t2', k2', l2'⟩, ⟨t3', k3', l3'⟩, -⟩ := id en'
    refine Wp.ild (j := 5) rfl dX1_followFrom_11 ?_
    refine Wp.ild_n (j := 2) rfl dX1_followFrom_13 ?_
    refine Wp.icge dX1_followFrom_14 (by decide) (tgt := 51) (fun c14 => ?_) (fun c14 => ?_)
    · have cl' : CL S (hA h' af) (hA h' ho) := by
        rw [ea]
        intro x x0 x1 hx
        have hf := rg x x0 x1
        have q1 := i2 x x0 x1
        have q2 := i2 _ hf.1 hf.2
        have q3 := cl x x0 x1
        omega
      refine (ff_rest d h' sh' af ho bs rw na nr en' S S0 S1 Sn (by rw [ea]; exact rg) u v0 v1 s n u6 s0 s1 cl' (by rw [ea]; exact i3) i4 (fun x x0 x1 => ?_)).mono (fun r t q => ?_)
      · have := i2 x x0 x1
        have := lo x x0 x1
        omega
      · obtain ⟨q1, q2, q3, q4⟩ := q
        rw [ea] at q3
        exact ⟨q1, fr.tr q2, q3, q4⟩
    · refine Wp.ald_n (j := 0) rfl dX1_followFrom_17 ?_
      refine Wp.getf (k := 1) (tg := 2) kC1 (by decide) rfl lf_X1_15 dX1_followFrom_18 (sK17 (h := h') sh') t1' ?_
      refine Wp.ild (j := 4) rfl dX1_followFrom_21 ?_
      refine Wp.iaload dX1_followFrom_23 k1' (by omega) (ilt l1' (by omega)) (show hA _ ho _ = hA h' ho _ from rfl) ?_
      refine Wp.iconst dX1_followFrom_24 (by decide) ?_
      refine Wp.icne dX1_followFrom_25 (by decide) (tgt := 51) (fun c25 => ?_) (fun c25 => ?_)
      · have cl' : CL S (hA h' af) (hA h' ho) := by
          rw [ea]
          intro x x0 x1 hx
          have hf := rg x x0 x1
          have q1 := i2 x x0 x1
          have q2 := i2 _ hf.1 hf.2
          have q3 := cl x x0 x1
          omega
        refine (ff_rest d h' sh' af ho bs rw na nr en' S S0 S1 Sn (by rw [ea]; exact rg) u v0 v1 s n u6 s0 s1 cl' (by rw [ea]; exact i3) i4 (fun x x0 x1 => ?_)).mono (fun r t q => ?_)
        · have := i2 x x0 x1
          have := lo x x0 x1
          omega
        · obtain ⟨q1, q2, q3, q4⟩ := q
          rw [ea] at q3
          exact ⟨q1, fr.tr q2, q3, q4⟩
      · refine Wp.ald_n (j := 0) rfl dX1_followFrom_28 ?_
        refine Wp.getf (k := 1) (tg := 2) kC1 (by decide) rfl lf_X1_15 dX1_followFrom_29 (sK17 (h := h') sh') t1' ?_
        refine Wp.ild (j := 4) rfl dX1_followFrom_32 ?_
        refine Wp.ild_n (j := 3) rfl dX1_followFrom_34 ?_
        refine Wp.iastore dX1_followFrom_35 k1' (by omega) (ilt l1' (by omega)) ?_
        refine Wp.ald_n (j := 0) rfl dX1_followFrom_36 ?_
        refine Wp.getf (k := 0) (tg := 2) kC1 (by decide) rfl lf_X1_9 dX1_followFrom_37 (sK17 (h := h') sh') t0' ?_
        refine Wp.ild (j := 4) rfl dX1_followFrom_40 ?_
        refine Wp.iaload dX1_followFrom_42 k0' (by omega) (ilt l0' (by omega)) (show hA _ af _ = hA h af _ by rw [show ∀ v, hA (sE h' ho s v) af = hA h' af from fun v => hA_sEn (by omega), ea]) ?_
        refine sti_7_4 rfl (dSt_w dX1_followFrom_43) ?_
        refine inc_7_5 rfl dX1_followFrom_45 (by first | exact w32_of (by omega) (by omega) | rfl) ?_
        refine Wp.goto (tgt := 11) dX1_followFrom_48 (by decide) ?_
        have hs := rg s s0 s1
        have st := ff_st1 (by omega) i2 i3 i4 (by omega) s0 s1
        refine ih _ (n + 1) _ (by omega) (by omega) hs.1 hs.2 (fr.tr (Fr.e (List.mem_singleton.mpr rfl))) ?_ ?_ ?_
        · rw [hA_sEs]
          exact st.1
        · rw [hA_sEs]
          exact st.2.1
        · rw [hA_sEs]
          exact st.2.2

theorem cq_followFrom (d : Nat) (h : mH) (sh : Sh h) (af ho bs rw na nr : Int) (en : EN h af ho bs rw na nr) (S : Int) (S0 : 0 < S) (S1 : S ≤ 20736) (Sn : S ≤ na) (rg : RG S (hA h af)) (u : Int) (v0 : 0 ≤ u) (v1 : u < S) (cl : CL S (hA h af) (hA h ho)) (lo : ∀ x, 0 ≤ x → x < S → -1 - u ≤ hA h ho x) : Cq m_X1_followFrom (d + 2) [(2, 17), (0, u), (0, S)] h (fun r t => r = none ∧ Fr [ho] [] h t ∧ CL S (hA h af) (hA t ho) ∧ ∀ x, 0 ≤ x → x < S → -2 - u ≤ hA t ho x) := by
  refine Cq.of ?_
  show Wp m_X1_followFrom ((d + 2)) 0 [(2, 17), (0, u), (0, S), (9, 0), (9, 0), (9, 0), (9, 0)] [] h _
  obtain ⟨⟨t0, k0, l0⟩, ⟨t1, k1, l1⟩, ⟨t2, k2, l2⟩, ⟨t3, k3, l3⟩, ⟨hn1, hn2, hn3, hn4, hn5, hn6⟩, ⟨y0, y1, y2, y3⟩, ⟨z0, z1, z2, z3⟩, ⟨b0, b1⟩, c0, c1⟩ := id en
  have h74 := sh.2.2.2.2
  refine Wp.bipush dX1_followFrom_0 (by decide) ?_
  refine Wp.ild_n (j := 1) rfl dX1_followFrom_2 ?_
  refine Wp.isubE dX1_followFrom_3 (by first | exact w32_of (by omega) (by omega) | rfl) ?_
  refine sti_7_3 rfl (dSt_n dX1_followFrom_4) ?_
  refine Wp.ild_n (j := 1) rfl dX1_followFrom_5 ?_
  refine sti_7_4 rfl (dSt_w dX1_followFrom_6) ?_
  refine Wp.iconst dX1_followFrom_8 (by decide) ?_
  refine sti_7_5 rfl (dSt_w dX1_followFrom_9) ?_
  exact ff_loop1 d h sh af ho bs rw na nr en S S0 S1 Sn rg u v0 v1 _ cl lo _ u 0 h (Nat.lt_succ_self _) (Int.le_refl _) v0 v1 Fr.rf (fun x _ _ => Or.inl rfl) (fun x x0 x1 z => absurd z (by have := lo x x0 x1; omega)) (Or.inr rfl)

