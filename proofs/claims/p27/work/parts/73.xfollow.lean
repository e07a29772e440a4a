/-! ===== follow told exactly ===== -/
def flr (f : Int → Int) (S st : Int) : Nat → Int → Int → Int → Int
  | 0, _, _, l => l
  | m + 1, n, s, l => if n < S ∧ s ≠ st then flr f S st m (n + 1) (f s) (min l s) else l
def fw1 (f : Int → Int) (S mk : Int) : Nat → Int → Int → (Int → Int) → Int × (Int → Int)
  | 0, _, s, g => (s, g)
  | m + 1, n, s, g => if n < S ∧ g s = -1 then fw1 f S mk m (n + 1) (f s) (u1 g s mk) else (s, g)
def fw3 (f : Int → Int) (S mk l : Int) : Nat → Int → Int → (Int → Int) → Int → Int
  | 0, _, _, g => g
  | m + 1, n, s, g => if n < S ∧ g s = mk then fw3 f S mk l m (n + 1) (f s) (u1 g s l) else g
def ffl (f : Int → Int) (S u : Int) (p : Int × (Int → Int)) : Int → Int := fw3 f S (-2 - u) (if p.2 p.1 = -2 - u then flr f S p.1 (S.toNat + 1) 0 (f p.1) p.1 else p.2 p.1) (S.toNat + 1) 0 u p.2
def ffx (f : Int → Int) (S u : Int) (g : Int → Int) : Int → Int := ffl f S u (fw1 f S (-2 - u) (S.toNat + 1) 0 u g)
def fol9 (f : Int → Int) (S : Int) : Nat → Int → (Int → Int) → Int → Int
  | 0, _, g => g
  | m + 1, j, g => if j < S then fol9 f S m (j + 1) (if g j = -1 then ffx f S j g else g) else g
def hom9 (f : Int → Int) (S : Int) : Int → Int := fol9 f S (S.toNat + 1) 0 (fun _ => -1)
theorem xlor_loop (d : Nat) (h : mH) (sh : Sh h) (af ho bs rw na nr : Int) (en : EN h af ho bs rw na nr) (S : Int) (S0 : 0 < S) (S1 : S ≤ 20736) (Sn : S ≤ na) (rg : RG S (hA h af)) (f9 : Int → Int) (hf9 : ∀ x, 0 ≤ x → x < S → hA h af x = f9 x) (u : Int) (u0 : 0 ≤ u) (u1 : u < S) (F : Int) : ∀ (m : Nat) (l s n : Int), (S - n).toNat < m → (0 ≤ n) → (0 ≤ s) → (s < S) → (0 ≤ l) → (l < S) → (flr f9 S u m n s l = F) → Wp m_X1_leastOfRound (d + 1) 13 [(2, 17), (0, u), (0, S), (0, l), (0, s), (0, n)] [] h (fun r t => (∃ y, r = some (0, y) ∧ y = F ∧ 0 ≤ y ∧ y < S) ∧ t = h) := by
  intro m
  induction m with
  | zero => intro l s n hm; exact absurd hm (Nat.not_lt_zero _)
  | succ m ih =>
    intro l s n hm n0 s0 s1 q0 q1 eF
    obtain ⟨⟨t0, k0, l0⟩, ⟨t1, k1, l1⟩, ⟨t2, k2, l2⟩, ⟨t3, k3, l3⟩, ⟨hn1, hn2, hn3, hn4, hn5, hn6⟩, ⟨y0, y1, y2, y3⟩, ⟨z0, z1, z2, z3⟩, ⟨b0, b1⟩, c0, c1⟩ := id en
    have h74 := sh.2.2.2.2
    refine Wp.ild (j := 5) rfl dX1_leastOfRound_13 ?_
    refine Wp.ild_n (j := 2) rfl dX1_leastOfRound_15 ?_
    refine Wp.icge dX1_leastOfRound_16 (by decide) (tgt := 47) (fun c16 => ?_) (fun c16 => ?_)
    · refine Wp.ild_n (j := 3) rfl dX1_leastOfRound_47 ?_
      refine Wp.iret rfl dX1_leastOfRound_48 ?_
      have hu : flr f9 S u (m + 1) n s l = l := if_neg (fun z => absurd z.1 (by omega))
      rw [hu] at eF
      exact ⟨⟨_, rfl, eF, q0, q1⟩, rfl⟩
    · refine Wp.ild (j := 4) rfl dX1_leastOfRound_19 ?_
      refine Wp.ild_n (j := 1) rfl dX1_leastOfRound_21 ?_
      refine Wp.iceq dX1_leastOfRound_22 (by decide) (tgt := 47) (fun c22 => ?_) (fun c22 => ?_)
      · refine Wp.ild_n (j := 3) rfl dX1_leastOfRound_47 ?_
        refine Wp.iret rfl dX1_leastOfRound_48 ?_
        have hu : flr f9 S u (m + 1) n s l = l := if_neg (fun z => z.2 c22)
        rw [hu] at eF
        exact ⟨⟨_, rfl, eF, q0, q1⟩, rfl⟩
      · refine Wp.ild_n (j := 3) rfl dX1_leastOfRound_25 ?_
        refine Wp.ild (j := 4) rfl dX1_leastOfRound_26 ?_
        refine Wp.mmin wm_X1_48 dX1_leastOfRound_28 (Nat.le_of_ble_eq_true rfl) ?_
        refine sti_6_3 rfl (dSt_n dX1_leastOfRound_31) ?_
        refine Wp.ald_n (j := 0) rfl dX1_leastOfRound_32 ?_
        refine Wp.getf (k := 0) (tg := 2) kC1 (by decide) rfl lf_X1_9 dX1_leastOfRound_33 (sK17 (h := h) sh) t0 ?_
        refine Wp.ild (j := 4) rfl dX1_leastOfRound_36 ?_
        refine Wp.iaload dX1_leastOfRound_38 k0 (by omega) (ilt l0 (by omega)) (show hA _ af _ = hA h af _ from rfl) ?_
        refine sti_6_4 rfl (dSt_w dX1_leastOfRound_39) ?_
        refine inc_6_5 rfl dX1_leastOfRound_41 (by first | exact w32_of (by omega) (by omega) | rfl) ?_
        refine Wp.goto (tgt := 13) dX1_leastOfRound_44 (by decide) ?_
        have hs := rg s s0 s1
        have hu : flr f9 S u (m + 1) n s l = flr f9 S u m (n + 1) (f9 s) (min l s) := if_pos ⟨by omega, c22⟩
        rw [hu, ← hf9 s s0 s1] at eF
        exact ih _ _ (n + 1) (by omega) (by omega) hs.1 hs.2 (by omega) (by omega) eF

theorem cq_leastOfRoundX (d : Nat) (h : mH) (sh : Sh h) (af ho bs rw na nr : Int) (en : EN h af ho bs rw na nr) (S : Int) (S0 : 0 < S) (S1 : S ≤ 20736) (Sn : S ≤ na) (rg : RG S (hA h af)) (f9 : Int → Int) (hf9 : ∀ x, 0 ≤ x → x < S → hA h af x = f9 x) (u : Int) (u0 : 0 ≤ u) (u1 : u < S) : Cq m_X1_leastOfRound (d + 1) [(2, 17), (0, u), (0, S)] h (fun r t => (∃ y, r = some (0, y) ∧ y = (flr f9 S u (S.toNat + 1) 0 (f9 u) u) ∧ 0 ≤ y ∧ y < S) ∧ t = h) := by
  refine Cq.of ?_
  show Wp m_X1_leastOfRound ((d + 1)) 0 [(2, 17), (0, u), (0, S), (9, 0), (9, 0), (9, 0)] [] h _
  obtain ⟨⟨t0, k0, l0⟩, ⟨t1, k1, l1⟩, ⟨t2, k2, l2⟩, ⟨t3, k3, l3⟩, ⟨hn1, hn2, hn3, hn4, hn5, hn6⟩, ⟨y0, y1, y2, y3⟩, ⟨z0, z1, z2, z3⟩, ⟨b0, b1⟩, c0, c1⟩ := id en
  have h74 := sh.2.2.2.2
  refine Wp.ild_n (j := 1) rfl dX1_leastOfRound_0 ?_
  refine sti_6_3 rfl (dSt_n dX1_leastOfRound_1) ?_
  refine Wp.ald_n (j := 0) rfl dX1_leastOfRound_2 ?_
  refine Wp.getf (k := 0) (tg := 2) kC1 (by decide) rfl lf_X1_9 dX1_leastOfRound_3 (sK17 (h := h) sh) t0 ?_
  refine Wp.ild_n (j := 1) rfl dX1_leastOfRound_6 ?_
  refine Wp.iaload dX1_leastOfRound_7 k0 (by omega) (ilt l0 (by omega)) (show hA _ af _ = hA h af _ from rfl) ?_
  refine sti_6_4 rfl (dSt_w dX1_leastOfRound_8) ?_
  refine Wp.iconst dX1_leastOfRound_10 (by decide) ?_
  refine sti_6_5 rfl (dSt_w dX1_leastOfRound_11) ?_
  have hs := rg u u0 u1
  refine xlor_loop d h sh af ho bs rw na nr en S S0 S1 Sn rg f9 hf9 u u0 u1 _ (S.toNat + 1) u _ 0 (by omega) (Int.le_refl _) hs.1 hs.2 u0 u1 ?_
  rw [hf9 u u0 u1]

theorem xff_loop2 (d : Nat) (h : mH) (sh : Sh h) (af ho bs rw na nr : Int) (en : EN h af ho bs rw na nr) (S : Int) (S0 : 0 < S) (S1 : S ≤ 20736) (Sn : S ≤ na) (rg : RG S (hA h af)) (u : Int) (v0 : 0 ≤ u) (v1 : u < S) (f9 : Int → Int) (hf9 : ∀ x, 0 ≤ x → x < S → hA h af x = f9 x) (F : Int → Int) (l e : Int) (cl : CL S (hA h af) (hA h ho)) (P1 : ∀ x, 0 ≤ x → x < S → hA h ho x = -2 - u → hA h ho (hA h af x) = -2 - u ∨ hA h af x = e) (he : hA h ho e ≠ -2 - u → hA h ho e = l) (hl : l ≠ -2 - u) (hl2 : -2 - u ≤ l) (lo : ∀ x, 0 ≤ x → x < S → -2 - u ≤ hA h ho x) : ∀ (m : Nat) (s n : Int) (g : Int → Int) (h' : mH), (S - n).toNat < m → (0 ≤ n) → (0 ≤ s) → (s < S) → (Fr [ho] [] h h') → (∀ x, 0 ≤ x → x < S → hA h' ho x = hA h ho x ∨ (hA h ho x = -2 - u ∧ hA h' ho x = l)) → (hA h ho s = -2 - u ∨ s = e) → (∀ x, 0 ≤ x → x < S → hA h ho x = -2 - u → hA h' ho x = l → hA h' ho (hA h af x) = l ∨ hA h af x = s) → (n + cE (hA h' ho) (-2 - u) S.toNat ≤ S) → (∀ x, 0 ≤ x → x < S → hA h' ho x = g x) → (fw3 f9 S (-2 - u) l m n s g = F) → Wp m_X1_followFrom (d + 1) 87 [(2, 17), (0, u), (0, S), (0, (-2 - u)), (0, s), (0, l), (0, n)] [] h' (fun r t => r = none ∧ Fr [ho] [] h t ∧ CL S (hA h af) (hA t ho) ∧ (∀ x, 0 ≤ x → x < S → -2 - u ≤ hA t ho x) ∧ ∀ x, 0 ≤ x → x < S → hA t ho x = F x) := by
  intro m
  induction m with
  | zero => intro s n g h' hm; exact absurd hm (Nat.not_lt_zero _)
  | succ m ih =>
    intro s n g h' hm n0 s0 s1 fr R b c ce hg eF
    obtain ⟨⟨t0, k0, l0⟩, ⟨t1, k1, l1⟩, ⟨t2, k2, l2⟩, ⟨t3, k3, l3⟩, ⟨hn1, hn2, hn3, hn4, hn5, hn6⟩, ⟨y0, y1, y2, y3⟩, ⟨z0, z1, z2, z3⟩, ⟨b0, b1⟩, c0, c1⟩ := id en
    have h74 := sh.2.2.2.2
    have en' := en.fr fr
    have ea : hA h' af = hA h af := fr.2.2.2.2.2 af (by simp; omega)
    have sh' := sh.fr fr (by decide +kernel) (by simp; omega)
    obtain ⟨⟨t0', k0', l0'⟩, ⟨t1', k1', l1'⟩, ⟨t2', k2', l2'⟩, ⟨t3', k3', l3'⟩, -⟩ := id en'
    refine Wp.ild (j := 6) rfl dX1_followFrom_87 ?_
    refine Wp.ild_n (j := 2) rfl dX1_followFrom_89 ?_
    refine Wp.icge dX1_followFrom_90 (by decide) (tgt := 128) (fun c90 => ?_) (fun c90 => ?_)
    · refine Wp.vret rfl dX1_followFrom_128 ?_
      have hgs := hg s s0 s1
      have hs : hA h' ho s ≠ -2 - u := by
        intro z
        have := cE_pos s0 z S.toNat (by omega)
        omega
      have hu : fw3 f9 S (-2 - u) l (m + 1) n s g = g := if_neg (fun z => by have := z.1; have := z.2; omega)
      rw [hu] at eF
      refine ⟨rfl, fr, ff_fin rg (by omega) cl R b c he hs s0 s1, fun x x0 x1 => ?_, fun x x0 x1 => ?_⟩
      · rcases R x x0 x1 with r | r
        · have := lo x x0 x1
          omega
        · omega
      · rw [hg x x0 x1, eF]
    · refine Wp.ald_n (j := 0) rfl dX1_followFrom_93 ?_
      refine Wp.getf (k := 1) (tg := 2) kC1 (by decide) rfl lf_X1_15 dX1_followFrom_94 (sK17 (h := h') sh') t1' ?_
      refine Wp.ild (j := 4) rfl dX1_followFrom_97 ?_
      refine Wp.iaload dX1_followFrom_99 k1' (by omega) (ilt l1' (by omega)) (show hA _ ho _ = hA h' ho _ from rfl) ?_
      refine Wp.ild_n (j := 3) rfl dX1_followFrom_100 ?_
      refine Wp.icne dX1_followFrom_101 (by decide) (tgt := 128) (fun c101 => ?_) (fun c101 => ?_)
      · refine Wp.vret rfl dX1_followFrom_128 ?_
        have hgs := hg s s0 s1
        have hs : hA h' ho s ≠ -2 - u := c101
        have hu : fw3 f9 S (-2 - u) l (m + 1) n s g = g := if_neg (fun z => by have := z.1; have := z.2; omega)
        rw [hu] at eF
        refine ⟨rfl, fr, ff_fin rg (by omega) cl R b c he hs s0 s1, fun x x0 x1 => ?_, fun x x0 x1 => ?_⟩
        · rcases R x x0 x1 with r | r
          · have := lo x x0 x1
            omega
          · omega
        · rw [hg x x0 x1, eF]
      · refine Wp.ald_n (j := 0) rfl dX1_followFrom_104 ?_
        refine Wp.getf (k := 1) (tg := 2) kC1 (by decide) rfl lf_X1_15 dX1_followFrom_105 (sK17 (h := h') sh') t1' ?_
        refine Wp.ild (j := 4) rfl dX1_followFrom_108 ?_
        refine Wp.ild (j := 5) rfl dX1_followFrom_110 ?_
        refine Wp.iastore dX1_followFrom_112 k1' (by omega) (ilt l1' (by omega)) ?_
        refine Wp.ald_n (j := 0) rfl dX1_followFrom_113 ?_
        refine Wp.getf (k := 0) (tg := 2) kC1 (by decide) rfl lf_X1_9 dX1_followFrom_114 (sK17 (h := h') sh') t0' ?_
        refine Wp.ild (j := 4) rfl dX1_followFrom_117 ?_
        refine Wp.iaload dX1_followFrom_119 k0' (by omega) (ilt l0' (by omega)) (show hA _ af _ = hA h af _ by rw [show ∀ v, hA (sE h' ho s v) af = hA h' af from fun v => hA_sEn (by omega), ea]) ?_
        refine sti_7_4 rfl (dSt_w dX1_followFrom_120) ?_
        refine inc_7_6 rfl dX1_followFrom_122 (by first | exact w32_of (by omega) (by omega) | rfl) ?_
        refine Wp.goto (tgt := 87) dX1_followFrom_125 (by decide) ?_
        have hs := rg s s0 s1
        have hgs := hg s s0 s1
        have st := ff_st2 rg P1 R c (by omega) s0 s1
        have cu := (cE_up (g := hA h' ho) (g2 := u1 (hA h' ho) s l) (v := -2 - u) (i := s) s0 (by omega) (by rw [u1_s]; exact hl) (fun j hj => u1_n _ _ hj) S.toNat).1 (by omega)
        have hu : fw3 f9 S (-2 - u) l (m + 1) n s g = fw3 f9 S (-2 - u) l m (n + 1) (f9 s) (u1 g s l) := if_pos ⟨by omega, by omega⟩
        rw [hu, ← hf9 s s0 s1] at eF
        refine ih _ (n + 1) (u1 g s l) _ (by omega) (by omega) hs.1 hs.2 (fr.tr (Fr.e (List.mem_singleton.mpr rfl))) ?_ st.2.1 ?_ ?_ (fun x x0 x1 => ?_) eF
        · rw [hA_sEs]
          exact st.1
        · rw [hA_sEs]
          exact st.2.2
        · rw [hA_sEs]
          omega
        · rw [hA_sEs]
          exact u1_cg (fun _ => hg x x0 x1)

theorem xff_rest (d : Nat) (h : mH) (sh : Sh h) (af ho bs rw na nr : Int) (en : EN h af ho bs rw na nr) (S : Int) (S0 : 0 < S) (S1 : S ≤ 20736) (Sn : S ≤ na) (rg : RG S (hA h af)) (u : Int) (v0 : 0 ≤ u) (v1 : u < S) (f9 : Int → Int) (hf9 : ∀ x, 0 ≤ x → x < S → hA h af x = f9 x) (F g : Int → Int) (hg : ∀ x, 0 ≤ x → x < S → hA h ho x = g x) (s n : Int) (u6 : mV) (s0 : 0 ≤ s) (s1 : s < S) (cl : CL S (hA h af) (hA h ho)) (P1 : ∀ x, 0 ≤ x → x < S → hA h ho x = -2 - u → hA h ho (hA h af x) = -2 - u ∨ hA h af x = s) (P0 : hA h ho u = -2 - u ∨ u = s) (lo : ∀ x, 0 ≤ x → x < S → -2 - u ≤ hA h ho x) (eF : ffl f9 S u (s, g) = F) : Wp m_X1_followFrom (d + 2) 51 [(2, 17), (0, u), (0, S), (0, (-2 - u)), (0, s), (0, n), u6] [] h (fun r t => r = none ∧ Fr [ho] [] h t ∧ CL S (hA h af) (hA t ho) ∧ (∀ x, 0 ≤ x → x < S → -2 - u ≤ hA t ho x) ∧ ∀ x, 0 ≤ x → x < S → hA t ho x = F x) := by
  obtain ⟨⟨t0, k0, l0⟩, ⟨t1, k1, l1⟩, ⟨t2, k2, l2⟩, ⟨t3, k3, l3⟩, ⟨hn1, hn2, hn3, hn4, hn5, hn6⟩, ⟨y0, y1, y2, y3⟩, ⟨z0, z1, z2, z3⟩, ⟨b0, b1⟩, c0, c1⟩ := id en
  have h74 := sh.2.2.2.2
  refine Wp.ald_n (j := 0) rfl dX1_followFrom_51 ?_
  refine Wp.getf (k := 1) (tg := 2) kC1 (by decide) rfl lf_X1_15 dX1_followFrom_52 (sK17 (h := h) sh) t1 ?_
  refine Wp.ild (j := 4) rfl dX1_followFrom_55 ?_
  refine Wp.iaload dX1_followFrom_57 k1 (by omega) (ilt l1 (by omega)) (show hA _ ho _ = hA h ho _ from rfl) ?_
  refine Wp.ild_n (j := 3) rfl dX1_followFrom_58 ?_
  refine Wp.icne dX1_followFrom_59 (by decide) (tgt := 72) (fun c59 => ?_) (fun c59 => ?_)
  · refine Wp.ald_n (j := 0) rfl dX1_followFrom_72 ?_
    refine Wp.getf (k := 1) (tg := 2) kC1 (by decide) rfl lf_X1_15 dX1_followFrom_73 (sK17 (h := h) sh) t1 ?_
    refine Wp.ild (j := 4) rfl dX1_followFrom_76 ?_
    refine Wp.iaload dX1_followFrom_78 k1 (by omega) (ilt l1 (by omega)) (show hA _ ho _ = hA h ho _ from rfl) ?_
    refine sti_7_5 rfl (dSt_w dX1_followFrom_79) ?_
    refine Wp.ild_n (j := 1) rfl dX1_followFrom_81 ?_
    refine sti_7_4 rfl (dSt_w dX1_followFrom_82) ?_
    refine Wp.iconst dX1_followFrom_84 (by decide) ?_
    refine sti_7_6 rfl (dSt_w dX1_followFrom_85) ?_
    have ceb := cE_le (hA h ho) (-2 - u) S.toNat
    have hgs := hg s s0 s1
    unfold ffl at eF
    rw [if_neg (show ¬ (s, g).2 (s, g).1 = -2 - u from fun z => c59 (by rw [hgs]; exact z))] at eF
    exact xff_loop2 (d + 1) h sh af ho bs rw na nr en S S0 S1 Sn rg u v0 v1 f9 hf9 F (hA h ho s) s cl P1 (fun _ => rfl) (by omega) (lo s s0 s1) lo (S.toNat + 1) u 0 g h (by omega) (Int.le_refl _) v0 v1 Fr.rf (fun x _ _ => Or.inl rfl) P0 (fun x x0 x1 z z2 => absurd z (by omega)) (by omega) hg (by rw [hgs]; exact eF)
  · refine Wp.ald_n (j := 0) rfl dX1_followFrom_62 ?_
    refine Wp.ild (j := 4) rfl dX1_followFrom_63 ?_
    refine Wp.ild_n (j := 2) rfl dX1_followFrom_65 ?_
    obtain ⟨_, t66, ct66, ⟨y66, rfl, ey66, y0', y1'⟩, e66⟩ := cq_leastOfRoundX d h sh af ho bs rw na nr en S S0 S1 Sn rg f9 hf9 s s0 s1
    rw [e66] at ct66
    refine Wp.callV1 (ct66) wc_X1_57 iM_X1_leastOfRound se_X1_leastOfRound kC1 (sK17 (h := h) sh) dX1_followFrom_66 rfl (Nat.le_of_ble_eq_true rfl) rfl (Nat.le_of_ble_eq_true rfl) ?_
    refine Wp.goto (tgt := 79) dX1_followFrom_69 (by decide) ?_
    refine sti_7_5 rfl (dSt_w dX1_followFrom_79) ?_
    refine Wp.ild_n (j := 1) rfl dX1_followFrom_81 ?_
    refine sti_7_4 rfl (dSt_w dX1_followFrom_82) ?_
    refine Wp.iconst dX1_followFrom_84 (by decide) ?_
    refine sti_7_6 rfl (dSt_w dX1_followFrom_85) ?_
    have ceb := cE_le (hA h ho) (-2 - u) S.toNat
    have hgs := hg s s0 s1
    unfold ffl at eF
    rw [if_pos (show (s, g).2 (s, g).1 = -2 - u from by rw [← c59, hgs])] at eF
    exact xff_loop2 (d + 1) h sh af ho bs rw na nr en S S0 S1 Sn rg u v0 v1 f9 hf9 F y66 s cl P1 (fun z => absurd c59 z) (by omega) (by omega) lo (S.toNat + 1) u 0 g h (by omega) (Int.le_refl _) v0 v1 Fr.rf (fun x _ _ => Or.inl rfl) P0 (fun x x0 x1 z z2 => absurd z (by omega)) (by omega) hg (by rw [ey66]; exact eF)

theorem xff_loop1 (d : Nat) (h : mH) (sh : Sh h) (af ho bs rw na nr : Int) (en : EN h af ho bs rw na nr) (S : Int) (S0 : 0 < S) (S1 : S ≤ 20736) (Sn : S ≤ na) (rg : RG S (hA h af)) (u : Int) (v0 : 0 ≤ u) (v1 : u < S) (f9 : Int → Int) (hf9 : ∀ x, 0 ≤ x → x < S → hA h af x = f9 x) (F : Int → Int) (u6 : mV) (cl : CL S (hA h af) (hA h ho)) (lo : ∀ x, 0 ≤ x → x < S → -1 - u ≤ hA h ho x) : ∀ (m : Nat) (s n : Int) (g : Int → Int) (h' : mH), (S - n).toNat < m → (0 ≤ n) → (0 ≤ s) → (s < S) → (Fr [ho] [] h h') → (∀ x, 0 ≤ x → x < S → hA h' ho x = hA h ho x ∨ (hA h ho x = -1 ∧ hA h' ho x = -2 - u)) → (∀ x, 0 ≤ x → x < S → hA h' ho x = -2 - u → hA h' ho (hA h af x) = -2 - u ∨ hA h af x = s) → (hA h' ho u = -2 - u ∨ u = s) → (∀ x, 0 ≤ x → x < S → hA h' ho x = g x) → (ffl f9 S u (fw1 f9 S (-2 - u) m n s g) = F) → Wp m_X1_followFrom (d + 2) 11 [(2, 17), (0, u), (0, S), (0, (-2 - u)), (0, s), (0, n), u6] [] h' (fun r t => r = none ∧ Fr [ho] [] h t ∧ CL S (hA h af) (hA t ho) ∧ (∀ x, 0 ≤ x → x < S → -2 - u ≤ hA t ho x) ∧ ∀ x, 0 ≤ x → x < S → hA t ho x = F x) := by
  intro m
  induction m with
  | zero => intro s n g h' hm; exact absurd hm (Nat.not_lt_zero _)
  | succ m ih =>
    intro s n g h' hm n0 s0 s1 fr i2 i3 i4 hg eF
    obtain ⟨⟨t0, k0, l0⟩, ⟨t1, k1, l1⟩, ⟨t2, k2, l2⟩, ⟨t3, k3, l3⟩, ⟨hn1, hn2, hn3, hn4, hn5, hn6⟩, ⟨y0, y1, y2, y3⟩, ⟨z0, z1, z2, z3⟩, ⟨b0, b1⟩, c0, c1⟩ := id en
    have h74 := sh.2.2.2.2
    have en' := en.fr fr
    have ea : hA h' af = hA h af := fr.2.2.2.2.2 af (by simp; omega)
    have sh' := sh.fr fr (by decide +kernel) (by simp; omega)
    obtain ⟨⟨t0', k0', l0'⟩, ⟨t1', k1', l1'⟩, ⟨t2', k2', l2'⟩, ⟨t3', k3', l3'⟩, -⟩ := id en'
    refine Wp.ild (j := 5) rfl dX1_followFrom_11 ?_
    refine Wp.ild_n (j := 2) rfl dX1_followFrom_13 ?_
    refine Wp.icge dX1_followFrom_14 (by decide) (tgt := 51) (fun c14 => ?_) (fun c14 => ?_)
    · have hgs := hg s s0 s1
      have hu : fw1 f9 S (-2 - u) (m + 1) n s g = (s, g) := if_neg (fun z => by have := z.1; have := z.2; omega)
      rw [hu] at eF
      have cl' : CL S (hA h' af) (hA h' ho) := by
        rw [ea]
        intro x x0 x1 hx
        have hf := rg x x0 x1
        have q1 := i2 x x0 x1
        have q2 := i2 _ hf.1 hf.2
        have q3 := cl x x0 x1
        omega
      refine (xff_rest d h' sh' af ho bs rw na nr en' S S0 S1 Sn (by rw [ea]; exact rg) u v0 v1 f9 (by rw [ea]; exact hf9) F g hg s n u6 s0 s1 cl' (by rw [ea]; exact i3) i4 (fun x x0 x1 => ?_) eF).mono (fun r t q => ?_)
      · have := i2 x x0 x1
        have := lo x x0 x1
        omega
      · obtain ⟨q1, q2, q3, q4, q5⟩ := q
        rw [ea] at q3
        exact ⟨q1, fr.tr q2, q3, q4, q5⟩
    · refine Wp.ald_n (j := 0) rfl dX1_followFrom_17 ?_
      refine Wp.getf (k := 1) (tg := 2) kC1 (by decide) rfl lf_X1_15 dX1_followFrom_18 (sK17 (h := h') sh') t1' ?_
      refine Wp.ild (j := 4) rfl dX1_followFrom_21 ?_
      refine Wp.iaload dX1_followFrom_23 k1' (by omega) (ilt l1' (by omega)) (show hA _ ho _ = hA h' ho _ from rfl) ?_
      refine Wp.iconst dX1_followFrom_24 (by decide) ?_
      refine Wp.icne dX1_followFrom_25 (by decide) (tgt := 51) (fun c25 => ?_) (fun c25 => ?_)
      · have hgs := hg s s0 s1
        have hu : fw1 f9 S (-2 - u) (m + 1) n s g = (s, g) := if_neg (fun z => by have := z.1; have := z.2; omega)
        rw [hu] at eF
        have cl' : CL S (hA h' af) (hA h' ho) := by
          rw [ea]
          intro x x0 x1 hx
          have hf := rg x x0 x1
          have q1 := i2 x x0 x1
          have q2 := i2 _ hf.1 hf.2
          have q3 := cl x x0 x1
          omega
        refine (xff_rest d h' sh' af ho bs rw na nr en' S S0 S1 Sn (by rw [ea]; exact rg) u v0 v1 f9 (by rw [ea]; exact hf9) F g hg s n u6 s0 s1 cl' (by rw [ea]; exact i3) i4 (fun x x0 x1 => ?_) eF).mono (fun r t q => ?_)
        · have := i2 x x0 x1
          have := lo x x0 x1
          omega
        · obtain ⟨q1, q2, q3, q4, q5⟩ := q
          rw [ea] at q3
          exact ⟨q1, fr.tr q2, q3, q4, q5⟩
      · refine Wp.ald_n (j := 0) rfl dX1_followFrom_28 ?_
        refine Wp.getf (k := 1) (tg := 2) kC1 (by decide) rfl lf_X1_15 dX1_followFrom_29 (sK17 (h := h') sh') t1' ?_
        refine Wp.ild (j := 4) rfl dX1_followFrom_32 ?_
        refine Wp.ild_n (j := 3) rfl dX1_followFrom_34 ?_
        refine Wp.iastore dX1_followFrom_35 k1' (by omega) (ilt l1' (by omega)) ?_
        refine Wp.ald_n (j := 0) rfl dX1_followFrom_36 ?_
        refine Wp.getf (k := 0) (tg := 2) kC1 (by decide) rfl lf_X1_9 dX1_followFrom_37 (sK17 (h := h') sh') t0' ?_
        refine Wp.ild (j := 4) rfl dX1_followFrom_40 ?_
        refine Wp.iaload dX1_followFrom_42 k0' (by omega) (ilt l0' (by omega)) (show hA _ af _ = hA h af _ by rw [show ∀ v, hA (sE h' ho s v) af = hA h' af from fun v => hA_sEn (by omega), ea]) ?_
        refine sti_7_4 rfl (dSt_w dX1_followFrom_43) ?_
        refine inc_7_5 rfl dX1_followFrom_45 (by first | exact w32_of (by omega) (by omega) | rfl) ?_
        refine Wp.goto (tgt := 11) dX1_followFrom_48 (by decide) ?_
        have hs := rg s s0 s1
        have hgs := hg s s0 s1
        have st := ff_st1 (by omega) i2 i3 i4 (by omega) s0 s1
        have hu : fw1 f9 S (-2 - u) (m + 1) n s g = fw1 f9 S (-2 - u) m (n + 1) (f9 s) (u1 g s (-2 - u)) := if_pos ⟨by omega, by omega⟩
        rw [hu, ← hf9 s s0 s1] at eF
        refine ih _ (n + 1) (u1 g s (-2 - u)) _ (by omega) (by omega) hs.1 hs.2 (fr.tr (Fr.e (List.mem_singleton.mpr rfl))) ?_ ?_ ?_ (fun x x0 x1 => ?_) eF
        · rw [hA_sEs]
          exact st.1
        · rw [hA_sEs]
          exact st.2.1
        · rw [hA_sEs]
          exact st.2.2
        · rw [hA_sEs]
          exact u1_cg (fun _ => hg x x0 x1)

theorem cq_followFromX (d : Nat) (h : mH) (sh : Sh h) (af ho bs rw na nr : Int) (en : EN h af ho bs rw na nr) (S : Int) (S0 : 0 < S) (S1 : S ≤ 20736) (Sn : S ≤ na) (rg : RG S (hA h af)) (u : Int) (v0 : 0 ≤ u) (v1 : u < S) (f9 : Int → Int) (hf9 : ∀ x, 0 ≤ x → x < S → hA h af x = f9 x) (g : Int → Int) (hg : ∀ x, 0 ≤ x → x < S → hA h ho x = g x) (cl : CL S (hA h af) (hA h ho)) (lo : ∀ x, 0 ≤ x → x < S → -1 - u ≤ hA h ho x) : Cq m_X1_followFrom (d + 2) [(2, 17), (0, u), (0, S)] h (fun r t => r = none ∧ Fr [ho] [] h t ∧ CL S (hA h af) (hA t ho) ∧ (∀ x, 0 ≤ x → x < S → -2 - u ≤ hA t ho x) ∧ ∀ x, 0 ≤ x → x < S → hA t ho x = ffx f9 S u g x) := by
  refine Cq.of ?_
  show Wp m_X1_followFrom ((d + 2)) 0 [(2, 17), (0, u), (0, S), (9, 0), (9, 0), (9, 0), (9, 0)] [] h _
  obtain ⟨⟨t0, k0, l0⟩, ⟨t1, k1, l1⟩, ⟨t2, k2, l2⟩, ⟨t3, k3, l3⟩, ⟨hn1, hn2, hn3, hn4, hn5, hn6⟩, ⟨y0, y1, y2, y3⟩, ⟨z0, z1, z2, z3⟩, ⟨b0, b1⟩, c0, c1⟩ := id en
  have h74 := sh.2.2.2.2
  refine Wp.bipush dX1_followFrom_0 (by decide) ?_
  refine Wp.ild_n (j := 1) rfl dX1_followFrom_2 ?_
  refine Wp.isubE dX1_followFrom_3 (by first | exact w32_of (by omega) (by omega) | rfl) ?_
  refine sti_7_3 rfl (dSt_n dX1_followFrom_4) ?_
  refine Wp.ild_n (j := 1) rfl dX1_followFrom_5 ?_
  refine sti_7_4 rfl (dSt_w dX1_followFrom_6) ?_
  refine Wp.iconst dX1_followFrom_8 (by decide) ?_
  refine sti_7_5 rfl (dSt_w dX1_followFrom_9) ?_
  exact xff_loop1 d h sh af ho bs rw na nr en S S0 S1 Sn rg u v0 v1 f9 hf9 _ _ cl lo (S.toNat + 1) u 0 g h (by omega) (Int.le_refl _) v0 v1 Fr.rf (fun x _ _ => Or.inl rfl) (fun x x0 x1 z => absurd z (by have := lo x x0 x1; omega)) (Or.inr rfl) hg rfl

