/-! ===== rounds ===== -/
def mIt (c : mCf) (f : Int → Int) : Nat → Int → Int
  | 0 => cutF c.1.1 f
  | k + 1 => mT c (mIt c f k)
theorem mIt_out (c : mCf) (f : Int → Int) : ∀ (k : Nat) (j : Int), ¬ (0 ≤ j ∧ j < c.1.1) → mIt c f k j = 0
  | 0, j, h => if_neg h
  | k + 1, j, h => if_neg h
def RW (n : Int) (t : mH) (ra : Int) (f : Int → Int) : Prop := ∀ j, 0 ≤ j → j < n → hA t ra j = f j
def RGm (n r : Int) (t : mH) (ra : Int) : Prop := ∀ j, 0 ≤ j → j < n → 0 ≤ hA t ra j ∧ hA t ra j < r
/-- the two walkers: the tortoise after i ticks, the hare after k -/
def WR (h t : mH) (i k : Nat) : Prop := Fr [50, 51, 52, 53, 55, 56] [(41, 40), (41, 41)] h t ∧ (RW (hF h 41 6) t 56 (mIt (mcf h) (hA h 46) i) ∧ RW (hF h 41 6) t 55 (mIt (mcf h) (hA h 46) k)) ∧ RGm (hF h 41 6) (hF h 41 5) t 56 ∧ RGm (hF h 41 6) (hF h 41 5) t 55
theorem WR.f {h t : mH} {i k : Nat} (wr : WR h t i k) {f : Nat} (v : Int) (hf : f = 40 ∨ f = 41) : WR h (sF t 41 f v) i k := ⟨wr.1.tr (Fr.f (by rcases hf with z | z <;> subst z <;> decide)), wr.2⟩
theorem WR.mb {h t : mH} {i k : Nat} (wr : WR h t i k) (mb : MB h) : MB t := mb.fr wr.1 (by decide) (by decide) (by decide) (by decide) (by decide)
theorem WR.sh {h t : mH} {i k : Nat} (wr : WR h t i k) (sh : Sh h) : Sh t := sh.fr wr.1 (by decide +kernel) (by decide)
theorem WR.e {h t : mH} {i k : Nat} (wr : WR h t i k) : hF t 41 6 = hF h 41 6 ∧ hF t 41 5 = hF h 41 5 ∧ mcf t = mcf h ∧ hA t 46 = hA h 46 := ⟨wr.1.2.2.2.2.1 41 6 (by decide), wr.1.2.2.2.2.1 41 5 (by decide), mcf_fr wr.1 (by decide) (by decide) (by decide) (by decide) (by decide) (by decide), wr.1.2.2.2.2.2 46 (by decide)⟩
theorem WR.like {h t : mH} {i k : Nat} (wr : WR h t i k) (hl : ∀ j, 0 ≤ j → j < hF t 41 6 → hA t 56 j = hA t 55 j) : mIt (mcf h) (hA h 46) i = mIt (mcf h) (hA h 46) k := by
  funext j
  by_cases hj : 0 ≤ j ∧ j < hF h 41 6
  · rw [← wr.2.1.1 j hj.1 hj.2, ← wr.2.1.2 j hj.1 hj.2]
    exact hl j hj.1 (by rw [wr.e.1]; exact hj.2)
  · rw [mIt_out (mcf h) (hA h 46) i j hj, mIt_out (mcf h) (hA h 46) k j hj]
theorem WR.unlike {h t : mH} {i k : Nat} (wr : WR h t i k) (hl : ∃ j, 0 ≤ j ∧ j < hF t 41 6 ∧ hA t 56 j ≠ hA t 55 j) : mIt (mcf h) (hA h 46) i ≠ mIt (mcf h) (hA h 46) k := by
  intro e
  obtain ⟨j, j0, j1, hne⟩ := hl
  rw [wr.e.1] at j1
  rw [wr.2.1.1 j j0 j1, wr.2.1.2 j j0 j1, e] at hne
  exact hne rfl
theorem RW.keep {A : List Int} {G : List (Int × Nat)} {n : Int} {t u : mH} {ra : Int} {f : Int → Int} (x : RW n t ra f) (fr : Fr A G t u) (ha : ra ∉ A) : RW n u ra f := fun j j0 j1 => by rw [fr.2.2.2.2.2 ra ha]; exact x j j0 j1
theorem RGm.keep {A : List Int} {G : List (Int × Nat)} {n r : Int} {t u : mH} {ra : Int} (x : RGm n r t ra) (fr : Fr A G t u) (ha : ra ∉ A) : RGm n r u ra := fun j j0 j1 => by rw [fr.2.2.2.2.2 ra ha]; exact x j j0 j1
theorem wr_hare (d : Nat) {h h' : mH} (sh : Sh h) (mb : MB h) {i k : Nat} (wr : WR h h' i k) : ∃ t, Ct m_X6_tick (d + 1) [(2, 41), (2, 55)] h' none t ∧ WR h t i (k + 1) ∧ ∀ f, hF t 41 f = hF h' 41 f := by
  have sh' := wr.sh sh
  obtain ⟨e6, e5, ec, -⟩ := wr.e
  obtain ⟨_, t, ct, rfl, fr, hr⟩ := cq_mtick d h' sh' (wr.mb mb) 55 (sK55 sh') (sL55 sh') (by decide) (fun j j0 j1 => by rw [e5]; exact wr.2.2.2 j j0 (by rw [← e6]; exact j1))
  rw [ec, mT_eq (c := mcf h) (fun j j0 j1 => wr.2.1.2 j j0 j1), e6, e5] at hr
  exact ⟨t, ct, ⟨wr.1.tr (fr.mono (by decide) (by simp)), ⟨wr.2.1.1.keep fr (by decide), fun j j0 j1 => (hr j j0 j1).1⟩, wr.2.2.1.keep fr (by decide), fun j j0 j1 => (hr j j0 j1).2⟩, fun f => fr.2.2.2.2.1 41 f (by simp)⟩
theorem wr_tort (d : Nat) {h h' : mH} (sh : Sh h) (mb : MB h) {i k : Nat} (wr : WR h h' i k) : ∃ t, Ct m_X6_tick (d + 1) [(2, 41), (2, 56)] h' none t ∧ WR h t (i + 1) k ∧ ∀ f, hF t 41 f = hF h' 41 f := by
  have sh' := wr.sh sh
  obtain ⟨e6, e5, ec, -⟩ := wr.e
  obtain ⟨_, t, ct, rfl, fr, hr⟩ := cq_mtick d h' sh' (wr.mb mb) 56 (sK56 sh') (sL56 sh') (by decide) (fun j j0 j1 => by rw [e5]; exact wr.2.2.1 j j0 (by rw [← e6]; exact j1))
  rw [ec, mT_eq (c := mcf h) (fun j j0 j1 => wr.2.1.1 j j0 j1), e6, e5] at hr
  exact ⟨t, ct, ⟨wr.1.tr (fr.mono (by decide) (by simp)), ⟨fun j j0 j1 => (hr j j0 j1).1, wr.2.1.2.keep fr (by decide)⟩, fun j j0 j1 => (hr j j0 j1).2, wr.2.2.2.keep fr (by decide)⟩, fun f => fr.2.2.2.2.1 41 f (by simp)⟩
theorem wr_begin (d : Nat) {h h' : mH} (sh : Sh h) (mb : MB h) (fr0 : Fr [50, 51, 52, 53, 55, 56] [(41, 40), (41, 41)] h h') : ∃ t u, Ct m_X6_begin d [(2, 41), (2, 56)] h' none t ∧ Ct m_X6_begin d [(2, 41), (2, 55)] t none u ∧ WR h u 0 0 ∧ (∀ f, hF u 41 f = hF h' 41 f) ∧ Sh t := by
  have sh' : Sh h' := sh.fr fr0 (by decide +kernel) (by decide)
  have e6 : hF h' 41 6 = hF h 41 6 := fr0.2.2.2.2.1 41 6 (by decide)
  have e46 : hA h' 46 = hA h 46 := fr0.2.2.2.2.2 46 (by decide)
  obtain ⟨_, t, ct, rfl, fr, hr⟩ := cq_mbegin d h' sh' (by rw [e6]; exact mb.2.1.2) 56 (sK56 sh') (sL56 sh') (by decide) (by decide)
  have sht : Sh t := sh'.fr fr (by decide +kernel) (by decide)
  have t6 : hF t 41 6 = hF h 41 6 := (fr.2.2.2.2.1 41 6 (by decide)).trans e6
  have t46 : hA t 46 = hA h 46 := (fr.2.2.2.2.2 46 (by decide)).trans e46
  obtain ⟨_, u, cu, rfl, fru, hu⟩ := cq_mbegin d t sht (by rw [t6]; exact mb.2.1.2) 55 (sK55 sht) (sL55 sht) (by decide) (by decide)
  rw [e6, e46] at hr
  rw [t6, t46] at hu
  have h56 : ∀ j, 0 ≤ j → j < hF h 41 6 → hA u 56 j = hA h 46 j := fun j j0 j1 => by rw [fru.2.2.2.2.2 56 (by decide)]; exact hr j j0 j1
  refine ⟨t, u, ct, cu, ⟨(fr0.tr (fr.mono (by decide) (by simp))).tr (fru.mono (by decide) (by simp)), ⟨fun j j0 j1 => ?_, fun j j0 j1 => ?_⟩, fun j j0 j1 => ?_, fun j j0 j1 => ?_⟩, fun f => (fru.2.2.2.2.1 41 f (by simp)).trans (fr.2.2.2.2.1 41 f (by simp)), sht⟩
  · rw [h56 j j0 j1]
    exact (cutF_in j0 j1).symm
  · rw [hu j j0 j1]
    exact (cutF_in j0 j1).symm
  · rw [h56 j j0 j1]
    exact mb.2.2.2.1 j j0 j1
  · rw [hu j j0 j1]
    exact mb.2.2.2.1 j j0 j1
theorem rounds_58 (d : Nat) (h : mH) (sh : Sh h) (mb : MB h) (pw st : Int) (k : Nat) (Q : Option mV → mH → Prop) (kq : ∀ (t : mH) (i : Int), WR h t k k → Wp m_X6_rounds (d + 2) 84 [(2, 41), (0, pw), (0, st), (0, i)] [] t Q) : ∀ (m : Nat) (i : Int) (p : Nat) (h' h2 : mH), (hF h 41 6 - i).toNat < m → (0 ≤ i) → (WR h h2 p k) → (Fr [56] [] h2 h') → (∀ j, 0 ≤ j → j < i → hA h' 56 j = hA h2 55 j) → Wp m_X6_rounds (d + 2) 58 [(2, 41), (0, pw), (0, st), (0, i)] [] h' Q := by
  intro m
  induction m with
  | zero => intro i p h' h2 hm; exact absurd hm (Nat.not_lt_zero _)
  | succ m ih =>
    intro i p h' h2 hm i0 wr fr hj
    obtain ⟨⟨r0, r1⟩, ⟨n0, n1⟩, ⟨m0, m1⟩, hp, hq⟩ := id mb
    have sh' := (wr.sh sh).fr fr (by decide +kernel) (by decide)
    have e6 : hF h' 41 6 = hF h 41 6 := (fr.2.2.2.2.1 41 6 (by simp)).trans wr.e.1
    have e55 : hA h' 55 = hA h2 55 := fr.2.2.2.2.2 55 (by decide)
    refine Wp.ild_n (j := 3) rfl dX6_rounds_58 ?_
    refine Wp.ald_n (j := 0) rfl dX6_rounds_59 ?_
    refine Wp.getf (k := 6) (tg := 0) kC6 (by decide) rfl lf_X6_141 dX6_rounds_60 (sK41 (h := h') sh') e6 ?_
    refine Wp.icge dX6_rounds_63 (by decide) (tgt := 84) (fun c63 => ?_) (fun c63 => ?_)
    · refine kq h' i ⟨wr.1.tr (fr.mono (by decide) (by simp)), ⟨fun j j0 j1 => ?_, wr.2.1.2.keep fr (by decide)⟩, fun j j0 j1 => ?_, wr.2.2.2.keep fr (by decide)⟩
      · rw [hj j j0 (by omega)]
        exact wr.2.1.2 j j0 j1
      · rw [hj j j0 (by omega)]
        exact wr.2.2.2 j j0 j1
    · refine Wp.ald_n (j := 0) rfl dX6_rounds_66 ?_
      refine Wp.getf (k := 20) (tg := 2) kC6 (by decide) rfl lf_X6_63 dX6_rounds_67 (sK41 (h := h') sh') (sF41_20 (h := h') sh') ?_
      refine Wp.ild_n (j := 3) rfl dX6_rounds_70 ?_
      refine Wp.ald_n (j := 0) rfl dX6_rounds_71 ?_
      refine Wp.getf (k := 19) (tg := 2) kC6 (by decide) rfl lf_X6_60 dX6_rounds_72 (sK41 (h := h') sh') (sF41_19 (h := h') sh') ?_
      refine Wp.ild_n (j := 3) rfl dX6_rounds_75 ?_
      refine Wp.iaload dX6_rounds_76 (sK55 (h := h') sh') (by omega) (ilt (sL55 (h := h') sh') (by omega)) (show hA _ 55 _ = hA h2 55 _ from congrFun e55 _) ?_
      refine Wp.iastore dX6_rounds_77 (sK56 (h := h') sh') (by omega) (ilt (sL56 (h := h') sh') (by omega)) ?_
      refine inc_4_3 rfl dX6_rounds_78 (by first | exact w32_of (by omega) (by omega) | rfl) ?_
      refine Wp.goto (tgt := 58) dX6_rounds_81 (by decide) ?_
      refine ih (i + 1) p _ h2 (by omega) (by omega) wr (fr.tr (Fr.e (by simp))) (fun j j0 j1 => ?_)
      rw [hA_sEs]
      by_cases e : j = i
      · rw [e, u1_s]
      · rw [u1_n _ _ e]
        exact hj j j0 (by omega)

