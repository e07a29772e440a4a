theorem mee1 (d : Nat) (h : mH) (sh : Sh h) (n : Int) (n1 : n ≤ 20736) (Q : Option mV → mH → Prop) (kq : ∀ (t : mH) (s : Int), Fr [71] [] h t → Wp m_X6_ends (d + 3) 55 [(2, 41), (0, n), (0, s), (9, 0)] [] t Q) : ∀ (m : Nat) (s : Int) (h' : mH), (n - s).toNat < m → (Fr [71] [] h h') → (0 ≤ s) → Wp m_X6_ends (d + 3) 37 [(2, 41), (0, n), (0, s), (9, 0)] [] h' Q := by
  intro m
  induction m with
  | zero => intro s h' hm; exact absurd hm (Nat.not_lt_zero _)
  | succ m ih =>
    intro s h' hm fr s0
    have sh' := sh.fr fr (by decide +kernel) (by decide)
    refine Wp.ild_n (j := 2) rfl dX6_ends_37 ?_
    refine Wp.ild_n (j := 1) rfl dX6_ends_38 ?_
    refine Wp.icge dX6_ends_39 (by decide) (tgt := 55) (fun c39 => ?_) (fun c39 => ?_)
    · exact kq _ _ fr
    · refine Wp.ald_n (j := 0) rfl dX6_ends_42 ?_
      refine Wp.getf (k := 43) (tg := 2) kC6 (by decide) rfl lf_X6_109 dX6_ends_43 (sK41 (h := h') sh') (sF41_43 (h := h') sh') ?_
      refine Wp.ild_n (j := 2) rfl dX6_ends_46 ?_
      refine Wp.iconst dX6_ends_47 (by decide) ?_
      refine Wp.iastore dX6_ends_48 (sK71 (h := h') sh') (by omega) (ilt (sL71 (h := h') sh') (by omega)) ?_
      refine inc_4_2 rfl dX6_ends_49 (by first | exact w32_of (by omega) (by omega) | rfl) ?_
      refine Wp.goto (tgt := 37) dX6_ends_52 (by decide) ?_
      exact ih (s + 1) _ (by omega) (fr.tr (Fr.e (by decide))) (by omega)

