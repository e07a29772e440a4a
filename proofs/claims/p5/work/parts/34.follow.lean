theorem fol_tail (d : Nat) (h : mH) (sh : Sh h) (af ho bs rw na nr : Int) (en : EN h af ho bs rw na nr) (S : Int) (S0 : 0 < S) (S1 : S ≤ 20736) (Sn : S ≤ na) (j : Int) (j0 : 0 ≤ j) (j1 : j < S) (u4 : mV) (Q : Option mV → mH → Prop) (kq : ∀ (h2 : mH) (v4 : mV), Fr [bs] [] h h2 → Wp m_X1_follow (d + 5) 47 [(2, 17), (2, 2), (0, S), (0, j + 1), v4] [] h2 Q) : Wp m_X1_follow (d + 5) 68 [(2, 17), (2, 2), (0, S), (0, j), u4] [] h Q := by
  obtain ⟨⟨t0, k0, l0⟩, ⟨t1, k1, l1⟩, ⟨t2, k2, l2⟩, ⟨t3, k3, l3⟩, ⟨hn1, hn2, hn3, hn4, hn5, hn6⟩, ⟨y0, y1, y2, y3⟩, ⟨z0, z1, z2, z3⟩, ⟨b0, b1⟩, c0, c1⟩ := id en
  have h74 := sh.2.2.2.2
  refine Wp.ald_n (j := 0) rfl dX1_follow_68 ?_
  refine Wp.getf (k := 1) (tg := 2) kC1 (by decide) rfl lf_X1_15 dX1_follow_69 (sK17 (h := h) sh) t1 ?_
  refine Wp.ild_n (j := 3) rfl dX1_follow_72 ?_
  refine Wp.iaload dX1_follow_73 k1 (by omega) (ilt l1 (by omega)) (show hA _ ho _ = hA h ho _ from rfl) ?_
  refine sti_5_4 rfl (dSt_w dX1_follow_74) ?_
  refine Wp.ild (j := 4) rfl dX1_follow_76 ?_
  refine Wp.iflt dX1_follow_78 (by decide) (tgt := 98) (fun c78 => ?_) (fun c78 => ?_)
  · refine inc_5_3 rfl dX1_follow_98 (by first | exact w32_of (by omega) (by omega) | rfl) ?_
    refine Wp.goto (tgt := 47) dX1_follow_101 (by decide) ?_
    first
    | exact kq _ _ Fr.rf
    | exact kq _ _ (Fr.e (List.mem_singleton.mpr rfl))
  · refine Wp.ild (j := 4) rfl dX1_follow_81 ?_
    refine Wp.ild_n (j := 2) rfl dX1_follow_83 ?_
    refine Wp.icge dX1_follow_84 (by decide) (tgt := 98) (fun c84 => ?_) (fun c84 => ?_)
    · refine inc_5_3 rfl dX1_follow_98 (by first | exact w32_of (by omega) (by omega) | rfl) ?_
      refine Wp.goto (tgt := 47) dX1_follow_101 (by decide) ?_
      first
      | exact kq _ _ Fr.rf
      | exact kq _ _ (Fr.e (List.mem_singleton.mpr rfl))
    · refine Wp.ald_n (j := 0) rfl dX1_follow_87 ?_
      refine Wp.getf (k := 2) (tg := 2) kC1 (by decide) rfl lf_X1_18 dX1_follow_88 (sK17 (h := h) sh) t2 ?_
      refine Wp.ild (j := 4) rfl dX1_follow_91 ?_
      refine Wp.dup2 dX1_follow_93 (Or.inl rfl) (Or.inr rfl) ?_
      refine Wp.iaload dX1_follow_94 k2 (by omega) (ilt l2 (by omega)) (show hA _ bs _ = hA h bs _ from rfl) ?_
      refine Wp.iconst dX1_follow_95 (by decide) ?_
      refine Wp.iaddE dX1_follow_96 rfl ?_
      refine Wp.iastore dX1_follow_97 k2 (by omega) (ilt l2 (by omega)) ?_
      refine inc_5_3 rfl dX1_follow_98 (by first | exact w32_of (by omega) (by omega) | rfl) ?_
      refine Wp.goto (tgt := 47) dX1_follow_101 (by decide) ?_
      first
      | exact kq _ _ Fr.rf
      | exact kq _ _ (Fr.e (List.mem_singleton.mpr rfl))

