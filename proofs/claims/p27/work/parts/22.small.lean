theorem ct_accept (d : Nat) (h : mH) (sh : Sh h) : Ct m_X5_accept d [(2, 0)] h (some (0, 1)) (sF h 0 0 0) := by
  refine Ct.of ?_
  show Wp m_X5_accept (d) 0 [(2, 0)] [] h _
  refine Wp.ald_n (j := 0) rfl dX5_accept_0 ?_
  refine Wp.iconst dX5_accept_1 (by decide) ?_
  refine Wp.putf (k := 0) (tg := 0) kC5 (by decide) rfl rfl lf_X5_9 dX5_accept_2 (sK0 sh) ?_
  refine Wp.iconst dX5_accept_5 (by decide) ?_
  refine Wp.zret rfl dX5_accept_6 (by omega) ?_
  exact ⟨rfl, rfl⟩

theorem ct_refuse (d : Nat) (h : mH) (sh : Sh h) (f : Int) : Ct m_X5_refuse d [(2, 0), (0, f)] h (some (0, 0)) (sF h 0 0 f) := by
  refine Ct.of ?_
  show Wp m_X5_refuse (d) 0 [(2, 0), (0, f)] [] h _
  refine Wp.ald_n (j := 0) rfl dX5_refuse_0 ?_
  refine Wp.ild_n (j := 1) rfl dX5_refuse_1 ?_
  refine Wp.putf (k := 0) (tg := 0) kC5 (by decide) rfl rfl lf_X5_9 dX5_refuse_2 (sK0 sh) ?_
  refine Wp.iconst dX5_refuse_5 (by decide) ?_
  refine Wp.zret rfl dX5_refuse_6 (by omega) ?_
  exact ⟨rfl, rfl⟩

theorem ct_answer (d : Nat) (h : mH) (sh : Sh h) (v : Int) : Ct m_X5_answer d [(2, 0), (0, v)] h (some (0, v)) (sF h 0 0 0) := by
  refine Ct.of ?_
  show Wp m_X5_answer (d) 0 [(2, 0), (0, v)] [] h _
  refine Wp.ald_n (j := 0) rfl dX5_answer_0 ?_
  refine Wp.iconst dX5_answer_1 (by decide) ?_
  refine Wp.putf (k := 0) (tg := 0) kC5 (by decide) rfl rfl lf_X5_9 dX5_answer_2 (sK0 sh) ?_
  refine Wp.ild_n (j := 1) rfl dX5_answer_5 ?_
  refine Wp.iret rfl dX5_answer_6 ?_
  exact ⟨rfl, rfl⟩

theorem ct_lack (d : Nat) (h : mH) (sh : Sh h) (f : Int) : Ct m_X5_lack d [(2, 0), (0, f)] h (some (0, -1)) (sF h 0 0 f) := by
  refine Ct.of ?_
  show Wp m_X5_lack (d) 0 [(2, 0), (0, f)] [] h _
  refine Wp.ald_n (j := 0) rfl dX5_lack_0 ?_
  refine Wp.ild_n (j := 1) rfl dX5_lack_1 ?_
  refine Wp.putf (k := 0) (tg := 0) kC5 (by decide) rfl rfl lf_X5_9 dX5_lack_2 (sK0 sh) ?_
  refine Wp.iconst dX5_lack_5 (by decide) ?_
  refine Wp.iret rfl dX5_lack_6 ?_
  exact ⟨rfl, rfl⟩

theorem ct_status (d : Nat) (h : mH) (sh : Sh h) : Ct m_X5_status d [(2, 0)] h (some (0, hF h 0 0)) h := by
  refine Ct.of ?_
  show Wp m_X5_status (d) 0 [(2, 0)] [] h _
  refine Wp.ald_n (j := 0) rfl dX5_status_0 ?_
  refine Wp.getf (k := 0) (tg := 0) kC5 (by decide) rfl lf_X5_9 dX5_status_1 (sK0 sh) (show hF _ 0 0 = hF h 0 0 from rfl) ?_
  refine Wp.iret rfl dX5_status_4 ?_
  exact ⟨rfl, rfl⟩

theorem ct_isKind (d : Nat) (h : mH) (k : Int) : Ct m_X5_isKind d [(0, k)] h (some (0, if 0 ≤ k ∧ k < 4 then 1 else 0)) h := by
  refine Ct.of ?_
  show Wp m_X5_isKind (d) 0 [(0, k)] [] h _
  refine Wp.ild_n (j := 0) rfl dX5_isKind_0 ?_
  refine Wp.iflt dX5_isKind_1 (by decide) (tgt := 13) (fun c1 => ?_) (fun c1 => ?_)
  · refine Wp.iconst dX5_isKind_13 (by decide) ?_
    refine Wp.zret rfl dX5_isKind_14 (by omega) ?_
    refine ⟨?_, rfl⟩
    first | rw [if_pos (by omega)] | rw [if_neg (by omega)]
  · refine Wp.ild_n (j := 0) rfl dX5_isKind_4 ?_
    refine Wp.iconst dX5_isKind_5 (by decide) ?_
    refine Wp.icge dX5_isKind_6 (by decide) (tgt := 13) (fun c6 => ?_) (fun c6 => ?_)
    · refine Wp.iconst dX5_isKind_13 (by decide) ?_
      refine Wp.zret rfl dX5_isKind_14 (by omega) ?_
      refine ⟨?_, rfl⟩
      first | rw [if_pos (by omega)] | rw [if_neg (by omega)]
    · refine Wp.iconst dX5_isKind_9 (by decide) ?_
      refine Wp.goto (tgt := 14) dX5_isKind_10 (by decide) ?_
      refine Wp.zret rfl dX5_isKind_14 (by omega) ?_
      refine ⟨?_, rfl⟩
      first | rw [if_pos (by omega)] | rw [if_neg (by omega)]

theorem ct_has (d : Nat) (h : mH) (sh : Sh h) (b : Int) : Ct m_X0_has d [(2, 2), (0, b)] h (some (0, if 0 ≤ b ∧ b < hF h 2 1 then 1 else 0)) h := by
  refine Ct.of ?_
  show Wp m_X0_has (d) 0 [(2, 2), (0, b)] [] h _
  refine Wp.ild_n (j := 1) rfl dX0_has_0 ?_
  refine Wp.iflt dX0_has_1 (by decide) (tgt := 16) (fun c1 => ?_) (fun c1 => ?_)
  · refine Wp.iconst dX0_has_16 (by decide) ?_
    refine Wp.zret rfl dX0_has_17 (by omega) ?_
    refine ⟨?_, rfl⟩
    first | rw [if_pos (by omega)] | rw [if_neg (by omega)]
  · refine Wp.ild_n (j := 1) rfl dX0_has_4 ?_
    refine Wp.ald_n (j := 0) rfl dX0_has_5 ?_
    refine Wp.getf (k := 1) (tg := 0) kC0 (by decide) rfl lf_X0_15 dX0_has_6 (sK2 sh) (show hF _ 2 1 = hF h 2 1 from rfl) ?_
    refine Wp.icge dX0_has_9 (by decide) (tgt := 16) (fun c9 => ?_) (fun c9 => ?_)
    · refine Wp.iconst dX0_has_16 (by decide) ?_
      refine Wp.zret rfl dX0_has_17 (by omega) ?_
      refine ⟨?_, rfl⟩
      first | rw [if_pos (by omega)] | rw [if_neg (by omega)]
    · refine Wp.iconst dX0_has_12 (by decide) ?_
      refine Wp.goto (tgt := 17) dX0_has_13 (by decide) ?_
      refine Wp.zret rfl dX0_has_17 (by omega) ?_
      refine ⟨?_, rfl⟩
      first | rw [if_pos (by omega)] | rw [if_neg (by omega)]

theorem ct_isPhase (d : Nat) (h : mH) (sh : Sh h) (b : Int) : Ct m_X0_isPhase d [(2, 2), (0, b)] h (some (0, if 0 ≤ b ∧ b < hF h 2 0 then 1 else 0)) h := by
  refine Ct.of ?_
  show Wp m_X0_isPhase (d) 0 [(2, 2), (0, b)] [] h _
  refine Wp.ild_n (j := 1) rfl dX0_isPhase_0 ?_
  refine Wp.iflt dX0_isPhase_1 (by decide) (tgt := 16) (fun c1 => ?_) (fun c1 => ?_)
  · refine Wp.iconst dX0_isPhase_16 (by decide) ?_
    refine Wp.zret rfl dX0_isPhase_17 (by omega) ?_
    refine ⟨?_, rfl⟩
    first | rw [if_pos (by omega)] | rw [if_neg (by omega)]
  · refine Wp.ild_n (j := 1) rfl dX0_isPhase_4 ?_
    refine Wp.ald_n (j := 0) rfl dX0_isPhase_5 ?_
    refine Wp.getf (k := 0) (tg := 0) kC0 (by decide) rfl lf_X0_9 dX0_isPhase_6 (sK2 sh) (show hF _ 2 0 = hF h 2 0 from rfl) ?_
    refine Wp.icge dX0_isPhase_9 (by decide) (tgt := 16) (fun c9 => ?_) (fun c9 => ?_)
    · refine Wp.iconst dX0_isPhase_16 (by decide) ?_
      refine Wp.zret rfl dX0_isPhase_17 (by omega) ?_
      refine ⟨?_, rfl⟩
      first | rw [if_pos (by omega)] | rw [if_neg (by omega)]
    · refine Wp.iconst dX0_isPhase_12 (by decide) ?_
      refine Wp.goto (tgt := 17) dX0_isPhase_13 (by decide) ?_
      refine Wp.zret rfl dX0_isPhase_17 (by omega) ?_
      refine ⟨?_, rfl⟩
      first | rw [if_pos (by omega)] | rw [if_neg (by omega)]

theorem ct_holds (d : Nat) (h : mH) (s b : Int) : Ct m_X0_holds d [(0, s), (0, b)] h (some (0, if kand (kshr s b) 1 = 0 then 0 else 1)) h := by
  refine Ct.of ?_
  show Wp m_X0_holds (d) 0 [(0, s), (0, b)] [] h _
  refine Wp.ild_n (j := 0) rfl dX0_holds_0 ?_
  refine Wp.ild_n (j := 1) rfl dX0_holds_1 ?_
  refine Wp.ishr dX0_holds_2 ?_
  refine Wp.iconst dX0_holds_3 (by decide) ?_
  refine Wp.iand dX0_holds_4 ?_
  refine Wp.ifeq dX0_holds_5 (by decide) (tgt := 12) (fun c5 => ?_) (fun c5 => ?_)
  · refine Wp.iconst dX0_holds_12 (by decide) ?_
    refine Wp.zret rfl dX0_holds_13 (by omega) ?_
    refine ⟨?_, rfl⟩
    first | rw [if_pos (by omega)] | rw [if_neg (by omega)]
  · refine Wp.iconst dX0_holds_8 (by decide) ?_
    refine Wp.goto (tgt := 13) dX0_holds_9 (by decide) ?_
    refine Wp.zret rfl dX0_holds_13 (by omega) ?_
    refine ⟨?_, rfl⟩
    first | rw [if_pos (by omega)] | rw [if_neg (by omega)]

theorem ct_everyone (d : Nat) (h : mH) (sh : Sh h) : Ct m_X0_everyone d [(2, 2)] h (some (0, w32 (kshl 1 (hF h 2 1) - 1))) h := by
  refine Ct.of ?_
  show Wp m_X0_everyone (d) 0 [(2, 2)] [] h _
  refine Wp.iconst dX0_everyone_0 (by decide) ?_
  refine Wp.ald_n (j := 0) rfl dX0_everyone_1 ?_
  refine Wp.getf (k := 1) (tg := 0) kC0 (by decide) rfl lf_X0_15 dX0_everyone_2 (sK2 sh) (show hF _ 2 1 = hF h 2 1 from rfl) ?_
  refine Wp.ishl dX0_everyone_5 ?_
  refine Wp.iconst dX0_everyone_6 (by decide) ?_
  refine Wp.isubE dX0_everyone_7 rfl ?_
  refine Wp.iret rfl dX0_everyone_8 ?_
  exact ⟨rfl, rfl⟩

