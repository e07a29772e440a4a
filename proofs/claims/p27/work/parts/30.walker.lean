theorem ct_startWalk (d : Nat) (h : mH) (sh : Sh h) (h0 : 0 ≤ hF h 2 1) (h1 : hF h 2 1 ≤ 24) : Ct m_X0_startWalk (d + 1) [(2, 2)] h none (sA h 11 (cpF (hA h 4) (hA h 11) 0 0 (hF h 2 1))) := by
  refine Ct.of ?_
  show Wp m_X0_startWalk ((d + 1)) 0 [(2, 2)] [] h _
  refine Wp.ald_n (j := 0) rfl dX0_startWalk_0 ?_
  refine Wp.getf (k := 4) (tg := 2) kC0 (by decide) rfl lf_X0_25 dX0_startWalk_1 (sK2 (h := h) sh) (sF2_4 (h := h) sh) ?_
  refine Wp.iconst dX0_startWalk_4 (by decide) ?_
  refine Wp.ald_n (j := 0) rfl dX0_startWalk_5 ?_
  refine Wp.getf (k := 12) (tg := 2) kC0 (by decide) rfl lf_X0_49 dX0_startWalk_6 (sK2 (h := h) sh) (sF2_12 (h := h) sh) ?_
  refine Wp.iconst dX0_startWalk_9 (by decide) ?_
  refine Wp.ald_n (j := 0) rfl dX0_startWalk_10 ?_
  refine Wp.getf (k := 1) (tg := 0) kC0 (by decide) rfl lf_X0_15 dX0_startWalk_11 (sK2 (h := h) sh) (show hF _ 2 1 = hF h 2 1 from rfl) ?_
  refine Wp.acopy (t := 10) (Or.inl rfl) wa_X0_90 wA2 wA3 wA4 dX0_startWalk_14 (sK4 (h := h) sh) (sK11 (h := h) sh) (by omega) (by omega) (by omega) (ile (sL4 (h := h) sh) (by omega)) (ile (sL11 (h := h) sh) (by omega)) (Nat.le_of_ble_eq_true rfl) ?_
  refine Wp.vret rfl dX0_startWalk_17 ?_
  exact ⟨rfl, rfl⟩

theorem pw_pos {r : Int} (hr : 2 ≤ r) : ∀ n : Nat, 1 ≤ r ^ n
  | 0 => by simp
  | n + 1 => by
    rw [Int.pow_succ]
    have := pw_pos hr n
    have h2 : r ^ n * 1 ≤ r ^ n * r := Int.mul_le_mul_of_nonneg_left (by omega) (by omega)
    omega
theorem pw_mono {r : Int} (hr : 2 ≤ r) {a b : Nat} (h : a ≤ b) : r ^ a ≤ r ^ b := by
  obtain ⟨c, rfl⟩ := Nat.exists_eq_add_of_le h
  rw [Int.pow_add]
  have h1 := pw_pos hr c
  have h0 := pw_pos hr a
  have h2 : r ^ a * 1 ≤ r ^ a * r ^ c := Int.mul_le_mul_of_nonneg_left (by omega) (by omega)
  omega
theorem mul_bd {a b A B : Int} (a0 : 0 ≤ a) (a1 : a ≤ A) (b0 : 0 ≤ b) (b1 : b ≤ B) : 0 ≤ a * b ∧ a * b ≤ A * B := by
  refine ⟨Int.mul_nonneg a0 b0, ?_⟩
  have h1 : a * b ≤ A * b := Int.mul_le_mul_of_nonneg_right a1 b0
  have h2 : A * b ≤ A * B := Int.mul_le_mul_of_nonneg_left b1 (by omega)
  omega
