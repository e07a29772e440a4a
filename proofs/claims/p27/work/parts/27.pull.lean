theorem Wp.inegE {M : mM} {d pc : Nat} {L S : List mV} {h : mH} {Q : Option mV → mH → Prop} {a z : Int} (hd : decode M.2.1 pc = .ok (.ineg, 1)) (hz : w32 (-a) = z) (k : Wp M d (pc + 1) L ((0, z) :: S) h Q) : Wp M d pc L ((0, a) :: S) h Q := by subst hz; exact Wp.ineg hd k
theorem tdn {a b : Int} (ha : 0 ≤ a) (hb : 0 < b) : 0 ≤ a.tdiv b ∧ a.tdiv b ≤ a ∧ 0 ≤ a.tmod b ∧ a.tmod b < b := by
  have h1 := Int.tdiv_eq_ediv_of_nonneg (b := b) ha
  have h2 := Int.tmod_eq_emod_of_nonneg (b := b) ha
  rw [h1, h2]
  exact ⟨Int.ediv_nonneg ha (by omega), Int.ediv_le_self _ ha, Int.emod_nonneg _ (by omega), Int.emod_lt_of_pos _ hb⟩
/-- how far one is ahead -/
def ahd (r x : Int) : Int := if r < 2 * x then x - r else if 2 * x ≤ -r then x + r else x
/-- the sum of what the first n of those in s are ahead, and how many they are, and 1 -/
def plS (f : Int → Int) (r m s : Int) : Nat → Int × Int
  | 0 => (0, 1)
  | n + 1 => if kand (kshr s n) 1 = 0 then plS f r m s n else ((plS f r m s n).1 + ahd r (f n - m), (plS f r m s n).2 + 1)
theorem ahd_bd {r x : Int} (h1 : -r < x) (h2 : x < r) : -r ≤ 2 * ahd r x ∧ 2 * ahd r x ≤ r := by
  unfold ahd
  split
  · omega
  · split <;> omega
theorem plS_bd {f : Int → Int} {r m s : Int} (hm : 0 ≤ m ∧ m < r) : ∀ n : Nat, (∀ k : Int, 0 ≤ k → k < n → 0 ≤ f k ∧ f k < r) → 2 * (plS f r m s n).1 ≤ ((plS f r m s n).2 - 1) * r ∧ -(((plS f r m s n).2 - 1) * r) ≤ 2 * (plS f r m s n).1 ∧ 1 ≤ (plS f r m s n).2 ∧ (plS f r m s n).2 ≤ n + 1
  | 0, _ => by simp [plS]
  | n + 1, hf => by
    obtain ⟨h1, h2, h3, h4⟩ := plS_bd hm n (fun k hk hk2 => hf k hk (by omega))
    have hn := hf n (by omega) (by omega)
    have ha := ahd_bd (r := r) (x := f n - m) (by omega) (by omega)
    unfold plS
    split
    · exact ⟨h1, h2, h3, by omega⟩
    · dsimp only
      rw [show (plS f r m s n).2 + 1 - 1 = (plS f r m s n).2 - 1 + 1 by omega, Int.add_mul, Int.one_mul]
      refine ⟨by omega, by omega, by omega, by omega⟩
def plV (p : Int × Int) : Int := if 1 < p.2 then p.1.tdiv p.2 else 0
theorem plV_bd {p : Int × Int} {r : Int} (hr : 0 < r) (h1 : 2 * p.1 ≤ (p.2 - 1) * r) (h2 : -((p.2 - 1) * r) ≤ 2 * p.1) (h3 : 1 ≤ p.2) : -r < 2 * plV p ∧ 2 * plV p < r := by
  unfold plV
  split
  · have hp : 0 < p.2 := by omega
    have hq : (p.2 - 1) * r < p.2 * r := by rw [Int.sub_mul, Int.one_mul]; omega
    rcases Int.le_total 0 p.1 with h0 | h0
    · have e := Int.tdiv_eq_ediv_of_nonneg (b := p.2) h0
      have e2 := Int.mul_ediv_self_le (x := p.1) (k := p.2) (by omega)
      have e3 := Int.ediv_nonneg h0 (by omega : 0 ≤ p.2)
      rw [e]
      refine ⟨by omega, ?_⟩
      have : p.2 * (2 * (p.1 / p.2)) < p.2 * r := by
        rw [show p.2 * (2 * (p.1 / p.2)) = 2 * (p.2 * (p.1 / p.2)) by rw [Int.mul_left_comm]]
        omega
      exact Int.lt_of_mul_lt_mul_left this (by omega)
    · have e0 : p.1.tdiv p.2 = -((-p.1).tdiv p.2) := by rw [Int.neg_tdiv, Int.neg_neg]
      have e := Int.tdiv_eq_ediv_of_nonneg (a := -p.1) (b := p.2) (by omega)
      have e2 := Int.mul_ediv_self_le (x := -p.1) (k := p.2) (by omega)
      have e3 := Int.ediv_nonneg (by omega : 0 ≤ -p.1) (by omega : 0 ≤ p.2)
      rw [e0, e]
      refine ⟨?_, by omega⟩
      have : p.2 * (2 * (-p.1 / p.2)) < p.2 * r := by
        rw [show p.2 * (2 * (-p.1 / p.2)) = 2 * (p.2 * (-p.1 / p.2)) by rw [Int.mul_left_comm]]
        omega
      have := Int.lt_of_mul_lt_mul_left this (by omega)
      omega
  · omega
theorem ct_wrap (d : Nat) (h : mH) (sh : Sh h) (p : Int) (h0 : 0 ≤ hF h 2 0) (h1 : hF h 2 0 ≤ 4096) (p0 : -1000000 ≤ p) (p1 : p ≤ 1000000) : Ct m_X0_wrap d [(2, 2), (0, p)] h (some (0, if hF h 2 0 ≤ p then p - hF h 2 0 else if p < 0 then p + hF h 2 0 else p)) h := by
  refine Ct.of ?_
  show Wp m_X0_wrap (d) 0 [(2, 2), (0, p)] [] h _
  refine Wp.ild_n (j := 1) rfl dX0_wrap_0 ?_
  refine Wp.ald_n (j := 0) rfl dX0_wrap_1 ?_
  refine Wp.getf (k := 0) (tg := 0) kC0 (by decide) rfl lf_X0_9 dX0_wrap_2 (sK2 (h := h) sh) (show hF _ 2 0 = hF h 2 0 from rfl) ?_
  refine Wp.iclt dX0_wrap_5 (by decide) (tgt := 15) (fun c5 => ?_) (fun c5 => ?_)
  · refine Wp.ild_n (j := 1) rfl dX0_wrap_15 ?_
    refine Wp.ifge dX0_wrap_16 (by decide) (tgt := 28) (fun c16 => ?_) (fun c16 => ?_)
    · refine Wp.ild_n (j := 1) rfl dX0_wrap_28 ?_
      refine Wp.iret rfl dX0_wrap_29 ?_
      refine ⟨?_, rfl⟩
      first | rw [if_pos (by omega)] | rw [if_neg (by omega), if_pos (by omega)] | rw [if_neg (by omega), if_neg (by omega)]
    · refine Wp.ild_n (j := 1) rfl dX0_wrap_19 ?_
      refine Wp.ald_n (j := 0) rfl dX0_wrap_20 ?_
      refine Wp.getf (k := 0) (tg := 0) kC0 (by decide) rfl lf_X0_9 dX0_wrap_21 (sK2 (h := h) sh) (show hF _ 2 0 = hF h 2 0 from rfl) ?_
      refine Wp.iaddE dX0_wrap_24 (by first | exact w32_of (by omega) (by omega) | rfl) ?_
      refine Wp.goto (tgt := 29) dX0_wrap_25 (by decide) ?_
      refine Wp.iret rfl dX0_wrap_29 ?_
      refine ⟨?_, rfl⟩
      first | rw [if_pos (by omega)] | rw [if_neg (by omega), if_pos (by omega)] | rw [if_neg (by omega), if_neg (by omega)]
  · refine Wp.ild_n (j := 1) rfl dX0_wrap_8 ?_
    refine Wp.ald_n (j := 0) rfl dX0_wrap_9 ?_
    refine Wp.getf (k := 0) (tg := 0) kC0 (by decide) rfl lf_X0_9 dX0_wrap_10 (sK2 (h := h) sh) (show hF _ 2 0 = hF h 2 0 from rfl) ?_
    refine Wp.isubE dX0_wrap_13 (by first | exact w32_of (by omega) (by omega) | rfl) ?_
    refine Wp.iret rfl dX0_wrap_14 ?_
    refine ⟨?_, rfl⟩
    first | rw [if_pos (by omega)] | rw [if_neg (by omega), if_pos (by omega)] | rw [if_neg (by omega), if_neg (by omega)]

theorem pull_loop (d : Nat) (h : mH) (sh : Sh h) (a b : Int) (ka : hK h a = 10) (la : hL h a = 24) (b0 : 0 ≤ b) (b1 : b < hF h 2 1) (hn : hF h 2 1 ≤ 24) (hr : 0 < hF h 2 0 ∧ hF h 2 0 ≤ 4096) (hf : ∀ k, 0 ≤ k → k < hF h 2 1 → 0 ≤ hA h a k ∧ hA h a k < hF h 2 0) : ∀ (m : Nat) (i s p : Int) (x8 : mV), (hF h 2 1 - i).toNat < m → (0 ≤ i) → (i ≤ hF h 2 1) → (s = (plS (hA h a) (hF h 2 0) (hA h a b) (kand (hA h 6 b) (kxor (kshl 1 b) (-1))) i.toNat).1) → (p = (plS (hA h a) (hF h 2 0) (hA h a b) (kand (hA h 6 b) (kxor (kshl 1 b) (-1))) i.toNat).2) → Wp m_X0_pullOn d 27 [(2, 2), (0, b), (2, a), (0, (kand (hA h 6 b) (kxor (kshl 1 b) (-1)))), (0, hA h a b), (0, s), (0, p), (0, i), x8] [] h (fun r t => r = some (0, plV (plS (hA h a) (hF h 2 0) (hA h a b) (kand (hA h 6 b) (kxor (kshl 1 b) (-1))) (hF h 2 1).toNat)) ∧ t = h) := by
  intro m
  induction m with
  | zero => intro i s p x8 hm; exact absurd hm (Nat.not_lt_zero _)
  | succ m ih =>
    intro i s p x8 hm h0 h1 es ep
    have hb := hf b b0 b1
    have hbd := plS_bd (f := hA h a) (r := hF h 2 0) (m := hA h a b) (s := (kand (hA h 6 b) (kxor (kshl 1 b) (-1)))) hb i.toNat (fun k hk hk2 => hf k hk (by omega))
    rw [← es, ← ep] at hbd
    have hpr : (p - 1) * hF h 2 0 ≤ 24 * 4096 := by
      have a1 : (p - 1) * hF h 2 0 ≤ 24 * hF h 2 0 := Int.mul_le_mul_of_nonneg_right (by omega) (by omega)
      omega
    have hpt : 1 < p → -1000000 ≤ s.tdiv p ∧ s.tdiv p ≤ 1000000 := fun hp => by
      have := plV_bd (p := (s, p)) hr.1 hbd.1 hbd.2.1 hbd.2.2.1
      unfold plV at this
      rw [if_pos hp] at this
      dsimp only at this
      omega
    refine Wp.ild (j := 7) rfl dX0_pullOn_27 ?_
    refine Wp.ald_n (j := 0) rfl dX0_pullOn_29 ?_
    refine Wp.getf (k := 1) (tg := 0) kC0 (by decide) rfl lf_X0_15 dX0_pullOn_30 (sK2 (h := h) sh) (show hF _ 2 1 = hF h 2 1 from rfl) ?_
    refine Wp.icge dX0_pullOn_33 (by decide) (tgt := 114) (fun c33 => ?_) (fun c33 => ?_)
    · refine Wp.ild (j := 6) rfl dX0_pullOn_114 ?_
      refine Wp.iconst dX0_pullOn_116 (by decide) ?_
      refine Wp.icle dX0_pullOn_117 (by decide) (tgt := 128) (fun c117 => ?_) (fun c117 => ?_)
      · refine Wp.iconst dX0_pullOn_128 (by decide) ?_
        refine Wp.iret rfl dX0_pullOn_129 ?_
        have hi : i.toNat = (hF h 2 1).toNat := by omega
        rw [hi] at es ep
        refine ⟨?_, rfl⟩
        unfold plV
        first | (rw [if_pos (by omega), ← es, ← ep]) | (rw [if_neg (by omega)])
      · refine Wp.ild (j := 5) rfl dX0_pullOn_120 ?_
        refine Wp.ild (j := 6) rfl dX0_pullOn_122 ?_
        refine Wp.idivE dX0_pullOn_124 (by omega) (w32_of (by have := hpt (by omega); omega) (by have := hpt (by omega); omega)) ?_
        refine Wp.goto (tgt := 129) dX0_pullOn_125 (by decide) ?_
        refine Wp.iret rfl dX0_pullOn_129 ?_
        have hi : i.toNat = (hF h 2 1).toNat := by omega
        rw [hi] at es ep
        refine ⟨?_, rfl⟩
        unfold plV
        first | (rw [if_pos (by omega), ← es, ← ep]) | (rw [if_neg (by omega)])
    · refine Wp.ild_n (j := 3) rfl dX0_pullOn_36 ?_
      refine Wp.ild (j := 7) rfl dX0_pullOn_37 ?_
      refine Wp.ishr dX0_pullOn_39 ?_
      refine Wp.iconst dX0_pullOn_40 (by decide) ?_
      refine Wp.iand dX0_pullOn_41 ?_
      refine Wp.ifeq dX0_pullOn_42 (by decide) (tgt := 108) (fun c42 => ?_) (fun c42 => ?_)
      · refine inc_9_7 rfl dX0_pullOn_108 (by first | exact w32_of (by omega) (by omega) | rfl) ?_
        refine Wp.goto (tgt := 27) dX0_pullOn_111 (by decide) ?_
        refine ih (i + 1) _ _ _ (by omega) (by omega) (by omega) ?_ ?_
        · rw [show (i + 1).toNat = i.toNat + 1 by omega]
          unfold plS
          rw [show ((i.toNat : Nat) : Int) = i by omega]
          first | (rw [if_pos c42]; exact es) | (rw [if_neg c42]; dsimp only; rw [← es]; unfold ahd; first | rw [if_pos (by omega)] | rw [if_neg (by omega), if_pos (by omega)] | rw [if_neg (by omega), if_neg (by omega)])
        · rw [show (i + 1).toNat = i.toNat + 1 by omega]
          unfold plS
          rw [show ((i.toNat : Nat) : Int) = i by omega]
          first | (rw [if_pos c42]; exact ep) | (rw [if_neg c42]; dsimp only; rw [← ep])
      · have hi := hf i h0 (by omega)
        refine Wp.ald_n (j := 2) rfl dX0_pullOn_45 ?_
        refine Wp.ild (j := 7) rfl dX0_pullOn_46 ?_
        refine Wp.iaload dX0_pullOn_48 ka (by omega) (ilt la (by omega)) (show hA _ a _ = hA h a _ from rfl) ?_
        refine Wp.ild (j := 4) rfl dX0_pullOn_49 ?_
        refine Wp.isubE dX0_pullOn_51 (by first | exact w32_of (by omega) (by omega) | rfl) ?_
        refine sti_9_8 rfl (dSt_w dX0_pullOn_52) ?_
        refine Wp.iconst dX0_pullOn_54 (by decide) ?_
        refine Wp.ild (j := 8) rfl dX0_pullOn_55 ?_
        refine Wp.imulE dX0_pullOn_57 (by first | exact w32_of (by omega) (by omega) | rfl) ?_
        refine Wp.ald_n (j := 0) rfl dX0_pullOn_58 ?_
        refine Wp.getf (k := 0) (tg := 0) kC0 (by decide) rfl lf_X0_9 dX0_pullOn_59 (sK2 (h := h) sh) (show hF _ 2 0 = hF h 2 0 from rfl) ?_
        refine Wp.icle dX0_pullOn_62 (by decide) (tgt := 77) (fun c62 => ?_) (fun c62 => ?_)
        · refine Wp.iconst dX0_pullOn_77 (by decide) ?_
          refine Wp.ild (j := 8) rfl dX0_pullOn_78 ?_
          refine Wp.imulE dX0_pullOn_80 (by first | exact w32_of (by omega) (by omega) | rfl) ?_
          refine Wp.ald_n (j := 0) rfl dX0_pullOn_81 ?_
          refine Wp.getf (k := 0) (tg := 0) kC0 (by decide) rfl lf_X0_9 dX0_pullOn_82 (sK2 (h := h) sh) (show hF _ 2 0 = hF h 2 0 from rfl) ?_
          refine Wp.inegE dX0_pullOn_85 (by first | exact w32_of (by omega) (by omega) | rfl) ?_
          refine Wp.icgt dX0_pullOn_86 (by decide) (tgt := 98) (fun c86 => ?_) (fun c86 => ?_)
          · refine Wp.ild (j := 5) rfl dX0_pullOn_98 ?_
            refine Wp.ild (j := 8) rfl dX0_pullOn_100 ?_
            refine Wp.iaddE dX0_pullOn_102 (by first | exact w32_of (by omega) (by omega) | rfl) ?_
            refine sti_9_5 rfl (dSt_w dX0_pullOn_103) ?_
            refine inc_9_6 rfl dX0_pullOn_105 (by first | exact w32_of (by omega) (by omega) | rfl) ?_
            refine inc_9_7 rfl dX0_pullOn_108 (by first | exact w32_of (by omega) (by omega) | rfl) ?_
            refine Wp.goto (tgt := 27) dX0_pullOn_111 (by decide) ?_
            refine ih (i + 1) _ _ _ (by omega) (by omega) (by omega) ?_ ?_
            · rw [show (i + 1).toNat = i.toNat + 1 by omega]
              unfold plS
              rw [show ((i.toNat : Nat) : Int) = i by omega]
              first | (rw [if_pos c42]; exact es) | (rw [if_neg c42]; dsimp only; rw [← es]; unfold ahd; first | rw [if_pos (by omega)] | rw [if_neg (by omega), if_pos (by omega)] | rw [if_neg (by omega), if_neg (by omega)])
            · rw [show (i + 1).toNat = i.toNat + 1 by omega]
              unfold plS
              rw [show ((i.toNat : Nat) : Int) = i by omega]
              first | (rw [if_pos c42]; exact ep) | (rw [if_neg c42]; dsimp only; rw [← ep])
          · refine Wp.ild (j := 8) rfl dX0_pullOn_89 ?_
            refine Wp.ald_n (j := 0) rfl dX0_pullOn_91 ?_
            refine Wp.getf (k := 0) (tg := 0) kC0 (by decide) rfl lf_X0_9 dX0_pullOn_92 (sK2 (h := h) sh) (show hF _ 2 0 = hF h 2 0 from rfl) ?_
            refine Wp.iaddE dX0_pullOn_95 (by first | exact w32_of (by omega) (by omega) | rfl) ?_
            refine sti_9_8 rfl (dSt_w dX0_pullOn_96) ?_
            refine Wp.ild (j := 5) rfl dX0_pullOn_98 ?_
            refine Wp.ild (j := 8) rfl dX0_pullOn_100 ?_
            refine Wp.iaddE dX0_pullOn_102 (by first | exact w32_of (by omega) (by omega) | rfl) ?_
            refine sti_9_5 rfl (dSt_w dX0_pullOn_103) ?_
            refine inc_9_6 rfl dX0_pullOn_105 (by first | exact w32_of (by omega) (by omega) | rfl) ?_
            refine inc_9_7 rfl dX0_pullOn_108 (by first | exact w32_of (by omega) (by omega) | rfl) ?_
            refine Wp.goto (tgt := 27) dX0_pullOn_111 (by decide) ?_
            refine ih (i + 1) _ _ _ (by omega) (by omega) (by omega) ?_ ?_
            · rw [show (i + 1).toNat = i.toNat + 1 by omega]
              unfold plS
              rw [show ((i.toNat : Nat) : Int) = i by omega]
              first | (rw [if_pos c42]; exact es) | (rw [if_neg c42]; dsimp only; rw [← es]; unfold ahd; first | rw [if_pos (by omega)] | rw [if_neg (by omega), if_pos (by omega)] | rw [if_neg (by omega), if_neg (by omega)])
            · rw [show (i + 1).toNat = i.toNat + 1 by omega]
              unfold plS
              rw [show ((i.toNat : Nat) : Int) = i by omega]
              first | (rw [if_pos c42]; exact ep) | (rw [if_neg c42]; dsimp only; rw [← ep])
        · refine Wp.ild (j := 8) rfl dX0_pullOn_65 ?_
          refine Wp.ald_n (j := 0) rfl dX0_pullOn_67 ?_
          refine Wp.getf (k := 0) (tg := 0) kC0 (by decide) rfl lf_X0_9 dX0_pullOn_68 (sK2 (h := h) sh) (show hF _ 2 0 = hF h 2 0 from rfl) ?_
          refine Wp.isubE dX0_pullOn_71 (by first | exact w32_of (by omega) (by omega) | rfl) ?_
          refine sti_9_8 rfl (dSt_w dX0_pullOn_72) ?_
          refine Wp.goto (tgt := 98) dX0_pullOn_74 (by decide) ?_
          refine Wp.ild (j := 5) rfl dX0_pullOn_98 ?_
          refine Wp.ild (j := 8) rfl dX0_pullOn_100 ?_
          refine Wp.iaddE dX0_pullOn_102 (by first | exact w32_of (by omega) (by omega) | rfl) ?_
          refine sti_9_5 rfl (dSt_w dX0_pullOn_103) ?_
          refine inc_9_6 rfl dX0_pullOn_105 (by first | exact w32_of (by omega) (by omega) | rfl) ?_
          refine inc_9_7 rfl dX0_pullOn_108 (by first | exact w32_of (by omega) (by omega) | rfl) ?_
          refine Wp.goto (tgt := 27) dX0_pullOn_111 (by decide) ?_
          refine ih (i + 1) _ _ _ (by omega) (by omega) (by omega) ?_ ?_
          · rw [show (i + 1).toNat = i.toNat + 1 by omega]
            unfold plS
            rw [show ((i.toNat : Nat) : Int) = i by omega]
            first | (rw [if_pos c42]; exact es) | (rw [if_neg c42]; dsimp only; rw [← es]; unfold ahd; first | rw [if_pos (by omega)] | rw [if_neg (by omega), if_pos (by omega)] | rw [if_neg (by omega), if_neg (by omega)])
          · rw [show (i + 1).toNat = i.toNat + 1 by omega]
            unfold plS
            rw [show ((i.toNat : Nat) : Int) = i by omega]
            first | (rw [if_pos c42]; exact ep) | (rw [if_neg c42]; dsimp only; rw [← ep])

theorem ct_pullOn (d : Nat) (h : mH) (sh : Sh h) (a b : Int) (ka : hK h a = 10) (la : hL h a = 24) (b0 : 0 ≤ b) (b1 : b < hF h 2 1) (hn : hF h 2 1 ≤ 24) (hr : 0 < hF h 2 0 ∧ hF h 2 0 ≤ 4096) (hf : ∀ k, 0 ≤ k → k < hF h 2 1 → 0 ≤ hA h a k ∧ hA h a k < hF h 2 0) : Ct m_X0_pullOn d [(2, 2), (0, b), (2, a)] h (some (0, plV (plS (hA h a) (hF h 2 0) (hA h a b) (kand (hA h 6 b) (kxor (kshl 1 b) (-1))) (hF h 2 1).toNat))) h := by
  refine Ct.of ?_
  show Wp m_X0_pullOn (d) 0 [(2, 2), (0, b), (2, a), (9, 0), (9, 0), (9, 0), (9, 0), (9, 0), (9, 0)] [] h _
  refine Wp.ald_n (j := 0) rfl dX0_pullOn_0 ?_
  refine Wp.getf (k := 6) (tg := 2) kC0 (by decide) rfl lf_X0_31 dX0_pullOn_1 (sK2 (h := h) sh) (sF2_6 (h := h) sh) ?_
  refine Wp.ild_n (j := 1) rfl dX0_pullOn_4 ?_
  refine Wp.iaload dX0_pullOn_5 (sK6 (h := h) sh) (by omega) (ilt (sL6 (h := h) sh) (by omega)) (show hA _ 6 _ = hA h 6 _ from rfl) ?_
  refine Wp.iconst dX0_pullOn_6 (by decide) ?_
  refine Wp.ild_n (j := 1) rfl dX0_pullOn_7 ?_
  refine Wp.ishl dX0_pullOn_8 ?_
  refine Wp.iconst dX0_pullOn_9 (by decide) ?_
  refine Wp.ixor dX0_pullOn_10 ?_
  refine Wp.iand dX0_pullOn_11 ?_
  refine sti_9_3 rfl (dSt_n dX0_pullOn_12) ?_
  refine Wp.ald_n (j := 2) rfl dX0_pullOn_13 ?_
  refine Wp.ild_n (j := 1) rfl dX0_pullOn_14 ?_
  refine Wp.iaload dX0_pullOn_15 ka (by omega) (ilt la (by omega)) (show hA _ a _ = hA h a _ from rfl) ?_
  refine sti_9_4 rfl (dSt_w dX0_pullOn_16) ?_
  refine Wp.iconst dX0_pullOn_18 (by decide) ?_
  refine sti_9_5 rfl (dSt_w dX0_pullOn_19) ?_
  refine Wp.iconst dX0_pullOn_21 (by decide) ?_
  refine sti_9_6 rfl (dSt_w dX0_pullOn_22) ?_
  refine Wp.iconst dX0_pullOn_24 (by decide) ?_
  refine sti_9_7 rfl (dSt_w dX0_pullOn_25) ?_
  exact pull_loop d h sh a b ka la b0 b1 hn hr hf _ 0 0 1 _ (Nat.lt_succ_self _) (by omega) (by omega) rfl rfl

