/-! the states in words of 12 bits a phase -/
def V9 (x : Int) : Nat := (Int64.ofInt x).toBitVec.toNat
theorem V9_eq (x : Int) : V9 x = (x % 18446744073709551616).toNat := by
  show (BitVec.ofInt 64 x).toNat = _
  rw [BitVec.toNat_ofInt]
  rfl
theorem V9_int {w : Int64} (h : V9 w.toInt < 9223372036854775808) : w.toInt = (V9 w.toInt : Nat) := by
  have h1 := Int64.le_toInt w
  have h2 := Int64.toInt_lt w
  rw [V9_eq] at h ⊢
  omega
theorem o64' {x : Int64} {a : Int} (h : x.toInt = a) : Int64.ofInt a = x := by rw [← h]; exact Int64.ofInt_toInt x
theorem pk_step {w a : Int} (w0 : 0 ≤ w) (w1 : w < 281474976710656) (a0 : 0 ≤ a) (a1 : a < 4096) : qor (qshl w 12) a = w * 4096 + a := by
  have hs : V9 (qshl w 12) = (w.toNat * 4096) := by
    unfold V9 qshl
    rw [o64' rfl, Int64.toBitVec_shiftLeft]
    have hw : (Int64.ofInt w).toBitVec.toNat = w.toNat := by
      show V9 w = _
      rw [V9_eq]
      omega
    have hk : (((Int32.ofInt 12).toInt64 &&& 63).toBitVec.smod 64).toNat = 12 := by decide
    show ((Int64.ofInt w).toBitVec <<< (((Int32.ofInt 12).toInt64 &&& 63).toBitVec.smod 64)).toNat = _
    rw [BitVec.shiftLeft_eq', hk, BitVec.toNat_shiftLeft, hw, Nat.shiftLeft_eq]
    omega
  have ha : V9 a = a.toNat := by
    rw [V9_eq]
    omega
  have ho : V9 (qor (qshl w 12) a) = w.toNat * 4096 + a.toNat := by
    have e : V9 (qor (qshl w 12) a) = V9 (qshl w 12) ||| V9 a := by
      unfold V9 qor
      rw [o64' rfl, Int64.toBitVec_or, BitVec.toNat_or]
    rw [e, hs, ha, Nat.mul_comm, show 4096 = 2 ^ 12 by decide]
    exact (Nat.two_pow_add_eq_or_of_lt (by omega) _).symm
  have h2 : qor (qshl w 12) a = (V9 (qor (qshl w 12) a) : Nat) := by
    unfold qor at ho ⊢
    exact V9_int (by rw [ho]; omega)
  rw [h2, ho]
  omega
/-- the word of the phases from i on, m of them -/
def pkw (f : Int → Int) (i : Int) : Nat → Int
  | 0 => 0
  | m + 1 => pkw f i m * 4096 + f (i + m)
theorem pkw_bd {f : Int → Int} {i : Int} : ∀ m : Nat, (∀ j : Int, i ≤ j → j < i + m → 0 ≤ f j ∧ f j < 4096) → 0 ≤ pkw f i m ∧ pkw f i m < 4096 ^ m
  | 0, _ => by simp [pkw]
  | m + 1, h => by
    have ih := pkw_bd (f := f) (i := i) m (fun j j0 j1 => h j j0 (by omega))
    have hf := h (i + m) (by omega) (by omega)
    show 0 ≤ pkw f i m * 4096 + f (i + m) ∧ pkw f i m * 4096 + f (i + m) < 4096 ^ (m + 1)
    rw [Int.pow_succ]
    omega
theorem pkw_inj {f g : Int → Int} {i : Int} : ∀ m : Nat, (∀ j : Int, i ≤ j → j < i + m → 0 ≤ f j ∧ f j < 4096) → (∀ j : Int, i ≤ j → j < i + m → 0 ≤ g j ∧ g j < 4096) → pkw f i m = pkw g i m → ∀ j : Int, i ≤ j → j < i + m → f j = g j
  | 0, _, _, _ => fun j j0 j1 => by omega
  | m + 1, hf, hg, e => by
    have e' : pkw f i m * 4096 + f (i + m) = pkw g i m * 4096 + g (i + m) := e
    have h1 := hf (i + m) (by omega) (by omega)
    have h2 := hg (i + m) (by omega) (by omega)
    have e1 : pkw f i m = pkw g i m := by omega
    have e2 : f (i + m) = g (i + m) := by omega
    have ih := pkw_inj m (fun j j0 j1 => hf j j0 (by omega)) (fun j j0 j1 => hg j j0 (by omega)) e1
    intro j j0 j1
    by_cases z : j = i + m
    · rw [z]
      exact e2
    · exact ih j j0 (by omega)
/-- the mixed words of a step -/
def mx9 (g : Int → Int) (o : Int) : Nat → Int
  | 0 => 0
  | j + 1 => qxor (w64 (qxor (mx9 g o j) (g (o + j)) * -7046029254386353131)) (qushr (w64 (qxor (mx9 g o j) (g (o + j)) * -7046029254386353131)) 29)
theorem mx9_s {g : Int → Int} {o j : Int} (j0 : 0 ≤ j) : mx9 g o (j + 1).toNat = qxor (w64 (qxor (mx9 g o j.toNat) (g (o + j)) * -7046029254386353131)) (qushr (w64 (qxor (mx9 g o j.toNat) (g (o + j)) * -7046029254386353131)) 29) := by
  rw [show (j + 1).toNat = j.toNat + 1 by omega]
  show qxor (w64 (qxor (mx9 g o j.toNat) (g (o + ((j.toNat : Nat) : Int))) * -7046029254386353131)) _ = _
  rw [show ((j.toNat : Nat) : Int) = j by omega]
def hd9 (g : Int → Int) (o w : Int) : Int := qushr (w64 (mx9 g o w.toNat * -7046029254386353131)) 52
theorem headOfLastX_loop (d : Nat) (h : mH) (sh : Sh h) (hd lk wd nh nl nw : Int) (tr : TR h hd lk wd nh nl nw) (w n : Int) (hw : hF h 13 3 = w) (hn : hF h 13 4 = n) (w0 : 0 ≤ w) (w1 : w ≤ 5) (n0 : 0 ≤ n) (n1 : n ≤ 20000) (hp : n * w + w ≤ nw) : ∀ (m : Nat) (j x : Int), (w - j).toNat < m → (0 ≤ j) → (j ≤ w) → (x = mx9 (hA h wd) (n * w) j.toNat) → Wp m_X4_headOfLast d 15 [(2, 13), (1, x), (9, 0), (0, (n * w)), (0, j)] [] h (fun r t => r = some (0, hd9 (hA h wd) (n * w) w) ∧ t = h) := by
  intro m
  induction m with
  | zero => intro j x hm; exact absurd hm (Nat.not_lt_zero _)
  | succ m ih =>
    intro j x hm j0 j1 ex
    obtain ⟨t0, k0, l0, t1, k1, l1, t2, k2, l2, hne, ⟨y0, y1, y2⟩, ⟨z0, z1, z2⟩, b0, b1, b2⟩ := id tr
    have h74 := sh.2.2.2.2
    have hm := mul_bd (a := n) (b := w) (A := 20000) (B := 5) n0 n1 w0 w1
    refine Wp.ild (j := 4) rfl dX4_headOfLast_15 ?_
    refine Wp.ald_n (j := 0) rfl dX4_headOfLast_17 ?_
    refine Wp.getf (k := 3) (tg := 0) kC4 (by decide) rfl lf_X4_22 dX4_headOfLast_18 (sK13 (h := h) sh) hw ?_
    refine Wp.icge dX4_headOfLast_21 (by decide) (tgt := 53) (fun c21 => ?_) (fun c21 => ?_)
    · refine Wp.lld_n (j := 1) rfl dX4_headOfLast_53 ?_
      refine Wp.ldc2 (z := -7046029254386353131) lk_X4_62 (by decide) dX4_headOfLast_54 ?_
      refine Wp.lmulE dX4_headOfLast_57 rfl ?_
      refine Wp.bipush dX4_headOfLast_58 (by decide) ?_
      refine Wp.lushr dX4_headOfLast_60 ?_
      refine Wp.l2iE dX4_headOfLast_61 (w32_of (by have := (qushr52 (w64 (x * -7046029254386353131))).1; omega) (by have := (qushr52 (w64 (x * -7046029254386353131))).2; omega)) ?_
      refine Wp.iret rfl dX4_headOfLast_62 ?_
      have ej : j = w := by omega
      rw [ej] at ex
      exact ⟨by rw [ex]; rfl, rfl⟩
    · refine Wp.lld_n (j := 1) rfl dX4_headOfLast_24 ?_
      refine Wp.ald_n (j := 0) rfl dX4_headOfLast_25 ?_
      refine Wp.getf (k := 2) (tg := 2) kC4 (by decide) rfl lf_X4_18 dX4_headOfLast_26 (sK13 (h := h) sh) t2 ?_
      refine Wp.ild_n (j := 3) rfl dX4_headOfLast_29 ?_
      refine Wp.ild (j := 4) rfl dX4_headOfLast_30 ?_
      refine Wp.iaddE dX4_headOfLast_32 (by first | exact w32_of (by omega) (by omega) | rfl) ?_
      refine Wp.laload dX4_headOfLast_33 k2 (by omega) (ilt l2 (by omega)) (show hA _ wd _ = hA h wd _ from rfl) ?_
      refine Wp.lxor dX4_headOfLast_34 ?_
      refine Wp.ldc2 (z := -7046029254386353131) lk_X4_62 (by decide) dX4_headOfLast_35 ?_
      refine Wp.lmulE dX4_headOfLast_38 rfl ?_
      refine stl_5_1 rfl (dSt_n dX4_headOfLast_39) ?_
      refine Wp.lld_n (j := 1) rfl dX4_headOfLast_40 ?_
      refine Wp.lld_n (j := 1) rfl dX4_headOfLast_41 ?_
      refine Wp.bipush dX4_headOfLast_42 (by decide) ?_
      refine Wp.lushr dX4_headOfLast_44 ?_
      refine Wp.lxor dX4_headOfLast_45 ?_
      refine stl_5_1 rfl (dSt_n dX4_headOfLast_46) ?_
      refine inc_5_4 rfl dX4_headOfLast_47 (by first | exact w32_of (by omega) (by omega) | rfl) ?_
      refine Wp.goto (tgt := 15) dX4_headOfLast_50 (by decide) ?_
      exact ih (j + 1) _ (by omega) (by omega) (by omega) (by rw [mx9_s j0, ← ex])

theorem cq_headOfLastX (d : Nat) (h : mH) (sh : Sh h) (hd lk wd nh nl nw : Int) (tr : TR h hd lk wd nh nl nw) (w n : Int) (hw : hF h 13 3 = w) (hn : hF h 13 4 = n) (w0 : 0 ≤ w) (w1 : w ≤ 5) (n0 : 0 ≤ n) (n1 : n ≤ 20000) (hp : n * w + w ≤ nw) : Cq m_X4_headOfLast d [(2, 13)] h (fun r t => r = some (0, hd9 (hA h wd) (n * w) w) ∧ t = h) := by
  refine Cq.of ?_
  show Wp m_X4_headOfLast (d) 0 [(2, 13), (9, 0), (9, 0), (9, 0), (9, 0)] [] h _
  obtain ⟨t0, k0, l0, t1, k1, l1, t2, k2, l2, hne, ⟨y0, y1, y2⟩, ⟨z0, z1, z2⟩, b0, b1, b2⟩ := id tr
  have h74 := sh.2.2.2.2
  have hm := mul_bd (a := n) (b := w) (A := 20000) (B := 5) n0 n1 w0 w1
  refine Wp.lconst (z := 0) dX4_headOfLast_0 (by decide) ?_
  refine stl_5_1 rfl (dSt_n dX4_headOfLast_1) ?_
  refine Wp.ald_n (j := 0) rfl dX4_headOfLast_2 ?_
  refine Wp.getf (k := 4) (tg := 0) kC4 (by decide) rfl lf_X4_26 dX4_headOfLast_3 (sK13 (h := h) sh) hn ?_
  refine Wp.ald_n (j := 0) rfl dX4_headOfLast_6 ?_
  refine Wp.getf (k := 3) (tg := 0) kC4 (by decide) rfl lf_X4_22 dX4_headOfLast_7 (sK13 (h := h) sh) hw ?_
  refine Wp.imulE dX4_headOfLast_10 (w32_of (by omega) (by omega)) ?_
  refine sti_5_3 rfl (dSt_n dX4_headOfLast_11) ?_
  refine Wp.iconst dX4_headOfLast_12 (by decide) ?_
  refine sti_5_4 rfl (dSt_w dX4_headOfLast_13) ?_
  exact headOfLastX_loop d h sh hd lk wd nh nl nw tr w n hw hn w0 w1 n0 n1 hp _ 0 0 (Nat.lt_succ_self _) (Int.le_refl _) w0 rfl

theorem isLikeX_loop (d : Nat) (h : mH) (sh : Sh h) (hd lk wd nh nl nw : Int) (tr : TR h hd lk wd nh nl nw) (w n : Int) (hw : hF h 13 3 = w) (hn : hF h 13 4 = n) (w0 : 0 ≤ w) (w1 : w ≤ 5) (n0 : 0 ≤ n) (n1 : n ≤ 20000) (hp : n * w + w ≤ nw) (s : Int) (s0 : 0 ≤ s) (s1 : s < n) : ∀ (m : Nat) (j : Int), (w - j).toNat < m → (0 ≤ j) → ((∀ q, 0 ≤ q → q < j → hA h wd (s * w + q) = hA h wd (n * w + q))) → Wp m_X4_isLikeLast d 20 [(2, 13), (0, s), (0, (s * w)), (0, (n * w)), (0, j)] [] h (fun r t => (∃ y, r = some (0, y) ∧ (y = 0 ∨ y = 1) ∧ (y = 1 ↔ (∀ q, 0 ≤ q → q < w → hA h wd (s * w + q) = hA h wd (n * w + q)))) ∧ t = h) := by
  intro m
  induction m with
  | zero => intro j hm; exact absurd hm (Nat.not_lt_zero _)
  | succ m ih =>
    intro j hm j0 iv
    obtain ⟨t0, k0, l0, t1, k1, l1, t2, k2, l2, hne, ⟨y0, y1, y2⟩, ⟨z0, z1, z2⟩, b0, b1, b2⟩ := id tr
    have h74 := sh.2.2.2.2
    have hm := mul_bd (a := n) (b := w) (A := 20000) (B := 5) n0 n1 w0 w1
    have hs := mul_bd (a := s) (b := w) (A := 20000) (B := 5) s0 (by omega) w0 w1
    have hsn : s * w ≤ n * w := Int.mul_le_mul_of_nonneg_right (by omega) w0
    refine Wp.ild (j := 4) rfl dX4_isLikeLast_20 ?_
    refine Wp.ald_n (j := 0) rfl dX4_isLikeLast_22 ?_
    refine Wp.getf (k := 3) (tg := 0) kC4 (by decide) rfl lf_X4_22 dX4_isLikeLast_23 (sK13 (h := h) sh) hw ?_
    refine Wp.icge dX4_isLikeLast_26 (by decide) (tgt := 59) (fun c26 => ?_) (fun c26 => ?_)
    · refine Wp.iconst dX4_isLikeLast_59 (by decide) ?_
      refine Wp.zret rfl dX4_isLikeLast_60 (by omega) ?_
      first
      | (refine ⟨⟨1, rfl, Or.inr rfl, ⟨fun _ i i0 i1 => ?_, fun _ => rfl⟩⟩, rfl⟩
         exact iv i i0 (by omega))
      | (refine ⟨⟨0, rfl, Or.inl rfl, ⟨fun z => absurd z (by decide), fun z => ?_⟩⟩, rfl⟩
         have := z j j0 (by omega)
         first | contradiction | omega)
    · refine Wp.ald_n (j := 0) rfl dX4_isLikeLast_29 ?_
      refine Wp.getf (k := 2) (tg := 2) kC4 (by decide) rfl lf_X4_18 dX4_isLikeLast_30 (sK13 (h := h) sh) t2 ?_
      refine Wp.ild_n (j := 2) rfl dX4_isLikeLast_33 ?_
      refine Wp.ild (j := 4) rfl dX4_isLikeLast_34 ?_
      refine Wp.iaddE dX4_isLikeLast_36 (by first | exact w32_of (by omega) (by omega) | rfl) ?_
      refine Wp.laload dX4_isLikeLast_37 k2 (by omega) (ilt l2 (by omega)) (show hA _ wd _ = hA h wd _ from rfl) ?_
      refine Wp.ald_n (j := 0) rfl dX4_isLikeLast_38 ?_
      refine Wp.getf (k := 2) (tg := 2) kC4 (by decide) rfl lf_X4_18 dX4_isLikeLast_39 (sK13 (h := h) sh) t2 ?_
      refine Wp.ild_n (j := 3) rfl dX4_isLikeLast_42 ?_
      refine Wp.ild (j := 4) rfl dX4_isLikeLast_43 ?_
      refine Wp.iaddE dX4_isLikeLast_45 (by first | exact w32_of (by omega) (by omega) | rfl) ?_
      refine Wp.laload dX4_isLikeLast_46 k2 (by omega) (ilt l2 (by omega)) (show hA _ wd _ = hA h wd _ from rfl) ?_
      refine Wp.lceq dX4_isLikeLast_47 dX4_isLikeLast_48 (by decide) (tgt := 53) (fun c47 => ?_) (fun c47 => ?_)
      · refine inc_5_4 rfl dX4_isLikeLast_53 (by first | exact w32_of (by omega) (by omega) | rfl) ?_
        refine Wp.goto (tgt := 20) dX4_isLikeLast_56 (by decide) ?_
        refine ih (j + 1) (by omega) (by omega) (fun i i0 i1 => ?_)
        by_cases e : i = j
        · rw [e]
          first | assumption | omega | (exact Classical.byContradiction (by assumption))
        · exact iv i i0 (by omega)
      · refine Wp.iconst dX4_isLikeLast_51 (by decide) ?_
        refine Wp.zret rfl dX4_isLikeLast_52 (by omega) ?_
        first
        | (refine ⟨⟨1, rfl, Or.inr rfl, ⟨fun _ i i0 i1 => ?_, fun _ => rfl⟩⟩, rfl⟩
           exact iv i i0 (by omega))
        | (refine ⟨⟨0, rfl, Or.inl rfl, ⟨fun z => absurd z (by decide), fun z => ?_⟩⟩, rfl⟩
           have := z j j0 (by omega)
           first | contradiction | omega)

theorem cq_isLikeX (d : Nat) (h : mH) (sh : Sh h) (hd lk wd nh nl nw : Int) (tr : TR h hd lk wd nh nl nw) (w n : Int) (hw : hF h 13 3 = w) (hn : hF h 13 4 = n) (w0 : 0 ≤ w) (w1 : w ≤ 5) (n0 : 0 ≤ n) (n1 : n ≤ 20000) (hp : n * w + w ≤ nw) (s : Int) (s0 : 0 ≤ s) (s1 : s < n) : Cq m_X4_isLikeLast d [(2, 13), (0, s)] h (fun r t => (∃ y, r = some (0, y) ∧ (y = 0 ∨ y = 1) ∧ (y = 1 ↔ (∀ q, 0 ≤ q → q < w → hA h wd (s * w + q) = hA h wd (n * w + q)))) ∧ t = h) := by
  refine Cq.of ?_
  show Wp m_X4_isLikeLast (d) 0 [(2, 13), (0, s), (9, 0), (9, 0), (9, 0)] [] h _
  obtain ⟨t0, k0, l0, t1, k1, l1, t2, k2, l2, hne, ⟨y0, y1, y2⟩, ⟨z0, z1, z2⟩, b0, b1, b2⟩ := id tr
  have h74 := sh.2.2.2.2
  have hm := mul_bd (a := n) (b := w) (A := 20000) (B := 5) n0 n1 w0 w1
  have hs := mul_bd (a := s) (b := w) (A := 20000) (B := 5) s0 (by omega) w0 w1
  have hsn : s * w ≤ n * w := Int.mul_le_mul_of_nonneg_right (by omega) w0
  refine Wp.ild_n (j := 1) rfl dX4_isLikeLast_0 ?_
  refine Wp.ald_n (j := 0) rfl dX4_isLikeLast_1 ?_
  refine Wp.getf (k := 3) (tg := 0) kC4 (by decide) rfl lf_X4_22 dX4_isLikeLast_2 (sK13 (h := h) sh) hw ?_
  refine Wp.imulE dX4_isLikeLast_5 (w32_of (by omega) (by omega)) ?_
  refine sti_5_2 rfl (dSt_n dX4_isLikeLast_6) ?_
  refine Wp.ald_n (j := 0) rfl dX4_isLikeLast_7 ?_
  refine Wp.getf (k := 4) (tg := 0) kC4 (by decide) rfl lf_X4_26 dX4_isLikeLast_8 (sK13 (h := h) sh) hn ?_
  refine Wp.ald_n (j := 0) rfl dX4_isLikeLast_11 ?_
  refine Wp.getf (k := 3) (tg := 0) kC4 (by decide) rfl lf_X4_22 dX4_isLikeLast_12 (sK13 (h := h) sh) hw ?_
  refine Wp.imulE dX4_isLikeLast_15 (w32_of (by omega) (by omega)) ?_
  refine sti_5_3 rfl (dSt_n dX4_isLikeLast_16) ?_
  refine Wp.iconst dX4_isLikeLast_17 (by decide) ?_
  refine sti_5_4 rfl (dSt_w dX4_isLikeLast_18) ?_
  exact isLikeX_loop d h sh hd lk wd nh nl nw tr w n hw hn w0 w1 n0 n1 hp s s0 s1 _ 0 (Nat.lt_succ_self _) (Int.le_refl _) (fun i i0 i1 => absurd i1 (by omega))

theorem pkw_s {f : Int → Int} {i k la : Int} (hk : i ≤ k) (kl : k < la) (hl : la ≤ i + 5) (hv : ∀ j, i ≤ j → j < la → 0 ≤ f j ∧ f j < 4096) : qor (qshl (pkw f i (k - i).toNat) 12) (f k) = pkw f i (k + 1 - i).toNat := by
  have hb := pkw_bd (f := f) (i := i) (k - i).toNat (fun j j0 j1 => hv j j0 (by omega))
  have hp : (4096 : Int) ^ (k - i).toNat ≤ 281474976710656 := by
    have h4 : (k - i).toNat ≤ 4 := by omega
    have : (k - i).toNat = 0 ∨ (k - i).toNat = 1 ∨ (k - i).toNat = 2 ∨ (k - i).toNat = 3 ∨ (k - i).toNat = 4 := by omega
    rcases this with z | z | z | z | z <;> rw [z] <;> decide
  rw [pk_step hb.1 (by omega) (hv k hk kl).1 (hv k hk kl).2, show (k + 1 - i).toNat = (k - i).toNat + 1 by omega]
  show _ = pkw f i (k - i).toNat * 4096 + f (i + ((k - i).toNat : Nat))
  rw [show i + (((k - i).toNat : Nat) : Int) = k by omega]
/-- the word q of a state -/
def pw9 (f : Int → Int) (b q : Int) : Int := pkw f (q * 5) (min b ((q + 1) * 5) - q * 5).toNat
def hx9 (f : Int → Int) (b w : Int) : Int := hd9 (pw9 f b) 0 w
theorem pkw_cg {f g : Int → Int} {i : Int} : ∀ m : Nat, (∀ j : Int, i ≤ j → j < i + m → f j = g j) → pkw f i m = pkw g i m
  | 0, _ => rfl
  | m + 1, h => by
    show pkw f i m * 4096 + f (i + m) = pkw g i m * 4096 + g (i + m)
    rw [pkw_cg m (fun j j0 j1 => h j j0 (by omega)), h (i + m) (by omega) (by omega)]
theorem pw9_cg {f g : Int → Int} {b q : Int} (h : ∀ j, 0 ≤ j → j < b → f j = g j) (q0 : 0 ≤ q) : pw9 f b q = pw9 g b q := pkw_cg _ (fun j j0 j1 => h j (by omega) (by omega))
theorem mx9_cg {f g : Int → Int} {o p : Int} : ∀ m : Nat, (∀ j : Int, 0 ≤ j → j < m → f (o + j) = g (p + j)) → mx9 f o m = mx9 g p m
  | 0, _ => rfl
  | m + 1, h => by
    show qxor (w64 (qxor (mx9 f o m) (f (o + m)) * -7046029254386353131)) (qushr (w64 (qxor (mx9 f o m) (f (o + m)) * -7046029254386353131)) 29) = qxor (w64 (qxor (mx9 g p m) (g (p + m)) * -7046029254386353131)) (qushr (w64 (qxor (mx9 g p m) (g (p + m)) * -7046029254386353131)) 29)
    rw [mx9_cg m (fun j j0 j1 => h j j0 (by omega)), h m (by omega) (by omega)]
theorem hd9_cg {f g : Int → Int} {o p w : Int} (h : ∀ j, 0 ≤ j → j < w → f (o + j) = g (p + j)) : hd9 f o w = hd9 g p w := by
  unfold hd9
  rw [mx9_cg w.toNat (fun j j0 j1 => h j j0 (by omega))]
theorem hx9_cg {f g : Int → Int} {b w : Int} (h : ∀ q, 0 ≤ q → q < w → pw9 f b q = pw9 g b q) : hx9 f b w = hx9 g b w := hd9_cg (fun j j0 j1 => by rw [Int.zero_add]; exact h j j0 j1)
theorem pw9_inj {f g : Int → Int} {b w : Int} (hb : b ≤ 5 * w) (hf : ∀ j, 0 ≤ j → j < b → 0 ≤ f j ∧ f j < 4096) (hg : ∀ j, 0 ≤ j → j < b → 0 ≤ g j ∧ g j < 4096) (h : ∀ q, 0 ≤ q → q < w → pw9 f b q = pw9 g b q) : ∀ j, 0 ≤ j → j < b → f j = g j := fun j j0 j1 => by
  have hq := h (j / 5) (by omega) (by omega)
  exact pkw_inj _ (fun i i0 i1 => hf i (by omega) (by omega)) (fun i i0 i1 => hg i (by omega) (by omega)) hq j (by omega) (by omega)
theorem pack_innerX (d : Nat) (h : mH) (sh : Sh h) (v2 v3 v4 la i0 : Int) (l1 : la ≤ 24) (l2 : la ≤ i0 + 5) (i00 : 0 ≤ i0) (hv : ∀ j, i0 ≤ j → j < la → 0 ≤ hA h 11 j ∧ hA h 11 j < 4096) (Q : Option mV → mH → Prop) (kq : ∀ k : Int, Wp m_X4_pack (d + 1) 69 [(2, 13), (2, 11), (0, v2), (0, v3), (0, v4), (1, pkw (hA h 11) i0 (la - i0).toNat), (9, 0), (0, la), (0, k)] [] h Q) : ∀ (m : Nat) (k x : Int), (la - k).toNat < m → (i0 ≤ k) → (k ≤ la ∨ k = i0) → (x = pkw (hA h 11) i0 (k - i0).toNat) → Wp m_X4_pack (d + 1) 43 [(2, 13), (2, 11), (0, v2), (0, v3), (0, v4), (1, x), (9, 0), (0, la), (0, k)] [] h Q := by
  intro m
  induction m with
  | zero => intro k x hm; exact absurd hm (Nat.not_lt_zero _)
  | succ m ih =>
    intro k x hm k0 kk ex
    refine Wp.ild (j := 8) rfl dX4_pack_43 ?_
    refine Wp.ild (j := 7) rfl dX4_pack_45 ?_
    refine Wp.icge dX4_pack_47 (by decide) (tgt := 69) (fun c47 => ?_) (fun c47 => ?_)
    · rw [ex, show (k - i0).toNat = (la - i0).toNat by omega]
      exact kq k
    · refine Wp.lld (j := 5) rfl dX4_pack_50 ?_
      refine Wp.bipush dX4_pack_52 (by decide) ?_
      refine Wp.lshl dX4_pack_54 ?_
      refine Wp.ald_n (j := 1) rfl dX4_pack_55 ?_
      refine Wp.ild (j := 8) rfl dX4_pack_56 ?_
      refine Wp.iaload dX4_pack_58 (sK11 (h := h) sh) (by omega) (ilt (sL11 (h := h) sh) (by omega)) (show hA _ 11 _ = hA h 11 _ from rfl) ?_
      refine Wp.i2l dX4_pack_59 ?_
      refine Wp.lor dX4_pack_60 ?_
      refine stl_9_5 rfl (dSt_w dX4_pack_61) ?_
      refine inc_9_8 rfl dX4_pack_63 (by first | exact w32_of (by omega) (by omega) | rfl) ?_
      refine Wp.goto (tgt := 43) dX4_pack_66 (by decide) ?_
      exact ih (k + 1) _ (by omega) (by omega) (Or.inl (by omega)) (by rw [ex]; exact pkw_s k0 (by omega) l2 hv)

theorem packX_loop (d : Nat) (h : mH) (sh : Sh h) (hd lk wd nh nl nw : Int) (tr : TR h hd lk wd nh nl nw) (w n : Int) (hw : hF h 13 3 = w) (hn : hF h 13 4 = n) (w0 : 0 ≤ w) (w1 : w ≤ 5) (n0 : 0 ≤ n) (n1 : n ≤ 20000) (hp : n * w + w ≤ nw) (b : Int) (hb0 : 0 ≤ b) (hb1 : b ≤ 24) (hv : ∀ j, 0 ≤ j → j < b → 0 ≤ hA h 11 j ∧ hA h 11 j < 4096) : ∀ (m : Nat) (h' : mH) (j : Int) (u5 u6 u7 u8 : mV), (w - j).toNat < m → (0 ≤ j) → (Fr [wd] [] h h') → (∀ q, 0 ≤ q → q < j → hA h' wd (n * w + q) = pw9 (hA h 11) b q) → (∀ q, q < n * w → hA h' wd q = hA h wd q) → Wp m_X4_pack (d + 1) 13 [(2, 13), (2, 11), (0, b), (0, (n * w)), (0, j), u5, u6, u7, u8] [] h' (fun r t => r = none ∧ Fr [wd] [] h t ∧ (∀ q, 0 ≤ q → q < w → hA t wd (n * w + q) = pw9 (hA h 11) b q) ∧ ∀ q, q < n * w → hA t wd q = hA h wd q) := by
  intro m
  induction m with
  | zero => intro h' j u5 u6 u7 u8 hm; exact absurd hm (Nat.not_lt_zero _)
  | succ m ih =>
    intro h' j u5 u6 u7 u8 hm j0 fr iw io
    obtain ⟨t0, k0, l0, t1, k1, l1, t2, k2, l2, hne, ⟨y0, y1, y2⟩, ⟨z0, z1, z2⟩, b0, b1, b2⟩ := id tr
    have h74 := sh.2.2.2.2
    have hm := mul_bd (a := n) (b := w) (A := 20000) (B := 5) n0 n1 w0 w1
    have sh' := sh.fr fr (by decide +kernel) (by have := y2; simp; omega)
    have k2' : hK h' wd = 11 := by rw [fr.2.2.1]; exact k2
    have l2' : hL h' wd = nw := by rw [fr.2.2.2.1]; exact l2
    have t2' : hF h' 13 2 = wd := (fr.2.2.2.2.1 13 2 (by decide)).trans t2
    have hw' : hF h' 13 3 = w := (fr.2.2.2.2.1 13 3 (by decide)).trans hw
    have hn' : hF h' 13 4 = n := (fr.2.2.2.2.1 13 4 (by decide)).trans hn
    refine Wp.ild (j := 4) rfl dX4_pack_13 ?_
    refine Wp.ald_n (j := 0) rfl dX4_pack_15 ?_
    refine Wp.getf (k := 3) (tg := 0) kC4 (by decide) rfl lf_X4_22 dX4_pack_16 (sK13 (h := h') sh') hw' ?_
    refine Wp.icge dX4_pack_19 (by decide) (tgt := 86) (fun c19 => ?_) (fun c19 => ?_)
    · refine Wp.vret rfl dX4_pack_86 ?_
      exact ⟨rfl, fr, fun q q0 q1 => iw q q0 (by omega), io⟩
    · refine Wp.lconst (z := 0) dX4_pack_22 (by decide) ?_
      refine stl_9_5 rfl (dSt_w dX4_pack_23) ?_
      refine Wp.ild_n (j := 2) rfl dX4_pack_25 ?_
      refine Wp.ild (j := 4) rfl dX4_pack_26 ?_
      refine Wp.iconst dX4_pack_28 (by decide) ?_
      refine Wp.iaddE dX4_pack_29 (by first | exact w32_of (by omega) (by omega) | rfl) ?_
      refine Wp.iconst dX4_pack_30 (by decide) ?_
      refine Wp.imulE dX4_pack_31 (by first | exact w32_of (by omega) (by omega) | rfl) ?_
      refine Wp.mmin wm_X4_49 dX4_pack_32 (Nat.le_of_ble_eq_true rfl) ?_
      refine sti_9_7 rfl (dSt_w dX4_pack_35) ?_
      refine Wp.ild (j := 4) rfl dX4_pack_37 ?_
      refine Wp.iconst dX4_pack_39 (by decide) ?_
      refine Wp.imulE dX4_pack_40 (by first | exact w32_of (by omega) (by omega) | rfl) ?_
      refine sti_9_8 rfl (dSt_w dX4_pack_41) ?_
      have e11 : hA h' 11 = hA h 11 := fr.2.2.2.2.2 11 (by simp only [List.mem_singleton]; omega)
      refine pack_innerX d h' sh' b (n * w) j (min b ((j + 1) * 5)) (j * 5) (by omega) (by omega) (by omega) (by rw [e11]; exact fun i i0 i1 => hv i (by omega) (by omega)) _ (fun k => ?_) _ (j * 5) 0 (Nat.lt_succ_self _) (Int.le_refl _) (Or.inr rfl) (by rw [show (j * 5 - j * 5).toNat = 0 by omega]; rfl)
      refine pack_tail d h' sh' wd nw w n j b _ _ k t2' k2' l2' j0 (by omega) hm.1 hp b2.2 _ ?_
      refine ih _ (j + 1) _ _ _ _ (by omega) (by omega) (fr.tr (Fr.e (List.mem_singleton.mpr rfl))) (fun q q0 q1 => ?_) (fun q q1 => ?_)
      · show hA (sE h' wd (n * w + j) _) wd (n * w + q) = _
        unfold sE
        rw [hA_sAs]
        by_cases e : q = j
        · rw [e, u1_s, e11]
          rfl
        · rw [u1_n _ _ (by omega)]
          exact iw q q0 (by omega)
      · show hA (sE h' wd (n * w + j) _) wd q = _
        unfold sE
        rw [hA_sAs, u1_n _ _ (by omega)]
        exact io q q1

theorem cq_packX (d : Nat) (h : mH) (sh : Sh h) (hd lk wd nh nl nw : Int) (tr : TR h hd lk wd nh nl nw) (w n : Int) (hw : hF h 13 3 = w) (hn : hF h 13 4 = n) (w0 : 0 ≤ w) (w1 : w ≤ 5) (n0 : 0 ≤ n) (n1 : n ≤ 20000) (hp : n * w + w ≤ nw) (b : Int) (hb0 : 0 ≤ b) (hb1 : b ≤ 24) (hv : ∀ j, 0 ≤ j → j < b → 0 ≤ hA h 11 j ∧ hA h 11 j < 4096) : Cq m_X4_pack (d + 1) [(2, 13), (2, 11), (0, b)] h (fun r t => r = none ∧ Fr [wd] [] h t ∧ (∀ q, 0 ≤ q → q < w → hA t wd (n * w + q) = pw9 (hA h 11) b q) ∧ ∀ q, q < n * w → hA t wd q = hA h wd q) := by
  refine Cq.of ?_
  show Wp m_X4_pack ((d + 1)) 0 [(2, 13), (2, 11), (0, b), (9, 0), (9, 0), (9, 0), (9, 0), (9, 0), (9, 0)] [] h _
  obtain ⟨t0, k0, l0, t1, k1, l1, t2, k2, l2, hne, ⟨y0, y1, y2⟩, ⟨z0, z1, z2⟩, b0, b1, b2⟩ := id tr
  have h74 := sh.2.2.2.2
  have hm := mul_bd (a := n) (b := w) (A := 20000) (B := 5) n0 n1 w0 w1
  refine Wp.ald_n (j := 0) rfl dX4_pack_0 ?_
  refine Wp.getf (k := 4) (tg := 0) kC4 (by decide) rfl lf_X4_26 dX4_pack_1 (sK13 (h := h) sh) hn ?_
  refine Wp.ald_n (j := 0) rfl dX4_pack_4 ?_
  refine Wp.getf (k := 3) (tg := 0) kC4 (by decide) rfl lf_X4_22 dX4_pack_5 (sK13 (h := h) sh) hw ?_
  refine Wp.imulE dX4_pack_8 (w32_of (by omega) (by omega)) ?_
  refine sti_9_3 rfl (dSt_n dX4_pack_9) ?_
  refine Wp.iconst dX4_pack_10 (by decide) ?_
  refine sti_9_4 rfl (dSt_w dX4_pack_11) ?_
  exact packX_loop d h sh hd lk wd nh nl nw tr w n hw hn w0 w1 n0 n1 hp b hb0 hb1 hv _ h 0 _ _ _ _ (Nat.lt_succ_self _) (Int.le_refl _) Fr.rf (fun q q0 q1 => absurd q1 (by omega)) (fun q _ => rfl)

theorem sA_n9 {h : mH} {a b : Int} {f : Int → Int} (hb : b ≠ a) : hA (sA h a f) b = hA h b := u1_n _ _ hb
theorem cpF_in {f g : Int → Int} {l q : Int} (q0 : 0 ≤ q) (q1 : q < l) : cpF f g 0 0 l q = f q := by
  unfold cpF
  rw [if_pos (by omega), show (0 : Int) + (q - 0) = q by omega]
theorem makeRoomX_w (d : Nat) (h : mH) (sh : Sh h) (hd lk wd nh nl nw : Int) (tr : TR h hd lk wd nh nl nw) (w n : Int) (hw : hF h 13 3 = w) (hn : hF h 13 4 = n) (w0 : 0 ≤ w) (w1 : w ≤ 5) (n0 : 0 ≤ n) (n1 : n ≤ 20000) : Wp m_X4_makeRoom (d + 2) 38 [(2, 13), (9, 0)] [] h (fun r t => r = none ∧ ∃ wd' nw', (∀ q, 0 ≤ q → q < nw → hA t wd' q = hA h wd q) ∧ TR t hd lk wd' nh nl nw' ∧ n * w + w ≤ nw' ∧ Fq (fun _ => False) [(13, 1), (13, 2)] h t ∧ (wd' = wd ∨ (hN h : Int) ≤ wd') ∧ aC h t (psT nh nl nw) (psT nh nl nw')) := by
  obtain ⟨t0, k0, l0, t1, k1, l1, t2, k2, l2, hne, ⟨y0, y1, y2⟩, ⟨z0, z1, z2⟩, b0, b1, b2⟩ := id tr
  have h74 := sh.2.2.2.2
  have hm := mul_bd (a := n) (b := w) (A := 20000) (B := 5) n0 n1 w0 w1
  refine Wp.ald_n (j := 0) rfl dX4_makeRoom_38 ?_
  refine Wp.getf (k := 4) (tg := 0) kC4 (by decide) rfl lf_X4_26 dX4_makeRoom_39 (sK13 (h := h) sh) hn ?_
  refine Wp.iconst dX4_makeRoom_42 (by decide) ?_
  refine Wp.iaddE dX4_makeRoom_43 (w32_of (by omega) (by omega)) ?_
  refine Wp.ald_n (j := 0) rfl dX4_makeRoom_44 ?_
  refine Wp.getf (k := 3) (tg := 0) kC4 (by decide) rfl lf_X4_22 dX4_makeRoom_45 (sK13 (h := h) sh) hw ?_
  refine Wp.imulE dX4_makeRoom_48 (show w32 ((n + 1) * w) = n * w + w by rw [show (n + 1) * w = n * w + w by rw [Int.add_mul, Int.one_mul], w32_of (by omega) (by omega)]) ?_
  refine sti_2_1 rfl (dSt_n dX4_makeRoom_49) ?_
  refine Wp.ald_n (j := 0) rfl dX4_makeRoom_50 ?_
  refine Wp.getf (k := 2) (tg := 2) kC4 (by decide) rfl lf_X4_18 dX4_makeRoom_51 (sK13 (h := h) sh) t2 ?_
  refine Wp.alen dX4_makeRoom_54 (by decide) (by decide) k2 l2 (by omega) ?_
  refine Wp.ild_n (j := 1) rfl dX4_makeRoom_55 ?_
  refine Wp.icge dX4_makeRoom_56 (by decide) (tgt := 87) (fun c56 => ?_) (fun c56 => ?_)
  · refine Wp.vret rfl dX4_makeRoom_87 ?_
    first
    | exact ⟨rfl, wd, nw, fun q _ _ => rfl, tr, by omega, Fq.rf, Or.inl rfl, aC.rf⟩
    | (have hu := psW_up (a := nw) (b := min (20001 * w) (2 * (n * w + w) + 64)) w0 w1 n0 n1 (by omega) rfl (by omega)
       refine ⟨rfl, _, _, fun q q0 q1 => ?_, tr.wd h74 (by omega) (by omega), hu.2.1, Fq.cp (by decide), Or.inr (Int.le_refl _), aC.cp (by omega) ?_⟩
       · show hA (sA (nA h 11 (min (20001 * w) (2 * (n * w + w) + 64))) (hN h : Int) _) (hN h : Int) q = _
         rw [hA_sAs]
         exact cpF_in q0 q1
       unfold psT
       omega)
  · refine Wp.ald_n (j := 0) rfl dX4_makeRoom_59 ?_
    refine Wp.ald_n (j := 0) rfl dX4_makeRoom_60 ?_
    refine Wp.getf (k := 2) (tg := 2) kC4 (by decide) rfl lf_X4_18 dX4_makeRoom_61 (sK13 (h := h) sh) t2 ?_
    refine Wp.sipush dX4_makeRoom_64 (by decide) ?_
    refine Wp.ald_n (j := 0) rfl dX4_makeRoom_67 ?_
    refine Wp.getf (k := 3) (tg := 0) kC4 (by decide) rfl lf_X4_22 dX4_makeRoom_68 (sK13 (h := h) sh) hw ?_
    refine Wp.imulE dX4_makeRoom_71 (by first | exact w32_of (by omega) (by omega) | rfl) ?_
    refine Wp.iconst dX4_makeRoom_72 (by decide) ?_
    refine Wp.ild_n (j := 1) rfl dX4_makeRoom_73 ?_
    refine Wp.imulE dX4_makeRoom_74 (by first | exact w32_of (by omega) (by omega) | rfl) ?_
    refine Wp.bipush dX4_makeRoom_75 (by decide) ?_
    refine Wp.iaddE dX4_makeRoom_77 (by first | exact w32_of (by omega) (by omega) | rfl) ?_
    refine Wp.mmin wm_X4_49 dX4_makeRoom_78 (Nat.le_of_ble_eq_true rfl) ?_
    have hu := psW_up (a := nw) (b := min (20001 * w) (2 * (n * w + w) + 64)) w0 w1 n0 n1 (by omega) rfl (by omega)
    refine Wp.callS1 (ct_copyJ d h wd (min (20001 * w) (2 * (n * w + w) + 64)) nw k2 l2 z2 b2.1 (by omega) (by omega)) wc_X4_59 sM_J7_copyOf_c38d5 dX4_makeRoom_81 rfl (Nat.le_of_ble_eq_true rfl) rfl (Nat.le_of_ble_eq_true rfl) ?_
    refine Wp.putf (k := 2) (tg := 2) kC4 (by decide) rfl rfl lf_X4_18 dX4_makeRoom_84 ((nA_K (h := h) (t := 11) (n := min (20001 * w) (2 * (n * w + w) + 64)) (show (13 : Int) < ((hN h : Nat) : Int) by omega)).trans (sK13 (h := h) sh)) ?_
    refine Wp.vret rfl dX4_makeRoom_87 ?_
    first
    | exact ⟨rfl, wd, nw, fun q _ _ => rfl, tr, by omega, Fq.rf, Or.inl rfl, aC.rf⟩
    | (have hu := psW_up (a := nw) (b := min (20001 * w) (2 * (n * w + w) + 64)) w0 w1 n0 n1 (by omega) rfl (by omega)
       refine ⟨rfl, _, _, fun q q0 q1 => ?_, tr.wd h74 (by omega) (by omega), hu.2.1, Fq.cp (by decide), Or.inr (Int.le_refl _), aC.cp (by omega) ?_⟩
       · show hA (sA (nA h 11 (min (20001 * w) (2 * (n * w + w) + 64))) (hN h : Int) _) (hN h : Int) q = _
         rw [hA_sAs]
         exact cpF_in q0 q1
       unfold psT
       omega)

theorem cq_makeRoomX (d : Nat) (h : mH) (sh : Sh h) (hd lk wd nh nl nw : Int) (tr : TR h hd lk wd nh nl nw) (w n : Int) (hw : hF h 13 3 = w) (hn : hF h 13 4 = n) (w0 : 0 ≤ w) (w1 : w ≤ 5) (n0 : 0 ≤ n) (n1 : n ≤ 20000) : Cq m_X4_makeRoom (d + 2) [(2, 13)] h (fun r t => r = none ∧ ∃ lk' wd' nl' nw', (∀ q, 0 ≤ q → q < nl → hA t lk' q = hA h lk q) ∧ (∀ q, 0 ≤ q → q < nw → hA t wd' q = hA h wd q) ∧ TR t hd lk' wd' nh nl' nw' ∧ n < nl' ∧ n * w + w ≤ nw' ∧ Fq (fun _ => False) [(13, 1), (13, 2)] h t ∧ (lk' = lk ∨ (hN h : Int) ≤ lk') ∧ (wd' = wd ∨ (hN h : Int) ≤ wd') ∧ aC h t (psT nh nl nw) (psT nh nl' nw')) := by
  refine Cq.of ?_
  show Wp m_X4_makeRoom ((d + 2)) 0 [(2, 13), (9, 0)] [] h _
  obtain ⟨t0, k0, l0, t1, k1, l1, t2, k2, l2, hne, ⟨y0, y1, y2⟩, ⟨z0, z1, z2⟩, b0, b1, b2⟩ := id tr
  have h74 := sh.2.2.2.2
  have hm := mul_bd (a := n) (b := w) (A := 20000) (B := 5) n0 n1 w0 w1
  refine Wp.ald_n (j := 0) rfl dX4_makeRoom_0 ?_
  refine Wp.getf (k := 1) (tg := 2) kC4 (by decide) rfl lf_X4_15 dX4_makeRoom_1 (sK13 (h := h) sh) t1 ?_
  refine Wp.alen dX4_makeRoom_4 (by decide) (by decide) k1 l1 (by omega) ?_
  refine Wp.ald_n (j := 0) rfl dX4_makeRoom_5 ?_
  refine Wp.getf (k := 4) (tg := 0) kC4 (by decide) rfl lf_X4_26 dX4_makeRoom_6 (sK13 (h := h) sh) hn ?_
  refine Wp.icgt dX4_makeRoom_9 (by decide) (tgt := 38) (fun c9 => ?_) (fun c9 => ?_)
  · first
    | (refine (makeRoomX_w d h sh hd lk wd nh nl nw tr w n hw hn w0 w1 n0 n1).mono (fun r t q => ?_)
       obtain ⟨hr, wd', nw', ew, tr', q1, q2, qw, q3⟩ := q
       exact ⟨hr, lk, wd', nl, nw', fun q _ _ => congrFun (q2.2.2.2.2.2 lk z1 (fun z => z)) q, ew, tr', by omega, q1, q2, Or.inl rfl, qw, q3⟩)
    | (have hu := psL_up (a := nl) (b := min 20001 (2 * n + 64)) (n := n) (by omega) n1 rfl b1.1
       refine (makeRoomX_w d _ (sh.fq (A := fun _ => False) (G := [(13, 1)]) (Fq.cp (by decide)) (by decide +kernel) (fun z => z)) hd (hN h : Int) wd nh (min 20001 (2 * n + 64)) nw (tr.lk h74 (by omega) (by omega)) w n hw hn w0 w1 n0 n1).mono (fun r t q => ?_)
       obtain ⟨hr, wd', nw', ew, tr', q1, q2, qw, q3⟩ := q
       refine ⟨hr, _, wd', _, nw', fun q q0 q1 => ?_, fun q q0 q1 => ?_, tr', hu.2, q1, (Fq.cp (by decide)).tr q2, Or.inr (Int.le_refl _), qw.imp id (fun z => ?_), (aC.cp (by omega) ?_).tr q3⟩
       · rw [q2.2.2.2.2.2 (hN h : Int) (by show ((hN h : Nat) : Int) < ((hN h + 1 : Nat) : Int); omega) (fun z => z)]
         show hA (sA (nA h 10 (min 20001 (2 * n + 64))) (hN h : Int) _) (hN h : Int) q = _
         rw [hA_sAs]
         exact cpF_in q0 q1
       · rw [ew q q0 q1]
         show hA (sA (nA h 10 (min 20001 (2 * n + 64))) (hN h : Int) _) wd q = _
         rw [sA_n9 (by omega), nA_A z2]
       · have z2 : ((hN h + 1 : Nat) : Int) ≤ wd' := z
         omega
       unfold psT
       omega)
  · refine Wp.ald_n (j := 0) rfl dX4_makeRoom_12 ?_
    refine Wp.ald_n (j := 0) rfl dX4_makeRoom_13 ?_
    refine Wp.getf (k := 1) (tg := 2) kC4 (by decide) rfl lf_X4_15 dX4_makeRoom_14 (sK13 (h := h) sh) t1 ?_
    refine Wp.sipush dX4_makeRoom_17 (by decide) ?_
    refine Wp.iconst dX4_makeRoom_20 (by decide) ?_
    refine Wp.ald_n (j := 0) rfl dX4_makeRoom_21 ?_
    refine Wp.getf (k := 4) (tg := 0) kC4 (by decide) rfl lf_X4_26 dX4_makeRoom_22 (sK13 (h := h) sh) hn ?_
    refine Wp.imulE dX4_makeRoom_25 (by first | exact w32_of (by omega) (by omega) | rfl) ?_
    refine Wp.bipush dX4_makeRoom_26 (by decide) ?_
    refine Wp.iaddE dX4_makeRoom_28 (by first | exact w32_of (by omega) (by omega) | rfl) ?_
    refine Wp.mmin wm_X4_49 dX4_makeRoom_29 (Nat.le_of_ble_eq_true rfl) ?_
    have hu := psL_up (a := nl) (b := min 20001 (2 * n + 64)) (n := n) (by omega) n1 rfl b1.1
    refine Wp.callS1 (ct_copyI d h lk (min 20001 (2 * n + 64)) nl k1 l1 z1 b1.1 (by omega) (by omega)) wc_X4_55 sM_J7_copyOf_59c91 dX4_makeRoom_32 rfl (Nat.le_of_ble_eq_true rfl) rfl (Nat.le_of_ble_eq_true rfl) ?_
    refine Wp.putf (k := 1) (tg := 2) kC4 (by decide) rfl rfl lf_X4_15 dX4_makeRoom_35 ((nA_K (h := h) (t := 10) (n := min 20001 (2 * n + 64)) (show (13 : Int) < ((hN h : Nat) : Int) by omega)).trans (sK13 (h := h) sh)) ?_
    first
    | (refine (makeRoomX_w d h sh hd lk wd nh nl nw tr w n hw hn w0 w1 n0 n1).mono (fun r t q => ?_)
       obtain ⟨hr, wd', nw', ew, tr', q1, q2, qw, q3⟩ := q
       exact ⟨hr, lk, wd', nl, nw', fun q _ _ => congrFun (q2.2.2.2.2.2 lk z1 (fun z => z)) q, ew, tr', by omega, q1, q2, Or.inl rfl, qw, q3⟩)
    | (have hu := psL_up (a := nl) (b := min 20001 (2 * n + 64)) (n := n) (by omega) n1 rfl b1.1
       refine (makeRoomX_w d _ (sh.fq (A := fun _ => False) (G := [(13, 1)]) (Fq.cp (by decide)) (by decide +kernel) (fun z => z)) hd (hN h : Int) wd nh (min 20001 (2 * n + 64)) nw (tr.lk h74 (by omega) (by omega)) w n hw hn w0 w1 n0 n1).mono (fun r t q => ?_)
       obtain ⟨hr, wd', nw', ew, tr', q1, q2, qw, q3⟩ := q
       refine ⟨hr, _, wd', _, nw', fun q q0 q1 => ?_, fun q q0 q1 => ?_, tr', hu.2, q1, (Fq.cp (by decide)).tr q2, Or.inr (Int.le_refl _), qw.imp id (fun z => ?_), (aC.cp (by omega) ?_).tr q3⟩
       · rw [q2.2.2.2.2.2 (hN h : Int) (by show ((hN h : Nat) : Int) < ((hN h + 1 : Nat) : Int); omega) (fun z => z)]
         show hA (sA (nA h 10 (min 20001 (2 * n + 64))) (hN h : Int) _) (hN h : Int) q = _
         rw [hA_sAs]
         exact cpF_in q0 q1
       · rw [ew q q0 q1]
         show hA (sA (nA h 10 (min 20001 (2 * n + 64))) (hN h : Int) _) wd q = _
         rw [sA_n9 (by omega), nA_A z2]
       · have z2 : ((hN h + 1 : Nat) : Int) ≤ wd' := z
         omega
       unfold psT
       omega)

/-- the book of the steps: words, heads, links; X the states -/
def TQ (gw gh gl : Int → Int) (n w b : Int) (X : Int → Int → Int) : Prop := (∀ i q, 0 ≤ i → i < n → 0 ≤ q → q < w → gw (i * w + q) = pw9 (X i) b q) ∧ (∀ y, 0 ≤ y → y < 4096 → -1 ≤ gh y ∧ gh y < n ∧ (0 ≤ gh y → hx9 (X (gh y)) b w = y) ∧ ∀ i, 0 ≤ i → gh y < i → i < n → hx9 (X i) b w ≠ y) ∧ (∀ i, 0 ≤ i → i < n → -1 ≤ gl i ∧ gl i < i ∧ (0 ≤ gl i → hx9 (X (gl i)) b w = hx9 (X i) b w) ∧ ∀ k, 0 ≤ k → gl i < k → k < i → hx9 (X k) b w ≠ hx9 (X i) b w)
def WL (w b : Int) (X : Int → Int → Int) (i n : Int) : Prop := ∀ q, 0 ≤ q → q < w → pw9 (X i) b q = pw9 (X n) b q
theorem mul_in {i n w q : Int} (i1 : i < n) (q1 : q < w) (w0 : 0 ≤ w) : i * w + q < n * w := by
  have h : (i + 1) * w ≤ n * w := Int.mul_le_mul_of_nonneg_right (by omega) w0
  rw [Int.add_mul, Int.one_mul] at h
  omega
theorem TQ.nil {gw gh gl : Int → Int} {w b : Int} {X : Int → Int → Int} (h : ∀ y, 0 ≤ y → y < 4096 → gh y = -1) : TQ gw gh gl 0 w b X := ⟨fun i q i0 i1 => absurd i1 (by omega), fun y y0 y1 => by rw [h y y0 y1]; exact ⟨by decide, by decide, fun z => absurd z (by decide), fun i i0 _ i1 => absurd i1 (by omega)⟩, fun i i0 i1 => absurd i1 (by omega)⟩
theorem TQ.cg {gw gh gl gw' gl' : Int → Int} {n w b : Int} {X : Int → Int → Int} (t : TQ gw gh gl n w b X) (w0 : 0 ≤ w) (ew : ∀ q, 0 ≤ q → q < n * w → gw' q = gw q) (el : ∀ q, 0 ≤ q → q < n → gl' q = gl q) : TQ gw' gh gl' n w b X := ⟨fun i q i0 i1 q0 q1 => by rw [ew _ (by have := Int.mul_nonneg i0 w0; omega) (mul_in i1 q1 w0)]; exact t.1 i q i0 i1 q0 q1, t.2.1, fun i i0 i1 => by rw [el i i0 i1]; exact t.2.2 i i0 i1⟩
theorem TQ.next {gw gh gl : Int → Int} {n w b hh : Int} {X : Int → Int → Int} (t : TQ gw gh gl n w b X) (n0 : 0 ≤ n) (hl : ∀ q, 0 ≤ q → q < w → gw (n * w + q) = pw9 (X n) b q) (eh : hh = hx9 (X n) b w) (hh0 : 0 ≤ hh) (hh1 : hh < 4096) : TQ gw (u1 gh hh n) (u1 gl n (gh hh)) (n + 1) w b X := by
  obtain ⟨t1, t2, t3⟩ := t
  refine ⟨fun i q i0 i1 q0 q1 => ?_, fun y y0 y1 => ?_, fun i i0 i1 => ?_⟩
  · by_cases e : i = n
    · rw [e]
      exact hl q q0 q1
    · exact t1 i q i0 (by omega) q0 q1
  · by_cases e : y = hh
    · rw [e, u1_s]
      exact ⟨by omega, by omega, fun _ => eh.symm, fun i i0 i1 i2 => absurd i1 (by omega)⟩
    · rw [u1_n _ _ e]
      obtain ⟨a1, a2, a3, a4⟩ := t2 y y0 y1
      refine ⟨a1, by omega, a3, fun i i0 i1 i2 => ?_⟩
      by_cases ei : i = n
      · rw [ei, ← eh]
        exact fun z => e z.symm
      · exact a4 i i0 i1 (by omega)
  · by_cases e : i = n
    · rw [e, u1_s]
      obtain ⟨a1, a2, a3, a4⟩ := t2 hh hh0 hh1
      rw [← eh]
      exact ⟨a1, a2, a3, a4⟩
    · rw [u1_n _ _ e]
      exact t3 i i0 (by omega)
theorem stepOfX_loop (d : Nat) (h : mH) (sh : Sh h) (hd lk wd nl nw : Int) (tr : TR h hd lk wd 4096 nl nw) (w n : Int) (hw : hF h 13 3 = w) (hn : hF h 13 4 = n) (w0 : 0 ≤ w) (w1 : w ≤ 5) (n0 : 0 ≤ n) (n1 : n ≤ 20000) (hp : n * w + w ≤ nw) (hnl : n < nl) (b hh : Int) (hh0 : 0 ≤ hh) (hh1 : hh < 4096) (X : Int → Int → Int) (tq : TQ (hA h wd) (hA h hd) (hA h lk) n w b X) (hl9 : ∀ q, 0 ≤ q → q < w → hA h wd (n * w + q) = pw9 (X n) b q) (eh : hh = hx9 (X n) b w) : ∀ (m : Nat) (k s : Int), (n - k).toNat < m → (0 ≤ k) → (-1 ≤ s) → (s + k < n) → (0 ≤ s → hx9 (X s) b w = hh) → (∀ i, 0 ≤ i → s < i → i < n → ¬ WL w b X i n) → Wp m_X4_stepOf (d + 2) 38 [(2, 13), (2, 11), (0, b), (0, hh), (0, s), (0, k)] [] h (fun r t => (∃ y, r = some (0, y) ∧ ((y = -1 ∧ (∀ i, 0 ≤ i → i < n → ¬ WL w b X i n) ∧ hF t 13 4 = n + 1 ∧ TQ (hA t wd) (hA t hd) (hA t lk) (n + 1) w b X) ∨ (0 ≤ y ∧ y < n ∧ WL w b X y n))) ∧ TR t hd lk wd 4096 nl nw ∧ Fr [hd, lk] [(13, 4)] h t ∧ n ≤ hF t 13 4 ∧ hF t 13 4 ≤ 20001) := by
  intro m
  induction m with
  | zero => intro k s hm; exact absurd hm (Nat.not_lt_zero _)
  | succ m ih =>
    intro k s hm k0 s0 sk hs un
    obtain ⟨t0, k0', l0, t1, k1, l1, t2, k2, l2, hne, ⟨y0, y1, y2⟩, ⟨z0, z1, z2⟩, b0, b1, b2⟩ := id tr
    have h74 := sh.2.2.2.2
    refine Wp.ild (j := 5) rfl dX4_stepOf_38 ?_
    refine Wp.ald_n (j := 0) rfl dX4_stepOf_40 ?_
    refine Wp.getf (k := 4) (tg := 0) kC4 (by decide) rfl lf_X4_26 dX4_stepOf_41 (sK13 (h := h) sh) hn ?_
    refine Wp.icge dX4_stepOf_44 (by decide) (tgt := 88) (fun c44 => ?_) (fun c44 => ?_)
    · refine Wp.ald_n (j := 0) rfl dX4_stepOf_88 ?_
      refine Wp.getf (k := 1) (tg := 2) kC4 (by decide) rfl lf_X4_15 dX4_stepOf_89 (sK13 (h := h) sh) t1 ?_
      refine Wp.ald_n (j := 0) rfl dX4_stepOf_92 ?_
      refine Wp.getf (k := 4) (tg := 0) kC4 (by decide) rfl lf_X4_26 dX4_stepOf_93 (sK13 (h := h) sh) hn ?_
      refine Wp.ald_n (j := 0) rfl dX4_stepOf_96 ?_
      refine Wp.getf (k := 0) (tg := 2) kC4 (by decide) rfl lf_X4_9 dX4_stepOf_97 (sK13 (h := h) sh) t0 ?_
      refine Wp.ild_n (j := 3) rfl dX4_stepOf_100 ?_
      refine Wp.iaload dX4_stepOf_101 k0' (by omega) (ilt l0 (by omega)) (show hA _ hd _ = hA h hd _ from rfl) ?_
      refine Wp.iastore dX4_stepOf_102 k1 (by omega) (ilt l1 (by omega)) ?_
      refine Wp.ald_n (j := 0) rfl dX4_stepOf_103 ?_
      refine Wp.getf (k := 0) (tg := 2) kC4 (by decide) rfl lf_X4_9 dX4_stepOf_104 (sK13 (h := h) sh) t0 ?_
      refine Wp.ild_n (j := 3) rfl dX4_stepOf_107 ?_
      refine Wp.ald_n (j := 0) rfl dX4_stepOf_108 ?_
      refine Wp.getf (k := 4) (tg := 0) kC4 (by decide) rfl lf_X4_26 dX4_stepOf_109 (sK13 (h := h) sh) hn ?_
      refine Wp.iastore dX4_stepOf_112 k0' (by omega) (ilt l0 (by omega)) ?_
      refine Wp.ald_n (j := 0) rfl dX4_stepOf_113 ?_
      refine Wp.dup dX4_stepOf_114 (Or.inr rfl) ?_
      refine Wp.getf (k := 4) (tg := 0) kC4 (by decide) rfl lf_X4_26 dX4_stepOf_115 (sK13 (h := h) sh) hn ?_
      refine Wp.iconst dX4_stepOf_118 (by decide) ?_
      refine Wp.iaddE dX4_stepOf_119 (by first | exact w32_of (by omega) (by omega) | rfl) ?_
      refine Wp.putf (k := 4) (tg := 0) kC4 (by decide) rfl rfl lf_X4_26 dX4_stepOf_120 (sK13 (h := h) sh) ?_
      refine Wp.iconst dX4_stepOf_123 (by decide) ?_
      refine Wp.iret rfl dX4_stepOf_124 ?_
      have un' : ∀ i, 0 ≤ i → i < n → ¬ WL w b X i n := fun i i0 i1 => un i i0 (by omega) i1
      have ewd : wd ≠ hd := fun z => by rw [z, k0'] at k2; exact absurd k2 (by decide)
      have ewl : wd ≠ lk := fun z => by rw [z, k1] at k2; exact absurd k2 (by decide)
      refine ⟨⟨_, rfl, Or.inl ⟨rfl, un', rfl, ?_⟩⟩, ⟨t0, k0', l0, t1, k1, l1, t2, k2, l2, hne, ⟨y0, y1, y2⟩, ⟨z0, z1, z2⟩, b0, b1, b2⟩, ?_, ?_, ?_⟩
      · have hx := tq.next n0 hl9 eh hh0 hh1
        show TQ (hA (sE (sE h lk n (hA h hd hh)) hd hh n) wd) (hA (sE (sE h lk n (hA h hd hh)) hd hh n) hd) (hA (sE (sE h lk n (hA h hd hh)) hd hh n) lk) (n + 1) w b X
        rw [hA_sEn ewd, hA_sEn ewl, hA_sEs, hA_sEn hne, hA_sEn (fun z => hne z.symm), hA_sEs]
        exact hx
      · exact ((Fr.e (by simp)).tr (Fr.e (by simp))).tr (Fr.f (by decide))
      · show n ≤ n + 1
        omega
      · show n + 1 ≤ 20001
        omega
    · refine Wp.ild (j := 4) rfl dX4_stepOf_47 ?_
      refine Wp.iflt dX4_stepOf_49 (by decide) (tgt := 88) (fun c49 => ?_) (fun c49 => ?_)
      · refine Wp.ald_n (j := 0) rfl dX4_stepOf_88 ?_
        refine Wp.getf (k := 1) (tg := 2) kC4 (by decide) rfl lf_X4_15 dX4_stepOf_89 (sK13 (h := h) sh) t1 ?_
        refine Wp.ald_n (j := 0) rfl dX4_stepOf_92 ?_
        refine Wp.getf (k := 4) (tg := 0) kC4 (by decide) rfl lf_X4_26 dX4_stepOf_93 (sK13 (h := h) sh) hn ?_
        refine Wp.ald_n (j := 0) rfl dX4_stepOf_96 ?_
        refine Wp.getf (k := 0) (tg := 2) kC4 (by decide) rfl lf_X4_9 dX4_stepOf_97 (sK13 (h := h) sh) t0 ?_
        refine Wp.ild_n (j := 3) rfl dX4_stepOf_100 ?_
        refine Wp.iaload dX4_stepOf_101 k0' (by omega) (ilt l0 (by omega)) (show hA _ hd _ = hA h hd _ from rfl) ?_
        refine Wp.iastore dX4_stepOf_102 k1 (by omega) (ilt l1 (by omega)) ?_
        refine Wp.ald_n (j := 0) rfl dX4_stepOf_103 ?_
        refine Wp.getf (k := 0) (tg := 2) kC4 (by decide) rfl lf_X4_9 dX4_stepOf_104 (sK13 (h := h) sh) t0 ?_
        refine Wp.ild_n (j := 3) rfl dX4_stepOf_107 ?_
        refine Wp.ald_n (j := 0) rfl dX4_stepOf_108 ?_
        refine Wp.getf (k := 4) (tg := 0) kC4 (by decide) rfl lf_X4_26 dX4_stepOf_109 (sK13 (h := h) sh) hn ?_
        refine Wp.iastore dX4_stepOf_112 k0' (by omega) (ilt l0 (by omega)) ?_
        refine Wp.ald_n (j := 0) rfl dX4_stepOf_113 ?_
        refine Wp.dup dX4_stepOf_114 (Or.inr rfl) ?_
        refine Wp.getf (k := 4) (tg := 0) kC4 (by decide) rfl lf_X4_26 dX4_stepOf_115 (sK13 (h := h) sh) hn ?_
        refine Wp.iconst dX4_stepOf_118 (by decide) ?_
        refine Wp.iaddE dX4_stepOf_119 (by first | exact w32_of (by omega) (by omega) | rfl) ?_
        refine Wp.putf (k := 4) (tg := 0) kC4 (by decide) rfl rfl lf_X4_26 dX4_stepOf_120 (sK13 (h := h) sh) ?_
        refine Wp.iconst dX4_stepOf_123 (by decide) ?_
        refine Wp.iret rfl dX4_stepOf_124 ?_
        have un' : ∀ i, 0 ≤ i → i < n → ¬ WL w b X i n := fun i i0 i1 => un i i0 (by omega) i1
        have ewd : wd ≠ hd := fun z => by rw [z, k0'] at k2; exact absurd k2 (by decide)
        have ewl : wd ≠ lk := fun z => by rw [z, k1] at k2; exact absurd k2 (by decide)
        refine ⟨⟨_, rfl, Or.inl ⟨rfl, un', rfl, ?_⟩⟩, ⟨t0, k0', l0, t1, k1, l1, t2, k2, l2, hne, ⟨y0, y1, y2⟩, ⟨z0, z1, z2⟩, b0, b1, b2⟩, ?_, ?_, ?_⟩
        · have hx := tq.next n0 hl9 eh hh0 hh1
          show TQ (hA (sE (sE h lk n (hA h hd hh)) hd hh n) wd) (hA (sE (sE h lk n (hA h hd hh)) hd hh n) hd) (hA (sE (sE h lk n (hA h hd hh)) hd hh n) lk) (n + 1) w b X
          rw [hA_sEn ewd, hA_sEn ewl, hA_sEs, hA_sEn hne, hA_sEn (fun z => hne z.symm), hA_sEs]
          exact hx
        · exact ((Fr.e (by simp)).tr (Fr.e (by simp))).tr (Fr.f (by decide))
        · show n ≤ n + 1
          omega
        · show n + 1 ≤ 20001
          omega
      · refine Wp.ild (j := 4) rfl dX4_stepOf_52 ?_
        refine Wp.ald_n (j := 0) rfl dX4_stepOf_54 ?_
        refine Wp.getf (k := 4) (tg := 0) kC4 (by decide) rfl lf_X4_26 dX4_stepOf_55 (sK13 (h := h) sh) hn ?_
        refine Wp.icge dX4_stepOf_58 (by decide) (tgt := 88) (fun c58 => ?_) (fun c58 => ?_)
        · refine Wp.ald_n (j := 0) rfl dX4_stepOf_88 ?_
          refine Wp.getf (k := 1) (tg := 2) kC4 (by decide) rfl lf_X4_15 dX4_stepOf_89 (sK13 (h := h) sh) t1 ?_
          refine Wp.ald_n (j := 0) rfl dX4_stepOf_92 ?_
          refine Wp.getf (k := 4) (tg := 0) kC4 (by decide) rfl lf_X4_26 dX4_stepOf_93 (sK13 (h := h) sh) hn ?_
          refine Wp.ald_n (j := 0) rfl dX4_stepOf_96 ?_
          refine Wp.getf (k := 0) (tg := 2) kC4 (by decide) rfl lf_X4_9 dX4_stepOf_97 (sK13 (h := h) sh) t0 ?_
          refine Wp.ild_n (j := 3) rfl dX4_stepOf_100 ?_
          refine Wp.iaload dX4_stepOf_101 k0' (by omega) (ilt l0 (by omega)) (show hA _ hd _ = hA h hd _ from rfl) ?_
          refine Wp.iastore dX4_stepOf_102 k1 (by omega) (ilt l1 (by omega)) ?_
          refine Wp.ald_n (j := 0) rfl dX4_stepOf_103 ?_
          refine Wp.getf (k := 0) (tg := 2) kC4 (by decide) rfl lf_X4_9 dX4_stepOf_104 (sK13 (h := h) sh) t0 ?_
          refine Wp.ild_n (j := 3) rfl dX4_stepOf_107 ?_
          refine Wp.ald_n (j := 0) rfl dX4_stepOf_108 ?_
          refine Wp.getf (k := 4) (tg := 0) kC4 (by decide) rfl lf_X4_26 dX4_stepOf_109 (sK13 (h := h) sh) hn ?_
          refine Wp.iastore dX4_stepOf_112 k0' (by omega) (ilt l0 (by omega)) ?_
          refine Wp.ald_n (j := 0) rfl dX4_stepOf_113 ?_
          refine Wp.dup dX4_stepOf_114 (Or.inr rfl) ?_
          refine Wp.getf (k := 4) (tg := 0) kC4 (by decide) rfl lf_X4_26 dX4_stepOf_115 (sK13 (h := h) sh) hn ?_
          refine Wp.iconst dX4_stepOf_118 (by decide) ?_
          refine Wp.iaddE dX4_stepOf_119 (by first | exact w32_of (by omega) (by omega) | rfl) ?_
          refine Wp.putf (k := 4) (tg := 0) kC4 (by decide) rfl rfl lf_X4_26 dX4_stepOf_120 (sK13 (h := h) sh) ?_
          refine Wp.iconst dX4_stepOf_123 (by decide) ?_
          refine Wp.iret rfl dX4_stepOf_124 ?_
          have un' : ∀ i, 0 ≤ i → i < n → ¬ WL w b X i n := fun i i0 i1 => un i i0 (by omega) i1
          have ewd : wd ≠ hd := fun z => by rw [z, k0'] at k2; exact absurd k2 (by decide)
          have ewl : wd ≠ lk := fun z => by rw [z, k1] at k2; exact absurd k2 (by decide)
          refine ⟨⟨_, rfl, Or.inl ⟨rfl, un', rfl, ?_⟩⟩, ⟨t0, k0', l0, t1, k1, l1, t2, k2, l2, hne, ⟨y0, y1, y2⟩, ⟨z0, z1, z2⟩, b0, b1, b2⟩, ?_, ?_, ?_⟩
          · have hx := tq.next n0 hl9 eh hh0 hh1
            show TQ (hA (sE (sE h lk n (hA h hd hh)) hd hh n) wd) (hA (sE (sE h lk n (hA h hd hh)) hd hh n) hd) (hA (sE (sE h lk n (hA h hd hh)) hd hh n) lk) (n + 1) w b X
            rw [hA_sEn ewd, hA_sEn ewl, hA_sEs, hA_sEn hne, hA_sEn (fun z => hne z.symm), hA_sEs]
            exact hx
          · exact ((Fr.e (by simp)).tr (Fr.e (by simp))).tr (Fr.f (by decide))
          · show n ≤ n + 1
            omega
          · show n + 1 ≤ 20001
            omega
        · refine Wp.ald_n (j := 0) rfl dX4_stepOf_61 ?_
          refine Wp.ild (j := 4) rfl dX4_stepOf_62 ?_
          obtain ⟨_, t64, ct64, ⟨y64, rfl, hy64⟩, e64⟩ := cq_isLikeX (d + 1) h sh hd lk wd 4096 nl nw tr w n hw hn w0 w1 n0 n1 hp s (by omega) (by omega)
          rw [e64] at ct64
          refine Wp.callV1 (ct64) wc_X4_45 iM_X4_isLikeLast se_X4_isLikeLast kC4 (sK13 (h := h) sh) dX4_stepOf_64 rfl (Nat.le_of_ble_eq_true rfl) rfl (Nat.le_of_ble_eq_true rfl) ?_
          refine Wp.ifeq dX4_stepOf_67 (by decide) (tgt := 73) (fun c67 => ?_) (fun c67 => ?_)
          · refine Wp.ald_n (j := 0) rfl dX4_stepOf_73 ?_
            refine Wp.getf (k := 1) (tg := 2) kC4 (by decide) rfl lf_X4_15 dX4_stepOf_74 (sK13 (h := h) sh) t1 ?_
            refine Wp.ild (j := 4) rfl dX4_stepOf_77 ?_
            refine Wp.iaload dX4_stepOf_79 k1 (by omega) (ilt l1 (by omega)) (show hA _ lk _ = hA h lk _ from rfl) ?_
            refine sti_6_4 rfl (dSt_w dX4_stepOf_80) ?_
            refine inc_6_5 rfl dX4_stepOf_82 (by first | exact w32_of (by omega) (by omega) | rfl) ?_
            refine Wp.goto (tgt := 38) dX4_stepOf_85 (by decide) ?_
            have hs' := hs (by omega)
            obtain ⟨a1, a2, a3, a4⟩ := tq.2.2 s (by omega) (by omega)
            have nl9 : ¬ WL w b X s n := fun z => by
              have hz : y64 = 1 := hy64.2.mpr (fun q q0 q1 => by rw [tq.1 s q (by omega) (by omega) q0 q1, hl9 q q0 q1]; exact z q q0 q1)
              omega
            refine ih (k + 1) _ (by omega) (by omega) a1 (by omega) (fun z => (a3 z).trans hs') (fun i i0 i1 i2 => ?_)
            rcases Int.lt_trichotomy i s with z | z | z
            · exact fun y => a4 i i0 i1 z (by rw [hs', eh]; exact hx9_cg y)
            · rw [z]
              exact nl9
            · exact un i i0 z i2
          · refine Wp.ild (j := 4) rfl dX4_stepOf_70 ?_
            refine Wp.iret rfl dX4_stepOf_72 ?_
            have hz : WL w b X s n := fun q q0 q1 => by
              have h9 := hy64.2.mp (by omega) q q0 q1
              rw [tq.1 s q (by omega) (by omega) q0 q1, hl9 q q0 q1] at h9
              exact h9
            exact ⟨⟨_, rfl, Or.inr ⟨by omega, by omega, hz⟩⟩, tr, Fr.rf, by omega, by omega⟩

theorem hd9_rg (g : Int → Int) (o w : Int) : 0 ≤ hd9 g o w ∧ hd9 g o w < 4096 := qushr52 _
theorem cq_stepOfX (d : Nat) (h : mH) (sh : Sh h) (hd lk wd nl nw : Int) (tr : TR h hd lk wd 4096 nl nw) (w n : Int) (hw : hF h 13 3 = w) (hn : hF h 13 4 = n) (w0 : 0 ≤ w) (w1 : w ≤ 5) (n0 : 0 ≤ n) (n1 : n ≤ 20000) (b : Int) (hb0 : 0 ≤ b) (hb1 : b ≤ 24) (hv : ∀ j, 0 ≤ j → j < b → 0 ≤ hA h 11 j ∧ hA h 11 j < 4096) (X : Int → Int → Int) (tq : TQ (hA h wd) (hA h hd) (hA h lk) n w b X) (hx : ∀ j, 0 ≤ j → j < b → hA h 11 j = X n j) (hnl : n ≤ nl) (hnw : n * w ≤ nw) : Cq m_X4_stepOf (d + 3) [(2, 13), (2, 11), (0, b)] h (fun r t => (∃ y, r = some (0, y) ∧ ((y = -1 ∧ ∀ i, 0 ≤ i → i < n → ¬ WL w b X i n) ∨ (0 ≤ y ∧ y < n ∧ WL w b X y n))) ∧ (∃ lk' wd' nl' nw', TR t hd lk' wd' 4096 nl' nw' ∧ (lk' = lk ∨ (hN h : Int) ≤ lk') ∧ (wd' = wd ∨ (hN h : Int) ≤ wd') ∧ aC h t (psT 4096 nl nw) (psT 4096 nl' nw') ∧ (r = some (0, -1) → hF t 13 4 = n + 1 ∧ n + 1 ≤ nl' ∧ (n + 1) * w ≤ nw' ∧ TQ (hA t wd') (hA t hd) (hA t lk') (n + 1) w b X)) ∧ Fq (fun a => a = hd ∨ a = lk ∨ a = wd) [(13, 1), (13, 2), (13, 4)] h t ∧ n ≤ hF t 13 4 ∧ hF t 13 4 ≤ 20001) := by
  refine Cq.of ?_
  show Wp m_X4_stepOf ((d + 3)) 0 [(2, 13), (2, 11), (0, b), (9, 0), (9, 0), (9, 0)] [] h _
  obtain ⟨t0, k0, l0, t1, k1, l1, t2, k2, l2, hne, ⟨y0, y1, y2⟩, ⟨z0, z1, z2⟩, b0, b1, b2⟩ := id tr
  have h74 := sh.2.2.2.2
  refine Wp.ald_n (j := 0) rfl dX4_stepOf_0 ?_
  refine Wp.getf (k := 4) (tg := 0) kC4 (by decide) rfl lf_X4_26 dX4_stepOf_1 (sK13 (h := h) sh) hn ?_
  refine Wp.sipush dX4_stepOf_4 (by decide) ?_
  refine Wp.icle dX4_stepOf_7 (by decide) (tgt := 12) (fun c7 => ?_) (fun c7 => ?_)
  · refine Wp.ald_n (j := 0) rfl dX4_stepOf_12 ?_
    obtain ⟨_, u13, ct13, rfl, lk', wd', nl', nw', el13, ew13, tr13, p13, q13, fq13, hlk, hwd, ac13⟩ := cq_makeRoomX d h sh hd lk wd 4096 nl nw tr w n hw hn w0 w1 n0 (by omega)
    refine Wp.callV0 (ct13.up 0) wc_X4_35 iM_X4_makeRoom se_X4_makeRoom kC4 (sK13 (h := h) sh) dX4_stepOf_13 rfl (Nat.le_of_ble_eq_true rfl) rfl (Nat.le_of_ble_eq_true rfl) ?_
    have sh13 := sh.fq fq13 (by decide +kernel) (fun z => z)
    have hw13 : hF u13 13 3 = w := (fq13.2.2.2.2.1 13 3 (by omega) (by decide)).trans hw
    have hn13 : hF u13 13 4 = n := (fq13.2.2.2.2.1 13 4 (by omega) (by decide)).trans hn
    have e11 : hA u13 11 = hA h 11 := fq13.2.2.2.2.2 11 (by omega) (fun z => z)
    have eh13 : hA u13 hd = hA h hd := fq13.2.2.2.2.2 hd z0 (fun z => z)
    refine Wp.ald_n (j := 0) rfl dX4_stepOf_16 ?_
    refine Wp.ald_n (j := 1) rfl dX4_stepOf_17 ?_
    refine Wp.ild_n (j := 2) rfl dX4_stepOf_18 ?_
    obtain ⟨_, u19, ct19, rfl, fr19, pw19, po19⟩ := cq_packX (d + 1) u13 sh13 hd lk' wd' 4096 nl' nw' tr13 w n hw13 hn13 w0 w1 n0 (by omega) q13 b hb0 hb1 (by rw [e11]; exact hv)
    refine Wp.callV0 (ct19) wc_X4_38 iM_X4_pack se_X4_pack kC4 (sK13 (h := u13) sh13) dX4_stepOf_19 rfl (Nat.le_of_ble_eq_true rfl) rfl (Nat.le_of_ble_eq_true rfl) ?_
    have sh19 := sh13.fr fr19 (by decide +kernel) (by have := tr13.2.2.2.2.2.2.2.2.2.2.1.2.2; simp; omega)
    have tr19 := tr13.fq (Fq.fr (A := fun a => a = wd') fr19 (by simp)) (by have := sh13.2.2.2.2; omega) (by decide) (by decide) (by decide)
    have hw19 : hF u19 13 3 = w := (fr19.2.2.2.2.1 13 3 (by decide)).trans hw13
    have hn19 : hF u19 13 4 = n := (fr19.2.2.2.2.1 13 4 (by decide)).trans hn13
    obtain ⟨s0, sk0, sl0, s1, sk1, sl1, s2, sk2, sl2, -⟩ := id tr19
    have kk2 : hK u13 wd' = 11 := tr13.2.2.2.2.2.2.2.1
    have ewd : hd ≠ wd' := fun z => by rw [z] at sk0; rw [sk0] at sk2; exact absurd sk2 (by decide)
    have ewl : lk' ≠ wd' := fun z => by rw [z] at sk1; rw [sk1] at sk2; exact absurd sk2 (by decide)
    have ehd : hA u19 hd = hA h hd := (fr19.2.2.2.2.2 hd (by simp only [List.mem_singleton]; exact ewd)).trans eh13
    have elk : hA u19 lk' = hA u13 lk' := fr19.2.2.2.2.2 lk' (by simp only [List.mem_singleton]; exact ewl)
    have el19 : ∀ q, 0 ≤ q → q < w → hA u19 wd' (n * w + q) = pw9 (X n) b q := fun q q0 q1 => by
      rw [pw19 q q0 q1, e11]
      exact pw9_cg hx q0
    have tq19 : TQ (hA u19 wd') (hA u19 hd) (hA u19 lk') n w b X := by
      rw [ehd, elk]
      exact tq.cg w0 (fun q q0 q1 => (po19 q q1).trans (ew13 q q0 (by omega))) (fun q q0 q1 => el13 q q0 (by omega))
    have eh19 : hd9 (hA u19 wd') (n * w) w = hx9 (X n) b w := hd9_cg (fun j j0 j1 => by rw [Int.zero_add]; exact el19 j j0 j1)
    have hg19 := tq19.2.1 _ (hd9_rg (hA u19 wd') (n * w) w).1 (hd9_rg (hA u19 wd') (n * w) w).2
    refine Wp.ald_n (j := 0) rfl dX4_stepOf_22 ?_
    obtain ⟨_, u22, ct22, rfl, e22⟩ := cq_headOfLastX (d + 2) u19 sh19 hd lk' wd' 4096 nl' nw' tr19 w n hw19 hn19 w0 w1 n0 (by omega) q13
    have hy22 := hd9_rg (hA u19 wd') (n * w) w
    rw [e22] at ct22
    refine Wp.callV1 (ct22) wc_X4_41 iM_X4_headOfLast se_X4_headOfLast kC4 (sK13 (h := u19) sh19) dX4_stepOf_23 rfl (Nat.le_of_ble_eq_true rfl) rfl (Nat.le_of_ble_eq_true rfl) ?_
    refine sti_6_3 rfl (dSt_n dX4_stepOf_26) ?_
    refine Wp.ald_n (j := 0) rfl dX4_stepOf_27 ?_
    refine Wp.getf (k := 0) (tg := 2) kC4 (by decide) rfl lf_X4_9 dX4_stepOf_28 (sK13 (h := u19) sh19) s0 ?_
    refine Wp.ild_n (j := 3) rfl dX4_stepOf_31 ?_
    refine Wp.iaload dX4_stepOf_32 sk0 (by omega) (ilt sl0 (by omega)) (show hA _ hd _ = hA u19 hd _ from rfl) ?_
    refine sti_6_4 rfl (dSt_w dX4_stepOf_33) ?_
    refine Wp.iconst dX4_stepOf_35 (by decide) ?_
    refine sti_6_5 rfl (dSt_w dX4_stepOf_36) ?_
    refine (stepOfX_loop (d + 1) u19 sh19 hd lk' wd' nl' nw' tr19 w n hw19 hn19 w0 w1 n0 (by omega) q13 p13 b _ (hd9_rg _ _ _).1 (hd9_rg _ _ _).2 X tq19 el19 eh19 _ 0 _ (Nat.lt_succ_self _) (Int.le_refl _) hg19.1 (by have := hg19.2.1; omega) (fun z => hg19.2.2.1 z) (fun i i0 i1 i2 z => hg19.2.2.2 i i0 i1 i2 (by rw [eh19]; exact hx9_cg z))).mono (fun r t q => ?_)
    obtain ⟨⟨y, er, e1⟩, e2, e3, e4, e5⟩ := q
    refine ⟨⟨y, er, ?_⟩, ⟨lk', wd', nl', nw', e2, hlk, hwd, ac13.tr (aC.same (e3.1.trans fr19.1) (e3.2.1.trans fr19.2.1)), fun hr => ?_⟩, ?_, e4, e5⟩
    · rcases e1 with z | z
      · exact Or.inl ⟨z.1, z.2.1⟩
      · exact Or.inr z
    · rcases e1 with z | z
      · refine ⟨z.2.2.1, by omega, ?_, z.2.2.2⟩
        rw [Int.add_mul, Int.one_mul]
        exact q13
      · rw [er] at hr
        have hy : y = -1 := congrArg Prod.snd (Option.some.inj hr)
        omega
    have f13 := fq13.mono (A' := fun a => a = hd ∨ a = lk ∨ a = wd) (G' := [(13, 1), (13, 2), (13, 4)]) (fun x _ z => z.elim) (by decide)
    have f19 := (Fq.fr (A := fun a => a = hd ∨ a = lk' ∨ a = wd') fr19 (by simp)).mono (A' := fun a => a = hd ∨ a = lk' ∨ a = wd') (G' := [(13, 1), (13, 2), (13, 4)]) (fun x _ z => z) (by decide)
    have f38 := (Fq.fr (A := fun a => a = hd ∨ a = lk' ∨ a = wd') e3 (by simp)).mono (A' := fun a => a = hd ∨ a = lk' ∨ a = wd') (G' := [(13, 1), (13, 2), (13, 4)]) (fun x _ z => z) (by decide)
    refine f13.tr2 (f19.tr f38) (fun x hx hz => ?_)
    rcases hz with hz | hz | hz
    · exact Or.inl hz
    · rcases hlk with z | z
      · exact Or.inr (Or.inl (hz.trans z))
      · omega
    · rcases hwd with z | z
      · exact Or.inr (Or.inr (hz.trans z))
      · omega
  · refine Wp.iconst dX4_stepOf_10 (by decide) ?_
    refine Wp.iret rfl dX4_stepOf_11 ?_
    exact absurd n1 (by omega)

theorem cq_tstartX (d : Nat) (h : mH) (sh : Sh h) (hd lk wd nh nl nw : Int) (tr : TR h hd lk wd nh nl nw) (b : Int) (hb0 : 0 ≤ b) (hb1 : b ≤ 24) : Cq m_X4_start (d + 1) [(2, 13), (0, b)] h (fun r t => r = none ∧ ∃ hd', TR t hd' lk wd 4096 nl nw ∧ hF t 13 3 = (b + 4).tdiv 5 ∧ hF t 13 4 = 0 ∧ Fq (fun a => a = hd) [(13, 0), (13, 3), (13, 4)] h t ∧ aC h t (psT nh nl nw) (psT 4096 nl nw) ∧ (hd' = hd ∨ (hN h : Int) ≤ hd') ∧ ∀ y, 0 ≤ y → y < 4096 → hA t hd' y = -1) := by
  refine Cq.of ?_
  show Wp m_X4_start ((d + 1)) 0 [(2, 13), (0, b)] [] h _
  obtain ⟨t0, k0, l0, t1, k1, l1, t2, k2, l2, hne, ⟨y0, y1, y2⟩, ⟨z0, z1, z2⟩, b0, b1, b2⟩ := id tr
  have h74 := sh.2.2.2.2
  refine Wp.ald_n (j := 0) rfl dX4_start_0 ?_
  refine Wp.ild_n (j := 1) rfl dX4_start_1 ?_
  refine Wp.iconst dX4_start_2 (by decide) ?_
  refine Wp.iaddE dX4_start_3 (by first | exact w32_of (by omega) (by omega) | rfl) ?_
  refine Wp.iconst dX4_start_4 (by decide) ?_
  refine Wp.isubE dX4_start_5 (show w32 (b + 5 - 1) = b + 4 by rw [w32_of (by omega) (by omega)]; omega) ?_
  refine Wp.iconst dX4_start_6 (by decide) ?_
  refine Wp.idivE dX4_start_7 (by omega) (w32_of (by have := tdn (a := b + 4) (b := 5) (by omega) (by omega); omega) (by have := tdn (a := b + 4) (b := 5) (by omega) (by omega); omega)) ?_
  refine Wp.putf (k := 3) (tg := 0) kC4 (by decide) rfl rfl lf_X4_22 dX4_start_8 (sK13 (h := h) sh) ?_
  refine Wp.ald_n (j := 0) rfl dX4_start_11 ?_
  refine Wp.iconst dX4_start_12 (by decide) ?_
  refine Wp.putf (k := 4) (tg := 0) kC4 (by decide) rfl rfl lf_X4_26 dX4_start_13 (sK13 (h := h) sh) ?_
  refine Wp.ald_n (j := 0) rfl dX4_start_16 ?_
  refine Wp.getf (k := 0) (tg := 2) kC4 (by decide) rfl lf_X4_9 dX4_start_17 (sK13 (h := h) sh) t0 ?_
  refine Wp.alen dX4_start_20 (by decide) (by decide) k0 l0 (by omega) ?_
  refine Wp.sipush dX4_start_21 (by decide) ?_
  refine Wp.icge dX4_start_24 (by decide) (tgt := 36) (fun c24 => ?_) (fun c24 => ?_)
  · refine Wp.ald_n (j := 0) rfl dX4_start_36 ?_
    refine Wp.getf (k := 0) (tg := 2) kC4 (by decide) rfl lf_X4_9 dX4_start_37 (sK13 (h := h) sh) t0 ?_
    refine Wp.iconst dX4_start_40 (by decide) ?_
    refine Wp.callS0 (ct_fillI d _ hd (-1) nh k0 l0 (by omega) (by omega)) wc_X4_29 sM_J7_fill_53178 dX4_start_41 rfl (Nat.le_of_ble_eq_true rfl) rfl (Nat.le_of_ble_eq_true rfl) ?_
    refine Wp.vret rfl dX4_start_44 ?_
    first
    | (have hnh : nh = 4096 := by omega
       subst hnh
       refine ⟨rfl, hd, ?_, rfl, rfl, ?_, aC.same rfl rfl, Or.inl rfl, fun y y0 y1 => ?_⟩
       · exact ⟨t0, k0, l0, t1, k1, l1, t2, k2, l2, hne, ⟨y0, y1, y2⟩, ⟨z0, z1, z2⟩, Or.inr rfl, b1, b2⟩
       · exact (Fq.f (by decide)).tr ((Fq.f (by decide)).tr (Fq.a (fun _ => rfl)))
       · show hA (sA _ hd (flF _ 4096 (-1))) hd y = -1
         rw [hA_sAs]
         unfold flF
         rw [if_pos (by omega)])
    | (have hnh : nh = 0 := by omega
       subst hnh
       refine ⟨rfl, (hN h : Int), ?_, rfl, rfl, ?_, ?_, Or.inr (Int.le_refl _), fun y y0 y1 => ?_⟩
       · exact ⟨rfl, (nA_Kn (h := h) (t := 10) (n := 4096)), (nA_Ln (h := h) (t := 10) (n := 4096)), t1, (nA_K (h := h) (t := 10) (n := 4096) z1).trans k1, (nA_L (h := h) (t := 10) (n := 4096) z1).trans l1, t2, (nA_K (h := h) (t := 10) (n := 4096) z2).trans k2, (nA_L (h := h) (t := 10) (n := 4096) z2).trans l2, by omega, ⟨Or.inr (by omega), y1, y2⟩, ⟨by show (hN h : Int) < ((hN h + 1 : Nat) : Int); omega, by show lk < ((hN h + 1 : Nat) : Int); omega, by show wd < ((hN h + 1 : Nat) : Int); omega⟩, Or.inr rfl, b1, b2⟩
       · refine Fq.tr2 (B := fun a => a = hd ∨ a = (hN h : Int)) ((Fq.f (by decide)).tr ((Fq.f (by decide)).tr (Fq.n (t := 10) (n := 4096)))) (((Fq.f (by decide)).tr (Fq.a (fun _ => Or.inr rfl)))) (fun x hx hz => ?_)
         rcases hz with hz | hz
         · exact hz
         · omega
       · unfold aC psT psH
         refine ⟨?_, ?_⟩
         · show ((hZ h + (4096 : Int).toNat : Nat) : Int) + _ ≤ _
           rw [if_neg (by decide), if_pos (by decide)]
           omega
         · show 2 * ((hN h + 1 : Nat) : Int) + _ ≤ _
           rw [if_neg (by decide), if_pos (by decide)]
           omega
       · show hA (sA _ (hN h : Int) (flF _ 4096 (-1))) (hN h : Int) y = -1
         rw [hA_sAs]
         unfold flF
         rw [if_pos (by omega)])
  · refine Wp.ald_n (j := 0) rfl dX4_start_27 ?_
    refine Wp.sipush dX4_start_28 (by decide) ?_
    refine Wp.newI wT_int dX4_start_31 (by omega) (by omega) ?_
    refine Wp.putf (k := 0) (tg := 2) kC4 (by decide) rfl rfl lf_X4_9 dX4_start_33 ((nA_K (h := h) (t := 10) (n := 4096) (show (13 : Int) < ((hN h + 0 : Nat) : Int) by omega)).trans (sK13 (h := h) sh)) ?_
    refine Wp.ald_n (j := 0) rfl dX4_start_36 ?_
    refine Wp.getf (k := 0) (tg := 2) kC4 (by decide) rfl lf_X4_9 dX4_start_37 ((nA_K (h := h) (t := 10) (n := 4096) (show (13 : Int) < ((hN h + 0 : Nat) : Int) by omega)).trans (sK13 (h := h) sh)) rfl ?_
    refine Wp.iconst dX4_start_40 (by decide) ?_
    refine Wp.callS0 (ct_fillI d _ (hN h : Int) (-1) 4096 (nA_Kn (h := h) (t := 10) (n := 4096)) (nA_Ln (h := h) (t := 10) (n := 4096)) (by decide) (by decide)) wc_X4_29 sM_J7_fill_53178 dX4_start_41 rfl (Nat.le_of_ble_eq_true rfl) rfl (Nat.le_of_ble_eq_true rfl) ?_
    refine Wp.vret rfl dX4_start_44 ?_
    first
    | (have hnh : nh = 4096 := by omega
       subst hnh
       refine ⟨rfl, hd, ?_, rfl, rfl, ?_, aC.same rfl rfl, Or.inl rfl, fun y y0 y1 => ?_⟩
       · exact ⟨t0, k0, l0, t1, k1, l1, t2, k2, l2, hne, ⟨y0, y1, y2⟩, ⟨z0, z1, z2⟩, Or.inr rfl, b1, b2⟩
       · exact (Fq.f (by decide)).tr ((Fq.f (by decide)).tr (Fq.a (fun _ => rfl)))
       · show hA (sA _ hd (flF _ 4096 (-1))) hd y = -1
         rw [hA_sAs]
         unfold flF
         rw [if_pos (by omega)])
    | (have hnh : nh = 0 := by omega
       subst hnh
       refine ⟨rfl, (hN h : Int), ?_, rfl, rfl, ?_, ?_, Or.inr (Int.le_refl _), fun y y0 y1 => ?_⟩
       · exact ⟨rfl, (nA_Kn (h := h) (t := 10) (n := 4096)), (nA_Ln (h := h) (t := 10) (n := 4096)), t1, (nA_K (h := h) (t := 10) (n := 4096) z1).trans k1, (nA_L (h := h) (t := 10) (n := 4096) z1).trans l1, t2, (nA_K (h := h) (t := 10) (n := 4096) z2).trans k2, (nA_L (h := h) (t := 10) (n := 4096) z2).trans l2, by omega, ⟨Or.inr (by omega), y1, y2⟩, ⟨by show (hN h : Int) < ((hN h + 1 : Nat) : Int); omega, by show lk < ((hN h + 1 : Nat) : Int); omega, by show wd < ((hN h + 1 : Nat) : Int); omega⟩, Or.inr rfl, b1, b2⟩
       · refine Fq.tr2 (B := fun a => a = hd ∨ a = (hN h : Int)) ((Fq.f (by decide)).tr ((Fq.f (by decide)).tr (Fq.n (t := 10) (n := 4096)))) (((Fq.f (by decide)).tr (Fq.a (fun _ => Or.inr rfl)))) (fun x hx hz => ?_)
         rcases hz with hz | hz
         · exact hz
         · omega
       · unfold aC psT psH
         refine ⟨?_, ?_⟩
         · show ((hZ h + (4096 : Int).toNat : Nat) : Int) + _ ≤ _
           rw [if_neg (by decide), if_pos (by decide)]
           omega
         · show 2 * ((hN h + 1 : Nat) : Int) + _ ≤ _
           rw [if_neg (by decide), if_pos (by decide)]
           omega
       · show hA (sA _ (hN h : Int) (flF _ 4096 (-1))) (hN h : Int) y = -1
         rw [hA_sAs]
         unfold flF
         rw [if_pos (by omega)])

