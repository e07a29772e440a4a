/-! ===== ends: rounds of a table of nexts ===== -/
def itn (nx : Int → Int) : Nat → Int → Int
  | 0, s => s
  | k + 1, s => nx (itn nx k s)
theorem itn_add (nx : Int → Int) (s : Int) : ∀ a b : Nat, itn nx (a + b) s = itn nx a (itn nx b s)
  | 0, b => by rw [Nat.zero_add]; rfl
  | a + 1, b => by
    rw [show a + 1 + b = a + b + 1 by omega]
    show nx (itn nx (a + b) s) = nx (itn nx a (itn nx b s))
    rw [itn_add nx s a b]
theorem itn_in {nx : Int → Int} {n s : Int} (hn : ∀ j, 0 ≤ j → j < n → 0 ≤ nx j ∧ nx j < n) (s0 : 0 ≤ s) (s1 : s < n) : ∀ k : Nat, 0 ≤ itn nx k s ∧ itn nx k s < n
  | 0 => ⟨s0, s1⟩
  | k + 1 => by
    have h := itn_in hn s0 s1 k
    exact hn _ h.1 h.2
theorem itn_wrap {nx : Int → Int} {s : Int} {m i0 : Nat} (hi : i0 < m) (e : itn nx i0 s = itn nx m s) : ∀ x : Nat, ∃ i, i < m ∧ itn nx i s = itn nx x s
  | 0 => ⟨0, by omega, rfl⟩
  | x + 1 => by
    obtain ⟨i, h1, h2⟩ := itn_wrap hi e x
    by_cases hz : i + 1 < m
    · exact ⟨i + 1, hz, by show nx (itn nx i s) = nx (itn nx x s); rw [h2]⟩
    · refine ⟨i0, hi, ?_⟩
      rw [e, show m = i + 1 by omega]
      show nx (itn nx i s) = nx (itn nx x s)
      rw [h2]
theorem itn_fit {nx : Int → Int} {n s : Int} {m : Nat} (hn : ∀ j, 0 ≤ j → j < n → 0 ≤ nx j ∧ nx j < n) (s0 : 0 ≤ s) (s1 : s < n) (hI : ∀ i i' : Nat, i < i' → i' < m → itn nx i s ≠ itn nx i' s) : (m : Int) ≤ n := by
  refine pigeonI (f := fun i => itn nx i.toNat s) (by omega) (fun i i0 i1 => itn_in hn s0 s1 _) (fun i j i0 i1 j0 j1 e => ?_)
  have e' : itn nx i.toNat s = itn nx j.toNat s := e
  rcases Nat.lt_trichotomy i.toNat j.toNat with z | z | z
  · exact absurd e' (hI _ _ z (by omega))
  · omega
  · exact absurd e'.symm (hI _ _ z (by omega))
/-- colours and ends, some of them found -/
def EI (n : Int) (nx co eo : Int → Int) : Prop := ∀ j, 0 ≤ j → j < n → (co j ≠ 0 ↔ 0 ≤ eo j) ∧ (0 ≤ eo j → eo j < n ∧ eo (eo j) = eo j ∧ ∃ c : Nat, 1 ≤ c ∧ itn nx c (eo j) = eo j)
def WC (n s : Int) (nx co co1 : Int → Int) (m : Nat) : Prop := (∀ j, 0 ≤ j → j < n → (co1 j ≠ 0 ↔ (co j ≠ 0 ∨ ∃ i, i < m ∧ itn nx i s = j))) ∧ (∀ i, i < m → co (itn nx i s) = 0) ∧ ∀ i i' : Nat, i < i' → i' < m → itn nx i s ≠ itn nx i' s
theorem EI.step {n s l : Int} {nx co eo co1 eo1 : Int → Int} {m : Nat} (h : EI n nx co eo) (hn : ∀ j, 0 ≤ j → j < n → 0 ≤ nx j ∧ nx j < n) (s0 : 0 ≤ s) (s1 : s < n) (wc : WC n s nx co co1 m) (hk : co1 (itn nx m s) ≠ 0)
    (l1 : 0 ≤ eo (itn nx m s) → l = eo (itn nx m s)) (l2 : eo (itn nx m s) < 0 → ∃ u, l = itn nx u (itn nx m s)) (e1 : ∀ i, i < m → eo1 (itn nx i s) = l) (e2 : ∀ q, (∀ i, i < m → itn nx i s ≠ q) → eo1 q = eo q) : EI n nx co1 eo1 := by
  have hin := itn_in hn s0 s1
  -- one that has an end is not on the way
  have hoff : ∀ q, 0 ≤ q → q < n → 0 ≤ eo q → ∀ i, i < m → itn nx i s ≠ q := fun q q0 q1 hq i hi e => by
    have := (h q q0 q1).1.mpr hq
    rw [← e] at this
    exact this (wc.2.1 i hi)
  have hl : 0 ≤ l ∧ l < n ∧ eo1 l = l ∧ ∃ c : Nat, 1 ≤ c ∧ itn nx c l = l := by
    have km := hin m
    by_cases hz : 0 ≤ eo (itn nx m s)
    · have hx := h _ km.1 km.2
      obtain ⟨a1, a2, a3⟩ := hx.2 hz
      rw [l1 hz]
      refine ⟨hz, a1, ?_, a3⟩
      rw [e2 _ (hoff _ hz a1 (by rw [a2]; exact hz))]
      exact a2
    · obtain ⟨u, hu⟩ := l2 (by omega)
      have hc : ∃ i, i < m ∧ itn nx i s = itn nx m s := by
        rcases (wc.1 _ km.1 km.2).mp hk with z | z
        · exact absurd ((h _ km.1 km.2).1.mp z) hz
        · exact z
      obtain ⟨i0, hi0, ei0⟩ := hc
      have hur : l = itn nx (u + m) s := by rw [hu, ← itn_add]
      obtain ⟨i, hi, ei⟩ := itn_wrap hi0 ei0 (u + m)
      rw [← hur] at ei
      have hr := hin (u + m)
      rw [← hur] at hr
      refine ⟨hr.1, hr.2, ?_, m - i0, by omega, ?_⟩
      · have := e1 i hi
        rw [ei] at this
        exact this
      · rw [hu, ← itn_add, Nat.add_comm, itn_add]
        congr 1
        have : itn nx (m - i0) (itn nx i0 s) = itn nx m s := by rw [← itn_add, show m - i0 + i0 = m by omega]
        rw [ei0] at this
        exact this
  intro j j0 j1
  by_cases hp : ∃ i, i < m ∧ itn nx i s = j
  · obtain ⟨i, hi, ei⟩ := hp
    have ej : eo1 j = l := by rw [← ei]; exact e1 i hi
    rw [ej]
    exact ⟨⟨fun _ => hl.1, fun _ => (wc.1 j j0 j1).mpr (Or.inr ⟨i, hi, ei⟩)⟩, fun _ => hl.2⟩
  · have hne : ∀ i, i < m → itn nx i s ≠ j := fun i hi e => hp ⟨i, hi, e⟩
    rw [e2 j hne]
    refine ⟨?_, fun z => ?_⟩
    · rw [wc.1 j j0 j1, ← (h j j0 j1).1]
      exact ⟨fun z => z.elim id (fun y => absurd y hp), Or.inl⟩
    · obtain ⟨a1, a2, a3⟩ := (h j j0 j1).2 z
      refine ⟨a1, ?_, a3⟩
      rw [e2 _ (hoff _ z a1 (by rw [a2]; exact z))]
      exact a2
/-- all ends found -/
def EZ (n : Int) (nx eo : Int → Int) : Prop := ∀ j, 0 ≤ j → j < n → 0 ≤ eo j ∧ eo j < n ∧ eo (eo j) = eo j ∧ ∃ c : Nat, 1 ≤ c ∧ itn nx c (eo j) = eo j
theorem mfe1 (d : Nat) (h : mH) (sh : Sh h) (n s : Int) (n1 : n ≤ 20736) (s0 : 0 ≤ s) (s1 : s < n) (hn : ∀ j, 0 ≤ j → j < n → 0 ≤ hA h 58 j ∧ hA h 58 j < n) (x4 x5 : mV) (Q : Option mV → mH → Prop) (kq : ∀ (t : mH) (m9 : Nat), Fr [70] [] h t → WC n s (hA h 58) (hA h 70) (hA t 70) m9 → hA t 70 (itn (hA h 58) m9 s) ≠ 0 → Wp m_X6_fillEnds (d + 2) 95 [(2, 41), (0, n), (0, s), (0, (itn (hA h 58) m9 s)), x4, x5] [] t Q) : ∀ (m : Nat) (m9 : Nat) (h' : mH), n.toNat + 1 - m9 < m → (Fr [70] [] h h') → (WC n s (hA h 58) (hA h 70) (hA h' 70) m9) → Wp m_X6_fillEnds (d + 2) 67 [(2, 41), (0, n), (0, s), (0, (itn (hA h 58) m9 s)), x4, x5] [] h' Q := by
  intro m
  induction m with
  | zero => intro m9 h' hm; exact absurd hm (Nat.not_lt_zero _)
  | succ m ih =>
    intro m9 h' hm fr wc
    have sh' := sh.fr fr (by decide +kernel) (by decide)
    have e58 : hA h' 58 = hA h 58 := fr.2.2.2.2.2 58 (by decide)
    have hk := itn_in hn s0 s1 m9
    refine Wp.ald_n (j := 0) rfl dX6_fillEnds_67 ?_
    refine Wp.getf (k := 42) (tg := 2) kC6 (by decide) rfl lf_X6_106 dX6_fillEnds_68 (sK41 (h := h') sh') (sF41_42 (h := h') sh') ?_
    refine Wp.ild_n (j := 3) rfl dX6_fillEnds_71 ?_
    refine Wp.iaload dX6_fillEnds_72 (sK70 (h := h') sh') (by omega) (ilt (sL70 (h := h') sh') (by omega)) (show hA _ 70 _ = hA h' 70 _ from rfl) ?_
    refine Wp.ifne dX6_fillEnds_73 (by decide) (tgt := 95) (fun c73 => ?_) (fun c73 => ?_)
    · exact kq _ m9 fr wc c73
    · refine Wp.ald_n (j := 0) rfl dX6_fillEnds_76 ?_
      refine Wp.getf (k := 42) (tg := 2) kC6 (by decide) rfl lf_X6_106 dX6_fillEnds_77 (sK41 (h := h') sh') (sF41_42 (h := h') sh') ?_
      refine Wp.ild_n (j := 3) rfl dX6_fillEnds_80 ?_
      refine Wp.ild_n (j := 2) rfl dX6_fillEnds_81 ?_
      refine Wp.iconst dX6_fillEnds_82 (by decide) ?_
      refine Wp.iaddE dX6_fillEnds_83 (by first | exact w32_of (by omega) (by omega) | rfl) ?_
      refine Wp.iastore dX6_fillEnds_84 (sK70 (h := h') sh') (by omega) (ilt (sL70 (h := h') sh') (by omega)) ?_
      refine Wp.ald_n (j := 0) rfl dX6_fillEnds_85 ?_
      refine Wp.getf (k := 22) (tg := 2) kC6 (by decide) rfl lf_X6_69 dX6_fillEnds_86 (sK41 (h := h') sh') (sF41_22 (h := h') sh') ?_
      refine Wp.ild_n (j := 3) rfl dX6_fillEnds_89 ?_
      refine Wp.iaload dX6_fillEnds_90 (sK58 (h := h') sh') (by omega) (ilt (sL58 (h := h') sh') (by omega)) (show hA _ 58 _ = hA h 58 _ from congrFun e58 _) ?_
      refine sti_6_3 rfl (dSt_n dX6_fillEnds_91) ?_
      refine Wp.goto (tgt := 67) dX6_fillEnds_92 (by decide) ?_
      have hI : ∀ i i' : Nat, i < i' → i' < m9 + 1 → (itn (hA h 58) i s) ≠ (itn (hA h 58) i' s) := fun i i' hi hi' e => by
        by_cases z : i' < m9
        · exact wc.2.2 i i' hi z e
        · have ei : i' = m9 := by omega
          subst ei
          have := (wc.1 _ hk.1 hk.2).mpr (Or.inr ⟨i, hi, e⟩)
          exact this c73
      have hft := itn_fit hn s0 s1 hI
      refine ih (m9 + 1) _ (by omega) (fr.tr (Fr.e (by decide))) ⟨fun j j0 j1 => ?_, fun i hi => ?_, hI⟩
      · rw [hA_sEs]
        by_cases e : j = (itn (hA h 58) m9 s)
        · rw [e, u1_s]
          exact ⟨fun _ => Or.inr ⟨m9, by omega, rfl⟩, fun _ => by omega⟩
        · rw [u1_n _ _ e, wc.1 j j0 j1]
          exact ⟨fun z => z.imp id (fun ⟨i, hi, ei⟩ => ⟨i, by omega, ei⟩), fun z => z.imp id (fun ⟨i, hi, ei⟩ => ⟨i, by
            by_cases q : i = m9
            · rw [q] at ei
              exact absurd ei.symm e
            · omega, ei⟩)⟩
      · by_cases q : i = m9
        · rw [q]
          by_cases z : hA h 70 (itn (hA h 58) m9 s) = 0
          · exact z
          · exact absurd c73 ((wc.1 _ hk.1 hk.2).mpr (Or.inl z))
        · exact wc.2.1 i (by omega)

theorem mfe3 (d : Nat) (h : mH) (sh : Sh h) (n s : Int) (n1 : n ≤ 20736) (s0 : 0 ≤ s) (s1 : s < n) (hn : ∀ j, 0 ≤ j → j < n → 0 ≤ hA h 58 j ∧ hA h 58 j < n) (k l : Int) (m9 : Nat) (l0 : 0 ≤ l) (co : Int → Int) (ei : ∀ i, i < m9 → hA h 59 (itn (hA h 58) i s) < 0) (hI : ∀ i i' : Nat, i < i' → i' < m9 → (itn (hA h 58) i s) ≠ (itn (hA h 58) i' s)) (hK9 : (∃ i, i < m9 ∧ (itn (hA h 58) i s) = (itn (hA h 58) m9 s)) ∨ 0 ≤ hA h 59 (itn (hA h 58) m9 s)) (Q : Option mV → mH → Prop) (kq : ∀ (t : mH) (j : Int), Fr [59] [] h t → (∀ i, i < m9 → hA t 59 (itn (hA h 58) i s) = l) → (∀ q, (∀ i, i < m9 → (itn (hA h 58) i s) ≠ q) → hA t 59 q = hA h 59 q) → Wp m_X6_fillEnds (d + 2) 180 [(2, 41), (0, n), (0, s), (0, k), (0, l), (0, j)] [] t Q) : ∀ (m : Nat) (u : Nat) (h' : mH), m9 - u < m → (Fr [59] [] h h') → (u ≤ m9) → (∀ i, i < u → hA h' 59 (itn (hA h 58) i s) = l) → (∀ q, (∀ i, i < u → (itn (hA h 58) i s) ≠ q) → hA h' 59 q = hA h 59 q) → Wp m_X6_fillEnds (d + 2) 149 [(2, 41), (0, n), (0, s), (0, k), (0, l), (0, (itn (hA h 58) u s))] [] h' Q := by
  intro m
  induction m with
  | zero => intro u h' hm; exact absurd hm (Nat.not_lt_zero _)
  | succ m ih =>
    intro u h' hm fr u1 w1 w2
    have sh' := sh.fr fr (by decide +kernel) (by decide)
    have e58 : hA h' 58 = hA h 58 := fr.2.2.2.2.2 58 (by decide)
    have hk := itn_in hn s0 s1 u
    refine Wp.ald_n (j := 0) rfl dX6_fillEnds_149 ?_
    refine Wp.getf (k := 23) (tg := 2) kC6 (by decide) rfl lf_X6_72 dX6_fillEnds_150 (sK41 (h := h') sh') (sF41_23 (h := h') sh') ?_
    refine Wp.ild (j := 5) rfl dX6_fillEnds_153 ?_
    refine Wp.iaload dX6_fillEnds_155 (sK59 (h := h') sh') (by omega) (ilt (sL59 (h := h') sh') (by omega)) (show hA _ 59 _ = hA h' 59 _ from rfl) ?_
    refine Wp.ifge dX6_fillEnds_156 (by decide) (tgt := 180) (fun c156 => ?_) (fun c156 => ?_)
    · have hum : u = m9 := by
        by_cases z : u = m9
        · exact z
        · have h1 := w2 (itn (hA h 58) u s) (fun i hi => hI i u hi (by omega))
          have h2 := ei u (by omega)
          omega
      subst hum
      exact kq _ _ fr w1 w2
    · refine Wp.ald_n (j := 0) rfl dX6_fillEnds_159 ?_
      refine Wp.getf (k := 23) (tg := 2) kC6 (by decide) rfl lf_X6_72 dX6_fillEnds_160 (sK41 (h := h') sh') (sF41_23 (h := h') sh') ?_
      refine Wp.ild (j := 5) rfl dX6_fillEnds_163 ?_
      refine Wp.ild (j := 4) rfl dX6_fillEnds_165 ?_
      refine Wp.iastore dX6_fillEnds_167 (sK59 (h := h') sh') (by omega) (ilt (sL59 (h := h') sh') (by omega)) ?_
      refine Wp.ald_n (j := 0) rfl dX6_fillEnds_168 ?_
      refine Wp.getf (k := 22) (tg := 2) kC6 (by decide) rfl lf_X6_69 dX6_fillEnds_169 (sK41 (h := h') sh') (sF41_22 (h := h') sh') ?_
      refine Wp.ild (j := 5) rfl dX6_fillEnds_172 ?_
      refine Wp.iaload dX6_fillEnds_174 (sK58 (h := h') sh') (by omega) (ilt (sL58 (h := h') sh') (by omega)) (show hA _ 58 _ = hA h 58 _ from congrFun e58 _) ?_
      refine sti_6_5 rfl (dSt_w dX6_fillEnds_175) ?_
      refine Wp.goto (tgt := 149) dX6_fillEnds_177 (by decide) ?_
      have hum : u ≠ m9 := fun e => by
        subst e
        rcases hK9 with ⟨i, hi, ej⟩ | z
        · have := w1 i hi
          rw [ej] at this
          omega
        · by_cases hp : ∃ i, i < u ∧ (itn (hA h 58) i s) = (itn (hA h 58) u s)
          · obtain ⟨i, hi, ej⟩ := hp
            have := w1 i hi
            rw [ej] at this
            omega
          · have := w2 (itn (hA h 58) u s) (fun i hi e => hp ⟨i, hi, e⟩)
            omega
      refine ih (u + 1) _ (by omega) (fr.tr (Fr.e (by decide))) (by omega) (fun i hi => ?_) (fun q hq => ?_)
      · rw [hA_sEs]
        by_cases e : i = u
        · rw [e, u1_s]
        · rw [u1_n _ _ (hI i u (by omega) (by omega))]
          exact w1 i (by omega)
      · rw [hA_sEs, u1_n _ _ (fun e => hq u (by omega) e.symm)]
        exact w2 q (fun i hi => hq i (by omega))

