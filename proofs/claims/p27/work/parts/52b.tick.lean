/-! the reference's line behind a tick, its rows and tallies behind k ticks -/
def mF9 (m : mCf) (f : Int → Int) : mS := mo m 26 0 (ml2 m 25 0 (mst m (cutF m.1.1 f)))
theorem mF9_eq {c : mCf} {f g : Int → Int} (h : ∀ j, 0 ≤ j → j < c.1.1 → f j = g j) : mF9 c f = mF9 c g := by
  unfold mF9
  rw [cutF_eq h]
def mI9 (m : mCf) (f : Int → Int) : Nat → Int → Int
  | 0 => f
  | k + 1 => mT m (mI9 m f k)
def mB9 (m : mCf) (f g : Int → Int) : Nat → Int → Int
  | 0 => g
  | k + 1 => fun j => w64 (mB9 m f g k j + (if (mF9 m (mI9 m f k)).2.2.2 j = 0 then 0 else 1))
/-- who has beaten: the first k of a line -/
def TAM (g ln : Int → Int) (k n : Int) : Prop := ∀ j, 0 ≤ j → j < n → ((∃ i, 0 ≤ i ∧ i < k ∧ ln i = j) → g j = 1) ∧ ((¬ ∃ i, 0 ≤ i ∧ i < k ∧ ln i = j) → g j = 0)
theorem TAM.zero {g ln : Int → Int} {n : Int} (h : ∀ j, 0 ≤ j → j < n → g j = 0) : TAM g ln 0 n := fun j j0 j1 => ⟨fun ⟨i, i0, i1, _⟩ => by omega, fun _ => h j j0 j1⟩
theorem TAM.step {g ln ln' : Int → Int} {k n : Int} (h : TAM g ln k n) (k0 : 0 ≤ k) (pre : ∀ i, 0 ≤ i → i < k + 1 → ln' i = ln i) : TAM (u1 g (ln k) 1) ln' (k + 1) n := by
  intro j j0 j1
  by_cases e : j = ln k
  · rw [e, u1_s]
    exact ⟨fun _ => rfl, fun z => absurd ⟨k, k0, by omega, pre k k0 (by omega)⟩ z⟩
  · rw [u1_n _ _ e]
    refine ⟨fun ⟨i, i0, i1, q⟩ => (h j j0 j1).1 ⟨i, i0, ?_, (pre i i0 i1).symm.trans q⟩, fun z => (h j j0 j1).2 (fun ⟨i, i0, i1, q⟩ => z ⟨i, i0, by omega, (pre i i0 (by omega)).trans q⟩)⟩
    rw [pre i i0 i1] at q
    by_cases y : i = k
    · rw [y] at q
      exact absurd q.symm e
    · omega
theorem TAM.fin {g ln L : Int → Int} {n last : Int} (h : TAM g ln last n) (h1 : ∀ i, 0 ≤ i → i < last → L (ln i) ≠ 0) (h2 : ∀ j, 0 ≤ j → j < n → L j ≠ 0 → ∃ i, 0 ≤ i ∧ i < last ∧ ln i = j) : ∀ j, 0 ≤ j → j < n → (g j ≠ 0 ↔ L j ≠ 0) := by
  intro j j0 j1
  refine ⟨fun z => ?_, fun z => ?_⟩
  · refine Classical.byContradiction (fun y => z ((h j j0 j1).2 (fun ⟨i, i0, i1, q⟩ => y (by rw [← q]; exact h1 i i0 i1))))
  · rw [(h j j0 j1).1 (h2 j j0 j1 z)]
    decide
theorem mi1_pre {c : mCf} {b k : Int} {s : mS} : s.1 ≤ (mi1 c b k s).1 ∧ ∀ i, i < s.1 → (mi1 c b k s).2.1 i = s.2.1 i := by
  unfold mi1
  split
  · exact ⟨Int.le_refl _, fun _ _ => rfl⟩
  · split
    · exact ⟨Int.le_refl _, fun _ _ => rfl⟩
    · split
      · exact ⟨Int.le_refl _, fun _ _ => rfl⟩
      · split
        · exact ⟨Int.le_refl _, fun _ _ => rfl⟩
        · exact ⟨by show s.1 ≤ s.1 + 1; omega, fun i hi => u1_n _ _ (by omega)⟩
theorem mi3_pre {c : mCf} {b : Int} : ∀ (q : Nat) (k : Int) (s : mS), s.1 ≤ (mi3 c b q k s).1 ∧ ∀ i, i < s.1 → (mi3 c b q k s).2.1 i = s.2.1 i
  | 0, _, _ => ⟨Int.le_refl _, fun _ _ => rfl⟩
  | q + 1, k, s => by
    unfold mi3
    split
    · have h1 := mi1_pre (c := c) (b := b) (k := k) (s := s)
      have h2 := mi3_pre (c := c) (b := b) q (k + 1) (mi1 c b k s)
      exact ⟨Int.le_trans h1.1 h2.1, fun i hi => (h2.2 i (by omega)).trans (h1.2 i hi)⟩
    · exact ⟨Int.le_refl _, fun _ _ => rfl⟩
theorem tickB_l1 (d : Nat) (h : mH) (sh : Sh h) (mb : MB h) (ra : Int) (kr : hK h ra = 10) (lr : hL h ra = 24) (hra : ra ∉ [1, 45, 47, 49, 50, 51, 52, 53]) (hr : ∀ j, 0 ≤ j → j < hF h 41 6 → 0 ≤ hA h ra j ∧ hA h ra j < hF h 41 5) (Q : Option mV → mH → Prop) (kq : ∀ (t : mH) (a : Int), Fr [50, 51, 52, 53] [] h t → (∀ j, 0 ≤ j → j < hF h 41 6 → hA t 50 j = mg (mcf h) (cutF (hF h 41 6) (hA h ra)) j) → (∀ j, 0 ≤ j → j < hF h 41 6 → hA t 52 j = 0) → (∀ j, 0 ≤ j → j < hF h 41 6 → hA t 53 j = 0) → Wp m_X6_tick (d + 1) 83 [(2, 41), (2, ra), (0, a), (9, 0), (9, 0), (9, 0)] [] t Q) : ∀ (m : Nat) (a : Int) (h' : mH), (hF h 41 6 - a).toNat < m → (0 ≤ a) → (Fr [50, 51, 52, 53] [] h h') → (∀ j, 0 ≤ j → j < a → hA h' 50 j = mg (mcf h) (cutF (hF h 41 6) (hA h ra)) j) → (∀ j, 0 ≤ j → j < a → hA h' 52 j = 0) → (∀ j, 0 ≤ j → j < a → hA h' 53 j = 0) → Wp m_X6_tick (d + 1) 2 [(2, 41), (2, ra), (0, a), (9, 0), (9, 0), (9, 0)] [] h' Q := by
  intro m
  induction m with
  | zero => intro a h' hm; exact absurd hm (Nat.not_lt_zero _)
  | succ m ih =>
    intro a h' hm a0 fr hj hi hb53
    obtain ⟨⟨r0, r1⟩, ⟨n0, n1⟩, ⟨m0, m1⟩, hp, hq⟩ := id mb
    obtain ⟨q1, q45, q47, q49, q50, q51, q52, q53⟩ : ra ≠ 1 ∧ ra ≠ 45 ∧ ra ≠ 47 ∧ ra ≠ 49 ∧ ra ≠ 50 ∧ ra ≠ 51 ∧ ra ≠ 52 ∧ ra ≠ 53 := by simpa using hra
    have sh' := sh.fr fr (by decide +kernel) (by decide)
    have e5 : hF h' 41 5 = hF h 41 5 := fr.2.2.2.2.1 41 5 (by simp)
    have e6 : hF h' 41 6 = hF h 41 6 := fr.2.2.2.2.1 41 6 (by simp)
    have e8 : hF h' 41 8 = hF h 41 8 := fr.2.2.2.2.1 41 8 (by simp)
    have e45 : hA h' 45 = hA h 45 := fr.2.2.2.2.2 45 (by simp)
    have e47 : hA h' 47 = hA h 47 := fr.2.2.2.2.2 47 (by simp)
    have e49 : hA h' 49 = hA h 49 := fr.2.2.2.2.2 49 (by simp)
    have kr' : hK h' ra = 10 := by rw [fr.2.2.1]; exact kr
    have lr' : hL h' ra = 24 := by rw [fr.2.2.2.1]; exact lr
    have er : hA h' ra = hA h ra := fr.2.2.2.2.2 ra (by simp; omega)
    have ef : ∀ j, 0 ≤ j → j < hF h 41 6 → hA h' ra j = (cutF (hF h 41 6) (hA h ra)) j := fun j j0 j1 => by rw [er, cutF_in j0 j1]
    have hfb := fun (z : a < hF h 41 6) => (by rw [cutF_in a0 z]; exact hr a a0 z : 0 ≤ (cutF (hF h 41 6) (hA h ra)) a ∧ (cutF (hF h 41 6) (hA h ra)) a < hF h 41 5)
    refine Wp.ild_n (j := 2) rfl dX6_tick_2 ?_
    refine Wp.ald_n (j := 0) rfl dX6_tick_3 ?_
    refine Wp.getf (k := 6) (tg := 0) kC6 (by decide) rfl lf_X6_141 dX6_tick_4 (sK41 (h := h') sh') e6 ?_
    refine Wp.icge dX6_tick_7 (by decide) (tgt := 83) (fun c7 => ?_) (fun c7 => ?_)
    · exact kq h' a fr (fun j j0 j1 => hj j j0 (by omega)) (fun j j0 j1 => hi j j0 (by omega)) (fun j j0 j1 => hb53 j j0 (by omega))
    · refine Wp.ald_n (j := 0) rfl dX6_tick_10 ?_
      refine Wp.getf (k := 16) (tg := 2) kC6 (by decide) rfl lf_X6_51 dX6_tick_11 (sK41 (h := h') sh') (sF41_16 (h := h') sh') ?_
      refine Wp.ild_n (j := 2) rfl dX6_tick_14 ?_
      refine Wp.iconst dX6_tick_15 (by decide) ?_
      refine Wp.zastore dX6_tick_16 (sK52 (h := h') sh') (by omega) (ilt (sL52 (h := h') sh') (by omega)) (by omega) ?_
      refine Wp.ald_n (j := 0) rfl dX6_tick_17 ?_
      refine Wp.getf (k := 17) (tg := 2) kC6 (by decide) rfl lf_X6_54 dX6_tick_18 (sK41 (h := h') sh') (sF41_17 (h := h') sh') ?_
      refine Wp.ild_n (j := 2) rfl dX6_tick_21 ?_
      refine Wp.iconst dX6_tick_22 (by decide) ?_
      refine Wp.zastore dX6_tick_23 (sK53 (h := h') sh') (by omega) (ilt (sL53 (h := h') sh') (by omega)) (by omega) ?_
      refine Wp.ald_n (j := 0) rfl dX6_tick_24 ?_
      refine Wp.getf (k := 14) (tg := 2) kC6 (by decide) rfl lf_X6_45 dX6_tick_25 (sK41 (h := h') sh') (sF41_14 (h := h') sh') ?_
      refine Wp.ild_n (j := 2) rfl dX6_tick_28 ?_
      refine Wp.ald_n (j := 0) rfl dX6_tick_29 ?_
      refine Wp.getf (k := 9) (tg := 2) kC6 (by decide) rfl lf_X6_29 dX6_tick_30 (sK41 (h := h') sh') (sF41_9 (h := h') sh') ?_
      refine Wp.ild_n (j := 2) rfl dX6_tick_33 ?_
      refine Wp.iaload dX6_tick_34 (sK45 (h := h') sh') (by omega) (ilt (sL45 (h := h') sh') (by omega)) (show hA _ 45 _ = hA h 45 _ from congrFun e45 _) ?_
      refine Wp.iconst dX6_tick_35 (by decide) ?_
      refine Wp.icne dX6_tick_36 (by decide) (tgt := 48) (fun c36 => ?_) (fun c36 => ?_)
      · refine Wp.ald_n (j := 0) rfl dX6_tick_48 ?_
        refine Wp.getf (k := 9) (tg := 2) kC6 (by decide) rfl lf_X6_29 dX6_tick_49 (sK41 (h := h') sh') (sF41_9 (h := h') sh') ?_
        refine Wp.ild_n (j := 2) rfl dX6_tick_52 ?_
        refine Wp.iaload dX6_tick_53 (sK45 (h := h') sh') (by omega) (ilt (sL45 (h := h') sh') (by omega)) (show hA _ 45 _ = hA h 45 _ from congrFun e45 _) ?_
        refine Wp.iconst dX6_tick_54 (by decide) ?_
        refine Wp.icne dX6_tick_55 (by decide) (tgt := 66) (fun c55 => ?_) (fun c55 => ?_)
        · have hfb := hfb (by omega)
          refine Wp.ald_n (j := 1) rfl dX6_tick_66 ?_
          refine Wp.ild_n (j := 2) rfl dX6_tick_67 ?_
          refine Wp.iaload dX6_tick_68 kr' (by omega) (ilt lr' (by omega)) ((congrFun (hA_sEn (h := sE h' 52 a 0) (a := 53) (i := a) (v := 0) q53) a).trans ((congrFun (hA_sEn (h := h') (a := 52) (i := a) (v := 0) q52) a).trans (ef a a0 (by omega)))) ?_
          refine Wp.iconst dX6_tick_69 (by decide) ?_
          refine Wp.iaddE dX6_tick_70 (by first | exact w32_of (by omega) (by omega) | rfl) ?_
          refine Wp.ald_n (j := 0) rfl dX6_tick_71 ?_
          refine Wp.getf (k := 5) (tg := 0) kC6 (by decide) rfl lf_X6_22 dX6_tick_72 (sK41 (h := h') sh') e5 ?_
          refine Wp.iremE dX6_tick_75 (by omega) rfl ?_
          refine Wp.iastore dX6_tick_76 (sK50 (h := h') sh') (by omega) (ilt (sL50 (h := h') sh') (by omega)) ?_
          refine inc_6_2 rfl dX6_tick_77 (by first | exact w32_of (by omega) (by omega) | rfl) ?_
          refine Wp.goto (tgt := 2) dX6_tick_80 (by decide) ?_
          refine ih (a + 1) _ (by omega) (by omega) (fr.tr (((Fr.e (by simp)).tr (Fr.e (by simp))).tr (Fr.e (by simp)))) (fun j j0 j1 => ?_) (fun j j0 j1 => ?_) (fun j j0 j1 => ?_)
          · rw [hA_sEs]
            by_cases e : j = a
            · rw [e, u1_s]
              unfold mg
              rw [if_neg (show ¬ (mcf h).2.1 a = 1 from c36), if_neg (show ¬ (mcf h).2.1 a = 2 from c55)]; rfl
            · rw [u1_n _ _ e]
              exact hj j j0 (by omega)
          · show u1 (hA h' 52) a 0 j = 0
            by_cases e : j = a
            · rw [e, u1_s]
            · rw [u1_n _ _ e]
              exact hi j j0 (by omega)
          · show u1 (hA h' 53) a 0 j = 0
            by_cases e : j = a
            · rw [e, u1_s]
            · rw [u1_n _ _ e]
              exact hb53 j j0 (by omega)
        · have hfb := hfb (by omega)
          refine Wp.ald_n (j := 1) rfl dX6_tick_58 ?_
          refine Wp.ild_n (j := 2) rfl dX6_tick_59 ?_
          refine Wp.iaload dX6_tick_60 kr' (by omega) (ilt lr' (by omega)) ((congrFun (hA_sEn (h := sE h' 52 a 0) (a := 53) (i := a) (v := 0) q53) a).trans ((congrFun (hA_sEn (h := h') (a := 52) (i := a) (v := 0) q52) a).trans (ef a a0 (by omega)))) ?_
          refine Wp.iconst dX6_tick_61 (by decide) ?_
          refine Wp.iaddE dX6_tick_62 (by first | exact w32_of (by omega) (by omega) | rfl) ?_
          refine Wp.goto (tgt := 76) dX6_tick_63 (by decide) ?_
          refine Wp.iastore dX6_tick_76 (sK50 (h := h') sh') (by omega) (ilt (sL50 (h := h') sh') (by omega)) ?_
          refine inc_6_2 rfl dX6_tick_77 (by first | exact w32_of (by omega) (by omega) | rfl) ?_
          refine Wp.goto (tgt := 2) dX6_tick_80 (by decide) ?_
          refine ih (a + 1) _ (by omega) (by omega) (fr.tr (((Fr.e (by simp)).tr (Fr.e (by simp))).tr (Fr.e (by simp)))) (fun j j0 j1 => ?_) (fun j j0 j1 => ?_) (fun j j0 j1 => ?_)
          · rw [hA_sEs]
            by_cases e : j = a
            · rw [e, u1_s]
              unfold mg
              rw [if_neg (show ¬ (mcf h).2.1 a = 1 from c36), if_pos (show (mcf h).2.1 a = 2 from c55)]
            · rw [u1_n _ _ e]
              exact hj j j0 (by omega)
          · show u1 (hA h' 52) a 0 j = 0
            by_cases e : j = a
            · rw [e, u1_s]
            · rw [u1_n _ _ e]
              exact hi j j0 (by omega)
          · show u1 (hA h' 53) a 0 j = 0
            by_cases e : j = a
            · rw [e, u1_s]
            · rw [u1_n _ _ e]
              exact hb53 j j0 (by omega)
      · refine Wp.ald_n (j := 0) rfl dX6_tick_39 ?_
        refine Wp.ald_n (j := 1) rfl dX6_tick_40 ?_
        refine Wp.ild_n (j := 2) rfl dX6_tick_41 ?_
        have fx : Fr [50, 51, 52, 53] [] h (sE (sE h' 52 a 0) 53 a 0) := fr.tr ((Fr.e (by simp)).tr (Fr.e (by simp)))
        have hex : hA (sE (sE h' 52 a 0) 53 a 0) ra = hA h ra := fx.2.2.2.2.2 ra (by simp; omega)
        have mcx : mcf (sE (sE h' 52 a 0) 53 a 0) = mcf h := mcf_fr fx (by decide) (by decide) (by decide) (by decide) (by decide) (by decide)
        have ct42 := ct_pulled d (sE (sE h' 52 a 0) 53 a 0) (sh.fr fx (by decide +kernel) (by decide)) (mb.fr fx (by decide) (by decide) (by decide) (by decide) (by decide)) ra kr' lr' (fun j j0 j1 => by rw [hex]; exact (show 0 ≤ hA h ra j ∧ hA h ra j < hF h' 41 5 by rw [e5]; exact hr j j0 (by rw [← e6]; exact j1))) a a0 (show a < hF h' 41 6 by omega)
        rw [mcx, hex] at ct42
        have mpx : mpv (mcf h) (hA h ra) a = mpv (mcf h) (cutF (hF h 41 6) (hA h ra)) a := mpv_eq (fun k k0 k1 => (cutF_in k0 k1).symm) a0 (show a < hF h 41 6 by omega)
        refine Wp.callV1 (ct42) wc_X6_162 iM_X6_pulled se_X6_pulled kC6 (sK41 (h := h') sh') dX6_tick_42 rfl (Nat.le_of_ble_eq_true rfl) rfl (Nat.le_of_ble_eq_true rfl) ?_
        refine Wp.goto (tgt := 76) dX6_tick_45 (by decide) ?_
        refine Wp.iastore dX6_tick_76 (sK50 (h := h') sh') (by omega) (ilt (sL50 (h := h') sh') (by omega)) ?_
        refine inc_6_2 rfl dX6_tick_77 (by first | exact w32_of (by omega) (by omega) | rfl) ?_
        refine Wp.goto (tgt := 2) dX6_tick_80 (by decide) ?_
        refine ih (a + 1) _ (by omega) (by omega) (fr.tr (((Fr.e (by simp)).tr (Fr.e (by simp))).tr (Fr.e (by simp)))) (fun j j0 j1 => ?_) (fun j j0 j1 => ?_) (fun j j0 j1 => ?_)
        · rw [hA_sEs]
          by_cases e : j = a
          · rw [e, u1_s]
            unfold mg
            rw [if_pos (show (mcf h).2.1 a = 1 from c36), mpx]
          · rw [u1_n _ _ e]
            exact hj j j0 (by omega)
        · show u1 (hA h' 52) a 0 j = 0
          by_cases e : j = a
          · rw [e, u1_s]
          · rw [u1_n _ _ e]
            exact hi j j0 (by omega)
        · show u1 (hA h' 53) a 0 j = 0
          by_cases e : j = a
          · rw [e, u1_s]
          · rw [u1_n _ _ e]
            exact hb53 j j0 (by omega)

theorem tickB_l2 (d : Nat) (h : mH) (sh : Sh h) (mb : MB h) (ra : Int) (kr : hK h ra = 10) (lr : hL h ra = 24) (hra : ra ∉ [1, 45, 47, 49, 50, 51, 52, 53]) (hr : ∀ j, 0 ≤ j → j < hF h 41 6 → 0 ≤ hA h ra j ∧ hA h ra j < hF h 41 5) (F : mS) (Q : Option mV → mH → Prop) (kq : ∀ (t : mH) (a : Int), Fr [50, 51, 52, 53] [] h t → (∀ j, 0 ≤ j → j < hF h 41 6 → hA t 53 j = 0) → LR (hF h 41 6) t F → LN (hF h 41 6) (hF h 41 5) (hF h 41 6) 0 F → Wp m_X6_tick (d + 1) 144 [(2, 41), (2, ra), (0, F.1), (0, a), (9, 0), (9, 0)] [] t Q) : ∀ (m : Nat) (a : Int) (s : mS) (h' : mH), (hF h 41 6 - a).toNat < m → (0 ≤ a) → (a ≤ hF h 41 6) → (Fr [50, 51, 52, 53] [] h h') → (∀ j, 0 ≤ j → j < hF h 41 6 → hA h' 53 j = 0) → (LR (hF h 41 6) h' s) → (LN (hF h 41 6) (hF h 41 5) a 0 s) → (s.2.2.1 = mg (mcf h) (cutF (hF h 41 6) (hA h ra))) → (∀ j, a ≤ j → s.2.2.2 j = 0) → (ml2 (mcf h) m a s = F) → Wp m_X6_tick (d + 1) 87 [(2, 41), (2, ra), (0, s.1), (0, a), (9, 0), (9, 0)] [] h' Q := by
  intro m
  induction m with
  | zero => intro a s h' hm; exact absurd hm (Nat.not_lt_zero _)
  | succ m ih =>
    intro a s h' hm a0 a1 fr b53 rl ln et ei eF
    obtain ⟨⟨r0, r1⟩, ⟨n0, n1⟩, ⟨m0, m1⟩, hp, hq⟩ := id mb
    obtain ⟨q1, q45, q47, q49, q50, q51, q52, q53⟩ : ra ≠ 1 ∧ ra ≠ 45 ∧ ra ≠ 47 ∧ ra ≠ 49 ∧ ra ≠ 50 ∧ ra ≠ 51 ∧ ra ≠ 52 ∧ ra ≠ 53 := by simpa using hra
    have sh' := sh.fr fr (by decide +kernel) (by decide)
    have e5 : hF h' 41 5 = hF h 41 5 := fr.2.2.2.2.1 41 5 (by simp)
    have e6 : hF h' 41 6 = hF h 41 6 := fr.2.2.2.2.1 41 6 (by simp)
    have e8 : hF h' 41 8 = hF h 41 8 := fr.2.2.2.2.1 41 8 (by simp)
    have e45 : hA h' 45 = hA h 45 := fr.2.2.2.2.2 45 (by simp)
    have e47 : hA h' 47 = hA h 47 := fr.2.2.2.2.2 47 (by simp)
    have e49 : hA h' 49 = hA h 49 := fr.2.2.2.2.2 49 (by simp)
    have kr' : hK h' ra = 10 := by rw [fr.2.2.1]; exact kr
    have lr' : hL h' ra = 24 := by rw [fr.2.2.2.1]; exact lr
    have hgb := fun (z : a < hF h 41 6) => mg_bd (c := mcf h) (f := (cutF (hF h 41 6) (hA h ra))) (a := a) r0 r1 (by rw [cutF_in a0 z]; exact hr a a0 z)
    have s10 := ln.1.2
    refine Wp.ild_n (j := 3) rfl dX6_tick_87 ?_
    refine Wp.ald_n (j := 0) rfl dX6_tick_88 ?_
    refine Wp.getf (k := 6) (tg := 0) kC6 (by decide) rfl lf_X6_141 dX6_tick_89 (sK41 (h := h') sh') e6 ?_
    refine Wp.icge dX6_tick_92 (by decide) (tgt := 144) (fun c92 => ?_) (fun c92 => ?_)
    · have hu : ml2 (mcf h) (m + 1) a s = s := if_neg (show ¬ a < hF h 41 6 by omega)
      rw [hu] at eF
      have ea : a = hF h 41 6 := by omega
      subst eF
      rw [ea] at ln
      exact kq h' a fr b53 rl ln
    · have hgb := hgb (by omega)
      have hrm := ln.room (ei a (by omega)) a0 (by omega)
      refine Wp.ald_n (j := 0) rfl dX6_tick_95 ?_
      refine Wp.getf (k := 9) (tg := 2) kC6 (by decide) rfl lf_X6_29 dX6_tick_96 (sK41 (h := h') sh') (sF41_9 (h := h') sh') ?_
      refine Wp.ild_n (j := 3) rfl dX6_tick_99 ?_
      refine Wp.iaload dX6_tick_100 (sK45 (h := h') sh') (by omega) (ilt (sL45 (h := h') sh') (by omega)) (show hA _ 45 _ = hA h 45 _ from congrFun e45 _) ?_
      refine Wp.iconst dX6_tick_101 (by decide) ?_
      refine Wp.icne dX6_tick_102 (by decide) (tgt := 138) (fun c102 => ?_) (fun c102 => ?_)
      · refine inc_6_3 rfl dX6_tick_138 (by first | exact w32_of (by omega) (by omega) | rfl) ?_
        refine Wp.goto (tgt := 87) dX6_tick_141 (by decide) ?_
        have hu : ml2 (mcf h) (m + 1) a s = ml2 (mcf h) m (a + 1) (if hA h 45 a = 2 ∧ hF h 41 5 ≤ s.2.2.1 a then (s.1 + 1, u1 s.2.1 s.1 a, s.2.2.1, u1 s.2.2.2 a 1) else s) := if_pos (show a < hF h 41 6 by omega)
        rw [hu] at eF
        first
        | (rw [if_neg (fun z => c102 z.1)] at eF
           refine ih (a + 1) s h' (by omega) (by omega) (by omega) fr b53 rl ?_ et (fun j z => ei j (by omega)) eF
           refine ⟨ln.1, fun j j0 j1 => ⟨(ln.2.1 j j0 j1).1, (ln.2.1 j j0 j1).2.1, fun z y => ?_⟩, ln.2.2⟩
           by_cases e : j = a
           · rw [e, et]
             exact hgb.2.2 c102
           · exact (ln.2.1 j j0 j1).2.2 z (by omega))
        | (rw [if_neg (fun z => absurd z.2 (by omega))] at eF
           refine ih (a + 1) s h' (by omega) (by omega) (by omega) fr b53 rl ?_ et (fun j z => ei j (by omega)) eF
           refine ⟨ln.1, fun j j0 j1 => ⟨(ln.2.1 j j0 j1).1, (ln.2.1 j j0 j1).2.1, fun z y => ?_⟩, ln.2.2⟩
           by_cases e : j = a
           · rw [e]
             omega
           · exact (ln.2.1 j j0 j1).2.2 z (by omega))
        | (rw [if_pos ⟨c102, c115⟩] at eF
           have hx := ln.app (m' := a + 1) (a := a) (v := s.2.2.1 a) (ei a (by omega)) a0 (by omega) (ln.2.1 a a0 (by omega)).1 (ln.2.1 a a0 (by omega)).2.1 ln.1.2 (fun j j0 j1 j2 => by omega)
           rw [show u1 s.2.2.1 a (s.2.2.1 a) = s.2.2.1 from by
             funext j
             unfold u1
             split
             · rename_i e
               rw [e]
             · rfl] at hx
           refine ih (a + 1) (s.1 + 1, u1 s.2.1 s.1 a, s.2.2.1, u1 s.2.2.2 a 1) _ (by omega) (by omega) (by omega) (fr.tr ((Fr.e (by simp)).tr (Fr.e (by simp)))) b53 rl.app hx et (fun j z => ?_) eF
           show u1 s.2.2.2 a 1 j = 0
           rw [u1_n _ _ (by omega)]
           exact ei j (by omega))
      · refine Wp.ald_n (j := 0) rfl dX6_tick_105 ?_
        refine Wp.getf (k := 14) (tg := 2) kC6 (by decide) rfl lf_X6_45 dX6_tick_106 (sK41 (h := h') sh') (sF41_14 (h := h') sh') ?_
        refine Wp.ild_n (j := 3) rfl dX6_tick_109 ?_
        refine Wp.iaload dX6_tick_110 (sK50 (h := h') sh') (by omega) (ilt (sL50 (h := h') sh') (by omega)) (rl.1 a a0 (by omega)) ?_
        refine Wp.ald_n (j := 0) rfl dX6_tick_111 ?_
        refine Wp.getf (k := 5) (tg := 0) kC6 (by decide) rfl lf_X6_22 dX6_tick_112 (sK41 (h := h') sh') e5 ?_
        refine Wp.icge dX6_tick_115 (by decide) (tgt := 121) (fun c115 => ?_) (fun c115 => ?_)
        · refine Wp.ald_n (j := 0) rfl dX6_tick_121 ?_
          refine Wp.getf (k := 15) (tg := 2) kC6 (by decide) rfl lf_X6_48 dX6_tick_122 (sK41 (h := h') sh') (sF41_15 (h := h') sh') ?_
          refine Wp.ild_n (j := 2) rfl dX6_tick_125 ?_
          refine Wp.ild_n (j := 3) rfl dX6_tick_126 ?_
          refine Wp.iastore dX6_tick_127 (sK51 (h := h') sh') (by omega) (ilt (sL51 (h := h') sh') (by omega)) ?_
          refine Wp.ald_n (j := 0) rfl dX6_tick_128 ?_
          refine Wp.getf (k := 16) (tg := 2) kC6 (by decide) rfl lf_X6_51 dX6_tick_129 (sK41 (h := h') sh') (sF41_16 (h := h') sh') ?_
          refine Wp.ild_n (j := 3) rfl dX6_tick_132 ?_
          refine Wp.iconst dX6_tick_133 (by decide) ?_
          refine Wp.zastore dX6_tick_134 (sK52 (h := h') sh') (by omega) (ilt (sL52 (h := h') sh') (by omega)) (by omega) ?_
          refine inc_6_2 rfl dX6_tick_135 (by first | exact w32_of (by omega) (by omega) | rfl) ?_
          refine inc_6_3 rfl dX6_tick_138 (by first | exact w32_of (by omega) (by omega) | rfl) ?_
          refine Wp.goto (tgt := 87) dX6_tick_141 (by decide) ?_
          have hu : ml2 (mcf h) (m + 1) a s = ml2 (mcf h) m (a + 1) (if hA h 45 a = 2 ∧ hF h 41 5 ≤ s.2.2.1 a then (s.1 + 1, u1 s.2.1 s.1 a, s.2.2.1, u1 s.2.2.2 a 1) else s) := if_pos (show a < hF h 41 6 by omega)
          rw [hu] at eF
          first
          | (rw [if_neg (fun z => c102 z.1)] at eF
             refine ih (a + 1) s h' (by omega) (by omega) (by omega) fr b53 rl ?_ et (fun j z => ei j (by omega)) eF
             refine ⟨ln.1, fun j j0 j1 => ⟨(ln.2.1 j j0 j1).1, (ln.2.1 j j0 j1).2.1, fun z y => ?_⟩, ln.2.2⟩
             by_cases e : j = a
             · rw [e, et]
               exact hgb.2.2 c102
             · exact (ln.2.1 j j0 j1).2.2 z (by omega))
          | (rw [if_neg (fun z => absurd z.2 (by omega))] at eF
             refine ih (a + 1) s h' (by omega) (by omega) (by omega) fr b53 rl ?_ et (fun j z => ei j (by omega)) eF
             refine ⟨ln.1, fun j j0 j1 => ⟨(ln.2.1 j j0 j1).1, (ln.2.1 j j0 j1).2.1, fun z y => ?_⟩, ln.2.2⟩
             by_cases e : j = a
             · rw [e]
               omega
             · exact (ln.2.1 j j0 j1).2.2 z (by omega))
          | (rw [if_pos ⟨c102, c115⟩] at eF
             have hx := ln.app (m' := a + 1) (a := a) (v := s.2.2.1 a) (ei a (by omega)) a0 (by omega) (ln.2.1 a a0 (by omega)).1 (ln.2.1 a a0 (by omega)).2.1 ln.1.2 (fun j j0 j1 j2 => by omega)
             rw [show u1 s.2.2.1 a (s.2.2.1 a) = s.2.2.1 from by
               funext j
               unfold u1
               split
               · rename_i e
                 rw [e]
               · rfl] at hx
             refine ih (a + 1) (s.1 + 1, u1 s.2.1 s.1 a, s.2.2.1, u1 s.2.2.2 a 1) _ (by omega) (by omega) (by omega) (fr.tr ((Fr.e (by simp)).tr (Fr.e (by simp)))) b53 rl.app hx et (fun j z => ?_) eF
             show u1 s.2.2.2 a 1 j = 0
             rw [u1_n _ _ (by omega)]
             exact ei j (by omega))
        · refine Wp.goto (tgt := 138) dX6_tick_118 (by decide) ?_
          refine inc_6_3 rfl dX6_tick_138 (by first | exact w32_of (by omega) (by omega) | rfl) ?_
          refine Wp.goto (tgt := 87) dX6_tick_141 (by decide) ?_
          have hu : ml2 (mcf h) (m + 1) a s = ml2 (mcf h) m (a + 1) (if hA h 45 a = 2 ∧ hF h 41 5 ≤ s.2.2.1 a then (s.1 + 1, u1 s.2.1 s.1 a, s.2.2.1, u1 s.2.2.2 a 1) else s) := if_pos (show a < hF h 41 6 by omega)
          rw [hu] at eF
          first
          | (rw [if_neg (fun z => c102 z.1)] at eF
             refine ih (a + 1) s h' (by omega) (by omega) (by omega) fr b53 rl ?_ et (fun j z => ei j (by omega)) eF
             refine ⟨ln.1, fun j j0 j1 => ⟨(ln.2.1 j j0 j1).1, (ln.2.1 j j0 j1).2.1, fun z y => ?_⟩, ln.2.2⟩
             by_cases e : j = a
             · rw [e, et]
               exact hgb.2.2 c102
             · exact (ln.2.1 j j0 j1).2.2 z (by omega))
          | (rw [if_neg (fun z => absurd z.2 (by omega))] at eF
             refine ih (a + 1) s h' (by omega) (by omega) (by omega) fr b53 rl ?_ et (fun j z => ei j (by omega)) eF
             refine ⟨ln.1, fun j j0 j1 => ⟨(ln.2.1 j j0 j1).1, (ln.2.1 j j0 j1).2.1, fun z y => ?_⟩, ln.2.2⟩
             by_cases e : j = a
             · rw [e]
               omega
             · exact (ln.2.1 j j0 j1).2.2 z (by omega))
          | (rw [if_pos ⟨c102, c115⟩] at eF
             have hx := ln.app (m' := a + 1) (a := a) (v := s.2.2.1 a) (ei a (by omega)) a0 (by omega) (ln.2.1 a a0 (by omega)).1 (ln.2.1 a a0 (by omega)).2.1 ln.1.2 (fun j j0 j1 j2 => by omega)
             rw [show u1 s.2.2.1 a (s.2.2.1 a) = s.2.2.1 from by
               funext j
               unfold u1
               split
               · rename_i e
                 rw [e]
               · rfl] at hx
             refine ih (a + 1) (s.1 + 1, u1 s.2.1 s.1 a, s.2.2.1, u1 s.2.2.2 a 1) _ (by omega) (by omega) (by omega) (fr.tr ((Fr.e (by simp)).tr (Fr.e (by simp)))) b53 rl.app hx et (fun j z => ?_) eF
             show u1 s.2.2.2 a 1 j = 0
             rw [u1_n _ _ (by omega)]
             exact ei j (by omega))

theorem tickB_l3 (d : Nat) (h : mH) (sh : Sh h) (mb : MB h) (ra : Int) (kr : hK h ra = 10) (lr : hL h ra = 24) (hra : ra ∉ [1, 45, 47, 49, 50, 51, 52, 53]) (k b : Int) (b0 : 0 ≤ b) (b1 : b < hF h 41 6) (F : mS) (T53 : Int → Int) (Q : Option mV → mH → Prop) (kq : ∀ (t : mH) (a : Int), Fr [50, 51, 52, 53] [] h t → hA t 53 = T53 → LR (hF h 41 6) t F → LN (hF h 41 6) (hF h 41 5) (hF h 41 6) (k + 1) F → k + 1 ≤ F.1 → Wp m_X6_tick (d + 1) 305 [(2, 41), (2, ra), (0, F.1), (0, k), (0, b), (0, a)] [] t Q) : ∀ (m : Nat) (a : Int) (s : mS) (h' : mH), (hF h 41 6 - a).toNat < m → (0 ≤ a) → (Fr [50, 51, 52, 53] [] h h') → (hA h' 53 = T53) → (LR (hF h 41 6) h' s) → (LN (hF h 41 6) (hF h 41 5) (hF h 41 6) (k + 1) s) → (k + 1 ≤ s.1) → (mi3 (mcf h) b m a s = F) → Wp m_X6_tick (d + 1) 178 [(2, 41), (2, ra), (0, s.1), (0, k), (0, b), (0, a)] [] h' Q := by
  intro m
  induction m with
  | zero => intro a s h' hm; exact absurd hm (Nat.not_lt_zero _)
  | succ m ih =>
    intro a s h' hm a0 fr t53 rl ln hk eF
    obtain ⟨⟨r0, r1⟩, ⟨n0, n1⟩, ⟨m0, m1⟩, hp, hq⟩ := id mb
    obtain ⟨q1, q45, q47, q49, q50, q51, q52, q53⟩ : ra ≠ 1 ∧ ra ≠ 45 ∧ ra ≠ 47 ∧ ra ≠ 49 ∧ ra ≠ 50 ∧ ra ≠ 51 ∧ ra ≠ 52 ∧ ra ≠ 53 := by simpa using hra
    have sh' := sh.fr fr (by decide +kernel) (by decide)
    have e5 : hF h' 41 5 = hF h 41 5 := fr.2.2.2.2.1 41 5 (by simp)
    have e6 : hF h' 41 6 = hF h 41 6 := fr.2.2.2.2.1 41 6 (by simp)
    have e8 : hF h' 41 8 = hF h 41 8 := fr.2.2.2.2.1 41 8 (by simp)
    have e45 : hA h' 45 = hA h 45 := fr.2.2.2.2.2 45 (by simp)
    have e47 : hA h' 47 = hA h 47 := fr.2.2.2.2.2 47 (by simp)
    have e49 : hA h' 49 = hA h 49 := fr.2.2.2.2.2 49 (by simp)
    have kr' : hK h' ra = 10 := by rw [fr.2.2.1]; exact kr
    have lr' : hL h' ra = 24 := by rw [fr.2.2.2.1]; exact lr
    have s10 := ln.1.2
    refine Wp.ild (j := 5) rfl dX6_tick_178 ?_
    refine Wp.ald_n (j := 0) rfl dX6_tick_180 ?_
    refine Wp.getf (k := 6) (tg := 0) kC6 (by decide) rfl lf_X6_141 dX6_tick_181 (sK41 (h := h') sh') e6 ?_
    refine Wp.icge dX6_tick_184 (by decide) (tgt := 305) (fun c184 => ?_) (fun c184 => ?_)
    · have hu : mi3 (mcf h) b (m + 1) a s = s := if_neg (show ¬ a < hF h 41 6 by omega)
      rw [hu] at eF
      subst eF
      exact kq h' a fr t53 rl ln hk
    · refine Wp.ald_n (j := 0) rfl dX6_tick_187 ?_
      refine Wp.getf (k := 9) (tg := 2) kC6 (by decide) rfl lf_X6_29 dX6_tick_188 (sK41 (h := h') sh') (sF41_9 (h := h') sh') ?_
      refine Wp.ild (j := 5) rfl dX6_tick_191 ?_
      refine Wp.iaload dX6_tick_193 (sK45 (h := h') sh') (by omega) (ilt (sL45 (h := h') sh') (by omega)) (show hA _ 45 _ = hA h 45 _ from congrFun e45 _) ?_
      refine Wp.iconst dX6_tick_194 (by decide) ?_
      refine Wp.icne dX6_tick_195 (by decide) (tgt := 299) (fun c195 => ?_) (fun c195 => ?_)
      · refine inc_6_5 rfl dX6_tick_299 (by first | exact w32_of (by omega) (by omega) | rfl) ?_
        refine Wp.goto (tgt := 178) dX6_tick_302 (by decide) ?_
        have hu : mi3 (mcf h) b (m + 1) a s = mi3 (mcf h) b m (a + 1) (mi1 (mcf h) b a s) := if_pos (show a < hF h 41 6 by omega)
        rw [hu] at eF
        unfold mi1 at eF
        rw [if_pos (show (mcf h).2.1 a ≠ 2 from c195)] at eF
        exact ih (a + 1) s h' (by omega) (by omega) fr t53 rl ln hk eF
      · refine Wp.ald_n (j := 0) rfl dX6_tick_198 ?_
        refine Wp.getf (k := 16) (tg := 2) kC6 (by decide) rfl lf_X6_51 dX6_tick_199 (sK41 (h := h') sh') (sF41_16 (h := h') sh') ?_
        refine Wp.ild (j := 5) rfl dX6_tick_202 ?_
        refine Wp.zaload dX6_tick_204 (sK52 (h := h') sh') (by omega) (ilt (sL52 (h := h') sh') (by omega)) (rl.2.1 a a0 (by omega)) ?_
        refine Wp.ifne dX6_tick_205 (by decide) (tgt := 299) (fun c205 => ?_) (fun c205 => ?_)
        · refine inc_6_5 rfl dX6_tick_299 (by first | exact w32_of (by omega) (by omega) | rfl) ?_
          refine Wp.goto (tgt := 178) dX6_tick_302 (by decide) ?_
          have hu : mi3 (mcf h) b (m + 1) a s = mi3 (mcf h) b m (a + 1) (mi1 (mcf h) b a s) := if_pos (show a < hF h 41 6 by omega)
          rw [hu] at eF
          unfold mi1 at eF
          rw [if_neg (fun z => z c195), if_pos c205] at eF
          exact ih (a + 1) s h' (by omega) (by omega) fr t53 rl ln hk eF
        · refine Wp.ald_n (j := 0) rfl dX6_tick_208 ?_
          refine Wp.getf (k := 13) (tg := 2) kC6 (by decide) rfl lf_X6_41 dX6_tick_209 (sK41 (h := h') sh') (sF41_13 (h := h') sh') ?_
          refine Wp.bipush dX6_tick_212 (by decide) ?_
          refine Wp.ild (j := 5) rfl dX6_tick_214 ?_
          refine Wp.imulE dX6_tick_216 (by first | exact w32_of (by omega) (by omega) | rfl) ?_
          refine Wp.ild (j := 4) rfl dX6_tick_217 ?_
          refine Wp.iaddE dX6_tick_219 (by first | exact w32_of (by omega) (by omega) | rfl) ?_
          refine Wp.zaload dX6_tick_220 (sK49 (h := h') sh') (by omega) (ilt (sL49 (h := h') sh') (by omega)) (show hA _ 49 _ = hA h 49 _ from congrFun e49 _) ?_
          refine Wp.ifne dX6_tick_221 (by decide) (tgt := 227) (fun c221 => ?_) (fun c221 => ?_)
          · have hv := mvw_bd (c := mcf h) ln rfl a0 (by omega) (by omega) c205 r0 r1 ⟨m0, m1⟩ hq
            have hrm := ln.room c205 a0 (by omega)
            have hvv : mvw (mcf h) a s = s.2.2.1 a + hA h 47 ((s.2.2.1 a * hF h 41 8).tdiv (hF h 41 5)) := rfl
            obtain ⟨⟨v1, v2, v3, v4⟩, ⟨v5, v6⟩, v7, v8⟩ := id hv
            have v3 : 0 ≤ s.2.2.1 a * hF h 41 8 := v3
            have v4 : s.2.2.1 a * hF h 41 8 ≤ 65536 := v4
            have v5 : 0 ≤ (s.2.2.1 a * hF h 41 8).tdiv (hF h 41 5) := v5
            have v6 : (s.2.2.1 a * hF h 41 8).tdiv (hF h 41 5) < 16 := v6
            refine Wp.ald_n (j := 0) rfl dX6_tick_227 ?_
            refine Wp.getf (k := 14) (tg := 2) kC6 (by decide) rfl lf_X6_45 dX6_tick_228 (sK41 (h := h') sh') (sF41_14 (h := h') sh') ?_
            refine Wp.ild (j := 5) rfl dX6_tick_231 ?_
            refine Wp.dup2 dX6_tick_233 (Or.inl rfl) (Or.inr rfl) ?_
            refine Wp.iaload dX6_tick_234 (sK50 (h := h') sh') (by omega) (ilt (sL50 (h := h') sh') (by omega)) (rl.1 a a0 (by omega)) ?_
            refine Wp.ald_n (j := 0) rfl dX6_tick_235 ?_
            refine Wp.getf (k := 11) (tg := 2) kC6 (by decide) rfl lf_X6_35 dX6_tick_236 (sK41 (h := h') sh') (sF41_11 (h := h') sh') ?_
            refine Wp.ald_n (j := 0) rfl dX6_tick_239 ?_
            refine Wp.getf (k := 14) (tg := 2) kC6 (by decide) rfl lf_X6_45 dX6_tick_240 (sK41 (h := h') sh') (sF41_14 (h := h') sh') ?_
            refine Wp.ild (j := 5) rfl dX6_tick_243 ?_
            refine Wp.iaload dX6_tick_245 (sK50 (h := h') sh') (by omega) (ilt (sL50 (h := h') sh') (by omega)) (rl.1 a a0 (by omega)) ?_
            refine Wp.i2l dX6_tick_246 ?_
            refine Wp.ald_n (j := 0) rfl dX6_tick_247 ?_
            refine Wp.getf (k := 8) (tg := 0) kC6 (by decide) rfl lf_X6_26 dX6_tick_248 (sK41 (h := h') sh') e8 ?_
            refine Wp.i2l dX6_tick_251 ?_
            refine Wp.lmulE dX6_tick_252 (by first | exact w64_of (by omega) (by omega) | rfl) ?_
            refine Wp.ald_n (j := 0) rfl dX6_tick_253 ?_
            refine Wp.getf (k := 5) (tg := 0) kC6 (by decide) rfl lf_X6_22 dX6_tick_254 (sK41 (h := h') sh') e5 ?_
            refine Wp.i2l dX6_tick_257 ?_
            refine Wp.ldivE dX6_tick_258 (by omega) (w64_of (by omega) (by omega)) ?_
            refine Wp.l2iE dX6_tick_259 (by first | exact w32_of (by omega) (by omega) | rfl) ?_
            refine Wp.iaload dX6_tick_260 (sK47 (h := h') sh') (by omega) (ilt (sL47 (h := h') sh') (by omega)) (show hA _ 47 _ = hA h 47 _ from congrFun e47 _) ?_
            refine Wp.iaddE dX6_tick_261 (show w32 _ = mvw (mcf h) a s by rw [w32_of (by omega) (by omega)]; rfl) ?_
            refine Wp.iastore dX6_tick_262 (sK50 (h := h') sh') (by omega) (ilt (sL50 (h := h') sh') (by omega)) ?_
            refine Wp.ald_n (j := 0) rfl dX6_tick_263 ?_
            refine Wp.getf (k := 14) (tg := 2) kC6 (by decide) rfl lf_X6_45 dX6_tick_264 (sK41 (h := h') sh') (sF41_14 (h := h') sh') ?_
            refine Wp.ild (j := 5) rfl dX6_tick_267 ?_
            refine Wp.iaload dX6_tick_269 (sK50 (h := h') sh') (by omega) (ilt (sL50 (h := h') sh') (by omega)) (show hA (sE _ 50 a _) 50 a = _ from u1_s _ _ _) ?_
            refine Wp.ald_n (j := 0) rfl dX6_tick_270 ?_
            refine Wp.getf (k := 5) (tg := 0) kC6 (by decide) rfl lf_X6_22 dX6_tick_271 (sK41 (h := h') sh') e5 ?_
            refine Wp.icge dX6_tick_274 (by decide) (tgt := 280) (fun c274 => ?_) (fun c274 => ?_)
            · refine Wp.ald_n (j := 0) rfl dX6_tick_280 ?_
              refine Wp.getf (k := 15) (tg := 2) kC6 (by decide) rfl lf_X6_48 dX6_tick_281 (sK41 (h := h') sh') (sF41_15 (h := h') sh') ?_
              refine Wp.ild_n (j := 2) rfl dX6_tick_284 ?_
              refine Wp.ild (j := 5) rfl dX6_tick_285 ?_
              refine Wp.iastore dX6_tick_287 (sK51 (h := h') sh') (by omega) (ilt (sL51 (h := h') sh') (by omega)) ?_
              refine Wp.ald_n (j := 0) rfl dX6_tick_288 ?_
              refine Wp.getf (k := 16) (tg := 2) kC6 (by decide) rfl lf_X6_51 dX6_tick_289 (sK41 (h := h') sh') (sF41_16 (h := h') sh') ?_
              refine Wp.ild (j := 5) rfl dX6_tick_292 ?_
              refine Wp.iconst dX6_tick_294 (by decide) ?_
              refine Wp.zastore dX6_tick_295 (sK52 (h := h') sh') (by omega) (ilt (sL52 (h := h') sh') (by omega)) (by omega) ?_
              refine inc_6_2 rfl dX6_tick_296 (by first | exact w32_of (by omega) (by omega) | rfl) ?_
              refine inc_6_5 rfl dX6_tick_299 (by first | exact w32_of (by omega) (by omega) | rfl) ?_
              refine Wp.goto (tgt := 178) dX6_tick_302 (by decide) ?_
              have hu : mi3 (mcf h) b (m + 1) a s = mi3 (mcf h) b m (a + 1) (mi1 (mcf h) b a s) := if_pos (show a < hF h 41 6 by omega)
              rw [hu] at eF
              unfold mi1 at eF
              rw [if_neg (fun z => z c195), if_neg (fun z => z c205), if_neg (show ¬ (mcf h).2.2.1 (24 * a + b) = 0 from c221), if_neg (show ¬ mvw (mcf h) a s < (mcf h).1.2.1 from Int.not_lt.mpr c274)] at eF
              exact ih (a + 1) (s.1 + 1, u1 s.2.1 s.1 a, u1 s.2.2.1 a (mvw (mcf h) a s), u1 s.2.2.2 a 1) _ (by omega) (by omega) (fr.tr ((Fr.e (by simp)).tr ((Fr.e (by simp)).tr (Fr.e (by simp))))) t53 (LR.app (s := (s.1, s.2.1, u1 s.2.2.1 a (mvw (mcf h) a s), s.2.2.2)) rl.up) (ln.app c205 a0 (by omega) hv.2.2.1 (by omega) hk (fun j j0 j1 j2 => by omega)) (by show k + 1 ≤ s.1 + 1; omega) eF
            · refine Wp.goto (tgt := 299) dX6_tick_277 (by decide) ?_
              refine inc_6_5 rfl dX6_tick_299 (by first | exact w32_of (by omega) (by omega) | rfl) ?_
              refine Wp.goto (tgt := 178) dX6_tick_302 (by decide) ?_
              have hu : mi3 (mcf h) b (m + 1) a s = mi3 (mcf h) b m (a + 1) (mi1 (mcf h) b a s) := if_pos (show a < hF h 41 6 by omega)
              rw [hu] at eF
              unfold mi1 at eF
              rw [if_neg (fun z => z c195), if_neg (fun z => z c205), if_neg (show ¬ (mcf h).2.2.1 (24 * a + b) = 0 from c221), if_pos (show mvw (mcf h) a s < (mcf h).1.2.1 from Int.not_le.mp c274)] at eF
              exact ih (a + 1) (s.1, s.2.1, u1 s.2.2.1 a (mvw (mcf h) a s), s.2.2.2) _ (by omega) (by omega) (fr.tr (Fr.e (by simp))) t53 rl.up (ln.up c205 hv.2.2.1 (by omega) (by omega)) hk eF
          · refine Wp.goto (tgt := 299) dX6_tick_224 (by decide) ?_
            refine inc_6_5 rfl dX6_tick_299 (by first | exact w32_of (by omega) (by omega) | rfl) ?_
            refine Wp.goto (tgt := 178) dX6_tick_302 (by decide) ?_
            have hu : mi3 (mcf h) b (m + 1) a s = mi3 (mcf h) b m (a + 1) (mi1 (mcf h) b a s) := if_pos (show a < hF h 41 6 by omega)
            rw [hu] at eF
            unfold mi1 at eF
            rw [if_neg (fun z => z c195), if_neg (fun z => z c205), if_pos (show (mcf h).2.2.1 (24 * a + b) = 0 from c221)] at eF
            exact ih (a + 1) s h' (by omega) (by omega) fr t53 rl ln hk eF

theorem tickB_l4 (d : Nat) (h : mH) (sh : Sh h) (mb : MB h) (ra : Int) (kr : hK h ra = 10) (lr : hL h ra = 24) (hra : ra ∉ [1, 45, 47, 49, 50, 51, 52, 53]) (F : mS) (Q : Option mV → mH → Prop) (kq : ∀ (t : mH) (k : Int) (x4 x5 : mV), Fr [50, 51, 52, 53] [] h t → LR (hF h 41 6) t F → LN (hF h 41 6) (hF h 41 5) (hF h 41 6) k F → F.1 ≤ k → TAM (hA t 53) F.2.1 F.1 (hF h 41 6) → Wp m_X6_tick (d + 1) 311 [(2, 41), (2, ra), (0, F.1), (0, k), x4, x5] [] t Q) : ∀ (m : Nat) (k : Int) (s : mS) (h' : mH) (x4 x5 : mV), (hF h 41 6 - k).toNat < m → (0 ≤ k) → (k ≤ s.1) → (Fr [50, 51, 52, 53] [] h h') → (LR (hF h 41 6) h' s) → (LN (hF h 41 6) (hF h 41 5) (hF h 41 6) k s) → (TAM (hA h' 53) s.2.1 k (hF h 41 6)) → (mo (mcf h) m k s = F) → Wp m_X6_tick (d + 1) 146 [(2, 41), (2, ra), (0, s.1), (0, k), x4, x5] [] h' Q := by
  intro m
  induction m with
  | zero => intro k s h' x4 x5 hm; exact absurd hm (Nat.not_lt_zero _)
  | succ m ih =>
    intro k s h' x4 x5 hm k0 hk fr rl ln ta eF
    obtain ⟨⟨r0, r1⟩, ⟨n0, n1⟩, ⟨m0, m1⟩, hp, hq⟩ := id mb
    obtain ⟨q1, q45, q47, q49, q50, q51, q52, q53⟩ : ra ≠ 1 ∧ ra ≠ 45 ∧ ra ≠ 47 ∧ ra ≠ 49 ∧ ra ≠ 50 ∧ ra ≠ 51 ∧ ra ≠ 52 ∧ ra ≠ 53 := by simpa using hra
    have sh' := sh.fr fr (by decide +kernel) (by decide)
    have e5 : hF h' 41 5 = hF h 41 5 := fr.2.2.2.2.1 41 5 (by simp)
    have e6 : hF h' 41 6 = hF h 41 6 := fr.2.2.2.2.1 41 6 (by simp)
    have e8 : hF h' 41 8 = hF h 41 8 := fr.2.2.2.2.1 41 8 (by simp)
    have e45 : hA h' 45 = hA h 45 := fr.2.2.2.2.2 45 (by simp)
    have e47 : hA h' 47 = hA h 47 := fr.2.2.2.2.2 47 (by simp)
    have e49 : hA h' 49 = hA h 49 := fr.2.2.2.2.2 49 (by simp)
    have kr' : hK h' ra = 10 := by rw [fr.2.2.1]; exact kr
    have lr' : hL h' ra = 24 := by rw [fr.2.2.2.1]; exact lr
    have hft := ln.fits n0
    refine Wp.ild_n (j := 3) rfl dX6_tick_146 ?_
    refine Wp.ild_n (j := 2) rfl dX6_tick_147 ?_
    refine Wp.icge dX6_tick_148 (by decide) (tgt := 311) (fun c148 => ?_) (fun c148 => ?_)
    · have hu : mo (mcf h) (m + 1) k s = s := if_neg (by omega)
      rw [hu] at eF
      subst eF
      have ek : k = s.1 := by omega
      exact kq h' k _ _ fr rl ln (by omega) (by rw [ek] at ta; exact ta)
    · have hl := ln.2.2.1 k k0 (by omega)
      refine Wp.ald_n (j := 0) rfl dX6_tick_151 ?_
      refine Wp.getf (k := 15) (tg := 2) kC6 (by decide) rfl lf_X6_48 dX6_tick_152 (sK41 (h := h') sh') (sF41_15 (h := h') sh') ?_
      refine Wp.ild_n (j := 3) rfl dX6_tick_155 ?_
      refine Wp.iaload dX6_tick_156 (sK51 (h := h') sh') (by omega) (ilt (sL51 (h := h') sh') (by omega)) (rl.2.2 k k0 (by omega)) ?_
      refine sti_6_4 rfl (dSt_w dX6_tick_157) ?_
      refine Wp.ald_n (j := 0) rfl dX6_tick_159 ?_
      refine Wp.getf (k := 14) (tg := 2) kC6 (by decide) rfl lf_X6_45 dX6_tick_160 (sK41 (h := h') sh') (sF41_14 (h := h') sh') ?_
      refine Wp.ild (j := 4) rfl dX6_tick_163 ?_
      refine Wp.iconst dX6_tick_165 (by decide) ?_
      refine Wp.iastore dX6_tick_166 (sK50 (h := h') sh') (by omega) (ilt (sL50 (h := h') sh') (by omega)) ?_
      refine Wp.ald_n (j := 0) rfl dX6_tick_167 ?_
      refine Wp.getf (k := 17) (tg := 2) kC6 (by decide) rfl lf_X6_54 dX6_tick_168 (sK41 (h := h') sh') (sF41_17 (h := h') sh') ?_
      refine Wp.ild (j := 4) rfl dX6_tick_171 ?_
      refine Wp.iconst dX6_tick_173 (by decide) ?_
      refine Wp.zastore dX6_tick_174 (sK53 (h := h') sh') (by omega) (ilt (sL53 (h := h') sh') (by omega)) (by omega) ?_
      refine Wp.iconst dX6_tick_175 (by decide) ?_
      refine sti_6_5 rfl (dSt_w dX6_tick_176) ?_
      have hu : mo (mcf h) (m + 1) k s = mo (mcf h) m (k + 1) (mi3 (mcf h) (s.2.1 k) 25 0 (s.1, s.2.1, u1 s.2.2.1 (s.2.1 k) 0, s.2.2.2)) := if_pos (by omega)
      rw [hu] at eF
      refine tickB_l3 d h sh mb ra kr lr hra k (s.2.1 k) hl.1 hl.2.1 _ _ Q (fun t a frt tt rlt lnt hkt => ?_) 25 0 (s.1, s.2.1, u1 s.2.2.1 (s.2.1 k) 0, s.2.2.2) _ (by omega) (by omega) (fr.tr ((Fr.e (by simp)).tr (Fr.e (by simp)))) rfl (LR.beat rl.up) (ln.zero (by omega) (by omega)) (by show k + 1 ≤ s.1; omega) rfl
      refine inc_6_3 rfl dX6_tick_305 (w32_of (by omega) (by omega)) ?_
      refine Wp.goto (tgt := 146) dX6_tick_308 (by decide) ?_
      exact ih (k + 1) _ t _ _ (by omega) (by omega) hkt frt rlt lnt (by rw [tt]; exact ta.step k0 (fun i i0 i1 => (mi3_pre 25 0 (s.1, s.2.1, u1 s.2.2.1 (s.2.1 k) 0, s.2.2.2)).2 i (by show i < s.1; omega))) eF

theorem tickB_l5 (d : Nat) (h : mH) (sh : Sh h) (mb : MB h) (ra : Int) (kr : hK h ra = 10) (lr : hL h ra = 24) (hra : ra ∉ [1, 45, 47, 49, 50, 51, 52, 53]) (F : mS) (x2 : Int) (hF0 : ∀ j, 0 ≤ j → j < hF h 41 6 → 0 ≤ F.2.2.1 j ∧ F.2.2.1 j < hF h 41 5) (eF : cutF (hF h 41 6) F.2.2.1 = mT (mcf h) (hA h ra)) (B53 : Int → Int) (b9 : ∀ j, 0 ≤ j → j < hF h 41 6 → (B53 j ≠ 0 ↔ (mF9 (mcf h) (hA h ra)).2.2.2 j ≠ 0)) : ∀ (m : Nat) (i : Int) (h' : mH) (x4 x5 : mV), (hF h 41 6 - i).toNat < m → (0 ≤ i) → (Fr [50, 51, 52, 53, ra] [] h h') → (hA h' 53 = B53) → (∀ j, 0 ≤ j → j < hF h 41 6 → hA h' 50 j = F.2.2.1 j) → (∀ j, 0 ≤ j → j < i → hA h' ra j = F.2.2.1 j) → Wp m_X6_tick (d + 1) 313 [(2, 41), (2, ra), (0, x2), (0, i), x4, x5] [] h' (fun r t => r = none ∧ Fr [50, 51, 52, 53, ra] [] h t ∧ (∀ j, 0 ≤ j → j < hF h 41 6 → hA t ra j = mT (mcf h) (hA h ra) j ∧ 0 ≤ hA t ra j ∧ hA t ra j < hF h 41 5) ∧ ∀ j, 0 ≤ j → j < hF h 41 6 → (hA t 53 j ≠ 0 ↔ (mF9 (mcf h) (hA h ra)).2.2.2 j ≠ 0)) := by
  intro m
  induction m with
  | zero => intro i h' x4 x5 hm; exact absurd hm (Nat.not_lt_zero _)
  | succ m ih =>
    intro i h' x4 x5 hm i0 fr t53 rl hj
    obtain ⟨⟨r0, r1⟩, ⟨n0, n1⟩, ⟨m0, m1⟩, hp, hq⟩ := id mb
    obtain ⟨q1, q45, q47, q49, q50, q51, q52, q53⟩ : ra ≠ 1 ∧ ra ≠ 45 ∧ ra ≠ 47 ∧ ra ≠ 49 ∧ ra ≠ 50 ∧ ra ≠ 51 ∧ ra ≠ 52 ∧ ra ≠ 53 := by simpa using hra
    have sh' := sh.fr fr (by decide +kernel) (by simp; omega)
    have e5 : hF h' 41 5 = hF h 41 5 := fr.2.2.2.2.1 41 5 (by simp)
    have e6 : hF h' 41 6 = hF h 41 6 := fr.2.2.2.2.1 41 6 (by simp)
    have e8 : hF h' 41 8 = hF h 41 8 := fr.2.2.2.2.1 41 8 (by simp)
    have e45 : hA h' 45 = hA h 45 := fr.2.2.2.2.2 45 (by simp; omega)
    have e47 : hA h' 47 = hA h 47 := fr.2.2.2.2.2 47 (by simp; omega)
    have e49 : hA h' 49 = hA h 49 := fr.2.2.2.2.2 49 (by simp; omega)
    have kr' : hK h' ra = 10 := by rw [fr.2.2.1]; exact kr
    have lr' : hL h' ra = 24 := by rw [fr.2.2.2.1]; exact lr
    refine Wp.ild_n (j := 3) rfl dX6_tick_313 ?_
    refine Wp.ald_n (j := 0) rfl dX6_tick_314 ?_
    refine Wp.getf (k := 6) (tg := 0) kC6 (by decide) rfl lf_X6_141 dX6_tick_315 (sK41 (h := h') sh') e6 ?_
    refine Wp.icge dX6_tick_318 (by decide) (tgt := 336) (fun c318 => ?_) (fun c318 => ?_)
    · refine Wp.vret rfl dX6_tick_336 ?_
      refine ⟨rfl, fr, fun j j0 j1 => ?_, fun j j0 j1 => by rw [t53]; exact b9 j j0 j1⟩
      rw [hj j j0 (by omega)]
      refine ⟨?_, hF0 j j0 j1⟩
      rw [← eF, cutF_in j0 j1]
    · refine Wp.ald_n (j := 1) rfl dX6_tick_321 ?_
      refine Wp.ild_n (j := 3) rfl dX6_tick_322 ?_
      refine Wp.ald_n (j := 0) rfl dX6_tick_323 ?_
      refine Wp.getf (k := 14) (tg := 2) kC6 (by decide) rfl lf_X6_45 dX6_tick_324 (sK41 (h := h') sh') (sF41_14 (h := h') sh') ?_
      refine Wp.ild_n (j := 3) rfl dX6_tick_327 ?_
      refine Wp.iaload dX6_tick_328 (sK50 (h := h') sh') (by omega) (ilt (sL50 (h := h') sh') (by omega)) (rl i i0 (by omega)) ?_
      refine Wp.iastore dX6_tick_329 kr' (by omega) (ilt lr' (by omega)) ?_
      refine inc_6_3 rfl dX6_tick_330 (by first | exact w32_of (by omega) (by omega) | rfl) ?_
      refine Wp.goto (tgt := 313) dX6_tick_333 (by decide) ?_
      refine ih (i + 1) _ _ _ (by omega) (by omega) (fr.tr (Fr.e (by simp))) (by rw [hA_sEn (fun z => q53 z.symm)]; exact t53) (fun j j0 j1 => ?_) (fun j j0 j1 => ?_)
      · rw [hA_sEn (fun z => q50 z.symm)]
        exact rl j j0 j1
      · rw [hA_sEs]
        by_cases e : j = i
        · rw [e, u1_s]
        · rw [u1_n _ _ e]
          exact hj j j0 (by omega)

theorem cq_mtickB (d : Nat) (h : mH) (sh : Sh h) (mb : MB h) (ra : Int) (kr : hK h ra = 10) (lr : hL h ra = 24) (hra : ra ∉ [1, 45, 47, 49, 50, 51, 52, 53]) (hr : ∀ j, 0 ≤ j → j < hF h 41 6 → 0 ≤ hA h ra j ∧ hA h ra j < hF h 41 5) : Cq m_X6_tick (d + 1) [(2, 41), (2, ra)] h (fun r t => r = none ∧ Fr [50, 51, 52, 53, ra] [] h t ∧ (∀ j, 0 ≤ j → j < hF h 41 6 → hA t ra j = mT (mcf h) (hA h ra) j ∧ 0 ≤ hA t ra j ∧ hA t ra j < hF h 41 5) ∧ ∀ j, 0 ≤ j → j < hF h 41 6 → (hA t 53 j ≠ 0 ↔ (mF9 (mcf h) (hA h ra)).2.2.2 j ≠ 0)) := by
  refine Cq.of ?_
  show Wp m_X6_tick ((d + 1)) 0 [(2, 41), (2, ra), (9, 0), (9, 0), (9, 0), (9, 0)] [] h _
  obtain ⟨⟨r0, r1⟩, ⟨n0, n1⟩, ⟨m0, m1⟩, hp, hq⟩ := id mb
  obtain ⟨q1, q45, q47, q49, q50, q51, q52, q53⟩ : ra ≠ 1 ∧ ra ≠ 45 ∧ ra ≠ 47 ∧ ra ≠ 49 ∧ ra ≠ 50 ∧ ra ≠ 51 ∧ ra ≠ 52 ∧ ra ≠ 53 := by simpa using hra
  refine Wp.iconst dX6_tick_0 (by decide) ?_
  refine sti_6_2 rfl (dSt_n dX6_tick_1) ?_
  refine tickB_l1 d h sh mb ra kr lr hra hr _ (fun t a frt h50 h52 h53 => ?_) _ 0 h (Nat.lt_succ_self _) (by omega) Fr.rf (fun j j0 j1 => absurd j1 (by omega)) (fun j j0 j1 => absurd j1 (by omega)) (fun j j0 j1 => absurd j1 (by omega))
  refine Wp.iconst dX6_tick_83 (by decide) ?_
  refine sti_6_2 rfl (dSt_n dX6_tick_84) ?_
  refine Wp.iconst dX6_tick_85 (by decide) ?_
  refine sti_6_3 rfl (dSt_n dX6_tick_86) ?_
  refine tickB_l2 d h sh mb ra kr lr hra hr _ _ (fun u a2 fru u53 rlu lnu => ?_) 25 0 (mst (mcf h) (cutF (hF h 41 6) (hA h ra))) t (by omega) (by omega) n0 frt h53 ⟨h50, h52, fun i i0 i1 => absurd i1 (by show ¬ i < (0 : Int); omega)⟩ ⟨⟨Int.le_refl _, Int.le_refl _⟩, fun j j0 j1 => ?_, fun i i0 i1 => absurd i1 (by show ¬ i < (0 : Int); omega), fun i j i0 i1 => absurd i1 (by show ¬ i < (0 : Int); omega), fun j j0 j1 z => absurd rfl z, fun i i0 i1 => absurd i1 (by omega)⟩ rfl (fun _ _ => rfl) rfl
  · refine Wp.iconst dX6_tick_144 (by decide) ?_
    refine sti_6_3 rfl (dSt_n dX6_tick_145) ?_
    refine tickB_l4 d h sh mb ra kr lr hra _ _ (fun v k x4 x5 frv rlv lnv hkv tav => ?_) 26 0 _ u _ _ (by omega) (by omega) lnu.1.2 fru rlu lnu (TAM.zero u53) rfl
    refine Wp.iconst dX6_tick_311 (by decide) ?_
    refine sti_6_3 rfl (dSt_n dX6_tick_312) ?_
    exact tickB_l5 d h sh mb ra kr lr hra _ _ (lnv.done (by omega) hkv) rfl (hA v 53) (tav.fin (fun i i0 i1 => (lnv.2.2.1 i i0 i1).2.2) lnv.2.2.2.2.1) _ 0 v _ _ (Nat.lt_succ_self _) (by omega) (frv.mono (by simp) (by simp)) rfl rlv.1 (fun j j0 j1 => absurd j1 (by omega))
  · have hb := mg_bd (c := mcf h) (f := (cutF (hF h 41 6) (hA h ra))) (a := j) r0 r1 (by rw [cutF_in j0 j1]; exact hr j j0 j1)
    exact ⟨hb.1, hb.2.1, fun _ z => absurd z (by omega)⟩

