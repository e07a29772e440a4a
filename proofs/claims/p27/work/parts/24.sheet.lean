theorem nA_Kn {h : mH} {t : Nat} {n : Int} : hK (nA h t n) (hN h : Int) = t := u1_s _ _ _
theorem nA_Ln {h : mH} {t : Nat} {n : Int} : hL (nA h t n) (hN h : Int) = n := u1_s _ _ _
theorem nA_An {h : mH} {t : Nat} {n : Int} : hA (nA h t n) (hN h : Int) = fun _ => dfl (aTg t) := u1_s _ _ _
theorem nA_K {h : mH} {t : Nat} {n a : Int} (ha : a < hN h) : hK (nA h t n) a = hK h a := u1_n _ _ (show a ≠ (hN h : Int) by omega)
theorem nA_L {h : mH} {t : Nat} {n a : Int} (ha : a < hN h) : hL (nA h t n) a = hL h a := u1_n _ _ (show a ≠ (hN h : Int) by omega)
theorem nA_A {h : mH} {t : Nat} {n a : Int} (ha : a < hN h) : hA (nA h t n) a = hA h a := u1_n _ _ (show a ≠ (hN h : Int) by omega)
theorem ct_copyI (d : Nat) (h : mH) (a n l : Int) (ka : hK h a = 10) (la : hL h a = l) (ha : a < hN h) (h0 : 0 ≤ l) (h1 : l < n) (h2 : n ≤ 1000000) : Ct m_J7_copyOf_59c91 (d + 1) [(2, a), (0, n)] h (some (2, (hN h : Int))) (sA (nA h 10 n) (hN h : Int) (cpF (hA h a) (fun _ => 0) 0 0 l)) := by
  refine Ct.of ?_
  show Wp m_J7_copyOf_59c91 ((d + 1)) 0 [(2, a), (0, n), (9, 0)] [] h _
  refine Wp.ild_n (j := 1) rfl dJ7_copyOf_59c91_0 ?_
  refine Wp.ald_n (j := 0) rfl dJ7_copyOf_59c91_1 ?_
  refine Wp.alen dJ7_copyOf_59c91_2 (by decide) (by decide) ka la (by omega) ?_
  refine Wp.icne dJ7_copyOf_59c91_3 (by decide) (tgt := 14) (fun _ => ?_) (fun c3 => absurd c3 (by omega))
  refine Wp.ild_n (j := 1) rfl dJ7_copyOf_59c91_14 ?_
  refine Wp.newI wT_int dJ7_copyOf_59c91_15 (by omega) (by omega) ?_
  refine sta_3_2 rfl (dSt_n dJ7_copyOf_59c91_17) ?_
  refine Wp.ald_n (j := 0) rfl dJ7_copyOf_59c91_18 ?_
  refine Wp.iconst dJ7_copyOf_59c91_19 (by decide) ?_
  refine Wp.ald_n (j := 2) rfl dJ7_copyOf_59c91_20 ?_
  refine Wp.iconst dJ7_copyOf_59c91_21 (by decide) ?_
  refine Wp.ald_n (j := 0) rfl dJ7_copyOf_59c91_22 ?_
  refine Wp.alen dJ7_copyOf_59c91_23 (by decide) (by decide) ((nA_K ha).trans ka) ((nA_L ha).trans la) (by omega) ?_
  refine Wp.ild_n (j := 1) rfl dJ7_copyOf_59c91_24 ?_
  refine Wp.mmin wm_J7_304 dJ7_copyOf_59c91_25 (Nat.le_of_ble_eq_true rfl) ?_
  refine Wp.acopy (t := 10) (Or.inl rfl) wa_J7_150 wA2 wA3 wA4 dJ7_copyOf_59c91_28 ((nA_K ha).trans ka) nA_Kn (by omega) (by omega) (by omega) (ile ((nA_L ha).trans la) (by omega)) (ile nA_Ln (by omega)) (Nat.le_of_ble_eq_true rfl) ?_
  refine Wp.ald_n (j := 2) rfl dJ7_copyOf_59c91_31 ?_
  refine Wp.aret rfl (Or.inr ⟨_, rfl⟩) dJ7_copyOf_59c91_32 ?_
  refine ⟨rfl, ?_⟩
  rw [nA_A ha, nA_An, show min l n = l by omega]
  rfl

theorem ct_copyJ (d : Nat) (h : mH) (a n l : Int) (ka : hK h a = 11) (la : hL h a = l) (ha : a < hN h) (h0 : 0 ≤ l) (h1 : l < n) (h2 : n ≤ 1000000) : Ct m_J7_copyOf_c38d5 (d + 1) [(2, a), (0, n)] h (some (2, (hN h : Int))) (sA (nA h 11 n) (hN h : Int) (cpF (hA h a) (fun _ => 0) 0 0 l)) := by
  refine Ct.of ?_
  show Wp m_J7_copyOf_c38d5 ((d + 1)) 0 [(2, a), (0, n), (9, 0)] [] h _
  refine Wp.ild_n (j := 1) rfl dJ7_copyOf_c38d5_0 ?_
  refine Wp.ald_n (j := 0) rfl dJ7_copyOf_c38d5_1 ?_
  refine Wp.alen dJ7_copyOf_c38d5_2 (by decide) (by decide) ka la (by omega) ?_
  refine Wp.icne dJ7_copyOf_c38d5_3 (by decide) (tgt := 14) (fun _ => ?_) (fun c3 => absurd c3 (by omega))
  refine Wp.ild_n (j := 1) rfl dJ7_copyOf_c38d5_14 ?_
  refine Wp.newJ wT_long dJ7_copyOf_c38d5_15 (by omega) (by omega) ?_
  refine sta_3_2 rfl (dSt_n dJ7_copyOf_c38d5_17) ?_
  refine Wp.ald_n (j := 0) rfl dJ7_copyOf_c38d5_18 ?_
  refine Wp.iconst dJ7_copyOf_c38d5_19 (by decide) ?_
  refine Wp.ald_n (j := 2) rfl dJ7_copyOf_c38d5_20 ?_
  refine Wp.iconst dJ7_copyOf_c38d5_21 (by decide) ?_
  refine Wp.ald_n (j := 0) rfl dJ7_copyOf_c38d5_22 ?_
  refine Wp.alen dJ7_copyOf_c38d5_23 (by decide) (by decide) ((nA_K ha).trans ka) ((nA_L ha).trans la) (by omega) ?_
  refine Wp.ild_n (j := 1) rfl dJ7_copyOf_c38d5_24 ?_
  refine Wp.mmin wm_J7_304 dJ7_copyOf_c38d5_25 (Nat.le_of_ble_eq_true rfl) ?_
  refine Wp.acopy (t := 11) (Or.inr rfl) wa_J7_150 wA2 wA3 wA4 dJ7_copyOf_c38d5_28 ((nA_K ha).trans ka) nA_Kn (by omega) (by omega) (by omega) (ile ((nA_L ha).trans la) (by omega)) (ile nA_Ln (by omega)) (Nat.le_of_ble_eq_true rfl) ?_
  refine Wp.ald_n (j := 2) rfl dJ7_copyOf_c38d5_31 ?_
  refine Wp.aret rfl (Or.inr ⟨_, rfl⟩) dJ7_copyOf_c38d5_32 ?_
  refine ⟨rfl, ?_⟩
  rw [nA_A ha, nA_An, show min l n = l by omega]
  rfl

theorem ct_isMissing (d : Nat) (h : mH) (a c : Int) (ka : hK h a = 2) (hc : hF h a 2 = c) (kc : hK h c = 11) (lc : hL h c = 100) : Ct m_X2_isMissing d [(2, a)] h (some (0, if hF h a 1 = -1 then 1 else 0)) h := by
  refine Ct.of ?_
  show Wp m_X2_isMissing (d) 0 [(2, a)] [] h _
  refine Wp.ald_n (j := 0) rfl dX2_isMissing_0 ?_
  refine Wp.getf (k := 1) (tg := 0) kC2 (by decide) rfl lf_X2_15 dX2_isMissing_1 ka (show hF _ a 1 = hF h a 1 from rfl) ?_
  refine Wp.iconst dX2_isMissing_4 (by decide) ?_
  refine Wp.icne dX2_isMissing_5 (by decide) (tgt := 12) (fun c5 => ?_) (fun c5 => ?_)
  · refine Wp.iconst dX2_isMissing_12 (by decide) ?_
    refine Wp.zret rfl dX2_isMissing_13 (by omega) ?_
    refine ⟨?_, rfl⟩
    first | rw [if_pos (by omega)] | rw [if_neg (by omega)]
  · refine Wp.iconst dX2_isMissing_8 (by decide) ?_
    refine Wp.goto (tgt := 13) dX2_isMissing_9 (by decide) ?_
    refine Wp.zret rfl dX2_isMissing_13 (by omega) ?_
    refine ⟨?_, rfl⟩
    first | rw [if_pos (by omega)] | rw [if_neg (by omega)]

theorem ct_hasPlaces (d : Nat) (h : mH) (a c : Int) (ka : hK h a = 2) (hc : hF h a 2 = c) (kc : hK h c = 11) (lc : hL h c = 100) (p n : Int) (hp : -2147483648 ≤ p ∧ p < 2147483648) (hn : -2147483648 ≤ n ∧ n < 2147483648) : Ct m_X2_hasPlaces d [(2, a), (0, p), (0, n)] h (some (0, if 0 ≤ p ∧ 0 ≤ n ∧ p + n ≤ hF h a 1 then 1 else 0)) h := by
  refine Ct.of ?_
  show Wp m_X2_hasPlaces (d) 0 [(2, a), (0, p), (0, n)] [] h _
  refine Wp.ild_n (j := 1) rfl dX2_hasPlaces_0 ?_
  refine Wp.iflt dX2_hasPlaces_1 (by decide) (tgt := 26) (fun c1 => ?_) (fun c1 => ?_)
  · refine Wp.iconst dX2_hasPlaces_26 (by decide) ?_
    refine Wp.zret rfl dX2_hasPlaces_27 (by omega) ?_
    refine ⟨?_, rfl⟩
    first | rw [if_pos (by omega)] | rw [if_neg (by omega)]
  · refine Wp.ild_n (j := 2) rfl dX2_hasPlaces_4 ?_
    refine Wp.iflt dX2_hasPlaces_5 (by decide) (tgt := 26) (fun c5 => ?_) (fun c5 => ?_)
    · refine Wp.iconst dX2_hasPlaces_26 (by decide) ?_
      refine Wp.zret rfl dX2_hasPlaces_27 (by omega) ?_
      refine ⟨?_, rfl⟩
      first | rw [if_pos (by omega)] | rw [if_neg (by omega)]
    · refine Wp.ild_n (j := 1) rfl dX2_hasPlaces_8 ?_
      refine Wp.i2l dX2_hasPlaces_9 ?_
      refine Wp.ild_n (j := 2) rfl dX2_hasPlaces_10 ?_
      refine Wp.i2l dX2_hasPlaces_11 ?_
      refine Wp.laddE dX2_hasPlaces_12 (by first | exact w64_of (by omega) (by omega) | rfl) ?_
      refine Wp.ald_n (j := 0) rfl dX2_hasPlaces_13 ?_
      refine Wp.getf (k := 1) (tg := 0) kC2 (by decide) rfl lf_X2_15 dX2_hasPlaces_14 ka (show hF _ a 1 = hF h a 1 from rfl) ?_
      refine Wp.i2l dX2_hasPlaces_17 ?_
      refine Wp.lcgt dX2_hasPlaces_18 dX2_hasPlaces_19 (by decide) (tgt := 26) (fun c18 => ?_) (fun c18 => ?_)
      · refine Wp.iconst dX2_hasPlaces_26 (by decide) ?_
        refine Wp.zret rfl dX2_hasPlaces_27 (by omega) ?_
        refine ⟨?_, rfl⟩
        first | rw [if_pos (by omega)] | rw [if_neg (by omega)]
      · refine Wp.iconst dX2_hasPlaces_22 (by decide) ?_
        refine Wp.goto (tgt := 27) dX2_hasPlaces_23 (by decide) ?_
        refine Wp.zret rfl dX2_hasPlaces_27 (by omega) ?_
        refine ⟨?_, rfl⟩
        first | rw [if_pos (by omega)] | rw [if_neg (by omega)]

theorem ct_at (d : Nat) (h : mH) (a c : Int) (ka : hK h a = 2) (hc : hF h a 2 = c) (kc : hK h c = 11) (lc : hL h c = 100) (hl : hF h a 1 ≤ 100) (p : Int) (hp : -2147483648 ≤ p ∧ p < 2147483648) : Ct m_X2_at (d + 1) [(2, a), (0, p)] h (some (1, if 0 ≤ p ∧ p + 1 ≤ hF h a 1 then hA h c p else 0)) h := by
  refine Ct.of ?_
  show Wp m_X2_at ((d + 1)) 0 [(2, a), (0, p)] [] h _
  refine Wp.ald_n (j := 0) rfl dX2_at_0 ?_
  refine Wp.ild_n (j := 1) rfl dX2_at_1 ?_
  refine Wp.iconst dX2_at_2 (by decide) ?_
  refine Wp.callV1 (ct_hasPlaces d h a c ka hc kc lc p 1 hp (by omega)) wc_X2_28 iM_X2_hasPlaces se_X2_hasPlaces kC2 ka dX2_at_3 rfl (Nat.le_of_ble_eq_true rfl) rfl (Nat.le_of_ble_eq_true rfl) ?_
  refine Wp.ifeq dX2_at_6 (by decide) (tgt := 18) (fun c6 => ?_) (fun c6 => ?_)
  · refine Wp.lconst (z := 0) dX2_at_18 (by decide) ?_
    refine Wp.lret rfl dX2_at_19 ?_
    refine ⟨?_, rfl⟩
    first | rw [if_pos (by omega)] | rw [if_neg (by omega)]
  · refine Wp.ald_n (j := 0) rfl dX2_at_9 ?_
    refine Wp.getf (k := 2) (tg := 2) kC2 (by decide) rfl lf_X2_18 dX2_at_10 ka hc ?_
    refine Wp.ild_n (j := 1) rfl dX2_at_13 ?_
    refine Wp.laload dX2_at_14 kc (by omega) (ilt lc (by omega)) (show hA _ c _ = hA h c _ from rfl) ?_
    refine Wp.goto (tgt := 19) dX2_at_15 (by decide) ?_
    refine Wp.lret rfl dX2_at_19 ?_
    refine ⟨?_, rfl⟩
    first | rw [if_pos (by omega)] | rw [if_neg (by omega)]

theorem ct_cutToSort (d : Nat) (h : mH) (a c : Int) (ka : hK h a = 2) (hc : hF h a 2 = c) (kc : hK h c = 11) (lc : hL h c = 100) (v : Int) : Ct m_X2_cutToSort d [(2, a), (1, v)] h (some (1, if hF h a 0 = 0 then (w32 v).bmod 256 else if hF h a 0 = 1 then (w32 v).bmod 65536 else if hF h a 0 = 2 then w32 v else v)) h := by
  refine Ct.of ?_
  show Wp m_X2_cutToSort (d) 0 [(2, a), (1, v), (9, 0)] [] h _
  refine Wp.ald_n (j := 0) rfl dX2_cutToSort_0 ?_
  refine Wp.getf (k := 0) (tg := 0) kC2 (by decide) rfl lf_X2_9 dX2_cutToSort_1 ka (show hF _ a 0 = hF h a 0 from rfl) ?_
  rcases (show hF h a 0 = 0 ∨ hF h a 0 = 1 ∨ hF h a 0 = 2 ∨ (hF h a 0 < 0 ∨ 2 < hF h a 0) by omega) with c4 | c4 | c4 | c4
  · refine Wp.tabIn (tgt := 32) dX2_cutToSort_4 (by omega) (by omega) (by rw [c4]; rfl) (by decide) ?_
    refine Wp.lld_n (j := 1) rfl dX2_cutToSort_32 ?_
    refine Wp.l2iE dX2_cutToSort_33 rfl ?_
    refine Wp.i2b dX2_cutToSort_34 ?_
    refine Wp.i2l dX2_cutToSort_35 ?_
    refine Wp.lret rfl dX2_cutToSort_36 ?_
    refine ⟨?_, rfl⟩
    first | rw [if_pos (by omega)] | rw [if_neg (by omega), if_pos (by omega)] | rw [if_neg (by omega), if_neg (by omega), if_pos (by omega)] | rw [if_neg (by omega), if_neg (by omega), if_neg (by omega)]
  · refine Wp.tabIn (tgt := 37) dX2_cutToSort_4 (by omega) (by omega) (by rw [c4]; rfl) (by decide) ?_
    refine Wp.lld_n (j := 1) rfl dX2_cutToSort_37 ?_
    refine Wp.l2iE dX2_cutToSort_38 (by first | exact w32_of (by omega) (by omega) | rfl) ?_
    refine Wp.i2s dX2_cutToSort_39 ?_
    refine Wp.i2l dX2_cutToSort_40 ?_
    refine Wp.lret rfl dX2_cutToSort_41 ?_
    refine ⟨?_, rfl⟩
    first | rw [if_pos (by omega)] | rw [if_neg (by omega), if_pos (by omega)] | rw [if_neg (by omega), if_neg (by omega), if_pos (by omega)] | rw [if_neg (by omega), if_neg (by omega), if_neg (by omega)]
  · refine Wp.tabIn (tgt := 42) dX2_cutToSort_4 (by omega) (by omega) (by rw [c4]; rfl) (by decide) ?_
    refine Wp.lld_n (j := 1) rfl dX2_cutToSort_42 ?_
    refine Wp.l2iE dX2_cutToSort_43 (by first | exact w32_of (by omega) (by omega) | rfl) ?_
    refine Wp.i2l dX2_cutToSort_44 ?_
    refine Wp.lret rfl dX2_cutToSort_45 ?_
    refine ⟨?_, rfl⟩
    first | rw [if_pos (by omega)] | rw [if_neg (by omega), if_pos (by omega)] | rw [if_neg (by omega), if_neg (by omega), if_pos (by omega)] | rw [if_neg (by omega), if_neg (by omega), if_neg (by omega)]
  · refine Wp.tabOut (tgt := 46) dX2_cutToSort_4 c4 (by decide) ?_
    refine Wp.lld_n (j := 1) rfl dX2_cutToSort_46 ?_
    refine Wp.lret rfl dX2_cutToSort_47 ?_
    refine ⟨?_, rfl⟩
    first | rw [if_pos (by omega)] | rw [if_neg (by omega), if_pos (by omega)] | rw [if_neg (by omega), if_neg (by omega), if_pos (by omega)] | rw [if_neg (by omega), if_neg (by omega), if_neg (by omega)]

theorem ct_make (d : Nat) (h : mH) (a c : Int) (ka : hK h a = 2) (hc : hF h a 2 = c) (kc : hK h c = 11) (lc : hL h c = 100) (s n : Int) : Ct m_X2_make (d + 1) [(2, a), (0, s), (0, n)] h none (sA (sF (sF h a 0 s) a 1 n) c (flF (hA h c) 100 0)) := by
  refine Ct.of ?_
  show Wp m_X2_make ((d + 1)) 0 [(2, a), (0, s), (0, n)] [] h _
  refine Wp.ald_n (j := 0) rfl dX2_make_0 ?_
  refine Wp.ild_n (j := 1) rfl dX2_make_1 ?_
  refine Wp.putf (k := 0) (tg := 0) kC2 (by decide) rfl rfl lf_X2_9 dX2_make_2 ka ?_
  refine Wp.ald_n (j := 0) rfl dX2_make_5 ?_
  refine Wp.ild_n (j := 2) rfl dX2_make_6 ?_
  refine Wp.putf (k := 1) (tg := 0) kC2 (by decide) rfl rfl lf_X2_15 dX2_make_7 ka ?_
  refine Wp.ald_n (j := 0) rfl dX2_make_10 ?_
  refine Wp.getf (k := 2) (tg := 2) kC2 (by decide) rfl lf_X2_18 dX2_make_11 ka hc ?_
  refine Wp.lconst (z := 0) dX2_make_14 (by decide) ?_
  refine Wp.callS0 (ct_fillJ d (sF (sF h a 0 s) a 1 n) c 0 100 kc lc (by omega) (by omega)) wc_X2_22 sM_J7_fill_d0a16 dX2_make_15 rfl (Nat.le_of_ble_eq_true rfl) rfl (Nat.le_of_ble_eq_true rfl) ?_
  refine Wp.vret rfl dX2_make_18 ?_
  exact ⟨rfl, rfl⟩

theorem ct_put (d : Nat) (h : mH) (a c : Int) (ka : hK h a = 2) (hc : hF h a 2 = c) (kc : hK h c = 11) (lc : hL h c = 100) (hl : hF h a 1 ≤ 100) (p v : Int) (hp : 0 ≤ p ∧ p + 1 ≤ hF h a 1) : Ct m_X2_put (d + 1) [(2, a), (0, p), (1, v)] h none (sE h c p (if hF h a 0 = 0 then (w32 v).bmod 256 else if hF h a 0 = 1 then (w32 v).bmod 65536 else if hF h a 0 = 2 then w32 v else v)) := by
  refine Ct.of ?_
  show Wp m_X2_put ((d + 1)) 0 [(2, a), (0, p), (1, v), (9, 0)] [] h _
  refine Wp.ald_n (j := 0) rfl dX2_put_0 ?_
  refine Wp.ild_n (j := 1) rfl dX2_put_1 ?_
  refine Wp.iconst dX2_put_2 (by decide) ?_
  refine Wp.callV1 (ct_hasPlaces d h a c ka hc kc lc p 1 (by omega) (by omega)) wc_X2_28 iM_X2_hasPlaces se_X2_hasPlaces kC2 ka dX2_put_3 rfl (Nat.le_of_ble_eq_true rfl) rfl (Nat.le_of_ble_eq_true rfl) ?_
  refine Wp.ifeq dX2_put_6 (by decide) (tgt := 20) (fun c6 => absurd c6 (by rw [if_pos (by omega)]; decide)) (fun _ => ?_)
  refine Wp.ald_n (j := 0) rfl dX2_put_9 ?_
  refine Wp.getf (k := 2) (tg := 2) kC2 (by decide) rfl lf_X2_18 dX2_put_10 ka hc ?_
  refine Wp.ild_n (j := 1) rfl dX2_put_13 ?_
  refine Wp.ald_n (j := 0) rfl dX2_put_14 ?_
  refine Wp.lld_n (j := 2) rfl dX2_put_15 ?_
  refine Wp.callV1 (ct_cutToSort d h a c ka hc kc lc v) wc_X2_32 iM_X2_cutToSort se_X2_cutToSort kC2 ka dX2_put_16 rfl (Nat.le_of_ble_eq_true rfl) rfl (Nat.le_of_ble_eq_true rfl) ?_
  refine Wp.lastore dX2_put_19 kc (by omega) (ilt lc (by omega)) ?_
  refine Wp.vret rfl dX2_put_20 ?_
  exact ⟨rfl, rfl⟩

theorem lies_loop (d : Nat) (h : mH) (a c : Int) (ka : hK h a = 2) (hc : hF h a 2 = c) (kc : hK h c = 11) (lc : hL h c = 100) (n g : Int) (hl : hF h a 1 ≤ 100) (hn : n ≤ hF h a 1) : ∀ (m : Nat) (i : Int) (x5 x6 : mV), (n - i).toNat < m → (0 ≤ i) → (i ≤ n ∨ n < 0) → (∀ k, 0 ≤ k → k < i → 0 ≤ hA h c k ∧ hA h c k ≤ g) → Wp m_X2_liesWithin (d + 2) 3 [(2, a), (0, n), (1, g), (9, 0), (0, i), x5, x6] [] h (fun r t => t = h ∧ ∃ b, r = some (0, b) ∧ (b = 0 ∨ b = 1) ∧ (b = 1 ↔ ∀ k, 0 ≤ k → k < n → 0 ≤ hA h c k ∧ hA h c k ≤ g)) := by
  intro m
  induction m with
  | zero => intro i x5 x6 hm; exact absurd hm (Nat.not_lt_zero _)
  | succ m ih =>
    intro i x5 x6 hm h0 h1 h2
    refine Wp.ild (j := 4) rfl dX2_liesWithin_3 ?_
    refine Wp.ild_n (j := 1) rfl dX2_liesWithin_5 ?_
    refine Wp.icge dX2_liesWithin_6 (by decide) (tgt := 39) (fun c6 => ?_) (fun c6 => ?_)
    · refine Wp.iconst dX2_liesWithin_39 (by decide) ?_
      refine Wp.zret rfl dX2_liesWithin_40 (by omega) ?_
      exact ⟨rfl, 1, rfl, Or.inr rfl, fun _ k hk hk2 => h2 k hk (by omega), fun _ => rfl⟩
    · refine Wp.ald_n (j := 0) rfl dX2_liesWithin_9 ?_
      refine Wp.ild (j := 4) rfl dX2_liesWithin_10 ?_
      refine Wp.callV1 (ct_at d h a c ka hc kc lc hl i (by omega)) wc_X2_36 iM_X2_at se_X2_at kC2 ka dX2_liesWithin_12 rfl (Nat.le_of_ble_eq_true rfl) rfl (Nat.le_of_ble_eq_true rfl) ?_
      rw [if_pos (by omega)]
      refine stl_7_5 rfl (dSt_w dX2_liesWithin_15) ?_
      refine Wp.lld (j := 5) rfl dX2_liesWithin_17 ?_
      refine Wp.lconst (z := 0) dX2_liesWithin_19 (by decide) ?_
      refine Wp.lclt dX2_liesWithin_20 dX2_liesWithin_21 (by decide) (tgt := 31) (fun c20 => ?_) (fun c20 => ?_)
      · refine Wp.iconst dX2_liesWithin_31 (by decide) ?_
        refine Wp.zret rfl dX2_liesWithin_32 (by omega) ?_
        refine ⟨rfl, 0, rfl, Or.inl rfl, fun z => absurd z (by decide), fun z => absurd (z i h0 (by omega)) (by omega)⟩
      · refine Wp.lld (j := 5) rfl dX2_liesWithin_24 ?_
        refine Wp.lld_n (j := 2) rfl dX2_liesWithin_26 ?_
        refine Wp.lcle dX2_liesWithin_27 dX2_liesWithin_28 (by decide) (tgt := 33) (fun c27 => ?_) (fun c27 => ?_)
        · refine inc_7_4 rfl dX2_liesWithin_33 (by first | exact w32_of (by omega) (by omega) | rfl) ?_
          refine Wp.goto (tgt := 3) dX2_liesWithin_36 (by decide) ?_
          exact ih (i + 1) _ _ (by omega) (by omega) (by omega) (fun k hk hk2 => by
            by_cases hz : k = i
            · subst hz
              omega
            · exact h2 k hk (by omega))
        · refine Wp.iconst dX2_liesWithin_31 (by decide) ?_
          refine Wp.zret rfl dX2_liesWithin_32 (by omega) ?_
          refine ⟨rfl, 0, rfl, Or.inl rfl, fun z => absurd z (by decide), fun z => absurd (z i h0 (by omega)) (by omega)⟩

theorem cq_lies (d : Nat) (h : mH) (a c : Int) (ka : hK h a = 2) (hc : hF h a 2 = c) (kc : hK h c = 11) (lc : hL h c = 100) (n g : Int) (hl : hF h a 1 ≤ 100) (hn : n ≤ hF h a 1) : Cq m_X2_liesWithin (d + 2) [(2, a), (0, n), (1, g)] h (fun r t => t = h ∧ ∃ b, r = some (0, b) ∧ (b = 0 ∨ b = 1) ∧ (b = 1 ↔ ∀ k, 0 ≤ k → k < n → 0 ≤ hA h c k ∧ hA h c k ≤ g)) := by
  refine Cq.of ?_
  show Wp m_X2_liesWithin ((d + 2)) 0 [(2, a), (0, n), (1, g), (9, 0), (9, 0), (9, 0), (9, 0)] [] h _
  refine Wp.iconst dX2_liesWithin_0 (by decide) ?_
  refine sti_7_4 rfl (dSt_w dX2_liesWithin_1) ?_
  exact lies_loop d h a c ka hc kc lc n g hl hn ((n - 0).toNat + 1) 0 _ _ (by omega) (by omega) (by omega) (fun k hk hk2 => by omega)

/-- a row whose first i places hold another one's numbers, cut to ints -/
def ciF (f g : Int → Int) (i : Int) : Int → Int := fun j => if 0 ≤ j ∧ j < i then w32 (f j) else g j
theorem ciF_0 {f g : Int → Int} : ciF f g 0 = g := by
  funext j
  unfold ciF
  rw [if_neg (by omega)]
theorem ciF_s {f g : Int → Int} {i : Int} (hi : 0 ≤ i) : u1 (ciF f g i) i (w32 (f i)) = ciF f g (i + 1) := by
  funext j
  unfold u1 ciF
  by_cases hj : j = i
  · rw [if_pos hj, if_pos (by omega), hj]
  · rw [if_neg hj]
    by_cases hk : 0 ≤ j ∧ j < i
    · rw [if_pos hk, if_pos (by omega)]
    · rw [if_neg hk, if_neg (by omega)]
theorem copyInts_loop (d : Nat) (h : mH) (a c : Int) (ka : hK h a = 2) (hc : hF h a 2 = c) (kc : hK h c = 11) (lc : hL h c = 100) (t lnt n : Int) (kt : hK h t = 10) (lt : hL h t = lnt) (hlt : lnt ≤ 100) (hct : c ≠ t) (hl : hF h a 1 ≤ 100) (hn : n ≤ hF h a 1) (hnt : n ≤ lnt) (hn0 : 0 ≤ n) : ∀ (m : Nat) (i : Int), (n - i).toNat < m → (0 ≤ i) → (i ≤ n) → Wp m_X2_copyInts (d + 2) 2 [(2, a), (2, t), (0, n), (0, i)] [] (sA h t (ciF (hA h c) (hA h t) i)) (fun r u => r = none ∧ u = sA h t (ciF (hA h c) (hA h t) n)) := by
  intro m
  induction m with
  | zero => intro i hm; exact absurd hm (Nat.not_lt_zero _)
  | succ m ih =>
    intro i hm h0 h1
    refine Wp.ild_n (j := 3) rfl dX2_copyInts_2 ?_
    refine Wp.ild_n (j := 2) rfl dX2_copyInts_3 ?_
    refine Wp.icge dX2_copyInts_4 (by decide) (tgt := 28) (fun c4 => ?_) (fun c4 => ?_)
    · refine Wp.vret rfl dX2_copyInts_28 ?_
      have : i = n := by omega
      subst this
      exact ⟨rfl, rfl⟩
    · refine Wp.ild_n (j := 3) rfl dX2_copyInts_7 ?_
      refine Wp.ald_n (j := 1) rfl dX2_copyInts_8 ?_
      refine Wp.alen dX2_copyInts_9 (by decide) (by decide) kt lt (by omega) ?_
      refine Wp.icge dX2_copyInts_10 (by decide) (tgt := 28) (fun c10 => absurd c10 (by omega)) (fun _ => ?_)
      refine Wp.ald_n (j := 1) rfl dX2_copyInts_13 ?_
      refine Wp.ild_n (j := 3) rfl dX2_copyInts_14 ?_
      refine Wp.ald_n (j := 0) rfl dX2_copyInts_15 ?_
      refine Wp.ild_n (j := 3) rfl dX2_copyInts_16 ?_
      refine Wp.callV1 (ct_at d (sA h t (ciF (hA h c) (hA h t) i)) a c ka hc kc lc hl i (by omega)) wc_X2_36 iM_X2_at se_X2_at kC2 ka dX2_copyInts_17 rfl (Nat.le_of_ble_eq_true rfl) rfl (Nat.le_of_ble_eq_true rfl) ?_
      rw [hF_sA, if_pos (show 0 ≤ i ∧ i + 1 ≤ hF h a 1 by omega), show hA (sA h t (ciF (hA h c) (hA h t) i)) c = hA h c from u1_n _ _ hct]
      refine Wp.l2iE dX2_copyInts_20 rfl ?_
      refine Wp.iastore dX2_copyInts_21 kt (by omega) (ilt lt (by omega)) ?_
      refine inc_4_3 rfl dX2_copyInts_22 (by first | exact w32_of (by omega) (by omega) | rfl) ?_
      refine Wp.goto (tgt := 2) dX2_copyInts_25 (by decide) ?_
      have e : sE (sA h t (ciF (hA h c) (hA h t) i)) t i (w32 (hA h c i)) = sA h t (ciF (hA h c) (hA h t) (i + 1)) := by
        unfold sE
        rw [sA_sA, hA_sAs, ciF_s h0]
      rw [e]
      exact ih (i + 1) (by omega) (by omega) (by omega)

theorem ct_copyInts (d : Nat) (h : mH) (a c : Int) (ka : hK h a = 2) (hc : hF h a 2 = c) (kc : hK h c = 11) (lc : hL h c = 100) (t lnt n : Int) (kt : hK h t = 10) (lt : hL h t = lnt) (hlt : lnt ≤ 100) (hct : c ≠ t) (hl : hF h a 1 ≤ 100) (hn : n ≤ hF h a 1) (hnt : n ≤ lnt) (hn0 : 0 ≤ n) : Ct m_X2_copyInts (d + 2) [(2, a), (2, t), (0, n)] h none (sA h t (ciF (hA h c) (hA h t) n)) := by
  refine Ct.of ?_
  show Wp m_X2_copyInts ((d + 2)) 0 [(2, a), (2, t), (0, n), (9, 0)] [] h _
  refine Wp.iconst dX2_copyInts_0 (by decide) ?_
  refine sti_4_3 rfl (dSt_n dX2_copyInts_1) ?_
  have e : h = sA h t (ciF (hA h c) (hA h t) 0) := by rw [ciF_0, sA_self]
  have k := copyInts_loop d h a c ka hc kc lc t lnt n kt lt hlt hct hl hn hnt hn0 ((n - 0).toNat + 1) 0 (by omega) (by omega) hn0
  rw [← e] at k
  exact k

