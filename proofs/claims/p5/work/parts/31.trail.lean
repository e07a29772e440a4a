/-- what may have changed, where cells may have been made -/
def Fq (A : Int → Prop) (G : List (Int × Nat)) (h h' : mH) : Prop := hN h ≤ hN h' ∧ hZ h ≤ hZ h' ∧ (∀ a : Int, a < hN h → hK h' a = hK h a) ∧ (∀ a : Int, a < hN h → hL h' a = hL h a) ∧ (∀ (a : Int) (k : Nat), a < hN h → (a, k) ∉ G → hF h' a k = hF h a k) ∧ ∀ a : Int, a < hN h → ¬ A a → hA h' a = hA h a
theorem Fq.rf {A : Int → Prop} {G : List (Int × Nat)} {h : mH} : Fq A G h h := ⟨Nat.le_refl _, Nat.le_refl _, fun _ _ => rfl, fun _ _ => rfl, fun _ _ _ _ => rfl, fun _ _ _ => rfl⟩
theorem Fq.tr {A : Int → Prop} {G : List (Int × Nat)} {h h1 h2 : mH} (a : Fq A G h h1) (b : Fq A G h1 h2) : Fq A G h h2 := ⟨Nat.le_trans a.1 b.1, Nat.le_trans a.2.1 b.2.1, fun x hx => (b.2.2.1 x (by have := a.1; omega)).trans (a.2.2.1 x hx), fun x hx => (b.2.2.2.1 x (by have := a.1; omega)).trans (a.2.2.2.1 x hx), fun x k hx hk => (b.2.2.2.2.1 x k (by have := a.1; omega) hk).trans (a.2.2.2.2.1 x k hx hk), fun x hx hn => (b.2.2.2.2.2 x (by have := a.1; omega) hn).trans (a.2.2.2.2.2 x hx hn)⟩
/-- .. where the second may change cells that the first has made -/
theorem Fq.tr2 {A B : Int → Prop} {G : List (Int × Nat)} {h h1 h2 : mH} (a : Fq A G h h1) (b : Fq B G h1 h2) (hb : ∀ x : Int, x < hN h → B x → A x) : Fq A G h h2 := ⟨Nat.le_trans a.1 b.1, Nat.le_trans a.2.1 b.2.1, fun x hx => (b.2.2.1 x (by have := a.1; omega)).trans (a.2.2.1 x hx), fun x hx => (b.2.2.2.1 x (by have := a.1; omega)).trans (a.2.2.2.1 x hx), fun x k hx hk => (b.2.2.2.2.1 x k (by have := a.1; omega) hk).trans (a.2.2.2.2.1 x k hx hk), fun x hx hn => (b.2.2.2.2.2 x (by have := a.1; omega) (fun z => hn (hb x hx z))).trans (a.2.2.2.2.2 x hx hn)⟩
theorem Fq.mono {A A' : Int → Prop} {G G' : List (Int × Nat)} {h h' : mH} (a : Fq A G h h') (hA : ∀ x : Int, x < hN h → A x → A' x) (hG : ∀ x ∈ G, x ∈ G') : Fq A' G' h h' := ⟨a.1, a.2.1, a.2.2.1, a.2.2.2.1, fun x k hx hk => a.2.2.2.2.1 x k hx (fun z => hk (hG _ z)), fun x hx hn => a.2.2.2.2.2 x hx (fun z => hn (hA x hx z))⟩
theorem Fq.a {A : Int → Prop} {G : List (Int × Nat)} {h : mH} {a : Int} {f : Int → Int} (ha : a < hN h → A a) : Fq A G h (sA h a f) := ⟨Nat.le_refl _, Nat.le_refl _, fun _ _ => rfl, fun _ _ => rfl, fun _ _ _ _ => rfl, fun x hx hn => u1_n _ _ (fun q => hn (by rw [q]; exact ha (by omega)))⟩
theorem Fq.e {A : Int → Prop} {G : List (Int × Nat)} {h : mH} {a i v : Int} (ha : a < hN h → A a) : Fq A G h (sE h a i v) := Fq.a ha
theorem Fq.f {A : Int → Prop} {G : List (Int × Nat)} {h : mH} {a v : Int} {k : Nat} (ha : (a, k) ∈ G) : Fq A G h (sF h a k v) := ⟨Nat.le_refl _, Nat.le_refl _, fun _ _ => rfl, fun _ _ => rfl, fun x j _ hx => if_neg (fun q => hx (by rw [q.1, q.2]; exact ha)), fun _ _ _ => rfl⟩
theorem Fq.n {A : Int → Prop} {G : List (Int × Nat)} {h : mH} {t : Nat} {n : Int} : Fq A G h (nA h t n) := ⟨Nat.le_succ _, Nat.le_add_right _ _, fun _ hx => nA_K hx, fun _ hx => nA_L hx, fun _ _ _ _ => rfl, fun _ hx _ => nA_A hx⟩
theorem Fq.fr {A : Int → Prop} {L : List Int} {G : List (Int × Nat)} {h h' : mH} (a : Fr L G h h') (hL : ∀ x ∈ L, A x) : Fq A G h h' := ⟨Nat.le_of_eq a.1.symm, Nat.le_of_eq a.2.1.symm, fun _ _ => by rw [a.2.2.1], fun _ _ => by rw [a.2.2.2.1], fun x k _ hk => a.2.2.2.2.1 x k hk, fun x _ hn => a.2.2.2.2.2 x (fun z => hn (hL x z))⟩
theorem Sh.fq {A : Int → Prop} {G : List (Int × Nat)} {h h' : mH} (sh : Sh h) (a : Fq A G h h') (hG : okG G = true) (h1 : ¬ A 1) : Sh h' := by
  have h74 := sh.2.2.2.2
  have hs : ∀ q ∈ shK, q.1 < 74 := by decide +kernel
  have hs2 : ∀ q ∈ shL, q.1 < 74 := by decide +kernel
  have hs3 : ∀ q ∈ shF, q.1.1 < 74 := by decide +kernel
  refine sh.of (fun q hq => a.2.2.1 _ (by have := hs q hq; omega)) (fun q hq => a.2.2.2.1 _ (by have := hs2 q hq; omega)) (fun q hq => a.2.2.2.2.1 q.1.1 q.1.2 (by have := hs3 q hq; omega) (fun z => ?_)) (a.2.2.2.2.2 1 (by omega) h1) a.1
  have := List.all_eq_true.mp hG q hq
  simp only [Bool.not_eq_true', List.contains_eq_mem, decide_eq_false_iff_not] at this
  exact this z
/-- the rooms of the walk's book: heads, links, words -/
def TR (h : mH) (hd lk wd nh nl nw : Int) : Prop := hF h 13 0 = hd ∧ hK h hd = 10 ∧ hL h hd = nh ∧ hF h 13 1 = lk ∧ hK h lk = 10 ∧ hL h lk = nl ∧ hF h 13 2 = wd ∧ hK h wd = 11 ∧ hL h wd = nw ∧ hd ≠ lk ∧ ((hd = 14 ∨ 74 ≤ hd) ∧ (lk = 15 ∨ 74 ≤ lk) ∧ (wd = 16 ∨ 74 ≤ wd)) ∧ (hd < hN h ∧ lk < hN h ∧ wd < hN h) ∧ (nh = 0 ∨ nh = 4096) ∧ (0 ≤ nl ∧ nl ≤ 20001) ∧ (0 ≤ nw ∧ nw ≤ 100005)
theorem TR.fq {A : Int → Prop} {G : List (Int × Nat)} {h h' : mH} {hd lk wd nh nl nw : Int} (t : TR h hd lk wd nh nl nw) (a : Fq A G h h') (h13 : 74 ≤ hN h) (g0 : ((13 : Int), 0) ∉ G) (g1 : ((13 : Int), 1) ∉ G) (g2 : ((13 : Int), 2) ∉ G) : TR h' hd lk wd nh nl nw := by
  obtain ⟨t0, k0, l0, t1, k1, l1, t2, k2, l2, hne, hy, ⟨z0, z1, z2⟩, hb⟩ := t
  have hn := a.1
  exact ⟨(a.2.2.2.2.1 13 0 (by omega) g0).trans t0, (a.2.2.1 hd z0).trans k0, (a.2.2.2.1 hd z0).trans l0, (a.2.2.2.2.1 13 1 (by omega) g1).trans t1, (a.2.2.1 lk z1).trans k1, (a.2.2.2.1 lk z1).trans l1, (a.2.2.2.2.1 13 2 (by omega) g2).trans t2, (a.2.2.1 wd z2).trans k2, (a.2.2.2.1 wd z2).trans l2, hne, hy, ⟨by omega, by omega, by omega⟩, hb⟩
/-- what rooms may still be made -/
def psL (n : Int) : Int := if n < 20001 then 60067 - 2 * n else 0
def thr (n c : Int) : Int := if n < c then c + 64 else 0
theorem thr_mono {a b : Int} (c : Int) (h : a ≤ b) (c0 : 0 ≤ c) : thr b c ≤ thr a c := by
  unfold thr
  split <;> split <;> omega
theorem thr_lt {a c : Int} (h : a < c) : thr a c = c + 64 := if_pos h
theorem thr_ge {a c : Int} (h : c ≤ a) : thr a c = 0 := if_neg (by omega)
def psW (n : Int) : Int := 2 * (100005 - n) + (thr n 20001 + (thr n 40002 + (thr n 60003 + (thr n 80004 + thr n 100005))))
def psH (n : Int) : Int := if n < 4096 then 4096 else 0
def aC (h h' : mH) (p p' : Int) : Prop := (hZ h' : Int) + p' ≤ hZ h + p ∧ 2 * (hN h' : Int) + p' ≤ 2 * hN h + p
theorem aC.rf {h : mH} {p : Int} : aC h h p p := ⟨Int.le_refl _, Int.le_refl _⟩
theorem aC.tr {h h1 h2 : mH} {p p1 p2 : Int} (a : aC h h1 p p1) (b : aC h1 h2 p1 p2) : aC h h2 p p2 := ⟨by have := a.1; have := b.1; omega, by have := a.2; have := b.2; omega⟩
def psT (nh nl nw : Int) : Int := psH nh + psL nl + psW nw
theorem aC.same {h h' : mH} {p : Int} (hn : hN h' = hN h) (hz : hZ h' = hZ h) : aC h h' p p := ⟨by rw [hz]; omega, by rw [hn]; omega⟩
theorem cq_tstart (d : Nat) (h : mH) (sh : Sh h) (hd lk wd nh nl nw : Int) (tr : TR h hd lk wd nh nl nw) (b : Int) (hb0 : 0 ≤ b) (hb1 : b ≤ 24) : Cq m_X4_start (d + 1) [(2, 13), (0, b)] h (fun r t => r = none ∧ ∃ hd', TR t hd' lk wd 4096 nl nw ∧ hF t 13 3 = (b + 4).tdiv 5 ∧ hF t 13 4 = 0 ∧ Fq (fun a => a = hd) [(13, 0), (13, 3), (13, 4)] h t ∧ aC h t (psT nh nl nw) (psT 4096 nl nw)) := by
  refine Cq.of ?_
  show Wp m_X4_start ((d + 1)) 0 [(2, 13), (0, b)] [] h _
  obtain ⟨t0, k0, l0, t1, k1, l1, t2, k2, l2, hne, ⟨y0, y1, y2⟩, ⟨z0, z1, z2⟩, b0, b1, b2⟩ := id tr
  have h74 := sh.2.2.2.2
  refine Wp.ald_n (j := 0) rfl dX4_start_0 ?_
  refine Wp.ild_n (j := 1) rfl dX4_start_1 ?_
  refine Wp.iconst dX4_start_2 (by decide) ?_
  refine Wp.iaddE dX4_start_3 (by first | exact w32_of (by omega) (by omega) | rfl) ?_
  refine Wp.iconst dX4_start_4 (by decide) ?_
  refine Wp.isubE dX4_start_5 (show w32 (b + 5 - 1) = b + 4 by rw [w32_of (by omega) (by omega)]; omega) ?_
  refine Wp.iconst dX4_start_6 (by decide) ?_
  refine Wp.idivE dX4_start_7 (by omega) (w32_of (by have := tdn (a := b + 4) (b := 5) (by omega) (by omega); omega) (by have := tdn (a := b + 4) (b := 5) (by omega) (by omega); omega)) ?_
  refine Wp.putf (k := 3) (tg := 0) kC4 (by decide) rfl rfl lf_X4_22 dX4_start_8 (sK13 (h := h) sh) ?_
  refine Wp.ald_n (j := 0) rfl dX4_start_11 ?_
  refine Wp.iconst dX4_start_12 (by decide) ?_
  refine Wp.putf (k := 4) (tg := 0) kC4 (by decide) rfl rfl lf_X4_26 dX4_start_13 (sK13 (h := h) sh) ?_
  refine Wp.ald_n (j := 0) rfl dX4_start_16 ?_
  refine Wp.getf (k := 0) (tg := 2) kC4 (by decide) rfl lf_X4_9 dX4_start_17 (sK13 (h := h) sh) t0 ?_
  refine Wp.alen dX4_start_20 (by decide) (by decide) k0 l0 (by omega) ?_
  refine Wp.sipush dX4_start_21 (by decide) ?_
  refine Wp.icge dX4_start_24 (by decide) (tgt := 36) (fun c24 => ?_) (fun c24 => ?_)
  · refine Wp.ald_n (j := 0) rfl dX4_start_36 ?_
    refine Wp.getf (k := 0) (tg := 2) kC4 (by decide) rfl lf_X4_9 dX4_start_37 (sK13 (h := h) sh) t0 ?_
    refine Wp.iconst dX4_start_40 (by decide) ?_
    refine Wp.callS0 (ct_fillI d _ hd (-1) nh k0 l0 (by omega) (by omega)) wc_X4_29 sM_J7_fill_53178 dX4_start_41 rfl (Nat.le_of_ble_eq_true rfl) rfl (Nat.le_of_ble_eq_true rfl) ?_
    refine Wp.vret rfl dX4_start_44 ?_
    first
    | (have hnh : nh = 4096 := by omega
       subst hnh
       refine ⟨rfl, hd, ?_, rfl, rfl, ?_, aC.same rfl rfl⟩
       · exact ⟨t0, k0, l0, t1, k1, l1, t2, k2, l2, hne, ⟨y0, y1, y2⟩, ⟨z0, z1, z2⟩, Or.inr rfl, b1, b2⟩
       · exact (Fq.f (by decide)).tr ((Fq.f (by decide)).tr (Fq.a (fun _ => rfl))))
    | (have hnh : nh = 0 := by omega
       subst hnh
       refine ⟨rfl, (hN h : Int), ?_, rfl, rfl, ?_, ?_⟩
       · exact ⟨rfl, (nA_Kn (h := h) (t := 10) (n := 4096)), (nA_Ln (h := h) (t := 10) (n := 4096)), t1, (nA_K (h := h) (t := 10) (n := 4096) z1).trans k1, (nA_L (h := h) (t := 10) (n := 4096) z1).trans l1, t2, (nA_K (h := h) (t := 10) (n := 4096) z2).trans k2, (nA_L (h := h) (t := 10) (n := 4096) z2).trans l2, by omega, ⟨Or.inr (by omega), y1, y2⟩, ⟨by show (hN h : Int) < ((hN h + 1 : Nat) : Int); omega, by show lk < ((hN h + 1 : Nat) : Int); omega, by show wd < ((hN h + 1 : Nat) : Int); omega⟩, Or.inr rfl, b1, b2⟩
       · refine Fq.tr2 (B := fun a => a = hd ∨ a = (hN h : Int)) ((Fq.f (by decide)).tr ((Fq.f (by decide)).tr (Fq.n (t := 10) (n := 4096)))) (((Fq.f (by decide)).tr (Fq.a (fun _ => Or.inr rfl)))) (fun x hx hz => ?_)
         rcases hz with hz | hz
         · exact hz
         · omega
       · unfold aC psT psH
         refine ⟨?_, ?_⟩
         · show ((hZ h + (4096 : Int).toNat : Nat) : Int) + _ ≤ _
           rw [if_neg (by decide), if_pos (by decide)]
           omega
         · show 2 * ((hN h + 1 : Nat) : Int) + _ ≤ _
           rw [if_neg (by decide), if_pos (by decide)]
           omega)
  · refine Wp.ald_n (j := 0) rfl dX4_start_27 ?_
    refine Wp.sipush dX4_start_28 (by decide) ?_
    refine Wp.newI wT_int dX4_start_31 (by omega) (by omega) ?_
    refine Wp.putf (k := 0) (tg := 2) kC4 (by decide) rfl rfl lf_X4_9 dX4_start_33 ((nA_K (h := h) (t := 10) (n := 4096) (show (13 : Int) < ((hN h + 0 : Nat) : Int) by omega)).trans (sK13 (h := h) sh)) ?_
    refine Wp.ald_n (j := 0) rfl dX4_start_36 ?_
    refine Wp.getf (k := 0) (tg := 2) kC4 (by decide) rfl lf_X4_9 dX4_start_37 ((nA_K (h := h) (t := 10) (n := 4096) (show (13 : Int) < ((hN h + 0 : Nat) : Int) by omega)).trans (sK13 (h := h) sh)) rfl ?_
    refine Wp.iconst dX4_start_40 (by decide) ?_
    refine Wp.callS0 (ct_fillI d _ (hN h : Int) (-1) 4096 (nA_Kn (h := h) (t := 10) (n := 4096)) (nA_Ln (h := h) (t := 10) (n := 4096)) (by decide) (by decide)) wc_X4_29 sM_J7_fill_53178 dX4_start_41 rfl (Nat.le_of_ble_eq_true rfl) rfl (Nat.le_of_ble_eq_true rfl) ?_
    refine Wp.vret rfl dX4_start_44 ?_
    first
    | (have hnh : nh = 4096 := by omega
       subst hnh
       refine ⟨rfl, hd, ?_, rfl, rfl, ?_, aC.same rfl rfl⟩
       · exact ⟨t0, k0, l0, t1, k1, l1, t2, k2, l2, hne, ⟨y0, y1, y2⟩, ⟨z0, z1, z2⟩, Or.inr rfl, b1, b2⟩
       · exact (Fq.f (by decide)).tr ((Fq.f (by decide)).tr (Fq.a (fun _ => rfl))))
    | (have hnh : nh = 0 := by omega
       subst hnh
       refine ⟨rfl, (hN h : Int), ?_, rfl, rfl, ?_, ?_⟩
       · exact ⟨rfl, (nA_Kn (h := h) (t := 10) (n := 4096)), (nA_Ln (h := h) (t := 10) (n := 4096)), t1, (nA_K (h := h) (t := 10) (n := 4096) z1).trans k1, (nA_L (h := h) (t := 10) (n := 4096) z1).trans l1, t2, (nA_K (h := h) (t := 10) (n := 4096) z2).trans k2, (nA_L (h := h) (t := 10) (n := 4096) z2).trans l2, by omega, ⟨Or.inr (by omega), y1, y2⟩, ⟨by show (hN h : Int) < ((hN h + 1 : Nat) : Int); omega, by show lk < ((hN h + 1 : Nat) : Int); omega, by show wd < ((hN h + 1 : Nat) : Int); omega⟩, Or.inr rfl, b1, b2⟩
       · refine Fq.tr2 (B := fun a => a = hd ∨ a = (hN h : Int)) ((Fq.f (by decide)).tr ((Fq.f (by decide)).tr (Fq.n (t := 10) (n := 4096)))) (((Fq.f (by decide)).tr (Fq.a (fun _ => Or.inr rfl)))) (fun x hx hz => ?_)
         rcases hz with hz | hz
         · exact hz
         · omega
       · unfold aC psT psH
         refine ⟨?_, ?_⟩
         · show ((hZ h + (4096 : Int).toNat : Nat) : Int) + _ ≤ _
           rw [if_neg (by decide), if_pos (by decide)]
           omega
         · show 2 * ((hN h + 1 : Nat) : Int) + _ ≤ _
           rw [if_neg (by decide), if_pos (by decide)]
           omega)

theorem psL_up {a b n : Int} (h1 : a ≤ n) (h2 : n ≤ 20000) (hb : b = min 20001 (2 * n + 64)) (h0 : 0 ≤ a) : b + 64 + psL b ≤ psL a ∧ n < b := by
  unfold psL
  rw [if_pos (show a < 20001 by omega)]
  split <;> omega
theorem psW_up {a b n w : Int} (w0 : 0 ≤ w) (w1 : w ≤ 5) (n0 : 0 ≤ n) (n1 : n ≤ 20000) (h1 : a < n * w + w) (hb : b = min (20001 * w) (2 * (n * w + w) + 64)) (h0 : 0 ≤ a) : b + 64 + psW b ≤ psW a ∧ n * w + w ≤ b ∧ b ≤ 100005 := by
  unfold psW
  have hab : a ≤ b := by
    have hw : w = 0 ∨ w = 1 ∨ w = 2 ∨ w = 3 ∨ w = 4 ∨ w = 5 := by omega
    rcases hw with rfl | rfl | rfl | rfl | rfl | rfl <;> omega
  have m1 := thr_mono 20001 hab (by decide)
  have m2 := thr_mono 40002 hab (by decide)
  have m3 := thr_mono 60003 hab (by decide)
  have m4 := thr_mono 80004 hab (by decide)
  have m5 := thr_mono 100005 hab (by decide)
  by_cases hc : b = 20001 * w
  · have hb2 : n * w + w ≤ 20001 * w ∧ b ≤ 2 * (n * w + w) + 64 := by
      refine ⟨?_, by omega⟩
      have := Int.mul_le_mul_of_nonneg_right n1 w0
      omega
    clear hb
    have hw : w = 0 ∨ w = 1 ∨ w = 2 ∨ w = 3 ∨ w = 4 ∨ w = 5 := by omega
    rcases hw with rfl | rfl | rfl | rfl | rfl | rfl
    · omega
    · have e1 := thr_lt (a := a) (c := 20001) (by omega)
      have e2 := thr_ge (a := b) (c := 20001) (by omega)
      omega
    · have e1 := thr_lt (a := a) (c := 40002) (by omega)
      have e2 := thr_ge (a := b) (c := 40002) (by omega)
      omega
    · have e1 := thr_lt (a := a) (c := 60003) (by omega)
      have e2 := thr_ge (a := b) (c := 60003) (by omega)
      omega
    · have e1 := thr_lt (a := a) (c := 80004) (by omega)
      have e2 := thr_ge (a := b) (c := 80004) (by omega)
      omega
    · have e1 := thr_lt (a := a) (c := 100005) (by omega)
      have e2 := thr_ge (a := b) (c := 100005) (by omega)
      omega
  · have hb2 : b = 2 * (n * w + w) + 64 := by omega
    have hb3 : b ≤ 20001 * w := by omega
    clear hb
    omega
theorem TR.lk {h : mH} {hd lk wd nh nl nw N : Int} {f : Int → Int} (tr : TR h hd lk wd nh nl nw) (h74 : 74 ≤ hN h) (N0 : 0 ≤ N) (N1 : N ≤ 20001) : TR (sF (sA (nA h 10 N) (hN h : Int) f) 13 1 (hN h : Int)) hd (hN h : Int) wd nh N nw := by
  obtain ⟨t0, k0, l0, t1, k1, l1, t2, k2, l2, hne, ⟨y0, y1, y2⟩, ⟨z0, z1, z2⟩, b0, b1, b2⟩ := tr
  exact ⟨t0, (nA_K (h := h) (t := 10) (n := N) z0).trans k0, (nA_L (h := h) (t := 10) (n := N) z0).trans l0, rfl, (nA_Kn (h := h) (t := 10) (n := N)), (nA_Ln (h := h) (t := 10) (n := N)), t2, (nA_K (h := h) (t := 10) (n := N) z2).trans k2, (nA_L (h := h) (t := 10) (n := N) z2).trans l2, by omega, ⟨y0, Or.inr (by omega), y2⟩, ⟨by show hd < ((hN h + 1 : Nat) : Int); omega, by show (hN h : Int) < ((hN h + 1 : Nat) : Int); omega, by show wd < ((hN h + 1 : Nat) : Int); omega⟩, b0, ⟨N0, N1⟩, b2⟩
theorem TR.wd {h : mH} {hd lk wd nh nl nw N : Int} {f : Int → Int} (tr : TR h hd lk wd nh nl nw) (h74 : 74 ≤ hN h) (N0 : 0 ≤ N) (N1 : N ≤ 100005) : TR (sF (sA (nA h 11 N) (hN h : Int) f) 13 2 (hN h : Int)) hd lk (hN h : Int) nh nl N := by
  obtain ⟨t0, k0, l0, t1, k1, l1, t2, k2, l2, hne, ⟨y0, y1, y2⟩, ⟨z0, z1, z2⟩, b0, b1, b2⟩ := tr
  exact ⟨t0, (nA_K (h := h) (t := 11) (n := N) z0).trans k0, (nA_L (h := h) (t := 11) (n := N) z0).trans l0, t1, (nA_K (h := h) (t := 11) (n := N) z1).trans k1, (nA_L (h := h) (t := 11) (n := N) z1).trans l1, rfl, (nA_Kn (h := h) (t := 11) (n := N)), (nA_Ln (h := h) (t := 11) (n := N)), hne, ⟨y0, y1, Or.inr (by omega)⟩, ⟨by show hd < ((hN h + 1 : Nat) : Int); omega, by show lk < ((hN h + 1 : Nat) : Int); omega, by show (hN h : Int) < ((hN h + 1 : Nat) : Int); omega⟩, b0, b1, ⟨N0, N1⟩⟩
theorem Fq.cp {A : Int → Prop} {G : List (Int × Nat)} {h : mH} {t k : Nat} {N a : Int} {f : Int → Int} (hg : (a, k) ∈ G) : Fq A G h (sF (sA (nA h t N) (hN h : Int) f) a k (hN h : Int)) := by
  refine Fq.tr2 (B := fun x => x = (hN h : Int)) (Fq.n (t := t) (n := N)) ((Fq.a (A := fun x => x = (hN h : Int)) (fun _ => rfl)).tr (Fq.f hg)) (fun x hx hz => ?_)
  exact absurd hz (by omega)
theorem aC.cp {h : mH} {t k : Nat} {N a p p' : Int} {f : Int → Int} (N0 : 0 ≤ N) (hp : N + 64 + p' ≤ p) : aC h (sF (sA (nA h t N) (hN h : Int) f) a k (hN h : Int)) p p' := by
  refine ⟨?_, ?_⟩
  · show ((hZ h + N.toNat : Nat) : Int) + _ ≤ _
    omega
  · show 2 * ((hN h + 1 : Nat) : Int) + _ ≤ _
    omega
theorem makeRoomT_w (d : Nat) (h : mH) (sh : Sh h) (hd lk wd nh nl nw : Int) (tr : TR h hd lk wd nh nl nw) (w n : Int) (hw : hF h 13 3 = w) (hn : hF h 13 4 = n) (w0 : 0 ≤ w) (w1 : w ≤ 5) (n0 : 0 ≤ n) (n1 : n ≤ 20000) : Wp m_X4_makeRoom (d + 2) 38 [(2, 13), (9, 0)] [] h (fun r t => r = none ∧ ∃ wd' nw', TR t hd lk wd' nh nl nw' ∧ n * w + w ≤ nw' ∧ Fq (fun _ => False) [(13, 1), (13, 2)] h t ∧ (wd' = wd ∨ (hN h : Int) ≤ wd') ∧ aC h t (psT nh nl nw) (psT nh nl nw')) := by
  obtain ⟨t0, k0, l0, t1, k1, l1, t2, k2, l2, hne, ⟨y0, y1, y2⟩, ⟨z0, z1, z2⟩, b0, b1, b2⟩ := id tr
  have h74 := sh.2.2.2.2
  have hm := mul_bd (a := n) (b := w) (A := 20000) (B := 5) n0 n1 w0 w1
  refine Wp.ald_n (j := 0) rfl dX4_makeRoom_38 ?_
  refine Wp.getf (k := 4) (tg := 0) kC4 (by decide) rfl lf_X4_26 dX4_makeRoom_39 (sK13 (h := h) sh) hn ?_
  refine Wp.iconst dX4_makeRoom_42 (by decide) ?_
  refine Wp.iaddE dX4_makeRoom_43 (w32_of (by omega) (by omega)) ?_
  refine Wp.ald_n (j := 0) rfl dX4_makeRoom_44 ?_
  refine Wp.getf (k := 3) (tg := 0) kC4 (by decide) rfl lf_X4_22 dX4_makeRoom_45 (sK13 (h := h) sh) hw ?_
  refine Wp.imulE dX4_makeRoom_48 (show w32 ((n + 1) * w) = n * w + w by rw [show (n + 1) * w = n * w + w by rw [Int.add_mul, Int.one_mul], w32_of (by omega) (by omega)]) ?_
  refine sti_2_1 rfl (dSt_n dX4_makeRoom_49) ?_
  refine Wp.ald_n (j := 0) rfl dX4_makeRoom_50 ?_
  refine Wp.getf (k := 2) (tg := 2) kC4 (by decide) rfl lf_X4_18 dX4_makeRoom_51 (sK13 (h := h) sh) t2 ?_
  refine Wp.alen dX4_makeRoom_54 (by decide) (by decide) k2 l2 (by omega) ?_
  refine Wp.ild_n (j := 1) rfl dX4_makeRoom_55 ?_
  refine Wp.icge dX4_makeRoom_56 (by decide) (tgt := 87) (fun c56 => ?_) (fun c56 => ?_)
  · refine Wp.vret rfl dX4_makeRoom_87 ?_
    first
    | exact ⟨rfl, wd, nw, tr, by omega, Fq.rf, Or.inl rfl, aC.rf⟩
    | (have hu := psW_up (a := nw) (b := min (20001 * w) (2 * (n * w + w) + 64)) w0 w1 n0 n1 (by omega) rfl (by omega)
       refine ⟨rfl, _, _, tr.wd h74 (by omega) (by omega), hu.2.1, Fq.cp (by decide), Or.inr (Int.le_refl _), aC.cp (by omega) ?_⟩
       unfold psT
       omega)
  · refine Wp.ald_n (j := 0) rfl dX4_makeRoom_59 ?_
    refine Wp.ald_n (j := 0) rfl dX4_makeRoom_60 ?_
    refine Wp.getf (k := 2) (tg := 2) kC4 (by decide) rfl lf_X4_18 dX4_makeRoom_61 (sK13 (h := h) sh) t2 ?_
    refine Wp.sipush dX4_makeRoom_64 (by decide) ?_
    refine Wp.ald_n (j := 0) rfl dX4_makeRoom_67 ?_
    refine Wp.getf (k := 3) (tg := 0) kC4 (by decide) rfl lf_X4_22 dX4_makeRoom_68 (sK13 (h := h) sh) hw ?_
    refine Wp.imulE dX4_makeRoom_71 (by first | exact w32_of (by omega) (by omega) | rfl) ?_
    refine Wp.iconst dX4_makeRoom_72 (by decide) ?_
    refine Wp.ild_n (j := 1) rfl dX4_makeRoom_73 ?_
    refine Wp.imulE dX4_makeRoom_74 (by first | exact w32_of (by omega) (by omega) | rfl) ?_
    refine Wp.bipush dX4_makeRoom_75 (by decide) ?_
    refine Wp.iaddE dX4_makeRoom_77 (by first | exact w32_of (by omega) (by omega) | rfl) ?_
    refine Wp.mmin wm_X4_49 dX4_makeRoom_78 (Nat.le_of_ble_eq_true rfl) ?_
    have hu := psW_up (a := nw) (b := min (20001 * w) (2 * (n * w + w) + 64)) w0 w1 n0 n1 (by omega) rfl (by omega)
    refine Wp.callS1 (ct_copyJ d h wd (min (20001 * w) (2 * (n * w + w) + 64)) nw k2 l2 z2 b2.1 (by omega) (by omega)) wc_X4_59 sM_J7_copyOf_c38d5 dX4_makeRoom_81 rfl (Nat.le_of_ble_eq_true rfl) rfl (Nat.le_of_ble_eq_true rfl) ?_
    refine Wp.putf (k := 2) (tg := 2) kC4 (by decide) rfl rfl lf_X4_18 dX4_makeRoom_84 ((nA_K (h := h) (t := 11) (n := min (20001 * w) (2 * (n * w + w) + 64)) (show (13 : Int) < ((hN h : Nat) : Int) by omega)).trans (sK13 (h := h) sh)) ?_
    refine Wp.vret rfl dX4_makeRoom_87 ?_
    first
    | exact ⟨rfl, wd, nw, tr, by omega, Fq.rf, Or.inl rfl, aC.rf⟩
    | (have hu := psW_up (a := nw) (b := min (20001 * w) (2 * (n * w + w) + 64)) w0 w1 n0 n1 (by omega) rfl (by omega)
       refine ⟨rfl, _, _, tr.wd h74 (by omega) (by omega), hu.2.1, Fq.cp (by decide), Or.inr (Int.le_refl _), aC.cp (by omega) ?_⟩
       unfold psT
       omega)

theorem cq_makeRoomT (d : Nat) (h : mH) (sh : Sh h) (hd lk wd nh nl nw : Int) (tr : TR h hd lk wd nh nl nw) (w n : Int) (hw : hF h 13 3 = w) (hn : hF h 13 4 = n) (w0 : 0 ≤ w) (w1 : w ≤ 5) (n0 : 0 ≤ n) (n1 : n ≤ 20000) : Cq m_X4_makeRoom (d + 2) [(2, 13)] h (fun r t => r = none ∧ ∃ lk' wd' nl' nw', TR t hd lk' wd' nh nl' nw' ∧ n < nl' ∧ n * w + w ≤ nw' ∧ Fq (fun _ => False) [(13, 1), (13, 2)] h t ∧ (lk' = lk ∨ (hN h : Int) ≤ lk') ∧ (wd' = wd ∨ (hN h : Int) ≤ wd') ∧ aC h t (psT nh nl nw) (psT nh nl' nw')) := by
  refine Cq.of ?_
  show Wp m_X4_makeRoom ((d + 2)) 0 [(2, 13), (9, 0)] [] h _
  obtain ⟨t0, k0, l0, t1, k1, l1, t2, k2, l2, hne, ⟨y0, y1, y2⟩, ⟨z0, z1, z2⟩, b0, b1, b2⟩ := id tr
  have h74 := sh.2.2.2.2
  have hm := mul_bd (a := n) (b := w) (A := 20000) (B := 5) n0 n1 w0 w1
  refine Wp.ald_n (j := 0) rfl dX4_makeRoom_0 ?_
  refine Wp.getf (k := 1) (tg := 2) kC4 (by decide) rfl lf_X4_15 dX4_makeRoom_1 (sK13 (h := h) sh) t1 ?_
  refine Wp.alen dX4_makeRoom_4 (by decide) (by decide) k1 l1 (by omega) ?_
  refine Wp.ald_n (j := 0) rfl dX4_makeRoom_5 ?_
  refine Wp.getf (k := 4) (tg := 0) kC4 (by decide) rfl lf_X4_26 dX4_makeRoom_6 (sK13 (h := h) sh) hn ?_
  refine Wp.icgt dX4_makeRoom_9 (by decide) (tgt := 38) (fun c9 => ?_) (fun c9 => ?_)
  · first
    | (refine (makeRoomT_w d h sh hd lk wd nh nl nw tr w n hw hn w0 w1 n0 n1).mono (fun r t q => ?_)
       obtain ⟨hr, wd', nw', tr', q1, q2, qw, q3⟩ := q
       exact ⟨hr, lk, wd', nl, nw', tr', by omega, q1, q2, Or.inl rfl, qw, q3⟩)
    | (have hu := psL_up (a := nl) (b := min 20001 (2 * n + 64)) (n := n) (by omega) n1 rfl b1.1
       refine (makeRoomT_w d _ (sh.fq (A := fun _ => False) (G := [(13, 1)]) (Fq.cp (by decide)) (by decide +kernel) (fun z => z)) hd (hN h : Int) wd nh (min 20001 (2 * n + 64)) nw (tr.lk h74 (by omega) (by omega)) w n hw hn w0 w1 n0 n1).mono (fun r t q => ?_)
       obtain ⟨hr, wd', nw', tr', q1, q2, qw, q3⟩ := q
       refine ⟨hr, _, wd', _, nw', tr', hu.2, q1, (Fq.cp (by decide)).tr q2, Or.inr (Int.le_refl _), qw.imp id (fun z => ?_), (aC.cp (by omega) ?_).tr q3⟩
       · have z2 : ((hN h + 1 : Nat) : Int) ≤ wd' := z
         omega
       unfold psT
       omega)
  · refine Wp.ald_n (j := 0) rfl dX4_makeRoom_12 ?_
    refine Wp.ald_n (j := 0) rfl dX4_makeRoom_13 ?_
    refine Wp.getf (k := 1) (tg := 2) kC4 (by decide) rfl lf_X4_15 dX4_makeRoom_14 (sK13 (h := h) sh) t1 ?_
    refine Wp.sipush dX4_makeRoom_17 (by decide) ?_
    refine Wp.iconst dX4_makeRoom_20 (by decide) ?_
    refine Wp.ald_n (j := 0) rfl dX4_makeRoom_21 ?_
    refine Wp.getf (k := 4) (tg := 0) kC4 (by decide) rfl lf_X4_26 dX4_makeRoom_22 (sK13 (h := h) sh) hn ?_
    refine Wp.imulE dX4_makeRoom_25 (by first | exact w32_of (by omega) (by omega) | rfl) ?_
    refine Wp.bipush dX4_makeRoom_26 (by decide) ?_
    refine Wp.iaddE dX4_makeRoom_28 (by first | exact w32_of (by omega) (by omega) | rfl) ?_
    refine Wp.mmin wm_X4_49 dX4_makeRoom_29 (Nat.le_of_ble_eq_true rfl) ?_
    have hu := psL_up (a := nl) (b := min 20001 (2 * n + 64)) (n := n) (by omega) n1 rfl b1.1
    refine Wp.callS1 (ct_copyI d h lk (min 20001 (2 * n + 64)) nl k1 l1 z1 b1.1 (by omega) (by omega)) wc_X4_55 sM_J7_copyOf_59c91 dX4_makeRoom_32 rfl (Nat.le_of_ble_eq_true rfl) rfl (Nat.le_of_ble_eq_true rfl) ?_
    refine Wp.putf (k := 1) (tg := 2) kC4 (by decide) rfl rfl lf_X4_15 dX4_makeRoom_35 ((nA_K (h := h) (t := 10) (n := min 20001 (2 * n + 64)) (show (13 : Int) < ((hN h : Nat) : Int) by omega)).trans (sK13 (h := h) sh)) ?_
    first
    | (refine (makeRoomT_w d h sh hd lk wd nh nl nw tr w n hw hn w0 w1 n0 n1).mono (fun r t q => ?_)
       obtain ⟨hr, wd', nw', tr', q1, q2, qw, q3⟩ := q
       exact ⟨hr, lk, wd', nl, nw', tr', by omega, q1, q2, Or.inl rfl, qw, q3⟩)
    | (have hu := psL_up (a := nl) (b := min 20001 (2 * n + 64)) (n := n) (by omega) n1 rfl b1.1
       refine (makeRoomT_w d _ (sh.fq (A := fun _ => False) (G := [(13, 1)]) (Fq.cp (by decide)) (by decide +kernel) (fun z => z)) hd (hN h : Int) wd nh (min 20001 (2 * n + 64)) nw (tr.lk h74 (by omega) (by omega)) w n hw hn w0 w1 n0 n1).mono (fun r t q => ?_)
       obtain ⟨hr, wd', nw', tr', q1, q2, qw, q3⟩ := q
       refine ⟨hr, _, wd', _, nw', tr', hu.2, q1, (Fq.cp (by decide)).tr q2, Or.inr (Int.le_refl _), qw.imp id (fun z => ?_), (aC.cp (by omega) ?_).tr q3⟩
       · have z2 : ((hN h + 1 : Nat) : Int) ≤ wd' := z
         omega
       unfold psT
       omega)

theorem us52 (u : UInt64) : 0 ≤ (u >>> (52 : UInt64)).toInt64.toInt ∧ (u >>> (52 : UInt64)).toInt64.toInt < 4096 := by
  have h1 : (u >>> (52 : UInt64)).toNat = u.toNat / 2 ^ 52 := by
    rw [UInt64.toNat_shiftRight, Nat.shiftRight_eq_div_pow]
    rfl
  have h2 : u.toNat < 2 ^ 64 := u.toNat_lt
  have h3 : (u >>> (52 : UInt64)).toNat < 4096 := by
    rw [h1]
    omega
  have h4 : (u >>> (52 : UInt64)).toInt64.toInt = ((u >>> (52 : UInt64)).toNat : Int) := by
    show (u >>> (52 : UInt64)).toBitVec.toInt = _
    rw [BitVec.toInt_eq_toNat_cond]
    have h5 : (u >>> (52 : UInt64)).toBitVec.toNat = (u >>> (52 : UInt64)).toNat := rfl
    rw [h5, if_pos (by omega)]
  rw [h4]
  omega
theorem qushr52 (a : Int) : 0 ≤ qushr a 52 ∧ qushr a 52 < 4096 := us52 (Int64.ofInt a).toUInt64
theorem headOfLast_loop (d : Nat) (h : mH) (sh : Sh h) (hd lk wd nh nl nw : Int) (tr : TR h hd lk wd nh nl nw) (w n : Int) (hw : hF h 13 3 = w) (hn : hF h 13 4 = n) (w0 : 0 ≤ w) (w1 : w ≤ 5) (n0 : 0 ≤ n) (n1 : n ≤ 20000) (hp : n * w + w ≤ nw) : ∀ (m : Nat) (j x : Int), (w - j).toNat < m → (0 ≤ j) → Wp m_X4_headOfLast d 15 [(2, 13), (1, x), (9, 0), (0, (n * w)), (0, j)] [] h (fun r t => (∃ y, r = some (0, y) ∧ 0 ≤ y ∧ y < 4096) ∧ t = h) := by
  intro m
  induction m with
  | zero => intro j x hm; exact absurd hm (Nat.not_lt_zero _)
  | succ m ih =>
    intro j x hm j0
    obtain ⟨t0, k0, l0, t1, k1, l1, t2, k2, l2, hne, ⟨y0, y1, y2⟩, ⟨z0, z1, z2⟩, b0, b1, b2⟩ := id tr
    have h74 := sh.2.2.2.2
    have hm := mul_bd (a := n) (b := w) (A := 20000) (B := 5) n0 n1 w0 w1
    refine Wp.ild (j := 4) rfl dX4_headOfLast_15 ?_
    refine Wp.ald_n (j := 0) rfl dX4_headOfLast_17 ?_
    refine Wp.getf (k := 3) (tg := 0) kC4 (by decide) rfl lf_X4_22 dX4_headOfLast_18 (sK13 (h := h) sh) hw ?_
    refine Wp.icge dX4_headOfLast_21 (by decide) (tgt := 53) (fun c21 => ?_) (fun c21 => ?_)
    · refine Wp.lld_n (j := 1) rfl dX4_headOfLast_53 ?_
      refine Wp.ldc2 (z := -7046029254386353131) lk_X4_62 (by decide) dX4_headOfLast_54 ?_
      refine Wp.lmulE dX4_headOfLast_57 rfl ?_
      refine Wp.bipush dX4_headOfLast_58 (by decide) ?_
      refine Wp.lushr dX4_headOfLast_60 ?_
      refine Wp.l2iE dX4_headOfLast_61 (w32_of (by have := (qushr52 (w64 (x * -7046029254386353131))).1; omega) (by have := (qushr52 (w64 (x * -7046029254386353131))).2; omega)) ?_
      refine Wp.iret rfl dX4_headOfLast_62 ?_
      exact ⟨⟨_, rfl, qushr52 _⟩, rfl⟩
    · refine Wp.lld_n (j := 1) rfl dX4_headOfLast_24 ?_
      refine Wp.ald_n (j := 0) rfl dX4_headOfLast_25 ?_
      refine Wp.getf (k := 2) (tg := 2) kC4 (by decide) rfl lf_X4_18 dX4_headOfLast_26 (sK13 (h := h) sh) t2 ?_
      refine Wp.ild_n (j := 3) rfl dX4_headOfLast_29 ?_
      refine Wp.ild (j := 4) rfl dX4_headOfLast_30 ?_
      refine Wp.iaddE dX4_headOfLast_32 (by first | exact w32_of (by omega) (by omega) | rfl) ?_
      refine Wp.laload dX4_headOfLast_33 k2 (by omega) (ilt l2 (by omega)) (show hA _ wd _ = hA h wd _ from rfl) ?_
      refine Wp.lxor dX4_headOfLast_34 ?_
      refine Wp.ldc2 (z := -7046029254386353131) lk_X4_62 (by decide) dX4_headOfLast_35 ?_
      refine Wp.lmulE dX4_headOfLast_38 rfl ?_
      refine stl_5_1 rfl (dSt_n dX4_headOfLast_39) ?_
      refine Wp.lld_n (j := 1) rfl dX4_headOfLast_40 ?_
      refine Wp.lld_n (j := 1) rfl dX4_headOfLast_41 ?_
      refine Wp.bipush dX4_headOfLast_42 (by decide) ?_
      refine Wp.lushr dX4_headOfLast_44 ?_
      refine Wp.lxor dX4_headOfLast_45 ?_
      refine stl_5_1 rfl (dSt_n dX4_headOfLast_46) ?_
      refine inc_5_4 rfl dX4_headOfLast_47 (by first | exact w32_of (by omega) (by omega) | rfl) ?_
      refine Wp.goto (tgt := 15) dX4_headOfLast_50 (by decide) ?_
      exact ih (j + 1) _ (by omega) (by omega)

theorem cq_headOfLast (d : Nat) (h : mH) (sh : Sh h) (hd lk wd nh nl nw : Int) (tr : TR h hd lk wd nh nl nw) (w n : Int) (hw : hF h 13 3 = w) (hn : hF h 13 4 = n) (w0 : 0 ≤ w) (w1 : w ≤ 5) (n0 : 0 ≤ n) (n1 : n ≤ 20000) (hp : n * w + w ≤ nw) : Cq m_X4_headOfLast d [(2, 13)] h (fun r t => (∃ y, r = some (0, y) ∧ 0 ≤ y ∧ y < 4096) ∧ t = h) := by
  refine Cq.of ?_
  show Wp m_X4_headOfLast (d) 0 [(2, 13), (9, 0), (9, 0), (9, 0), (9, 0)] [] h _
  obtain ⟨t0, k0, l0, t1, k1, l1, t2, k2, l2, hne, ⟨y0, y1, y2⟩, ⟨z0, z1, z2⟩, b0, b1, b2⟩ := id tr
  have h74 := sh.2.2.2.2
  have hm := mul_bd (a := n) (b := w) (A := 20000) (B := 5) n0 n1 w0 w1
  refine Wp.lconst (z := 0) dX4_headOfLast_0 (by decide) ?_
  refine stl_5_1 rfl (dSt_n dX4_headOfLast_1) ?_
  refine Wp.ald_n (j := 0) rfl dX4_headOfLast_2 ?_
  refine Wp.getf (k := 4) (tg := 0) kC4 (by decide) rfl lf_X4_26 dX4_headOfLast_3 (sK13 (h := h) sh) hn ?_
  refine Wp.ald_n (j := 0) rfl dX4_headOfLast_6 ?_
  refine Wp.getf (k := 3) (tg := 0) kC4 (by decide) rfl lf_X4_22 dX4_headOfLast_7 (sK13 (h := h) sh) hw ?_
  refine Wp.imulE dX4_headOfLast_10 (w32_of (by omega) (by omega)) ?_
  refine sti_5_3 rfl (dSt_n dX4_headOfLast_11) ?_
  refine Wp.iconst dX4_headOfLast_12 (by decide) ?_
  refine sti_5_4 rfl (dSt_w dX4_headOfLast_13) ?_
  exact headOfLast_loop d h sh hd lk wd nh nl nw tr w n hw hn w0 w1 n0 n1 hp _ 0 0 (Nat.lt_succ_self _) (Int.le_refl _)

theorem isLike_loop (d : Nat) (h : mH) (sh : Sh h) (hd lk wd nh nl nw : Int) (tr : TR h hd lk wd nh nl nw) (w n : Int) (hw : hF h 13 3 = w) (hn : hF h 13 4 = n) (w0 : 0 ≤ w) (w1 : w ≤ 5) (n0 : 0 ≤ n) (n1 : n ≤ 20000) (hp : n * w + w ≤ nw) (s : Int) (s0 : 0 ≤ s) (s1 : s < n) : ∀ (m : Nat) (j : Int), (w - j).toNat < m → (0 ≤ j) → Wp m_X4_isLikeLast d 20 [(2, 13), (0, s), (0, (s * w)), (0, (n * w)), (0, j)] [] h (fun r t => (∃ y, r = some (0, y) ∧ (y = 0 ∨ y = 1)) ∧ t = h) := by
  intro m
  induction m with
  | zero => intro j hm; exact absurd hm (Nat.not_lt_zero _)
  | succ m ih =>
    intro j hm j0
    obtain ⟨t0, k0, l0, t1, k1, l1, t2, k2, l2, hne, ⟨y0, y1, y2⟩, ⟨z0, z1, z2⟩, b0, b1, b2⟩ := id tr
    have h74 := sh.2.2.2.2
    have hm := mul_bd (a := n) (b := w) (A := 20000) (B := 5) n0 n1 w0 w1
    have hs := mul_bd (a := s) (b := w) (A := 20000) (B := 5) s0 (by omega) w0 w1
    have hsn : s * w ≤ n * w := Int.mul_le_mul_of_nonneg_right (by omega) w0
    refine Wp.ild (j := 4) rfl dX4_isLikeLast_20 ?_
    refine Wp.ald_n (j := 0) rfl dX4_isLikeLast_22 ?_
    refine Wp.getf (k := 3) (tg := 0) kC4 (by decide) rfl lf_X4_22 dX4_isLikeLast_23 (sK13 (h := h) sh) hw ?_
    refine Wp.icge dX4_isLikeLast_26 (by decide) (tgt := 59) (fun c26 => ?_) (fun c26 => ?_)
    · refine Wp.iconst dX4_isLikeLast_59 (by decide) ?_
      refine Wp.zret rfl dX4_isLikeLast_60 (by omega) ?_
      exact ⟨⟨_, rfl, by omega⟩, rfl⟩
    · refine Wp.ald_n (j := 0) rfl dX4_isLikeLast_29 ?_
      refine Wp.getf (k := 2) (tg := 2) kC4 (by decide) rfl lf_X4_18 dX4_isLikeLast_30 (sK13 (h := h) sh) t2 ?_
      refine Wp.ild_n (j := 2) rfl dX4_isLikeLast_33 ?_
      refine Wp.ild (j := 4) rfl dX4_isLikeLast_34 ?_
      refine Wp.iaddE dX4_isLikeLast_36 (by first | exact w32_of (by omega) (by omega) | rfl) ?_
      refine Wp.laload dX4_isLikeLast_37 k2 (by omega) (ilt l2 (by omega)) (show hA _ wd _ = hA h wd _ from rfl) ?_
      refine Wp.ald_n (j := 0) rfl dX4_isLikeLast_38 ?_
      refine Wp.getf (k := 2) (tg := 2) kC4 (by decide) rfl lf_X4_18 dX4_isLikeLast_39 (sK13 (h := h) sh) t2 ?_
      refine Wp.ild_n (j := 3) rfl dX4_isLikeLast_42 ?_
      refine Wp.ild (j := 4) rfl dX4_isLikeLast_43 ?_
      refine Wp.iaddE dX4_isLikeLast_45 (by first | exact w32_of (by omega) (by omega) | rfl) ?_
      refine Wp.laload dX4_isLikeLast_46 k2 (by omega) (ilt l2 (by omega)) (show hA _ wd _ = hA h wd _ from rfl) ?_
      refine Wp.lceq dX4_isLikeLast_47 dX4_isLikeLast_48 (by decide) (tgt := 53) (fun c47 => ?_) (fun c47 => ?_)
      · refine inc_5_4 rfl dX4_isLikeLast_53 (by first | exact w32_of (by omega) (by omega) | rfl) ?_
        refine Wp.goto (tgt := 20) dX4_isLikeLast_56 (by decide) ?_
        exact ih (j + 1) (by omega) (by omega)
      · refine Wp.iconst dX4_isLikeLast_51 (by decide) ?_
        refine Wp.zret rfl dX4_isLikeLast_52 (by omega) ?_
        exact ⟨⟨_, rfl, by omega⟩, rfl⟩

theorem cq_isLike (d : Nat) (h : mH) (sh : Sh h) (hd lk wd nh nl nw : Int) (tr : TR h hd lk wd nh nl nw) (w n : Int) (hw : hF h 13 3 = w) (hn : hF h 13 4 = n) (w0 : 0 ≤ w) (w1 : w ≤ 5) (n0 : 0 ≤ n) (n1 : n ≤ 20000) (hp : n * w + w ≤ nw) (s : Int) (s0 : 0 ≤ s) (s1 : s < n) : Cq m_X4_isLikeLast d [(2, 13), (0, s)] h (fun r t => (∃ y, r = some (0, y) ∧ (y = 0 ∨ y = 1)) ∧ t = h) := by
  refine Cq.of ?_
  show Wp m_X4_isLikeLast (d) 0 [(2, 13), (0, s), (9, 0), (9, 0), (9, 0)] [] h _
  obtain ⟨t0, k0, l0, t1, k1, l1, t2, k2, l2, hne, ⟨y0, y1, y2⟩, ⟨z0, z1, z2⟩, b0, b1, b2⟩ := id tr
  have h74 := sh.2.2.2.2
  have hm := mul_bd (a := n) (b := w) (A := 20000) (B := 5) n0 n1 w0 w1
  have hs := mul_bd (a := s) (b := w) (A := 20000) (B := 5) s0 (by omega) w0 w1
  have hsn : s * w ≤ n * w := Int.mul_le_mul_of_nonneg_right (by omega) w0
  refine Wp.ild_n (j := 1) rfl dX4_isLikeLast_0 ?_
  refine Wp.ald_n (j := 0) rfl dX4_isLikeLast_1 ?_
  refine Wp.getf (k := 3) (tg := 0) kC4 (by decide) rfl lf_X4_22 dX4_isLikeLast_2 (sK13 (h := h) sh) hw ?_
  refine Wp.imulE dX4_isLikeLast_5 (w32_of (by omega) (by omega)) ?_
  refine sti_5_2 rfl (dSt_n dX4_isLikeLast_6) ?_
  refine Wp.ald_n (j := 0) rfl dX4_isLikeLast_7 ?_
  refine Wp.getf (k := 4) (tg := 0) kC4 (by decide) rfl lf_X4_26 dX4_isLikeLast_8 (sK13 (h := h) sh) hn ?_
  refine Wp.ald_n (j := 0) rfl dX4_isLikeLast_11 ?_
  refine Wp.getf (k := 3) (tg := 0) kC4 (by decide) rfl lf_X4_22 dX4_isLikeLast_12 (sK13 (h := h) sh) hw ?_
  refine Wp.imulE dX4_isLikeLast_15 (w32_of (by omega) (by omega)) ?_
  refine sti_5_3 rfl (dSt_n dX4_isLikeLast_16) ?_
  refine Wp.iconst dX4_isLikeLast_17 (by decide) ?_
  refine sti_5_4 rfl (dSt_w dX4_isLikeLast_18) ?_
  exact isLike_loop d h sh hd lk wd nh nl nw tr w n hw hn w0 w1 n0 n1 hp s s0 s1 _ 0 (Nat.lt_succ_self _) (Int.le_refl _)

theorem pack_inner (d : Nat) (h : mH) (sh : Sh h) (v2 v3 v4 la : Int) (l1 : la ≤ 24) (Q : Option mV → mH → Prop) (kq : ∀ x k : Int, Wp m_X4_pack (d + 1) 69 [(2, 13), (2, 11), (0, v2), (0, v3), (0, v4), (1, x), (9, 0), (0, la), (0, k)] [] h Q) : ∀ (m : Nat) (k x : Int), (la - k).toNat < m → (0 ≤ k) → Wp m_X4_pack (d + 1) 43 [(2, 13), (2, 11), (0, v2), (0, v3), (0, v4), (1, x), (9, 0), (0, la), (0, k)] [] h Q := by
  intro m
  induction m with
  | zero => intro k x hm; exact absurd hm (Nat.not_lt_zero _)
  | succ m ih =>
    intro k x hm k0
    refine Wp.ild (j := 8) rfl dX4_pack_43 ?_
    refine Wp.ild (j := 7) rfl dX4_pack_45 ?_
    refine Wp.icge dX4_pack_47 (by decide) (tgt := 69) (fun c47 => ?_) (fun c47 => ?_)
    · exact kq x k
    · refine Wp.lld (j := 5) rfl dX4_pack_50 ?_
      refine Wp.bipush dX4_pack_52 (by decide) ?_
      refine Wp.lshl dX4_pack_54 ?_
      refine Wp.ald_n (j := 1) rfl dX4_pack_55 ?_
      refine Wp.ild (j := 8) rfl dX4_pack_56 ?_
      refine Wp.iaload dX4_pack_58 (sK11 (h := h) sh) (by omega) (ilt (sL11 (h := h) sh) (by omega)) (show hA _ 11 _ = hA h 11 _ from rfl) ?_
      refine Wp.i2l dX4_pack_59 ?_
      refine Wp.lor dX4_pack_60 ?_
      refine stl_9_5 rfl (dSt_w dX4_pack_61) ?_
      refine inc_9_8 rfl dX4_pack_63 (by first | exact w32_of (by omega) (by omega) | rfl) ?_
      refine Wp.goto (tgt := 43) dX4_pack_66 (by decide) ?_
      exact ih (k + 1) _ (by omega) (by omega)

theorem pack_tail (d : Nat) (h : mH) (sh : Sh h) (wd nw w n j b x la k : Int) (t2 : hF h 13 2 = wd) (k2 : hK h wd = 11) (l2 : hL h wd = nw) (j0 : 0 ≤ j) (j1 : j < w) (hp0 : 0 ≤ n * w) (hp : n * w + w ≤ nw) (hq : nw ≤ 100005) (Q : Option mV → mH → Prop) (kq : Wp m_X4_pack (d + 1) 13 [(2, 13), (2, 11), (0, b), (0, n * w), (0, j + 1), (1, x), (9, 0), (0, la), (0, k)] [] (sE h wd (n * w + j) x) Q) : Wp m_X4_pack (d + 1) 69 [(2, 13), (2, 11), (0, b), (0, (n * w)), (0, j), (1, x), (9, 0), (0, la), (0, k)] [] h Q := by
  refine Wp.ald_n (j := 0) rfl dX4_pack_69 ?_
  refine Wp.getf (k := 2) (tg := 2) kC4 (by decide) rfl lf_X4_18 dX4_pack_70 (sK13 (h := h) sh) t2 ?_
  refine Wp.ild_n (j := 3) rfl dX4_pack_73 ?_
  refine Wp.ild (j := 4) rfl dX4_pack_74 ?_
  refine Wp.iaddE dX4_pack_76 (by first | exact w32_of (by omega) (by omega) | rfl) ?_
  refine Wp.lld (j := 5) rfl dX4_pack_77 ?_
  refine Wp.lastore dX4_pack_79 k2 (by omega) (ilt l2 (by omega)) ?_
  refine inc_9_4 rfl dX4_pack_80 (by first | exact w32_of (by omega) (by omega) | rfl) ?_
  refine Wp.goto (tgt := 13) dX4_pack_83 (by decide) ?_
  exact kq

theorem pack_loop (d : Nat) (h : mH) (sh : Sh h) (hd lk wd nh nl nw : Int) (tr : TR h hd lk wd nh nl nw) (w n : Int) (hw : hF h 13 3 = w) (hn : hF h 13 4 = n) (w0 : 0 ≤ w) (w1 : w ≤ 5) (n0 : 0 ≤ n) (n1 : n ≤ 20000) (hp : n * w + w ≤ nw) (b : Int) (hb0 : 0 ≤ b) (hb1 : b ≤ 24) : ∀ (m : Nat) (h' : mH) (j : Int) (u5 u6 u7 u8 : mV), (w - j).toNat < m → (0 ≤ j) → (Fr [wd] [] h h') → Wp m_X4_pack (d + 1) 13 [(2, 13), (2, 11), (0, b), (0, (n * w)), (0, j), u5, u6, u7, u8] [] h' (fun r t => r = none ∧ Fr [wd] [] h t) := by
  intro m
  induction m with
  | zero => intro h' j u5 u6 u7 u8 hm; exact absurd hm (Nat.not_lt_zero _)
  | succ m ih =>
    intro h' j u5 u6 u7 u8 hm j0 fr
    obtain ⟨t0, k0, l0, t1, k1, l1, t2, k2, l2, hne, ⟨y0, y1, y2⟩, ⟨z0, z1, z2⟩, b0, b1, b2⟩ := id tr
    have h74 := sh.2.2.2.2
    have hm := mul_bd (a := n) (b := w) (A := 20000) (B := 5) n0 n1 w0 w1
    have sh' := sh.fr fr (by decide +kernel) (by have := y2; simp; omega)
    have k2' : hK h' wd = 11 := by rw [fr.2.2.1]; exact k2
    have l2' : hL h' wd = nw := by rw [fr.2.2.2.1]; exact l2
    have t2' : hF h' 13 2 = wd := (fr.2.2.2.2.1 13 2 (by decide)).trans t2
    have hw' : hF h' 13 3 = w := (fr.2.2.2.2.1 13 3 (by decide)).trans hw
    have hn' : hF h' 13 4 = n := (fr.2.2.2.2.1 13 4 (by decide)).trans hn
    refine Wp.ild (j := 4) rfl dX4_pack_13 ?_
    refine Wp.ald_n (j := 0) rfl dX4_pack_15 ?_
    refine Wp.getf (k := 3) (tg := 0) kC4 (by decide) rfl lf_X4_22 dX4_pack_16 (sK13 (h := h') sh') hw' ?_
    refine Wp.icge dX4_pack_19 (by decide) (tgt := 86) (fun c19 => ?_) (fun c19 => ?_)
    · refine Wp.vret rfl dX4_pack_86 ?_
      exact ⟨rfl, fr⟩
    · refine Wp.lconst (z := 0) dX4_pack_22 (by decide) ?_
      refine stl_9_5 rfl (dSt_w dX4_pack_23) ?_
      refine Wp.ild_n (j := 2) rfl dX4_pack_25 ?_
      refine Wp.ild (j := 4) rfl dX4_pack_26 ?_
      refine Wp.iconst dX4_pack_28 (by decide) ?_
      refine Wp.iaddE dX4_pack_29 (by first | exact w32_of (by omega) (by omega) | rfl) ?_
      refine Wp.iconst dX4_pack_30 (by decide) ?_
      refine Wp.imulE dX4_pack_31 (by first | exact w32_of (by omega) (by omega) | rfl) ?_
      refine Wp.mmin wm_X4_49 dX4_pack_32 (Nat.le_of_ble_eq_true rfl) ?_
      refine sti_9_7 rfl (dSt_w dX4_pack_35) ?_
      refine Wp.ild (j := 4) rfl dX4_pack_37 ?_
      refine Wp.iconst dX4_pack_39 (by decide) ?_
      refine Wp.imulE dX4_pack_40 (by first | exact w32_of (by omega) (by omega) | rfl) ?_
      refine sti_9_8 rfl (dSt_w dX4_pack_41) ?_
      refine pack_inner d h' sh' b (n * w) j (min b ((j + 1) * 5)) (by omega) _ (fun x k => ?_) _ (j * 5) 0 (Nat.lt_succ_self _) (by omega)
      refine pack_tail d h' sh' wd nw w n j b x _ k t2' k2' l2' j0 (by omega) hm.1 hp b2.2 _ ?_
      exact ih _ (j + 1) _ _ _ _ (by omega) (by omega) (fr.tr (Fr.e (List.mem_singleton.mpr rfl)))

theorem cq_pack (d : Nat) (h : mH) (sh : Sh h) (hd lk wd nh nl nw : Int) (tr : TR h hd lk wd nh nl nw) (w n : Int) (hw : hF h 13 3 = w) (hn : hF h 13 4 = n) (w0 : 0 ≤ w) (w1 : w ≤ 5) (n0 : 0 ≤ n) (n1 : n ≤ 20000) (hp : n * w + w ≤ nw) (b : Int) (hb0 : 0 ≤ b) (hb1 : b ≤ 24) : Cq m_X4_pack (d + 1) [(2, 13), (2, 11), (0, b)] h (fun r t => r = none ∧ Fr [wd] [] h t) := by
  refine Cq.of ?_
  show Wp m_X4_pack ((d + 1)) 0 [(2, 13), (2, 11), (0, b), (9, 0), (9, 0), (9, 0), (9, 0), (9, 0), (9, 0)] [] h _
  obtain ⟨t0, k0, l0, t1, k1, l1, t2, k2, l2, hne, ⟨y0, y1, y2⟩, ⟨z0, z1, z2⟩, b0, b1, b2⟩ := id tr
  have h74 := sh.2.2.2.2
  have hm := mul_bd (a := n) (b := w) (A := 20000) (B := 5) n0 n1 w0 w1
  refine Wp.ald_n (j := 0) rfl dX4_pack_0 ?_
  refine Wp.getf (k := 4) (tg := 0) kC4 (by decide) rfl lf_X4_26 dX4_pack_1 (sK13 (h := h) sh) hn ?_
  refine Wp.ald_n (j := 0) rfl dX4_pack_4 ?_
  refine Wp.getf (k := 3) (tg := 0) kC4 (by decide) rfl lf_X4_22 dX4_pack_5 (sK13 (h := h) sh) hw ?_
  refine Wp.imulE dX4_pack_8 (w32_of (by omega) (by omega)) ?_
  refine sti_9_3 rfl (dSt_n dX4_pack_9) ?_
  refine Wp.iconst dX4_pack_10 (by decide) ?_
  refine sti_9_4 rfl (dSt_w dX4_pack_11) ?_
  exact pack_loop d h sh hd lk wd nh nl nw tr w n hw hn w0 w1 n0 n1 hp b hb0 hb1 _ h 0 _ _ _ _ (Nat.lt_succ_self _) (Int.le_refl _) Fr.rf

theorem stepOf_loop (d : Nat) (h : mH) (sh : Sh h) (hd lk wd nl nw : Int) (tr : TR h hd lk wd 4096 nl nw) (w n : Int) (hw : hF h 13 3 = w) (hn : hF h 13 4 = n) (w0 : 0 ≤ w) (w1 : w ≤ 5) (n0 : 0 ≤ n) (n1 : n ≤ 20000) (hp : n * w + w ≤ nw) (hnl : n < nl) (b hh : Int) (hh0 : 0 ≤ hh) (hh1 : hh < 4096) : ∀ (m : Nat) (k s : Int), (n - k).toNat < m → (0 ≤ k) → Wp m_X4_stepOf (d + 2) 38 [(2, 13), (2, 11), (0, b), (0, hh), (0, s), (0, k)] [] h (fun r t => (∃ y, r = some (0, y) ∧ (y = -1 ∨ (0 ≤ y ∧ y < n))) ∧ TR t hd lk wd 4096 nl nw ∧ Fr [hd, lk] [(13, 4)] h t ∧ n ≤ hF t 13 4 ∧ hF t 13 4 ≤ 20001) := by
  intro m
  induction m with
  | zero => intro k s hm; exact absurd hm (Nat.not_lt_zero _)
  | succ m ih =>
    intro k s hm k0
    obtain ⟨t0, k0, l0, t1, k1, l1, t2, k2, l2, hne, ⟨y0, y1, y2⟩, ⟨z0, z1, z2⟩, b0, b1, b2⟩ := id tr
    have h74 := sh.2.2.2.2
    refine Wp.ild (j := 5) rfl dX4_stepOf_38 ?_
    refine Wp.ald_n (j := 0) rfl dX4_stepOf_40 ?_
    refine Wp.getf (k := 4) (tg := 0) kC4 (by decide) rfl lf_X4_26 dX4_stepOf_41 (sK13 (h := h) sh) hn ?_
    refine Wp.icge dX4_stepOf_44 (by decide) (tgt := 88) (fun c44 => ?_) (fun c44 => ?_)
    · refine Wp.ald_n (j := 0) rfl dX4_stepOf_88 ?_
      refine Wp.getf (k := 1) (tg := 2) kC4 (by decide) rfl lf_X4_15 dX4_stepOf_89 (sK13 (h := h) sh) t1 ?_
      refine Wp.ald_n (j := 0) rfl dX4_stepOf_92 ?_
      refine Wp.getf (k := 4) (tg := 0) kC4 (by decide) rfl lf_X4_26 dX4_stepOf_93 (sK13 (h := h) sh) hn ?_
      refine Wp.ald_n (j := 0) rfl dX4_stepOf_96 ?_
      refine Wp.getf (k := 0) (tg := 2) kC4 (by decide) rfl lf_X4_9 dX4_stepOf_97 (sK13 (h := h) sh) t0 ?_
      refine Wp.ild_n (j := 3) rfl dX4_stepOf_100 ?_
      refine Wp.iaload dX4_stepOf_101 k0 (by omega) (ilt l0 (by omega)) (show hA _ hd _ = hA h hd _ from rfl) ?_
      refine Wp.iastore dX4_stepOf_102 k1 (by omega) (ilt l1 (by omega)) ?_
      refine Wp.ald_n (j := 0) rfl dX4_stepOf_103 ?_
      refine Wp.getf (k := 0) (tg := 2) kC4 (by decide) rfl lf_X4_9 dX4_stepOf_104 (sK13 (h := h) sh) t0 ?_
      refine Wp.ild_n (j := 3) rfl dX4_stepOf_107 ?_
      refine Wp.ald_n (j := 0) rfl dX4_stepOf_108 ?_
      refine Wp.getf (k := 4) (tg := 0) kC4 (by decide) rfl lf_X4_26 dX4_stepOf_109 (sK13 (h := h) sh) hn ?_
      refine Wp.iastore dX4_stepOf_112 k0 (by omega) (ilt l0 (by omega)) ?_
      refine Wp.ald_n (j := 0) rfl dX4_stepOf_113 ?_
      refine Wp.dup dX4_stepOf_114 (Or.inr rfl) ?_
      refine Wp.getf (k := 4) (tg := 0) kC4 (by decide) rfl lf_X4_26 dX4_stepOf_115 (sK13 (h := h) sh) hn ?_
      refine Wp.iconst dX4_stepOf_118 (by decide) ?_
      refine Wp.iaddE dX4_stepOf_119 (by first | exact w32_of (by omega) (by omega) | rfl) ?_
      refine Wp.putf (k := 4) (tg := 0) kC4 (by decide) rfl rfl lf_X4_26 dX4_stepOf_120 (sK13 (h := h) sh) ?_
      refine Wp.iconst dX4_stepOf_123 (by decide) ?_
      refine Wp.iret rfl dX4_stepOf_124 ?_
      refine ⟨⟨_, rfl, Or.inl rfl⟩, ⟨t0, k0, l0, t1, k1, l1, t2, k2, l2, hne, ⟨y0, y1, y2⟩, ⟨z0, z1, z2⟩, b0, b1, b2⟩, ?_, ?_, ?_⟩
      · exact ((Fr.e (by simp)).tr (Fr.e (by simp))).tr (Fr.f (by decide))
      · show n ≤ n + 1
        omega
      · show n + 1 ≤ 20001
        omega
    · refine Wp.ild (j := 4) rfl dX4_stepOf_47 ?_
      refine Wp.iflt dX4_stepOf_49 (by decide) (tgt := 88) (fun c49 => ?_) (fun c49 => ?_)
      · refine Wp.ald_n (j := 0) rfl dX4_stepOf_88 ?_
        refine Wp.getf (k := 1) (tg := 2) kC4 (by decide) rfl lf_X4_15 dX4_stepOf_89 (sK13 (h := h) sh) t1 ?_
        refine Wp.ald_n (j := 0) rfl dX4_stepOf_92 ?_
        refine Wp.getf (k := 4) (tg := 0) kC4 (by decide) rfl lf_X4_26 dX4_stepOf_93 (sK13 (h := h) sh) hn ?_
        refine Wp.ald_n (j := 0) rfl dX4_stepOf_96 ?_
        refine Wp.getf (k := 0) (tg := 2) kC4 (by decide) rfl lf_X4_9 dX4_stepOf_97 (sK13 (h := h) sh) t0 ?_
        refine Wp.ild_n (j := 3) rfl dX4_stepOf_100 ?_
        refine Wp.iaload dX4_stepOf_101 k0 (by omega) (ilt l0 (by omega)) (show hA _ hd _ = hA h hd _ from rfl) ?_
        refine Wp.iastore dX4_stepOf_102 k1 (by omega) (ilt l1 (by omega)) ?_
        refine Wp.ald_n (j := 0) rfl dX4_stepOf_103 ?_
        refine Wp.getf (k := 0) (tg := 2) kC4 (by decide) rfl lf_X4_9 dX4_stepOf_104 (sK13 (h := h) sh) t0 ?_
        refine Wp.ild_n (j := 3) rfl dX4_stepOf_107 ?_
        refine Wp.ald_n (j := 0) rfl dX4_stepOf_108 ?_
        refine Wp.getf (k := 4) (tg := 0) kC4 (by decide) rfl lf_X4_26 dX4_stepOf_109 (sK13 (h := h) sh) hn ?_
        refine Wp.iastore dX4_stepOf_112 k0 (by omega) (ilt l0 (by omega)) ?_
        refine Wp.ald_n (j := 0) rfl dX4_stepOf_113 ?_
        refine Wp.dup dX4_stepOf_114 (Or.inr rfl) ?_
        refine Wp.getf (k := 4) (tg := 0) kC4 (by decide) rfl lf_X4_26 dX4_stepOf_115 (sK13 (h := h) sh) hn ?_
        refine Wp.iconst dX4_stepOf_118 (by decide) ?_
        refine Wp.iaddE dX4_stepOf_119 (by first | exact w32_of (by omega) (by omega) | rfl) ?_
        refine Wp.putf (k := 4) (tg := 0) kC4 (by decide) rfl rfl lf_X4_26 dX4_stepOf_120 (sK13 (h := h) sh) ?_
        refine Wp.iconst dX4_stepOf_123 (by decide) ?_
        refine Wp.iret rfl dX4_stepOf_124 ?_
        refine ⟨⟨_, rfl, Or.inl rfl⟩, ⟨t0, k0, l0, t1, k1, l1, t2, k2, l2, hne, ⟨y0, y1, y2⟩, ⟨z0, z1, z2⟩, b0, b1, b2⟩, ?_, ?_, ?_⟩
        · exact ((Fr.e (by simp)).tr (Fr.e (by simp))).tr (Fr.f (by decide))
        · show n ≤ n + 1
          omega
        · show n + 1 ≤ 20001
          omega
      · refine Wp.ild (j := 4) rfl dX4_stepOf_52 ?_
        refine Wp.ald_n (j := 0) rfl dX4_stepOf_54 ?_
        refine Wp.getf (k := 4) (tg := 0) kC4 (by decide) rfl lf_X4_26 dX4_stepOf_55 (sK13 (h := h) sh) hn ?_
        refine Wp.icge dX4_stepOf_58 (by decide) (tgt := 88) (fun c58 => ?_) (fun c58 => ?_)
        · refine Wp.ald_n (j := 0) rfl dX4_stepOf_88 ?_
          refine Wp.getf (k := 1) (tg := 2) kC4 (by decide) rfl lf_X4_15 dX4_stepOf_89 (sK13 (h := h) sh) t1 ?_
          refine Wp.ald_n (j := 0) rfl dX4_stepOf_92 ?_
          refine Wp.getf (k := 4) (tg := 0) kC4 (by decide) rfl lf_X4_26 dX4_stepOf_93 (sK13 (h := h) sh) hn ?_
          refine Wp.ald_n (j := 0) rfl dX4_stepOf_96 ?_
          refine Wp.getf (k := 0) (tg := 2) kC4 (by decide) rfl lf_X4_9 dX4_stepOf_97 (sK13 (h := h) sh) t0 ?_
          refine Wp.ild_n (j := 3) rfl dX4_stepOf_100 ?_
          refine Wp.iaload dX4_stepOf_101 k0 (by omega) (ilt l0 (by omega)) (show hA _ hd _ = hA h hd _ from rfl) ?_
          refine Wp.iastore dX4_stepOf_102 k1 (by omega) (ilt l1 (by omega)) ?_
          refine Wp.ald_n (j := 0) rfl dX4_stepOf_103 ?_
          refine Wp.getf (k := 0) (tg := 2) kC4 (by decide) rfl lf_X4_9 dX4_stepOf_104 (sK13 (h := h) sh) t0 ?_
          refine Wp.ild_n (j := 3) rfl dX4_stepOf_107 ?_
          refine Wp.ald_n (j := 0) rfl dX4_stepOf_108 ?_
          refine Wp.getf (k := 4) (tg := 0) kC4 (by decide) rfl lf_X4_26 dX4_stepOf_109 (sK13 (h := h) sh) hn ?_
          refine Wp.iastore dX4_stepOf_112 k0 (by omega) (ilt l0 (by omega)) ?_
          refine Wp.ald_n (j := 0) rfl dX4_stepOf_113 ?_
          refine Wp.dup dX4_stepOf_114 (Or.inr rfl) ?_
          refine Wp.getf (k := 4) (tg := 0) kC4 (by decide) rfl lf_X4_26 dX4_stepOf_115 (sK13 (h := h) sh) hn ?_
          refine Wp.iconst dX4_stepOf_118 (by decide) ?_
          refine Wp.iaddE dX4_stepOf_119 (by first | exact w32_of (by omega) (by omega) | rfl) ?_
          refine Wp.putf (k := 4) (tg := 0) kC4 (by decide) rfl rfl lf_X4_26 dX4_stepOf_120 (sK13 (h := h) sh) ?_
          refine Wp.iconst dX4_stepOf_123 (by decide) ?_
          refine Wp.iret rfl dX4_stepOf_124 ?_
          refine ⟨⟨_, rfl, Or.inl rfl⟩, ⟨t0, k0, l0, t1, k1, l1, t2, k2, l2, hne, ⟨y0, y1, y2⟩, ⟨z0, z1, z2⟩, b0, b1, b2⟩, ?_, ?_, ?_⟩
          · exact ((Fr.e (by simp)).tr (Fr.e (by simp))).tr (Fr.f (by decide))
          · show n ≤ n + 1
            omega
          · show n + 1 ≤ 20001
            omega
        · refine Wp.ald_n (j := 0) rfl dX4_stepOf_61 ?_
          refine Wp.ild (j := 4) rfl dX4_stepOf_62 ?_
          obtain ⟨_, t64, ct64, ⟨y64, rfl, hy64⟩, e64⟩ := cq_isLike (d + 1) h sh hd lk wd 4096 nl nw tr w n hw hn w0 w1 n0 n1 hp s (by omega) (by omega)
          rw [e64] at ct64
          refine Wp.callV1 (ct64) wc_X4_45 iM_X4_isLikeLast se_X4_isLikeLast kC4 (sK13 (h := h) sh) dX4_stepOf_64 rfl (Nat.le_of_ble_eq_true rfl) rfl (Nat.le_of_ble_eq_true rfl) ?_
          refine Wp.ifeq dX4_stepOf_67 (by decide) (tgt := 73) (fun c67 => ?_) (fun c67 => ?_)
          · refine Wp.ald_n (j := 0) rfl dX4_stepOf_73 ?_
            refine Wp.getf (k := 1) (tg := 2) kC4 (by decide) rfl lf_X4_15 dX4_stepOf_74 (sK13 (h := h) sh) t1 ?_
            refine Wp.ild (j := 4) rfl dX4_stepOf_77 ?_
            refine Wp.iaload dX4_stepOf_79 k1 (by omega) (ilt l1 (by omega)) (show hA _ lk _ = hA h lk _ from rfl) ?_
            refine sti_6_4 rfl (dSt_w dX4_stepOf_80) ?_
            refine inc_6_5 rfl dX4_stepOf_82 (by first | exact w32_of (by omega) (by omega) | rfl) ?_
            refine Wp.goto (tgt := 38) dX4_stepOf_85 (by decide) ?_
            exact ih (k + 1) _ (by omega) (by omega)
          · refine Wp.ild (j := 4) rfl dX4_stepOf_70 ?_
            refine Wp.iret rfl dX4_stepOf_72 ?_
            exact ⟨⟨_, rfl, Or.inr (by omega)⟩, tr, Fr.rf, by omega, by omega⟩

theorem cq_stepOf (d : Nat) (h : mH) (sh : Sh h) (hd lk wd nl nw : Int) (tr : TR h hd lk wd 4096 nl nw) (w n : Int) (hw : hF h 13 3 = w) (hn : hF h 13 4 = n) (w0 : 0 ≤ w) (w1 : w ≤ 5) (n0 : 0 ≤ n) (n1 : n ≤ 20001) (b : Int) (hb0 : 0 ≤ b) (hb1 : b ≤ 24) : Cq m_X4_stepOf (d + 3) [(2, 13), (2, 11), (0, b)] h (fun r t => (∃ y, r = some (0, y) ∧ (y = -1 ∨ (0 ≤ y ∧ y < n))) ∧ (∃ lk' wd' nl' nw', TR t hd lk' wd' 4096 nl' nw' ∧ (lk' = lk ∨ (hN h : Int) ≤ lk') ∧ (wd' = wd ∨ (hN h : Int) ≤ wd') ∧ aC h t (psT 4096 nl nw) (psT 4096 nl' nw')) ∧ Fq (fun a => a = hd ∨ a = lk ∨ a = wd) [(13, 1), (13, 2), (13, 4)] h t ∧ n ≤ hF t 13 4 ∧ hF t 13 4 ≤ 20001) := by
  refine Cq.of ?_
  show Wp m_X4_stepOf ((d + 3)) 0 [(2, 13), (2, 11), (0, b), (9, 0), (9, 0), (9, 0)] [] h _
  obtain ⟨t0, k0, l0, t1, k1, l1, t2, k2, l2, hne, ⟨y0, y1, y2⟩, ⟨z0, z1, z2⟩, b0, b1, b2⟩ := id tr
  have h74 := sh.2.2.2.2
  refine Wp.ald_n (j := 0) rfl dX4_stepOf_0 ?_
  refine Wp.getf (k := 4) (tg := 0) kC4 (by decide) rfl lf_X4_26 dX4_stepOf_1 (sK13 (h := h) sh) hn ?_
  refine Wp.sipush dX4_stepOf_4 (by decide) ?_
  refine Wp.icle dX4_stepOf_7 (by decide) (tgt := 12) (fun c7 => ?_) (fun c7 => ?_)
  · refine Wp.ald_n (j := 0) rfl dX4_stepOf_12 ?_
    obtain ⟨_, u13, ct13, rfl, lk', wd', nl', nw', tr13, p13, q13, fq13, hlk, hwd, ac13⟩ := cq_makeRoomT d h sh hd lk wd 4096 nl nw tr w n hw hn w0 w1 n0 (by omega)
    refine Wp.callV0 (ct13.up 0) wc_X4_35 iM_X4_makeRoom se_X4_makeRoom kC4 (sK13 (h := h) sh) dX4_stepOf_13 rfl (Nat.le_of_ble_eq_true rfl) rfl (Nat.le_of_ble_eq_true rfl) ?_
    have sh13 := sh.fq fq13 (by decide +kernel) (fun z => z)
    have hw13 : hF u13 13 3 = w := (fq13.2.2.2.2.1 13 3 (by omega) (by decide)).trans hw
    have hn13 : hF u13 13 4 = n := (fq13.2.2.2.2.1 13 4 (by omega) (by decide)).trans hn
    refine Wp.ald_n (j := 0) rfl dX4_stepOf_16 ?_
    refine Wp.ald_n (j := 1) rfl dX4_stepOf_17 ?_
    refine Wp.ild_n (j := 2) rfl dX4_stepOf_18 ?_
    obtain ⟨_, u19, ct19, rfl, fr19⟩ := cq_pack (d + 1) u13 sh13 hd lk' wd' 4096 nl' nw' tr13 w n hw13 hn13 w0 w1 n0 (by omega) q13 b hb0 hb1
    refine Wp.callV0 (ct19) wc_X4_38 iM_X4_pack se_X4_pack kC4 (sK13 (h := u13) sh13) dX4_stepOf_19 rfl (Nat.le_of_ble_eq_true rfl) rfl (Nat.le_of_ble_eq_true rfl) ?_
    have sh19 := sh13.fr fr19 (by decide +kernel) (by have := tr13.2.2.2.2.2.2.2.2.2.2.1.2.2; simp; omega)
    have tr19 := tr13.fq (Fq.fr (A := fun a => a = wd') fr19 (by simp)) (by have := sh13.2.2.2.2; omega) (by decide) (by decide) (by decide)
    have hw19 : hF u19 13 3 = w := (fr19.2.2.2.2.1 13 3 (by decide)).trans hw13
    have hn19 : hF u19 13 4 = n := (fr19.2.2.2.2.1 13 4 (by decide)).trans hn13
    obtain ⟨s0, sk0, sl0, -⟩ := id tr19
    refine Wp.ald_n (j := 0) rfl dX4_stepOf_22 ?_
    obtain ⟨_, u22, ct22, ⟨y22, rfl, hy22⟩, e22⟩ := cq_headOfLast (d + 2) u19 sh19 hd lk' wd' 4096 nl' nw' tr19 w n hw19 hn19 w0 w1 n0 (by omega) q13
    rw [e22] at ct22
    refine Wp.callV1 (ct22) wc_X4_41 iM_X4_headOfLast se_X4_headOfLast kC4 (sK13 (h := u19) sh19) dX4_stepOf_23 rfl (Nat.le_of_ble_eq_true rfl) rfl (Nat.le_of_ble_eq_true rfl) ?_
    refine sti_6_3 rfl (dSt_n dX4_stepOf_26) ?_
    refine Wp.ald_n (j := 0) rfl dX4_stepOf_27 ?_
    refine Wp.getf (k := 0) (tg := 2) kC4 (by decide) rfl lf_X4_9 dX4_stepOf_28 (sK13 (h := u19) sh19) s0 ?_
    refine Wp.ild_n (j := 3) rfl dX4_stepOf_31 ?_
    refine Wp.iaload dX4_stepOf_32 sk0 (by omega) (ilt sl0 (by omega)) (show hA _ hd _ = hA u19 hd _ from rfl) ?_
    refine sti_6_4 rfl (dSt_w dX4_stepOf_33) ?_
    refine Wp.iconst dX4_stepOf_35 (by decide) ?_
    refine sti_6_5 rfl (dSt_w dX4_stepOf_36) ?_
    refine (stepOf_loop (d + 1) u19 sh19 hd lk' wd' nl' nw' tr19 w n hw19 hn19 w0 w1 n0 (by omega) q13 p13 b y22 hy22.1 hy22.2 _ 0 _ (Nat.lt_succ_self _) (Int.le_refl _)).mono (fun r t q => ?_)
    obtain ⟨e1, e2, e3, e4, e5⟩ := q
    refine ⟨e1, ⟨lk', wd', nl', nw', e2, hlk, hwd, ac13.tr (aC.same (e3.1.trans fr19.1) (e3.2.1.trans fr19.2.1))⟩, ?_, e4, e5⟩
    have f13 := fq13.mono (A' := fun a => a = hd ∨ a = lk ∨ a = wd) (G' := [(13, 1), (13, 2), (13, 4)]) (fun x _ z => z.elim) (by decide)
    have f19 := (Fq.fr (A := fun a => a = hd ∨ a = lk' ∨ a = wd') fr19 (by simp)).mono (A' := fun a => a = hd ∨ a = lk' ∨ a = wd') (G' := [(13, 1), (13, 2), (13, 4)]) (fun x _ z => z) (by decide)
    have f38 := (Fq.fr (A := fun a => a = hd ∨ a = lk' ∨ a = wd') e3 (by simp)).mono (A' := fun a => a = hd ∨ a = lk' ∨ a = wd') (G' := [(13, 1), (13, 2), (13, 4)]) (fun x _ z => z) (by decide)
    refine f13.tr2 (f19.tr f38) (fun x hx hz => ?_)
    rcases hz with hz | hz | hz
    · exact Or.inl hz
    · rcases hlk with z | z
      · exact Or.inr (Or.inl (hz.trans z))
      · omega
    · rcases hwd with z | z
      · exact Or.inr (Or.inr (hz.trans z))
      · omega
  · refine Wp.iconst dX4_stepOf_10 (by decide) ?_
    refine Wp.iret rfl dX4_stepOf_11 ?_
    exact ⟨⟨_, rfl, Or.inl rfl⟩, ⟨lk, wd, nl, nw, tr, Or.inl rfl, Or.inl rfl, aC.rf⟩, Fq.rf, by omega, by omega⟩

