/-- what may have changed, where cells may have been made -/
def Fq (A : Int → Prop) (G : List (Int × Nat)) (h h' : mH) : Prop := hN h ≤ hN h' ∧ hZ h ≤ hZ h' ∧ (∀ a : Int, a < hN h → hK h' a = hK h a) ∧ (∀ a : Int, a < hN h → hL h' a = hL h a) ∧ (∀ (a : Int) (k : Nat), a < hN h → (a, k) ∉ G → hF h' a k = hF h a k) ∧ ∀ a : Int, a < hN h → ¬ A a → hA h' a = hA h a
theorem Fq.rf {A : Int → Prop} {G : List (Int × Nat)} {h : mH} : Fq A G h h := ⟨Nat.le_refl _, Nat.le_refl _, fun _ _ => rfl, fun _ _ => rfl, fun _ _ _ _ => rfl, fun _ _ _ => rfl⟩
theorem Fq.tr {A : Int → Prop} {G : List (Int × Nat)} {h h1 h2 : mH} (a : Fq A G h h1) (b : Fq A G h1 h2) : Fq A G h h2 := ⟨Nat.le_trans a.1 b.1, Nat.le_trans a.2.1 b.2.1, fun x hx => (b.2.2.1 x (by have := a.1; omega)).trans (a.2.2.1 x hx), fun x hx => (b.2.2.2.1 x (by have := a.1; omega)).trans (a.2.2.2.1 x hx), fun x k hx hk => (b.2.2.2.2.1 x k (by have := a.1; omega) hk).trans (a.2.2.2.2.1 x k hx hk), fun x hx hn => (b.2.2.2.2.2 x (by have := a.1; omega) hn).trans (a.2.2.2.2.2 x hx hn)⟩
/-- .. where the second may change cells that the first has made -/
theorem Fq.tr2 {A B : Int → Prop} {G : List (Int × Nat)} {h h1 h2 : mH} (a : Fq A G h h1) (b : Fq B G h1 h2) (hb : ∀ x, x < hN h → B x → A x) : Fq A G h h2 := ⟨Nat.le_trans a.1 b.1, Nat.le_trans a.2.1 b.2.1, fun x hx => (b.2.2.1 x (by have := a.1; omega)).trans (a.2.2.1 x hx), fun x hx => (b.2.2.2.1 x (by have := a.1; omega)).trans (a.2.2.2.1 x hx), fun x k hx hk => (b.2.2.2.2.1 x k (by have := a.1; omega) hk).trans (a.2.2.2.2.1 x k hx hk), fun x hx hn => (b.2.2.2.2.2 x (by have := a.1; omega) (fun z => hn (hb x hx z))).trans (a.2.2.2.2.2 x hx hn)⟩
theorem Fq.mono {A A' : Int → Prop} {G G' : List (Int × Nat)} {h h' : mH} (a : Fq A G h h') (hA : ∀ x, x < hN h → A x → A' x) (hG : ∀ x ∈ G, x ∈ G') : Fq A' G' h h' := ⟨a.1, a.2.1, a.2.2.1, a.2.2.2.1, fun x k hx hk => a.2.2.2.2.1 x k hx (fun z => hk (hG _ z)), fun x hx hn => a.2.2.2.2.2 x hx (fun z => hn (hA x hx z))⟩
theorem Fq.a {A : Int → Prop} {G : List (Int × Nat)} {h : mH} {a : Int} {f : Int → Int} (ha : a < hN h → A a) : Fq A G h (sA h a f) := ⟨Nat.le_refl _, Nat.le_refl _, fun _ _ => rfl, fun _ _ => rfl, fun _ _ _ _ => rfl, fun x hx hn => u1_n _ _ (fun q => hn (by rw [q]; exact ha (by omega)))⟩
theorem Fq.e {A : Int → Prop} {G : List (Int × Nat)} {h : mH} {a i v : Int} (ha : a < hN h → A a) : Fq A G h (sE h a i v) := Fq.a ha
theorem Fq.f {A : Int → Prop} {G : List (Int × Nat)} {h : mH} {a v : Int} {k : Nat} (ha : (a, k) ∈ G) : Fq A G h (sF h a k v) := ⟨Nat.le_refl _, Nat.le_refl _, fun _ _ => rfl, fun _ _ => rfl, fun x j _ hx => if_neg (fun q => hx (by rw [q.1, q.2]; exact ha)), fun _ _ _ => rfl⟩
theorem Fq.n {A : Int → Prop} {G : List (Int × Nat)} {h : mH} {t : Nat} {n : Int} : Fq A G h (nA h t n) := ⟨Nat.le_succ _, Nat.le_add_right _ _, fun _ hx => nA_K hx, fun _ hx => nA_L hx, fun _ _ _ _ => rfl, fun _ hx _ => nA_A hx⟩
theorem Fq.fr {A : Int → Prop} {L : List Int} {G : List (Int × Nat)} {h h' : mH} (a : Fr L G h h') (hL : ∀ x ∈ L, A x) : Fq A G h h' := ⟨Nat.le_of_eq a.1.symm, Nat.le_of_eq a.2.1.symm, fun _ _ => by rw [a.2.2.1], fun _ _ => by rw [a.2.2.2.1], fun x k _ hk => a.2.2.2.2.1 x k hk, fun x _ hn => a.2.2.2.2.2 x (fun z => hn (hL x z))⟩
theorem Sh.fq {A : Int → Prop} {G : List (Int × Nat)} {h h' : mH} (sh : Sh h) (a : Fq A G h h') (hG : okG G = true) (h1 : ¬ A 1) : Sh h' := by
  have h74 := sh.2.2.2.2
  have hs : ∀ q ∈ shK, q.1 < 74 := by decide +kernel
  have hs2 : ∀ q ∈ shL, q.1 < 74 := by decide +kernel
  have hs3 : ∀ q ∈ shF, q.1.1 < 74 := by decide +kernel
  refine sh.of (fun q hq => a.2.2.1 _ (by have := hs q hq; omega)) (fun q hq => a.2.2.2.1 _ (by have := hs2 q hq; omega)) (fun q hq => a.2.2.2.2.1 q.1.1 q.1.2 (by have := hs3 q hq; omega) (fun z => ?_)) (a.2.2.2.2.2 1 (by omega) h1) a.1
  have := List.all_eq_true.mp hG q hq
  simp only [Bool.not_eq_true', List.contains_eq_mem, decide_eq_false_iff_not] at this
  exact this z
/-- the rooms of the walk's book: heads, links, words -/
def TR (h : mH) (hd lk wd nh nl nw : Int) : Prop := hF h 13 0 = hd ∧ hK h hd = 10 ∧ hL h hd = nh ∧ hF h 13 1 = lk ∧ hK h lk = 10 ∧ hL h lk = nl ∧ hF h 13 2 = wd ∧ hK h wd = 11 ∧ hL h wd = nw ∧ hd ≠ lk ∧ ((hd = 14 ∨ 74 ≤ hd) ∧ (lk = 15 ∨ 74 ≤ lk) ∧ (wd = 16 ∨ 74 ≤ wd)) ∧ (hd < hN h ∧ lk < hN h ∧ wd < hN h) ∧ (nh = 0 ∨ nh = 4096) ∧ (0 ≤ nl ∧ nl ≤ 20001) ∧ (0 ≤ nw ∧ nw ≤ 100005)
theorem TR.fq {A : Int → Prop} {G : List (Int × Nat)} {h h' : mH} {hd lk wd nh nl nw : Int} (t : TR h hd lk wd nh nl nw) (a : Fq A G h h') (h13 : 74 ≤ hN h) (g0 : ((13 : Int), 0) ∉ G) (g1 : ((13 : Int), 1) ∉ G) (g2 : ((13 : Int), 2) ∉ G) : TR h' hd lk wd nh nl nw := by
  obtain ⟨t0, k0, l0, t1, k1, l1, t2, k2, l2, hne, hy, ⟨z0, z1, z2⟩, hb⟩ := t
  have hn := a.1
  exact ⟨(a.2.2.2.2.1 13 0 (by omega) g0).trans t0, (a.2.2.1 hd z0).trans k0, (a.2.2.2.1 hd z0).trans l0, (a.2.2.2.2.1 13 1 (by omega) g1).trans t1, (a.2.2.1 lk z1).trans k1, (a.2.2.2.1 lk z1).trans l1, (a.2.2.2.2.1 13 2 (by omega) g2).trans t2, (a.2.2.1 wd z2).trans k2, (a.2.2.2.1 wd z2).trans l2, hne, hy, ⟨by omega, by omega, by omega⟩, hb⟩
/-- what rooms may still be made -/
def psL (n : Int) : Int := if n < 20001 then 60003 - 2 * n else 0
def psW (n : Int) : Int := 2 * (100005 - n) + ((if n < 20001 then 20001 else 0) + ((if n < 40002 then 40002 else 0) + ((if n < 60003 then 60003 else 0) + ((if n < 80004 then 80004 else 0) + (if n < 100005 then 100005 else 0)))))
def psH (n : Int) : Int := if n < 4096 then 4096 else 0
def aC (h h' : mH) (p p' : Int) : Prop := (hZ h' : Int) + p' ≤ hZ h + p ∧ 64 * (hN h' : Int) + p' ≤ 64 * hN h + p
theorem aC.rf {h : mH} {p : Int} : aC h h p p := ⟨Int.le_refl _, Int.le_refl _⟩
theorem aC.tr {h h1 h2 : mH} {p p1 p2 : Int} (a : aC h h1 p p1) (b : aC h1 h2 p1 p2) : aC h h2 p p2 := ⟨by have := a.1; have := b.1; omega, by have := a.2; have := b.2; omega⟩
def psT (nh nl nw : Int) : Int := psH nh + psL nl + psW nw
theorem aC.same {h h' : mH} {p : Int} (hn : hN h' = hN h) (hz : hZ h' = hZ h) : aC h h' p p := ⟨by rw [hz]; omega, by rw [hn]; omega⟩
theorem cq_tstart (d : Nat) (h : mH) (sh : Sh h) (hd lk wd nh nl nw : Int) (tr : TR h hd lk wd nh nl nw) (b : Int) (hb0 : 0 ≤ b) (hb1 : b ≤ 24) : Cq m_X4_start (d + 1) [(2, 13), (0, b)] h (fun r t => r = none ∧ ∃ hd', TR t hd' lk wd 4096 nl nw ∧ hF t 13 3 = (b + 4).tdiv 5 ∧ hF t 13 4 = 0 ∧ Fq (fun a => a = hd) [(13, 0), (13, 3), (13, 4)] h t ∧ aC h t (psT nh nl nw) (psT 4096 nl nw)) := by
  refine Cq.of ?_
  show Wp m_X4_start ((d + 1)) 0 [(2, 13), (0, b)] [] h _
  obtain ⟨t0, k0, l0, t1, k1, l1, t2, k2, l2, hne, ⟨y0, y1, y2⟩, ⟨z0, z1, z2⟩, b0, b1, b2⟩ := id tr
  have h74 := sh.2.2.2.2
  refine Wp.ald_n (j := 0) rfl dX4_start_0 ?_
  refine Wp.ild_n (j := 1) rfl dX4_start_1 ?_
  refine Wp.iconst dX4_start_2 (by decide) ?_
  refine Wp.iaddE dX4_start_3 (by first | exact w32_of (by omega) (by omega) | rfl) ?_
  refine Wp.iconst dX4_start_4 (by decide) ?_
  refine Wp.isubE dX4_start_5 (show w32 (b + 5 - 1) = b + 4 by rw [w32_of (by omega) (by omega)]; omega) ?_
  refine Wp.iconst dX4_start_6 (by decide) ?_
  refine Wp.idivE dX4_start_7 (by omega) (w32_of (by have := tdn (a := b + 4) (b := 5) (by omega) (by omega); omega) (by have := tdn (a := b + 4) (b := 5) (by omega) (by omega); omega)) ?_
  refine Wp.putf (k := 3) (tg := 0) kC4 (by decide) rfl rfl lf_X4_22 dX4_start_8 (sK13 (h := h) sh) ?_
  refine Wp.ald_n (j := 0) rfl dX4_start_11 ?_
  refine Wp.iconst dX4_start_12 (by decide) ?_
  refine Wp.putf (k := 4) (tg := 0) kC4 (by decide) rfl rfl lf_X4_26 dX4_start_13 (sK13 (h := h) sh) ?_
  refine Wp.ald_n (j := 0) rfl dX4_start_16 ?_
  refine Wp.getf (k := 0) (tg := 2) kC4 (by decide) rfl lf_X4_9 dX4_start_17 (sK13 (h := h) sh) t0 ?_
  refine Wp.alen dX4_start_20 (by decide) (by decide) k0 l0 (by omega) ?_
  refine Wp.sipush dX4_start_21 (by decide) ?_
  refine Wp.icge dX4_start_24 (by decide) (tgt := 36) (fun c24 => ?_) (fun c24 => ?_)
  · refine Wp.ald_n (j := 0) rfl dX4_start_36 ?_
    refine Wp.getf (k := 0) (tg := 2) kC4 (by decide) rfl lf_X4_9 dX4_start_37 (sK13 (h := h) sh) t0 ?_
    refine Wp.iconst dX4_start_40 (by decide) ?_
    refine Wp.callS0 (ct_fillI d _ hd (-1) nh k0 l0 (by omega) (by omega)) wc_X4_29 sM_J7_fill_53178 dX4_start_41 rfl (Nat.le_of_ble_eq_true rfl) rfl (Nat.le_of_ble_eq_true rfl) ?_
    refine Wp.vret rfl dX4_start_44 ?_
    first
    | (have hnh : nh = 4096 := by omega
       subst hnh
       refine ⟨rfl, hd, ?_, rfl, rfl, ?_, aC.same rfl rfl⟩
       · exact ⟨t0, k0, l0, t1, k1, l1, t2, k2, l2, hne, ⟨y0, y1, y2⟩, ⟨z0, z1, z2⟩, Or.inr rfl, b1, b2⟩
       · exact (Fq.f (by decide)).tr ((Fq.f (by decide)).tr (Fq.a (fun _ => rfl))))
    | (have hnh : nh = 0 := by omega
       subst hnh
       refine ⟨rfl, (hN h : Int), ?_, rfl, rfl, ?_, ?_⟩
       · exact ⟨rfl, nA_Kn, nA_Ln, t1, (nA_K z1).trans k1, (nA_L z1).trans l1, t2, (nA_K z2).trans k2, (nA_L z2).trans l2, by omega, ⟨Or.inr (by omega), y1, y2⟩, ⟨by show (hN h : Int) < ((hN h + 1 : Nat) : Int); omega, by show lk < ((hN h + 1 : Nat) : Int); omega, by show wd < ((hN h + 1 : Nat) : Int); omega⟩, Or.inr rfl, b1, b2⟩
       · refine Fq.tr2 (B := fun a => a = hd ∨ a = (hN h : Int)) ((Fq.f (by decide)).tr ((Fq.f (by decide)).tr (Fq.n (t := 10) (n := 4096)))) (((Fq.f (by decide)).tr (Fq.a (fun _ => Or.inr rfl)))) (fun x hx hz => ?_)
         rcases hz with hz | hz
         · exact hz
         · omega
       · unfold aC psT psH
         refine ⟨?_, ?_⟩
         · show ((hZ h + (4096 : Int).toNat : Nat) : Int) + _ ≤ _
           rw [if_neg (by decide), if_pos (by decide)]
           omega
         · show 64 * ((hN h + 1 : Nat) : Int) + _ ≤ _
           rw [if_neg (by decide), if_pos (by decide)]
           omega)
  · refine Wp.ald_n (j := 0) rfl dX4_start_27 ?_
    refine Wp.sipush dX4_start_28 (by decide) ?_
    refine Wp.newI wT_int dX4_start_31 (by omega) (by omega) ?_
    refine Wp.putf (k := 0) (tg := 2) kC4 (by decide) rfl rfl lf_X4_9 dX4_start_33 (sK13 (h := h) sh) ?_
    refine Wp.ald_n (j := 0) rfl dX4_start_36 ?_
    refine Wp.getf (k := 0) (tg := 2) kC4 (by decide) rfl lf_X4_9 dX4_start_37 (sK13 (h := h) sh) rfl ?_
    refine Wp.iconst dX4_start_40 (by decide) ?_
    refine Wp.callS0 (ct_fillI d _ (hN h : Int) (-1) 4096 nA_Kn nA_Ln (by decide) (by decide)) wc_X4_29 sM_J7_fill_53178 dX4_start_41 rfl (Nat.le_of_ble_eq_true rfl) rfl (Nat.le_of_ble_eq_true rfl) ?_
    refine Wp.vret rfl dX4_start_44 ?_
    first
    | (have hnh : nh = 4096 := by omega
       subst hnh
       refine ⟨rfl, hd, ?_, rfl, rfl, ?_, aC.same rfl rfl⟩
       · exact ⟨t0, k0, l0, t1, k1, l1, t2, k2, l2, hne, ⟨y0, y1, y2⟩, ⟨z0, z1, z2⟩, Or.inr rfl, b1, b2⟩
       · exact (Fq.f (by decide)).tr ((Fq.f (by decide)).tr (Fq.a (fun _ => rfl))))
    | (have hnh : nh = 0 := by omega
       subst hnh
       refine ⟨rfl, (hN h : Int), ?_, rfl, rfl, ?_, ?_⟩
       · exact ⟨rfl, nA_Kn, nA_Ln, t1, (nA_K z1).trans k1, (nA_L z1).trans l1, t2, (nA_K z2).trans k2, (nA_L z2).trans l2, by omega, ⟨Or.inr (by omega), y1, y2⟩, ⟨by show (hN h : Int) < ((hN h + 1 : Nat) : Int); omega, by show lk < ((hN h + 1 : Nat) : Int); omega, by show wd < ((hN h + 1 : Nat) : Int); omega⟩, Or.inr rfl, b1, b2⟩
       · refine Fq.tr2 (B := fun a => a = hd ∨ a = (hN h : Int)) ((Fq.f (by decide)).tr ((Fq.f (by decide)).tr (Fq.n (t := 10) (n := 4096)))) (((Fq.f (by decide)).tr (Fq.a (fun _ => Or.inr rfl)))) (fun x hx hz => ?_)
         rcases hz with hz | hz
         · exact hz
         · omega
       · unfold aC psT psH
         refine ⟨?_, ?_⟩
         · show ((hZ h + (4096 : Int).toNat : Nat) : Int) + _ ≤ _
           rw [if_neg (by decide), if_pos (by decide)]
           omega
         · show 64 * ((hN h + 1 : Nat) : Int) + _ ≤ _
           rw [if_neg (by decide), if_pos (by decide)]
           omega)

