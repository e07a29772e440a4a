/-! ===== ends told: the least of the round that a state comes to ===== -/
def hm9 (f : Int → Int) (s l : Int) : Prop := (∃ k : Nat, itn f k s = l) ∧ (∃ c : Nat, 1 ≤ c ∧ itn f c l = l) ∧ ∀ k : Nat, l ≤ itn f k l
theorem itn_per {f : Int → Int} {e : Int} {c : Nat} (h : itn f c e = e) : ∀ m : Nat, itn f (c * m) e = e
  | 0 => rfl
  | m + 1 => by
    show itn f (c * m + c) e = e
    rw [itn_add, h]
    exact itn_per h m
theorem hm9_le {f : Int → Int} {s l l' : Int} {k k' : Nat} (h : k ≤ k') (e : itn f k s = l) (e' : itn f k' s = l') (per : ∃ c : Nat, 1 ≤ c ∧ itn f c l = l) (lo : ∀ k : Nat, l ≤ itn f k l) (lo' : ∀ k : Nat, l' ≤ itn f k l') : l = l' := by
  have h1 : itn f (k' - k) l = l' := by
    have z := itn_add f s (k' - k) k
    rw [show k' - k + k = k' by omega, e, e'] at z
    exact z.symm
  obtain ⟨c, c1, hc⟩ := per
  have hle : k' - k ≤ c * (k' - k) := Nat.le_mul_of_pos_left _ c1
  have h2 : itn f (c * (k' - k) - (k' - k)) l' = l := by
    have z := itn_add f l (c * (k' - k) - (k' - k)) (k' - k)
    rw [Nat.sub_add_cancel hle, itn_per hc, h1] at z
    exact z.symm
  have a := lo (k' - k)
  have b := lo' (c * (k' - k) - (k' - k))
  rw [h1] at a
  rw [h2] at b
  exact Int.le_antisymm a b
theorem hm9.uniq {f : Int → Int} {s l l' : Int} (h : hm9 f s l) (h' : hm9 f s l') : l = l' := by
  obtain ⟨⟨k, e⟩, per, lo⟩ := h
  obtain ⟨⟨k', e'⟩, per', lo'⟩ := h'
  rcases Nat.le_total k k' with z | z
  · exact hm9_le z e e' per lo lo'
  · exact (hm9_le z e' e per' lo' lo).symm
theorem hm9.back {f : Int → Int} {s l : Int} {i : Nat} (h : hm9 f (itn f i s) l) : hm9 f s l := by
  obtain ⟨⟨k, e⟩, b, c⟩ := h
  exact ⟨⟨k + i, by rw [itn_add]; exact e⟩, b, c⟩
def HM9 (S : Int) (f g : Int → Int) : Prop := ∀ s, 0 ≤ s → s < S → (0 ≤ g s ∧ g s < S) ∧ hm9 f s (g s)
theorem itn_cg {f f' : Int → Int} {S s : Int} (rg : RG S f) (h : ∀ x, 0 ≤ x → x < S → f x = f' x) (s0 : 0 ≤ s) (s1 : s < S) : ∀ k : Nat, itn f k s = itn f' k s
  | 0 => rfl
  | k + 1 => by
    have hk := itn_in rg s0 s1 k
    show f (itn f k s) = f' (itn f' k s)
    rw [← itn_cg rg h s0 s1 k]
    exact h _ hk.1 hk.2
theorem hm9.cg {f f' : Int → Int} {S s l : Int} (rg : RG S f) (hf : ∀ x, 0 ≤ x → x < S → f x = f' x) (s0 : 0 ≤ s) (s1 : s < S) (l0 : 0 ≤ l) (l1 : l < S) (h : hm9 f s l) : hm9 f' s l := by
  obtain ⟨⟨k, hk⟩, ⟨c, c1, hc⟩, lo⟩ := h
  refine ⟨⟨k, ?_⟩, ⟨c, c1, ?_⟩, fun j => ?_⟩
  · rw [← itn_cg rg hf s0 s1]
    exact hk
  · rw [← itn_cg rg hf l0 l1]
    exact hc
  · rw [← itn_cg rg hf l0 l1]
    exact lo j
theorem HM9.cg {S : Int} {f f' g g' : Int → Int} (rg : RG S f) (hf : ∀ x, 0 ≤ x → x < S → f x = f' x) (hg : ∀ x, 0 ≤ x → x < S → g x = g' x) (h : HM9 S f g) : HM9 S f' g' := fun s s0 s1 => by
  have z := h s s0 s1
  rw [← hg s s0 s1]
  exact ⟨z.1, z.2.cg rg hf s0 s1 z.1.1 z.1.2⟩
theorem HM9.uniq {S : Int} {f g g' : Int → Int} (h : HM9 S f g) (h' : HM9 S f g') {s : Int} (s0 : 0 ≤ s) (s1 : s < S) : g s = g' s := (h s s0 s1).2.uniq (h' s s0 s1).2
/-- a home is its own home -/
theorem HM9.own {S : Int} {f g : Int → Int} (h : HM9 S f g) {s : Int} (s0 : 0 ≤ s) (s1 : s < S) : g (g s) = g s := by
  have z := h s s0 s1
  have y := h (g s) z.1.1 z.1.2
  exact y.2.uniq ⟨⟨0, rfl⟩, z.2.2⟩
theorem HM9.per {S : Int} {f g : Int → Int} (h : HM9 S f g) {s : Int} (s0 : 0 ≤ s) (s1 : s < S) (e : g s = s) : ∃ c : Nat, 1 ≤ c ∧ itn f c s = s := by
  have z := (h s s0 s1).2.2.1
  rw [e] at z
  exact z
/-- the first m steps of a walk, all unlike -/
def PT9 (f : Int → Int) (u : Int) (m : Nat) : Prop := ∀ i i' : Nat, i < i' → i' < m → itn f i u ≠ itn f i' u
theorem per_pt {f : Int → Int} {e : Int} (per : ∃ c : Nat, 1 ≤ c ∧ itn f c e = e) {v : Nat} (h : ∀ i : Nat, 1 ≤ i → i ≤ v → itn f i e ≠ e) : PT9 f e (v + 1) := fun i i' hi hi' z => by
  obtain ⟨c, c1, hc⟩ := per
  refine h (i' - i) (by omega) (by omega) ?_
  have hp := itn_per hc i
  have hle : i ≤ c * i := Nat.le_mul_of_pos_left _ c1
  have a := itn_add f e (c * i - i) i
  rw [Nat.sub_add_cancel hle, hp, z] at a
  have b := itn_add f e (c * i - i) i'
  rw [← a, show c * i - i + i' = i' - i + c * i by omega, itn_add, hp] at b
  exact b
theorem fw1_run {f g : Int → Int} {S mk u : Int} (rg : RG S f) (v0 : 0 ≤ u) (v1 : u < S) (hk : mk ≠ -1) : ∀ (m v : Nat) (gc : Int → Int), m + v = S.toNat + 1 → PT9 f u v → (∀ i : Nat, i < v → g (itn f i u) = -1 ∧ gc (itn f i u) = mk) → (∀ q, (∀ i : Nat, i < v → itn f i u ≠ q) → gc q = g q) → ∃ (w : Nat) (g1 : Int → Int), fw1 f S mk m (v : Int) (itn f v u) gc = (itn f w u, g1) ∧ PT9 f u w ∧ (∀ i : Nat, i < w → g (itn f i u) = -1 ∧ g1 (itn f i u) = mk) ∧ (∀ q, (∀ i : Nat, i < w → itn f i u ≠ q) → g1 q = g q) ∧ g1 (itn f w u) ≠ -1
  | 0, v, gc, hm, pt, _, _ => by
    have := itn_fit rg v0 v1 pt
    omega
  | m + 1, v, gc, hm, pt, hp, hq => by
    have hnew : gc (itn f v u) = -1 → PT9 f u (v + 1) := fun z i i' hi hi' e => by
      by_cases y : i' < v
      · exact pt i i' hi y e
      · have ei : i' = v := by omega
        rw [ei] at e hi
        have h2 := (hp i hi).2
        rw [e] at h2
        exact hk (h2.symm.trans z)
    by_cases c : (v : Int) < S ∧ gc (itn f v u) = -1
    · have hu : fw1 f S mk (m + 1) (v : Int) (itn f v u) gc = fw1 f S mk m ((v : Int) + 1) (f (itn f v u)) (u1 gc (itn f v u) mk) := if_pos c
      rw [hu, show ((v : Int) + 1) = ((v + 1 : Nat) : Int) by omega, show f (itn f v u) = itn f (v + 1) u from rfl]
      have pn := hnew c.2
      have gv : g (itn f v u) = -1 := by
        rw [← hq _ (fun i hi e => pn i v hi (Nat.lt_succ_self _) e)]
        exact c.2
      refine fw1_run rg v0 v1 hk m (v + 1) (u1 gc (itn f v u) mk) (by omega) pn (fun i hi => ?_) (fun q hq' => ?_)
      · by_cases e : i = v
        · rw [e, u1_s]
          exact ⟨gv, rfl⟩
        · rw [u1_n _ _ (pn i v (by omega) (Nat.lt_succ_self _))]
          exact hp i (by omega)
      · rw [u1_n _ _ (fun e => hq' v (Nat.lt_succ_self _) e.symm)]
        exact hq q (fun i hi => hq' i (by omega))
    · have hu : fw1 f S mk (m + 1) (v : Int) (itn f v u) gc = (itn f v u, gc) := if_neg c
      refine ⟨v, gc, hu, pt, hp, hq, fun z => ?_⟩
      by_cases y : (v : Int) < S
      · exact c ⟨y, z⟩
      · have := itn_fit rg v0 v1 (hnew z)
        omega
theorem fw3_run {f g : Int → Int} {S mk l u : Int} {w : Nat} (rg : RG S f) (v0 : 0 ≤ u) (v1 : u < S) (hl : l ≠ mk) (pt : PT9 f u w) (he : (∃ i : Nat, i < w ∧ itn f i u = itn f w u) ∨ g (itn f w u) ≠ mk) : ∀ (m v : Nat) (gc : Int → Int), m + v = S.toNat + 1 → v ≤ w → (∀ i : Nat, i < w → gc (itn f i u) = if i < v then l else mk) → (∀ q, (∀ i : Nat, i < w → itn f i u ≠ q) → gc q = g q) → (∀ i : Nat, i < w → fw3 f S mk l m (v : Int) (itn f v u) gc (itn f i u) = l) ∧ (∀ q, (∀ i : Nat, i < w → itn f i u ≠ q) → fw3 f S mk l m (v : Int) (itn f v u) gc q = g q)
  | 0, v, gc, hm, hv, _, _ => by
    have := itn_fit rg v0 v1 pt
    omega
  | m + 1, v, gc, hm, hv, hp, hq => by
    have hfit := itn_fit rg v0 v1 pt
    by_cases y : v < w
    · have gv := hp v y
      rw [if_neg (Nat.lt_irrefl v)] at gv
      have hu : fw3 f S mk l (m + 1) (v : Int) (itn f v u) gc = fw3 f S mk l m ((v : Int) + 1) (f (itn f v u)) (u1 gc (itn f v u) l) := if_pos ⟨by omega, gv⟩
      rw [hu, show ((v : Int) + 1) = ((v + 1 : Nat) : Int) by omega, show f (itn f v u) = itn f (v + 1) u from rfl]
      refine fw3_run rg v0 v1 hl pt he m (v + 1) (u1 gc (itn f v u) l) (by omega) (by omega) (fun i hi => ?_) (fun q hq' => ?_)
      · by_cases e : i = v
        · rw [e, u1_s, if_pos (Nat.lt_succ_self _)]
        · have hne : itn f i u ≠ itn f v u := fun z => by
            rcases Nat.lt_trichotomy i v with a | a | a
            · exact pt i v a y z
            · exact e a
            · exact pt v i a hi z.symm
          rw [u1_n _ _ hne, hp i hi]
          by_cases z : i < v
          · rw [if_pos z, if_pos (by omega)]
          · rw [if_neg z, if_neg (by omega)]
      · rw [u1_n _ _ (fun e => hq' v y e.symm)]
        exact hq q hq'
    · have ev : v = w := by omega
      have gw : gc (itn f v u) ≠ mk := by
        rw [ev]
        rcases he with ⟨i, hi, e⟩ | z
        · rw [← e, hp i hi, if_pos (by omega)]
          exact hl
        · by_cases hx : ∃ i : Nat, i < w ∧ itn f i u = itn f w u
          · obtain ⟨i, hi, e⟩ := hx
            rw [← e, hp i hi, if_pos (by omega)]
            exact hl
          · rw [hq _ (fun i hi e => hx ⟨i, hi, e⟩)]
            exact z
      have hu : fw3 f S mk l (m + 1) (v : Int) (itn f v u) gc = gc := if_neg (fun z => gw z.2)
      rw [hu]
      exact ⟨fun i hi => by rw [hp i hi, if_pos (by omega)], hq⟩
theorem flr_run {f : Int → Int} {S e : Int} (rg : RG S f) (e0 : 0 ≤ e) (e1 : e < S) (per : ∃ c : Nat, 1 ≤ c ∧ itn f c e = e) : ∀ (m v : Nat) (l : Int), m + v = S.toNat + 1 → (∃ k : Nat, l = itn f k e) → (∀ i : Nat, i ≤ v → l ≤ itn f i e) → (∀ i : Nat, 1 ≤ i → i ≤ v → itn f i e ≠ e) → ∃ L, flr f S e m (v : Int) (itn f (v + 1) e) l = L ∧ (∃ k : Nat, L = itn f k e) ∧ ∀ k : Nat, L ≤ itn f k e
  | 0, v, l, hm, _, _, hr => by
    have := itn_fit rg e0 e1 (per_pt per hr)
    omega
  | m + 1, v, l, hm, hk, hlo, hr => by
    by_cases c : (v : Int) < S ∧ itn f (v + 1) e ≠ e
    · have hu : flr f S e (m + 1) (v : Int) (itn f (v + 1) e) l = flr f S e m ((v : Int) + 1) (f (itn f (v + 1) e)) (min l (itn f (v + 1) e)) := if_pos c
      rw [hu, show ((v : Int) + 1) = ((v + 1 : Nat) : Int) by omega, show f (itn f (v + 1) e) = itn f (v + 1 + 1) e from rfl]
      refine flr_run rg e0 e1 per m (v + 1) _ (by omega) ?_ (fun i hi => ?_) (fun i i0 i1 => ?_)
      · rcases Int.le_total l (itn f (v + 1) e) with z | z
        · rw [Int.min_eq_left z]
          exact hk
        · rw [Int.min_eq_right z]
          exact ⟨v + 1, rfl⟩
      · by_cases z : i ≤ v
        · have := hlo i z
          omega
        · rw [show i = v + 1 by omega]
          omega
      · by_cases z : i ≤ v
        · exact hr i i0 z
        · rw [show i = v + 1 by omega]
          exact c.2
    · have hu : flr f S e (m + 1) (v : Int) (itn f (v + 1) e) l = l := if_neg c
      refine ⟨l, hu, hk, fun k => ?_⟩
      by_cases y : itn f (v + 1) e = e
      · obtain ⟨i, hi, ei⟩ := itn_wrap (nx := f) (s := e) (m := v + 1) (i0 := 0) (by omega) y.symm k
        rw [← ei]
        exact hlo i (by omega)
      · have h1 := itn_fit rg e0 e1 (per_pt per hr)
        exact absurd ⟨by omega, y⟩ c
/-- homes found, or not yet -/
def GI9 (f : Int → Int) (S : Int) (g : Int → Int) : Prop := ∀ x, 0 ≤ x → x < S → g x = -1 ∨ ((0 ≤ g x ∧ g x < S) ∧ hm9 f x (g x))
theorem GI9.step {f g : Int → Int} {S u : Int} (rg : RG S f) (v0 : 0 ≤ u) (v1 : u < S) (gi : GI9 f S g) (gu : g u = -1) : GI9 f S (ffx f S u g) ∧ (∀ x, 0 ≤ x → x < S → g x ≠ -1 → ffx f S u g x ≠ -1) ∧ ffx f S u g u ≠ -1 := by
  obtain ⟨w, g1, e1, pt, hp, hq, hne⟩ := fw1_run (g := g) (mk := -2 - u) rg v0 v1 (by omega) (S.toNat + 1) 0 g (by omega) (fun i i' _ hi => absurd hi (by omega)) (fun i hi => absurd hi (by omega)) (fun q _ => rfl)
  have e1' : fw1 f S (-2 - u) (S.toNat + 1) 0 u g = (itn f w u, g1) := e1
  have kw := itn_in rg v0 v1 w
  have hl : ∃ l, (if g1 (itn f w u) = -2 - u then flr f S (itn f w u) (S.toNat + 1) 0 (f (itn f w u)) (itn f w u) else g1 (itn f w u)) = l ∧ (0 ≤ l ∧ l < S) ∧ hm9 f (itn f w u) l ∧ ((∃ i : Nat, i < w ∧ itn f i u = itn f w u) ∨ g (itn f w u) ≠ -2 - u) := by
    by_cases hx : ∃ i : Nat, i < w ∧ itn f i u = itn f w u
    · obtain ⟨i, hi, ei⟩ := hx
      have gm : g1 (itn f w u) = -2 - u := by
        rw [← ei]
        exact (hp i hi).2
      have per : ∃ c : Nat, 1 ≤ c ∧ itn f c (itn f w u) = itn f w u := by
        refine ⟨w - i, by omega, ?_⟩
        have z := itn_add f u (w - i) i
        rw [show w - i + i = w by omega, ei] at z
        exact z.symm
      obtain ⟨L, hL, ⟨k, ek⟩, lo⟩ := flr_run rg kw.1 kw.2 per (S.toNat + 1) 0 (itn f w u) (by omega) ⟨0, rfl⟩ (fun i hi => by rw [show i = 0 by omega]; exact Int.le_refl _) (fun i a b => absurd a (by omega))
      rw [if_pos gm]
      have kL := itn_in rg kw.1 kw.2 k
      refine ⟨L, hL, by rw [ek]; exact kL, ⟨⟨k, ek.symm⟩, ?_, fun j => ?_⟩, Or.inl ⟨i, hi, ei⟩⟩
      · obtain ⟨c, c1, hc⟩ := per
        refine ⟨c, c1, ?_⟩
        have a := itn_add f (itn f w u) c k
        have b := itn_add f (itn f w u) k c
        rw [hc, ← ek] at b
        rw [← ek, Nat.add_comm, b] at a
        exact a.symm
      · have a := lo (j + k)
        rw [itn_add, ← ek] at a
        exact a
    · have gq : g1 (itn f w u) = g (itn f w u) := hq _ (fun i hi e => hx ⟨i, hi, e⟩)
      rcases gi _ kw.1 kw.2 with z | z
      · exact absurd (gq.trans z) hne
      · rw [if_neg (by rw [gq]; omega), gq]
        exact ⟨_, rfl, z.1, z.2, Or.inr (by omega)⟩
  obtain ⟨l, hl1, hl2, hl3, he⟩ := hl
  have ex : ffx f S u g = fw3 f S (-2 - u) l (S.toNat + 1) 0 u g1 := by
    unfold ffx ffl
    rw [e1']
    show fw3 f S (-2 - u) (if g1 (itn f w u) = -2 - u then flr f S (itn f w u) (S.toNat + 1) 0 (f (itn f w u)) (itn f w u) else g1 (itn f w u)) (S.toNat + 1) 0 u g1 = _
    rw [hl1]
  have r : (∀ i : Nat, i < w → ffx f S u g (itn f i u) = l) ∧ (∀ q, (∀ i : Nat, i < w → itn f i u ≠ q) → ffx f S u g q = g q) := by
    rw [ex]
    exact fw3_run (g := g) (l := l) (mk := -2 - u) rg v0 v1 (by omega) pt he (S.toNat + 1) 0 g1 (by omega) (by omega) (fun i hi => by rw [if_neg (by omega)]; exact (hp i hi).2) hq
  have hw : 0 < w := by
    rcases Nat.eq_zero_or_pos w with z | z
    · rw [z] at hne hq
      exact absurd ((hq u (fun i hi => absurd hi (by omega))).trans gu) hne
    · exact z
  have hup : ∀ x, (∃ i : Nat, i < w ∧ itn f i u = x) → ffx f S u g x = l ∧ hm9 f x l := fun x ⟨i, hi, e⟩ => by
    rw [← e]
    refine ⟨r.1 i hi, hm9.back (i := w - i) ?_⟩
    rw [← itn_add, show w - i + i = w by omega]
    exact hl3
  refine ⟨fun x x0 x1 => ?_, fun x x0 x1 hx => ?_, ?_⟩
  · by_cases z : ∃ i : Nat, i < w ∧ itn f i u = x
    · have a := hup x z
      rw [a.1]
      exact Or.inr ⟨hl2, a.2⟩
    · rw [r.2 x (fun i hi e => z ⟨i, hi, e⟩)]
      exact gi x x0 x1
  · by_cases z : ∃ i : Nat, i < w ∧ itn f i u = x
    · rw [(hup x z).1]
      omega
    · rw [r.2 x (fun i hi e => z ⟨i, hi, e⟩)]
      exact hx
  · rw [(hup u ⟨0, hw, rfl⟩).1]
    omega
theorem fol9_run {f : Int → Int} {S : Int} (rg : RG S f) : ∀ (m : Nat) (j : Int) (g : Int → Int), 0 ≤ j → S.toNat + 1 ≤ m + j.toNat → GI9 f S g → (∀ x, 0 ≤ x → x < j → x < S → g x ≠ -1) → HM9 S f (fol9 f S m j g)
  | 0, j, g, j0, hm, gi, hx => by
    intro s s0 s1
    rcases gi s s0 s1 with z | z
    · exact absurd z (hx s s0 (by omega) s1)
    · exact z
  | m + 1, j, g, j0, hm, gi, hx => by
    by_cases c : j < S
    · have hu : fol9 f S (m + 1) j g = fol9 f S m (j + 1) (if g j = -1 then ffx f S j g else g) := if_pos c
      rw [hu]
      by_cases z : g j = -1
      · rw [if_pos z]
        obtain ⟨a, b, d⟩ := GI9.step rg j0 c gi z
        refine fol9_run rg m (j + 1) _ (by omega) (by omega) a (fun x x0 x1 x2 => ?_)
        by_cases e : x = j
        · rw [e]
          exact d
        · exact b x x0 x2 (hx x x0 (by omega) x2)
      · rw [if_neg z]
        refine fol9_run rg m (j + 1) _ (by omega) (by omega) gi (fun x x0 x1 x2 => ?_)
        by_cases e : x = j
        · rw [e]
          exact z
        · exact hx x x0 (by omega) x2
    · have hu : fol9 f S (m + 1) j g = g := if_neg c
      rw [hu]
      intro s s0 s1
      rcases gi s s0 s1 with z | z
      · exact absurd z (hx s s0 (by omega) s1)
      · exact z
theorem hom9_HM {f : Int → Int} {S : Int} (rg : RG S f) : HM9 S f (hom9 f S) := fol9_run rg (S.toNat + 1) 0 (fun _ => -1) (Int.le_refl _) (by omega) (fun x _ _ => Or.inl rfl) (fun x x0 x1 => absurd x1 (by omega))
/-- how many roads a round has -/
def LN9 (f : Int → Int) (s c : Int) : Prop := ∃ n : Nat, c = n ∧ 1 ≤ n ∧ itn f n s = s ∧ ∀ i : Nat, 1 ≤ i → i < n → itn f i s ≠ s
theorem LN9.uniq {f : Int → Int} {s c c' : Int} (h : LN9 f s c) (h' : LN9 f s c') : c = c' := by
  obtain ⟨n, e, n1, a, b⟩ := h
  obtain ⟨n', e', n1', a', b'⟩ := h'
  rcases Nat.lt_trichotomy n n' with z | z | z
  · exact absurd a (b' n n1 z)
  · rw [e, e', z]
  · exact absurd a' (b n' n1' z)
theorem LN9.cg {f f' : Int → Int} {S s c : Int} (rg : RG S f) (hf : ∀ x, 0 ≤ x → x < S → f x = f' x) (s0 : 0 ≤ s) (s1 : s < S) (h : LN9 f s c) : LN9 f' s c := by
  obtain ⟨n, e, n1, a, b⟩ := h
  refine ⟨n, e, n1, ?_, fun i i0 i1 => ?_⟩
  · rw [← itn_cg rg hf s0 s1]
    exact a
  · rw [← itn_cg rg hf s0 s1]
    exact b i i0 i1
/-- how many of the first n have the home x -/
def bz9 (H : Int → Int) (x : Int) : Nat → Int
  | 0 => 0
  | n + 1 => bz9 H x n + if H n = x then 1 else 0
theorem bz9_s {H : Int → Int} {x j : Int} (j0 : 0 ≤ j) : bz9 H x (j + 1).toNat = bz9 H x j.toNat + if H j = x then 1 else 0 := by
  rw [show (j + 1).toNat = j.toNat + 1 by omega]
  show bz9 H x j.toNat + (if H ((j.toNat : Nat) : Int) = x then 1 else 0) = _
  rw [show ((j.toNat : Nat) : Int) = j by omega]
theorem bz9_cg {H H' : Int → Int} {x : Int} : ∀ n : Nat, (∀ s : Int, 0 ≤ s → s < n → H s = H' s) → bz9 H x n = bz9 H' x n
  | 0, _ => rfl
  | n + 1, h => by
    show bz9 H x n + (if H n = x then 1 else 0) = bz9 H' x n + (if H' n = x then 1 else 0)
    rw [bz9_cg n (fun s s0 s1 => h s s0 (by omega)), h n (by omega) (by omega)]
theorem bz9_bd {H : Int → Int} {x : Int} : ∀ n : Nat, 0 ≤ bz9 H x n ∧ bz9 H x n ≤ n
  | 0 => ⟨Int.le_refl _, Int.le_refl _⟩
  | n + 1 => by
    have h := bz9_bd (H := H) (x := x) n
    show 0 ≤ bz9 H x n + (if H n = x then 1 else 0) ∧ bz9 H x n + (if H n = x then 1 else 0) ≤ ((n + 1 : Nat) : Int)
    split <;> omega
/-- the sums of sure: over homes, over states -/
def sc9 (H p b : Int → Int) : Nat → Int
  | 0 => 0
  | n + 1 => sc9 H p b n + if H n = n ∧ p n = 1 then b n else 0
def sm9 (H p : Int → Int) : Nat → Int
  | 0 => 0
  | n + 1 => sm9 H p n + p (H n)
theorem sc9_s {H p b : Int → Int} {j : Int} (j0 : 0 ≤ j) : sc9 H p b (j + 1).toNat = sc9 H p b j.toNat + if H j = j ∧ p j = 1 then b j else 0 := by
  rw [show (j + 1).toNat = j.toNat + 1 by omega]
  show sc9 H p b j.toNat + (if H ((j.toNat : Nat) : Int) = ((j.toNat : Nat) : Int) ∧ p ((j.toNat : Nat) : Int) = 1 then b ((j.toNat : Nat) : Int) else 0) = _
  rw [show ((j.toNat : Nat) : Int) = j by omega]
theorem sm9_s {H p : Int → Int} {j : Int} (j0 : 0 ≤ j) : sm9 H p (j + 1).toNat = sm9 H p j.toNat + p (H j) := by
  rw [show (j + 1).toNat = j.toNat + 1 by omega]
  show sm9 H p j.toNat + p (H ((j.toNat : Nat) : Int)) = _
  rw [show ((j.toNat : Nat) : Int) = j by omega]
theorem sc9_cg {H H' p p' b b' : Int → Int} : ∀ n : Nat, (∀ s : Int, 0 ≤ s → s < n → H s = H' s ∧ (H s = s → p s = p' s ∧ b s = b' s)) → sc9 H p b n = sc9 H' p' b' n
  | 0, _ => rfl
  | n + 1, h => by
    have a := h n (by omega) (by omega)
    show sc9 H p b n + (if H n = n ∧ p n = 1 then b n else 0) = sc9 H' p' b' n + (if H' n = n ∧ p' n = 1 then b' n else 0)
    rw [sc9_cg n (fun s s0 s1 => h s s0 (by omega)), ← a.1]
    by_cases z : H n = n
    · rw [(a.2 z).1, (a.2 z).2]
    · rw [if_neg (fun y => z y.1), if_neg (fun y => z y.1)]
theorem sm9_cg {H H' p p' : Int → Int} : ∀ n : Nat, (∀ s : Int, 0 ≤ s → s < n → p (H s) = p' (H' s)) → sm9 H p n = sm9 H' p' n
  | 0, _ => rfl
  | n + 1, h => by
    show sm9 H p n + p (H n) = sm9 H' p' n + p' (H' n)
    rw [sm9_cg n (fun s s0 s1 => h s s0 (by omega)), h n (by omega) (by omega)]
theorem sc9_zero {H p : Int → Int} : ∀ n : Nat, sc9 H p (fun _ => 0) n = 0
  | 0 => rfl
  | n + 1 => by
    show sc9 H p (fun _ => 0) n + (if H n = n ∧ p n = 1 then 0 else 0) = 0
    rw [sc9_zero n]
    split <;> rfl
theorem sc9_add {H p : Int → Int} {N : Nat} (h1 : 0 ≤ H N) (h2 : H (H N) = H N) (h3 : p (H N) = 0 ∨ p (H N) = 1) : ∀ n : Nat, sc9 H p (fun l => bz9 H l (N + 1)) n = sc9 H p (fun l => bz9 H l N) n + if H N < n then p (H N) else 0
  | 0 => by
    show (0 : Int) = 0 + if H N < ((0 : Nat) : Int) then p (H N) else 0
    rw [if_neg (by omega)]
    rfl
  | n + 1 => by
    have ih := sc9_add h1 h2 h3 n
    show sc9 H p (fun l => bz9 H l (N + 1)) n + (if H n = n ∧ p n = 1 then bz9 H n N + (if H N = n then 1 else 0) else 0) = sc9 H p (fun l => bz9 H l N) n + (if H n = n ∧ p n = 1 then bz9 H n N else 0) + if H N < ((n + 1 : Nat) : Int) then p (H N) else 0
    rw [ih]
    by_cases e : H N = n
    · rw [e] at h2 h3 ⊢
      rw [if_neg (show ¬ (n : Int) < (n : Int) by omega), if_pos (show (n : Int) < ((n + 1 : Nat) : Int) by omega), if_pos rfl]
      rcases h3 with z | z
      · rw [if_neg (fun y => by have := y.2; omega), if_neg (fun y => by have := y.2; omega)]
        omega
      · rw [if_pos ⟨h2, z⟩, if_pos ⟨h2, z⟩]
        omega
    · rw [if_neg e]
      by_cases y : H N < (n : Int)
      · rw [if_pos y, if_pos (show H N < ((n + 1 : Nat) : Int) by omega)]
        split <;> omega
      · rw [if_neg y, if_neg (show ¬ H N < ((n + 1 : Nat) : Int) by omega)]
        split <;> omega
theorem sc9_sm {H p : Int → Int} {S : Int} : ∀ N : Nat, (∀ s : Int, 0 ≤ s → s < N → (0 ≤ H s ∧ H s < S) ∧ H (H s) = H s ∧ (p (H s) = 0 ∨ p (H s) = 1)) → sc9 H p (fun l => bz9 H l N) S.toNat = sm9 H p N
  | 0, _ => sc9_zero _
  | N + 1, h => by
    have a := h N (by omega) (by omega)
    rw [sc9_add a.1.1 a.2.1 a.2.2, sc9_sm N (fun s s0 s1 => h s s0 (by omega)), if_pos (by omega)]
    rfl
/-- the k-th home -/
theorem cR_ex {g : Int → Int} : ∀ (n : Nat) (k : Nat), k < cR g n → ∃ j : Int, 0 ≤ j ∧ j < n ∧ g j = j ∧ cR g j.toNat = k
  | 0, k, h => absurd h (by unfold cR; omega)
  | n + 1, k, h => by
    have hs := cR_st g (j := (n : Int)) (by omega)
    rw [show ((n : Int) + 1).toNat = n + 1 by omega, show ((n : Int)).toNat = n by omega] at hs
    by_cases e : k < cR g n
    · obtain ⟨j, a, b, c, d⟩ := cR_ex n k e
      exact ⟨j, a, by omega, c, d⟩
    · by_cases z : g n = n
      · rw [if_pos z] at hs
        refine ⟨n, by omega, by omega, z, ?_⟩
        rw [show ((n : Int)).toNat = n by omega]
        omega
      · rw [if_neg z] at hs
        omega
/-- rows of homes: their numbers, how long, how many come there -/
def RW9 (f H a0 a1 a2 : Int → Int) (j S : Int) : Prop := ∀ x, 0 ≤ x → x < j → H x = x → a0 (cR H x.toNat) = x ∧ LN9 f x (a1 (cR H x.toNat)) ∧ a2 (cR H x.toNat) = bz9 H x S.toNat
theorem RW9.uniq {f H f' H' a0 a1 a2 b0 b1 b2 : Int → Int} {S : Int} (S0 : 0 ≤ S) (rg : RG S f) (hf : ∀ x, 0 ≤ x → x < S → f x = f' x) (hH : ∀ x, 0 ≤ x → x < S → H x = H' x) (h : RW9 f H a0 a1 a2 S S) (h' : RW9 f' H' b0 b1 b2 S S) {k : Int} (k0 : 0 ≤ k) (k1 : k < cR H S.toNat) : a0 k = b0 k ∧ a1 k = b1 k ∧ a2 k = b2 k := by
  obtain ⟨x, x0, x1, hx, ex⟩ := cR_ex (g := H) S.toNat k.toNat (by omega)
  have a := h x x0 (by omega) hx
  have b := h' x x0 (by omega) (by rw [← hH x x0 (by omega)]; exact hx)
  have ec : cR H' x.toNat = cR H x.toNat := (cR_cg x.toNat (fun y y0 y1 => hH y y0 (by omega))).symm
  rw [ec, ex, show ((k.toNat : Nat) : Int) = k by omega] at b
  rw [ex, show ((k.toNat : Nat) : Int) = k by omega] at a
  refine ⟨a.1.trans b.1.symm, (a.2.1.cg rg hf x0 (by omega)).uniq b.2.1, ?_⟩
  rw [a.2.2, b.2.2]
  exact bz9_cg _ (fun s s0 s1 => hH s s0 (by omega))
theorem RW9.cg {f f' H a0 a1 a2 : Int → Int} {S j : Int} (rg : RG S f) (hf : ∀ x, 0 ≤ x → x < S → f x = f' x) (hj : j ≤ S) (h : RW9 f H a0 a1 a2 j S) : RW9 f' H a0 a1 a2 j S := fun x x0 x1 hx => ⟨(h x x0 x1 hx).1, (h x x0 x1 hx).2.1.cg rg hf x0 (by omega), (h x x0 x1 hx).2.2⟩
theorem cR_mono {g : Int → Int} {a : Nat} : ∀ b : Nat, a ≤ b → cR g a ≤ cR g b
  | 0, h => by rw [show a = 0 by omega]; exact Nat.le_refl _
  | b + 1, h => by
    by_cases e : a = b + 1
    · rw [e]
      exact Nat.le_refl _
    · exact Nat.le_trans (cR_mono b (by omega)) (Nat.le_add_right _ _)
theorem cR_lt {g : Int → Int} {x y : Int} (x0 : 0 ≤ x) (hx : g x = x) (h : x < y) : cR g x.toNat < cR g y.toNat := by
  have h1 := cR_st g x0
  rw [if_pos hx] at h1
  have h2 := cR_mono (g := g) (a := (x + 1).toNat) y.toNat (by omega)
  omega
theorem cR_inj {g : Int → Int} {x y : Int} (x0 : 0 ≤ x) (y0 : 0 ≤ y) (hx : g x = x) (hy : g y = y) (e : ((cR g x.toNat : Nat) : Int) = ((cR g y.toNat : Nat) : Int)) : x = y := by
  rcases Int.lt_trichotomy x y with z | z | z
  · have := cR_lt x0 hx z
    omega
  · exact z
  · have := cR_lt y0 hy z
    omega
theorem itn_all {nx : Int → Int} {s : Int} {m : Nat} (m0 : 0 < m) (e : itn nx m s = s) (P : Int → Prop) : (∀ i : Nat, i < m → P (itn nx i s)) ↔ ∀ i : Nat, P (itn nx i s) := by
  refine ⟨fun h i => ?_, fun h i _ => h i⟩
  obtain ⟨i', hi', ei'⟩ := itn_wrap (nx := nx) (s := s) (m := m) (i0 := 0) m0 e.symm i
  rw [← ei']
  exact h i' hi'
theorem w32_addl (a b : Int) : w32 (w32 a + b) = w32 (a + b) := by
  unfold w32
  omega
/-- what sure tells of the homes: 1 just where all of the round is in step -/
def PM9 (f H p : Int → Int) (r n x j : Int) : Prop := ∀ l, 0 ≤ l → l < j → H l = l → (p l = 0 ∨ p l = 1) ∧ (p l = 1 ↔ ∀ i : Nat, sp9 (dig9 r (itn f i l)) n x)
theorem PM9.cg {f f' H p : Int → Int} {r n x S : Int} (rg : RG S f) (hf : ∀ x, 0 ≤ x → x < S → f x = f' x) (h : PM9 f H p r n x S) : PM9 f' H p r n x S := fun l l0 l1 hl => by
  obtain ⟨a, b⟩ := h l l0 l1 hl
  refine ⟨a, b.trans ⟨fun z i => ?_, fun z i => ?_⟩⟩
  · rw [← itn_cg rg hf l0 l1]
    exact z i
  · rw [itn_cg rg hf l0 l1]
    exact z i
theorem PM9.eq {f H H' p p' : Int → Int} {r n x S : Int} (hH : ∀ x, 0 ≤ x → x < S → H x = H' x) (h : PM9 f H p r n x S) (h' : PM9 f H' p' r n x S) {l : Int} (l0 : 0 ≤ l) (l1 : l < S) (hl : H l = l) : p l = p' l := by
  obtain ⟨a, b⟩ := h l l0 l1 hl
  obtain ⟨a', b'⟩ := h' l l0 l1 (by rw [← hH l l0 l1]; exact hl)
  have e := b.trans b'.symm
  rcases a with z | z <;> rcases a' with z' | z'
  · omega
  · have := e.mpr z'
    omega
  · have := e.mp z
    omega
  · omega
/-- sure of both sides -/
theorem sure9_eq {f H H' p p' b : Int → Int} {r n x S : Int} (S0 : 0 ≤ S) (h : HM9 S f H) (h' : HM9 S f H') (q : PM9 f H p r n x S) (q' : PM9 f H' p' r n x S) (hb : ∀ l, 0 ≤ l → l < S → H l = l → b l = bz9 H l S.toNat) : sc9 H p b S.toNat = sm9 H' p' S.toNat := by
  have e1 : sc9 H p b S.toNat = sc9 H p (fun l => bz9 H l S.toNat) S.toNat := sc9_cg S.toNat (fun s s0 s1 => ⟨rfl, fun z => ⟨rfl, hb s s0 (by omega) z⟩⟩)
  rw [e1, sc9_sm S.toNat (fun s s0 s1 => ⟨(h s s0 (by omega)).1, h.own s0 (by omega), (q _ (h s s0 (by omega)).1.1 (h s s0 (by omega)).1.2 (h.own s0 (by omega))).1⟩)]
  refine sm9_cg S.toNat (fun s s0 s1 => ?_)
  have a := h s s0 (by omega)
  rw [← h.uniq h' s0 (by omega)]
  exact PM9.eq (fun x x0 x1 => h.uniq h' x0 x1) q q' a.1.1 a.1.2 (h.own s0 (by omega))
