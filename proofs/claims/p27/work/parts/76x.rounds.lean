/-! ===== when states come again ===== -/
def EQ9 (n : Int) (X : Nat → Int → Int) (i j : Nat) : Prop := ∀ a, 0 ≤ a → a < n → X i a = X j a
theorem EQ9.rf {n : Int} {X : Nat → Int → Int} {i : Nat} : EQ9 n X i i := fun _ _ _ => rfl
theorem EQ9.sy {n : Int} {X : Nat → Int → Int} {i j : Nat} (h : EQ9 n X i j) : EQ9 n X j i := fun a a0 a1 => (h a a0 a1).symm
theorem EQ9.tr {n : Int} {X : Nat → Int → Int} {i j k : Nat} (h : EQ9 n X i j) (g : EQ9 n X j k) : EQ9 n X i k := fun a a0 a1 => (h a a0 a1).trans (g a a0 a1)
/-- the first state that comes again: at t, as at s -/
def Rp (n : Int) (X : Nat → Int → Int) (s t : Nat) : Prop := s < t ∧ EQ9 n X s t ∧ ∀ i j, i < j → j < t → ¬ EQ9 n X i j
section BRN
variable {n : Int} {X : Nat → Int → Int}
theorem EQ9.add (hst : ∀ i j, EQ9 n X i j → EQ9 n X (i + 1) (j + 1)) {i j : Nat} (h : EQ9 n X i j) : ∀ k, EQ9 n X (i + k) (j + k)
  | 0 => h
  | k + 1 => hst _ _ (EQ9.add hst h k)
theorem Rp.per (hst : ∀ i j, EQ9 n X i j → EQ9 n X (i + 1) (j + 1)) {s t : Nat} (r : Rp n X s t) : ∀ (q i : Nat), s ≤ i → EQ9 n X i (i + q * (t - s))
  | 0, i, _ => by
    rw [Nat.zero_mul]
    exact EQ9.rf
  | q + 1, i, hi => by
    have h1 := Rp.per hst r q i hi
    have h2 := EQ9.add hst r.2.1 (i + q * (t - s) - s)
    have hle : s ≤ i + q * (t - s) := Nat.le_trans hi (Nat.le_add_right _ _)
    have hlt := r.1
    rw [show s + (i + q * (t - s) - s) = i + q * (t - s) by omega, show t + (i + q * (t - s) - s) = i + q * (t - s) + (t - s) by omega] at h2
    rw [Nat.succ_mul, ← Nat.add_assoc]
    exact h1.tr h2
/-- a step's like one ahead of t -/
def rd9 (s t m : Nat) : Nat := if m < s then m else s + (m - s) % (t - s)
theorem rd9_lt {s t m : Nat} (h : s < t) : rd9 s t m < t := by
  unfold rd9
  split
  · omega
  · have := Nat.mod_lt (m - s) (show t - s > 0 by omega)
    omega
theorem Rp.rd (hst : ∀ i j, EQ9 n X i j → EQ9 n X (i + 1) (j + 1)) {s t : Nat} (r : Rp n X s t) (m : Nat) : EQ9 n X (rd9 s t m) m := by
  unfold rd9
  split
  · exact EQ9.rf
  · rename_i h
    have hp := Rp.per hst r ((m - s) / (t - s)) (s + (m - s) % (t - s)) (Nat.le_add_right _ _)
    have hm := Nat.mod_add_div (m - s) (t - s)
    rw [Nat.mul_comm] at hm
    rw [show s + (m - s) % (t - s) + (m - s) / (t - s) * (t - s) = m by omega] at hp
    exact hp
theorem Rp.all (hst : ∀ i j, EQ9 n X i j → EQ9 n X (i + 1) (j + 1)) {s t : Nat} (r : Rp n X s t) {i j : Nat} (hij : i < j) (e : EQ9 n X i j) : s ≤ i ∧ (j - i) % (t - s) = 0 := by
  have h1 := ((Rp.rd hst r i).tr e).tr (Rp.rd hst r j).sy
  have l1 := rd9_lt (m := i) r.1
  have l2 := rd9_lt (m := j) r.1
  have he : rd9 s t i = rd9 s t j := by
    rcases Nat.lt_trichotomy (rd9 s t i) (rd9 s t j) with z | z | z
    · exact absurd h1 (r.2.2 _ _ z l2)
    · exact z
    · exact absurd h1.sy (r.2.2 _ _ z l1)
  unfold rd9 at he
  by_cases hi : i < s
  · rw [if_pos hi] at he
    split at he
    · omega
    · omega
  · rw [if_neg hi, if_neg (by omega)] at he
    refine ⟨by omega, ?_⟩
    have e2 : (i - s) % (t - s) = (j - s) % (t - s) := by omega
    have e3 : j - i = (j - s) - (i - s) := by omega
    rw [e3]
    exact Nat.sub_mod_eq_zero_of_mod_eq e2.symm
theorem Rp.uniq {s t s' t' : Nat} (r : Rp n X s t) (r' : Rp n X s' t') : s = s' ∧ t = t' := by
  have ht : t = t' := by
    rcases Nat.lt_trichotomy t t' with z | z | z
    · exact absurd r.2.1 (r'.2.2 s t r.1 z)
    · exact z
    · exact absurd r'.2.1 (r.2.2 s' t' r'.1 z)
  subst ht
  refine ⟨?_, rfl⟩
  have h1 := r.2.1.tr r'.2.1.sy
  have a := r.1
  have b := r'.1
  rcases Nat.lt_trichotomy s s' with z | z | z
  · exact absurd h1 (r.2.2 s s' z b)
  · exact z
  · exact absurd h1.sy (r.2.2 s' s z a)
/-- a tortoise at p, the hare m ahead of it, alike for the first time -/
theorem Rp.brent (hst : ∀ i j, EQ9 n X i j → EQ9 n X (i + 1) (j + 1)) {s t p m : Nat} (r : Rp n X s t) (m0 : 0 < m) (e : EQ9 n X p (p + m)) (hf : ∀ k, 0 < k → k < m → ¬ EQ9 n X p (p + k)) : m = t - s := by
  have h := Rp.all hst r (i := p) (j := p + m) (by omega) e
  rw [show p + m - p = m by omega] at h
  have hp := Rp.per hst r 1 p h.1
  rw [Nat.one_mul] at hp
  have hlt := r.1
  rcases Nat.lt_trichotomy m (t - s) with z | z | z
  · rw [Nat.mod_eq_of_lt z] at h
    omega
  · exact z
  · exact absurd hp (hf (t - s) (by omega) z)
/-- the first step whose state comes again a round later -/
theorem Rp.lead (hst : ∀ i j, EQ9 n X i j → EQ9 n X (i + 1) (j + 1)) {s t l : Nat} (r : Rp n X s t) : EQ9 n X l (l + (t - s)) ↔ s ≤ l := by
  have hlt := r.1
  constructor
  · intro e
    exact (Rp.all hst r (i := l) (j := l + (t - s)) (by omega) e).1
  · intro h
    have hp := Rp.per hst r 1 l h
    rw [Nat.one_mul] at hp
    exact hp
end BRN
theorem Rp.ex {n : Int} {X : Nat → Int → Int} : ∀ (b a : Nat), a < b → EQ9 n X a b → ∃ s t, Rp n X s t ∧ t ≤ b := by
  intro b
  induction b using Nat.strongRecOn with
  | ind b ih =>
    intro a hab e
    by_cases h : ∃ i j, i < j ∧ j < b ∧ EQ9 n X i j
    · obtain ⟨i, j, hij, hj, e2⟩ := h
      obtain ⟨s, t, r, ht⟩ := ih j hj i hij e2
      exact ⟨s, t, r, by omega⟩
    · exact ⟨a, b, ⟨hab, e, fun i j hij hj z => h ⟨i, j, hij, hj, z⟩⟩, Nat.le_refl _⟩
/-- what the reference's search has seen: no power's round was a round -/
def PH9 (n : Int) (X : Nat → Int → Int) (p : Nat) : Prop := ∀ e : Nat, 2 ^ e - 1 < p → ∀ m, 0 < m → m ≤ 2 ^ e → ¬ EQ9 n X (2 ^ e - 1) (2 ^ e - 1 + m)
theorem PH9.next {n : Int} {X : Nat → Int → Int} {p k : Nat} (h : PH9 n X p) (hp : p + 1 = 2 ^ k) (hu : ∀ m, 0 < m → m ≤ p + 1 → ¬ EQ9 n X p (p + m)) : PH9 n X (p + (p + 1)) := by
  intro e he m m0 m1
  by_cases z : 2 ^ e - 1 < p
  · exact h e z m m0 m1
  · have hle : 2 ^ e < 2 ^ (k + 1) := by
      rw [Nat.pow_succ]
      omega
    have hge : 2 ^ k ≤ 2 ^ e := by omega
    have e1 : e < k + 1 := (Nat.pow_lt_pow_iff_right (by decide)).mp hle
    have e2 : k ≤ e := (Nat.pow_le_pow_iff_right (by decide)).mp hge
    have ek : e = k := by omega
    rw [ek, show 2 ^ k - 1 = p by omega]
    rw [ek] at m1
    exact hu m m0 (by omega)
theorem PH9.fail {n : Int} {X : Nat → Int → Int} (hst : ∀ i j, EQ9 n X i j → EQ9 n X (i + 1) (j + 1)) {p : Nat} (h : PH9 n X p) (hp : 32767 < p) {s t : Nat} (r : Rp n X s t) : 20000 < t := by
  refine Classical.byContradiction (fun z => ?_)
  have hlt := r.1
  have h1 := Rp.per hst r 1 32767 (by omega)
  rw [Nat.one_mul] at h1
  exact h 15 hp (t - s) (by omega) (by show t - s ≤ 32768; omega) h1
/-- the round found at a power's tortoise, and the first step whose state comes again so much later -/
theorem Rp.found {n : Int} {X : Nat → Int → Int} (hst : ∀ i j, EQ9 n X i j → EQ9 n X (i + 1) (j + 1)) {p l i : Nat} (l0 : 0 < l) (e : EQ9 n X p (p + l)) (hf : ∀ k, 0 < k → k < l → ¬ EQ9 n X p (p + k)) (ei : EQ9 n X i (i + l)) (hi : ∀ j, j < i → ¬ EQ9 n X j (j + l)) : Rp n X i (i + l) := by
  obtain ⟨s, t, r, -⟩ := Rp.ex (p + l) p (by omega) e
  have hl := Rp.brent hst r l0 e hf
  have hlt := r.1
  have hs : s ≤ i := (Rp.lead hst r).mp (by rw [← hl]; exact ei)
  have hi2 : ¬ s < i := fun z => hi s z (by rw [hl]; exact (Rp.lead hst r).mpr (Nat.le_refl _))
  have es : i = s := by omega
  rw [es, hl, show s + (t - s) = t by omega]
  exact r
theorem mIt_st {c : mCf} {f : Int → Int} (i j : Nat) (e : EQ9 c.1.1 (mIt c f) i j) : EQ9 c.1.1 (mIt c f) (i + 1) (j + 1) := fun a _ _ => congrFun (mT_eq (c := c) (f := mIt c f i) (g := mIt c f j) (fun k k0 k1 => e k k0 k1)) a
theorem mIt_eq {c : mCf} {f : Int → Int} {i j : Nat} (e : EQ9 c.1.1 (mIt c f) i j) : mIt c f i = mIt c f j := by
  funext a
  by_cases h : 0 ≤ a ∧ a < c.1.1
  · exact e a h.1 h.2
  · rw [mIt_out c f i a h, mIt_out c f j a h]
theorem mIt_E {c : mCf} {f : Int → Int} {i j : Nat} (e : mIt c f i = mIt c f j) : EQ9 c.1.1 (mIt c f) i j := fun a _ _ => congrFun e a
theorem roundsX_179 (d : Nat) (h : mH) (sh : Sh h) (mb : MB h) (x1 x2 x3 : mV) (p l : Nat) (l0 : 1 ≤ l) (l1 : l ≤ 20000) (p1 : p ≤ 100000) (hpl : EQ9 (hF h 41 6) (mIt (mcf h) (hA h 46)) (p) (p + l)) (hf : ∀ k, 0 < k → k < l → ¬ EQ9 (hF h 41 6) (mIt (mcf h) (hA h 46)) (p) (p + k)) : ∀ (m : Nat) (i : Nat) (h' : mH), (p - i) < m → (i ≤ p) → (WR h h' i (i + l)) → (hF h' 41 41 = l) → (hF h' 41 40 = i) → (∀ j, j < i → ¬ EQ9 (hF h 41 6) (mIt (mcf h) (hA h 46)) (j) (j + l)) → Wp m_X6_rounds (d + 2) 179 [(2, 41), x1, x2, x3] [] h' (fun r t => (∃ y, r = some (0, y) ∧ ((y = 0 ∧ ∀ s u, Rp (hF h 41 6) (mIt (mcf h) (hA h 46)) s u → 20000 < u) ∨ (y = 1 ∧ ∃ s l : Nat, hF t 41 40 = s ∧ hF t 41 41 = l ∧ Rp (hF h 41 6) (mIt (mcf h) (hA h 46)) s (s + l) ∧ s + l ≤ 20000))) ∧ Fr [50, 51, 52, 53, 55, 56] [(41, 40), (41, 41)] h t) := by
  intro m
  induction m with
  | zero => intro i h' hm; exact absurd hm (Nat.not_lt_zero _)
  | succ m ih =>
    intro i h' hm ip wr el ei un
    obtain ⟨⟨r0, r1⟩, ⟨n0, n1⟩, ⟨m0, m1⟩, hp, hq⟩ := id mb
    have sh' := wr.sh sh
    obtain ⟨e6, e5, ec, e46⟩ := wr.e
    refine Wp.ald_n (j := 0) rfl dX6_rounds_179 ?_
    refine Wp.ald_n (j := 0) rfl dX6_rounds_180 ?_
    refine Wp.getf (k := 20) (tg := 2) kC6 (by decide) rfl lf_X6_63 dX6_rounds_181 (sK41 (h := h') sh') (sF41_20 (h := h') sh') ?_
    refine Wp.ald_n (j := 0) rfl dX6_rounds_184 ?_
    refine Wp.getf (k := 19) (tg := 2) kC6 (by decide) rfl lf_X6_60 dX6_rounds_185 (sK41 (h := h') sh') (sF41_19 (h := h') sh') ?_
    obtain ⟨_, t188, ct188, ⟨y188, rfl, hy188⟩, e188⟩ := cq_misLike (d + 1) h' sh' (by omega) 56 (sK56 sh') (sL56 sh') 55 (sK55 sh') (sL55 sh')
    rw [e188] at ct188
    refine Wp.callV1 (ct188) wc_X6_194 iM_X6_isLike se_X6_isLike kC6 (sK41 (h := h') sh') dX6_rounds_188 rfl (Nat.le_of_ble_eq_true rfl) rfl (Nat.le_of_ble_eq_true rfl) ?_
    refine Wp.ifne dX6_rounds_191 (by decide) (tgt := 223) (fun c191 => ?_) (fun c191 => ?_)
    · refine Wp.ald_n (j := 0) rfl dX6_rounds_223 ?_
      refine Wp.getf (k := 40) (tg := 0) kC6 (by decide) rfl lf_X6_199 dX6_rounds_224 (sK41 (h := h') sh') ei ?_
      refine Wp.ald_n (j := 0) rfl dX6_rounds_227 ?_
      refine Wp.getf (k := 41) (tg := 0) kC6 (by decide) rfl lf_X6_191 dX6_rounds_228 (sK41 (h := h') sh') el ?_
      refine Wp.iaddE dX6_rounds_231 (by first | exact w32_of (by omega) (by omega) | rfl) ?_
      refine Wp.sipush dX6_rounds_232 (by decide) ?_
      refine Wp.icgt dX6_rounds_235 (by decide) (tgt := 242) (fun c235 => ?_) (fun c235 => ?_)
      · refine Wp.iconst dX6_rounds_242 (by decide) ?_
        refine Wp.zret rfl dX6_rounds_243 (by omega) ?_
        have rp : Rp (hF h 41 6) (mIt (mcf h) (hA h 46)) i (i + l) := by
          rcases hy188 with z | z
          · omega
          · exact Rp.found (mIt_st (c := mcf h) (f := hA h 46)) (by omega) hpl hf (mIt_E (wr.like z.2)) un
        first
        | exact ⟨⟨_, rfl, Or.inr ⟨rfl, i, l, ei, el, rp, by omega⟩⟩, wr.1⟩
        | exact ⟨⟨_, rfl, Or.inl ⟨rfl, fun s u r => by have q := Rp.uniq rp r; omega⟩⟩, wr.1⟩
      · refine Wp.iconst dX6_rounds_238 (by decide) ?_
        refine Wp.goto (tgt := 243) dX6_rounds_239 (by decide) ?_
        refine Wp.zret rfl dX6_rounds_243 (by omega) ?_
        have rp : Rp (hF h 41 6) (mIt (mcf h) (hA h 46)) i (i + l) := by
          rcases hy188 with z | z
          · omega
          · exact Rp.found (mIt_st (c := mcf h) (f := hA h 46)) (by omega) hpl hf (mIt_E (wr.like z.2)) un
        first
        | exact ⟨⟨_, rfl, Or.inr ⟨rfl, i, l, ei, el, rp, by omega⟩⟩, wr.1⟩
        | exact ⟨⟨_, rfl, Or.inl ⟨rfl, fun s u r => by have q := Rp.uniq rp r; omega⟩⟩, wr.1⟩
    · refine Wp.ald_n (j := 0) rfl dX6_rounds_194 ?_
      refine Wp.ald_n (j := 0) rfl dX6_rounds_195 ?_
      refine Wp.getf (k := 20) (tg := 2) kC6 (by decide) rfl lf_X6_63 dX6_rounds_196 (sK41 (h := h') sh') (sF41_20 (h := h') sh') ?_
      have hu : ¬ EQ9 (hF h 41 6) (mIt (mcf h) (hA h 46)) (i) (i + l) := by
        rcases hy188 with z | z
        · exact fun e => wr.unlike z.2 (mIt_eq (c := mcf h) e)
        · omega
      have hne : i ≠ p := fun e => hu (by rw [e]; exact hpl)
      obtain ⟨t199, ct199, wr199, f199⟩ := wr_tort d sh mb wr
      have sh199 := wr199.sh sh
      refine Wp.callV0 (ct199) wc_X6_166 iM_X6_tick se_X6_tick kC6 (sK41 (h := h') sh') dX6_rounds_199 rfl (Nat.le_of_ble_eq_true rfl) rfl (Nat.le_of_ble_eq_true rfl) ?_
      refine Wp.ald_n (j := 0) rfl dX6_rounds_202 ?_
      refine Wp.ald_n (j := 0) rfl dX6_rounds_203 ?_
      refine Wp.getf (k := 19) (tg := 2) kC6 (by decide) rfl lf_X6_60 dX6_rounds_204 (sK41 (h := t199) sh199) (sF41_19 (h := t199) sh199) ?_
      obtain ⟨t207, ct207, wr207, f207⟩ := wr_hare d sh mb wr199
      have sh207 := wr207.sh sh
      have e212 : hF t207 41 40 = i := by rw [f207, f199]; exact ei
      refine Wp.callV0 (ct207) wc_X6_166 iM_X6_tick se_X6_tick kC6 (sK41 (h := t199) sh199) dX6_rounds_207 rfl (Nat.le_of_ble_eq_true rfl) rfl (Nat.le_of_ble_eq_true rfl) ?_
      refine Wp.ald_n (j := 0) rfl dX6_rounds_210 ?_
      refine Wp.dup dX6_rounds_211 (Or.inr rfl) ?_
      refine Wp.getf (k := 40) (tg := 0) kC6 (by decide) rfl lf_X6_199 dX6_rounds_212 (sK41 (h := t207) sh207) e212 ?_
      refine Wp.iconst dX6_rounds_215 (by decide) ?_
      refine Wp.iaddE dX6_rounds_216 (by first | exact w32_of (by omega) (by omega) | rfl) ?_
      refine Wp.putf (k := 40) (tg := 0) kC6 (by decide) rfl rfl lf_X6_199 dX6_rounds_217 (sK41 (h := t207) sh207) ?_
      refine Wp.goto (tgt := 179) dX6_rounds_220 (by decide) ?_
      refine ih (i + 1) _ (by omega) (by omega) ?_ ?_ ?_ (fun j hj => ?_)
      · have wz := wr207.f (f := 40) ((i : Int) + 1) (Or.inl rfl)
        rw [show i + 1 + l = i + l + 1 by omega]
        exact wz
      · show hF t207 41 41 = _
        rw [f207, f199]
        exact el
      · show ((i : Int) + 1) = ((i + 1 : Nat) : Int)
        omega
      · by_cases e : j = i
        · rw [e]
          exact hu
        · exact un j (by omega)

theorem roundsX_152 (d : Nat) (h : mH) (sh : Sh h) (mb : MB h) (x1 x2 : Int) (p l : Nat) (l0 : 1 ≤ l) (l1 : l ≤ 20000) (p1 : p ≤ 100000) (hpl : EQ9 (hF h 41 6) (mIt (mcf h) (hA h 46)) (p) (p + l)) (hf : ∀ k, 0 < k → k < l → ¬ EQ9 (hF h 41 6) (mIt (mcf h) (hA h 46)) (p) (p + k)) : ∀ (m : Nat) (k : Nat) (h' : mH), (l - k) < m → (k ≤ l) → (WR h h' 0 k) → (hF h' 41 41 = l) → Wp m_X6_rounds (d + 2) 152 [(2, 41), (0, x1), (0, x2), (0, (k : Int))] [] h' (fun r t => (∃ y, r = some (0, y) ∧ ((y = 0 ∧ ∀ s u, Rp (hF h 41 6) (mIt (mcf h) (hA h 46)) s u → 20000 < u) ∨ (y = 1 ∧ ∃ s l : Nat, hF t 41 40 = s ∧ hF t 41 41 = l ∧ Rp (hF h 41 6) (mIt (mcf h) (hA h 46)) s (s + l) ∧ s + l ≤ 20000))) ∧ Fr [50, 51, 52, 53, 55, 56] [(41, 40), (41, 41)] h t) := by
  intro m
  induction m with
  | zero => intro k h' hm; exact absurd hm (Nat.not_lt_zero _)
  | succ m ih =>
    intro k h' hm kl wr el
    obtain ⟨⟨r0, r1⟩, ⟨n0, n1⟩, ⟨m0, m1⟩, hp, hq⟩ := id mb
    have sh' := wr.sh sh
    obtain ⟨e6, e5, ec, e46⟩ := wr.e
    refine Wp.ild_n (j := 3) rfl dX6_rounds_152 ?_
    refine Wp.ald_n (j := 0) rfl dX6_rounds_153 ?_
    refine Wp.getf (k := 41) (tg := 0) kC6 (by decide) rfl lf_X6_191 dX6_rounds_154 (sK41 (h := h') sh') el ?_
    refine Wp.icge dX6_rounds_157 (by decide) (tgt := 174) (fun c157 => ?_) (fun c157 => ?_)
    · refine Wp.ald_n (j := 0) rfl dX6_rounds_174 ?_
      refine Wp.iconst dX6_rounds_175 (by decide) ?_
      refine Wp.putf (k := 40) (tg := 0) kC6 (by decide) rfl rfl lf_X6_199 dX6_rounds_176 (sK41 (h := h') sh') ?_
      have ek : k = l := by omega
      subst ek
      refine roundsX_179 d h sh mb _ _ _ p k l0 l1 p1 hpl hf _ 0 _ (Nat.lt_succ_self _) (by omega) ?_ el rfl (fun j hj => absurd hj (by omega))
      rw [Nat.zero_add]
      exact wr.f (f := 40) 0 (Or.inl rfl)
    · refine Wp.ald_n (j := 0) rfl dX6_rounds_160 ?_
      refine Wp.ald_n (j := 0) rfl dX6_rounds_161 ?_
      refine Wp.getf (k := 19) (tg := 2) kC6 (by decide) rfl lf_X6_60 dX6_rounds_162 (sK41 (h := h') sh') (sF41_19 (h := h') sh') ?_
      obtain ⟨t165, ct165, wr165, f165⟩ := wr_hare d sh mb wr
      have sh165 := wr165.sh sh
      refine Wp.callV0 (ct165) wc_X6_166 iM_X6_tick se_X6_tick kC6 (sK41 (h := h') sh') dX6_rounds_165 rfl (Nat.le_of_ble_eq_true rfl) rfl (Nat.le_of_ble_eq_true rfl) ?_
      refine inc_4_3 rfl dX6_rounds_168 (by first | exact w32_of (by omega) (by omega) | rfl) ?_
      refine Wp.goto (tgt := 152) dX6_rounds_171 (by decide) ?_
      refine ih (k + 1) t165 (by omega) (by omega) wr165 ?_
      rw [f165]
      exact el

theorem roundsX_122 (d : Nat) (h : mH) (sh : Sh h) (mb : MB h) (x1 x2 : Int) (x3 : mV) (p l : Nat) (l0 : 1 ≤ l) (p1 : p ≤ 100000) (l2 : l ≤ 100000) (hpl : EQ9 (hF h 41 6) (mIt (mcf h) (hA h 46)) (p) (p + l)) (hf : ∀ k, 0 < k → k < l → ¬ EQ9 (hF h 41 6) (mIt (mcf h) (hA h 46)) (p) (p + k)) (h' : mH) (i k : Nat) (wr : WR h h' i k) (el : hF h' 41 41 = l) : Wp m_X6_rounds (d + 2) 122 [(2, 41), (0, x1), (0, x2), x3] [] h' (fun r t => (∃ y, r = some (0, y) ∧ ((y = 0 ∧ ∀ s u, Rp (hF h 41 6) (mIt (mcf h) (hA h 46)) s u → 20000 < u) ∨ (y = 1 ∧ ∃ s l : Nat, hF t 41 40 = s ∧ hF t 41 41 = l ∧ Rp (hF h 41 6) (mIt (mcf h) (hA h 46)) s (s + l) ∧ s + l ≤ 20000))) ∧ Fr [50, 51, 52, 53, 55, 56] [(41, 40), (41, 41)] h t) := by
  obtain ⟨⟨r0, r1⟩, ⟨n0, n1⟩, ⟨m0, m1⟩, hp, hq⟩ := id mb
  have sh' := wr.sh sh
  obtain ⟨e6, e5, ec, e46⟩ := wr.e
  refine Wp.ald_n (j := 0) rfl dX6_rounds_122 ?_
  refine Wp.getf (k := 41) (tg := 0) kC6 (by decide) rfl lf_X6_191 dX6_rounds_123 (sK41 (h := h') sh') el ?_
  refine Wp.sipush dX6_rounds_126 (by decide) ?_
  refine Wp.icle dX6_rounds_129 (by decide) (tgt := 134) (fun c129 => ?_) (fun c129 => ?_)
  · refine Wp.ald_n (j := 0) rfl dX6_rounds_134 ?_
    refine Wp.ald_n (j := 0) rfl dX6_rounds_135 ?_
    refine Wp.getf (k := 20) (tg := 2) kC6 (by decide) rfl lf_X6_63 dX6_rounds_136 (sK41 (h := h') sh') (sF41_20 (h := h') sh') ?_
    obtain ⟨t139, u139, ct139, cu139, wr139, f139, sh139⟩ := wr_begin (d + 1) sh mb wr.1
    refine Wp.callV0 (ct139) wc_X6_188 iM_X6_begin se_X6_begin kC6 (sK41 (h := h') sh') dX6_rounds_139 rfl (Nat.le_of_ble_eq_true rfl) rfl (Nat.le_of_ble_eq_true rfl) ?_
    refine Wp.ald_n (j := 0) rfl dX6_rounds_142 ?_
    refine Wp.ald_n (j := 0) rfl dX6_rounds_143 ?_
    refine Wp.getf (k := 19) (tg := 2) kC6 (by decide) rfl lf_X6_60 dX6_rounds_144 (sK41 (h := t139) sh139) (sF41_19 (h := t139) sh139) ?_
    have sh147 := wr139.sh sh
    refine Wp.callV0 (cu139) wc_X6_188 iM_X6_begin se_X6_begin kC6 (sK41 (h := t139) sh139) dX6_rounds_147 rfl (Nat.le_of_ble_eq_true rfl) rfl (Nat.le_of_ble_eq_true rfl) ?_
    refine Wp.iconst dX6_rounds_150 (by decide) ?_
    refine sti_4_3 rfl (dSt_n dX6_rounds_151) ?_
    refine roundsX_152 d h sh mb x1 x2 p l l0 (by omega) p1 hpl hf _ 0 u139 (Nat.lt_succ_self _) (by omega) wr139 ?_
    rw [f139]
    exact el
  · refine Wp.iconst dX6_rounds_132 (by decide) ?_
    refine Wp.zret rfl dX6_rounds_133 (by omega) ?_
    exact ⟨⟨_, rfl, Or.inl ⟨rfl, fun s u r => by have q := Rp.brent (m := l) (mIt_st (c := mcf h) (f := hA h 46)) r (by omega) hpl hf; have q2 := r.1; omega⟩⟩, wr.1⟩

theorem roundsX_93 (d : Nat) (h : mH) (sh : Sh h) (mb : MB h) (pw st q : Int) (x3 : mV) (i k : Nat) (h' : mH) (wr : WR h h' i k) (eq : hF h' 41 41 = q) (q0 : 0 ≤ q ∧ q ≤ 100000) (s0 : 0 ≤ st ∧ st ≤ 100000) (Q : Option mV → mH → Prop) (kq : ∀ t : mH, WR h t i (k + 1) → hF t 41 41 = q + 1 → st + 1 ≤ 100000 → Wp m_X6_rounds (d + 2) 33 [(2, 41), (0, pw), (0, st + 1), x3] [] t Q) (kx : ∀ t : mH, WR h t i (k + 1) → 100000 < st + 1 → Q (some (0, 0)) t) : Wp m_X6_rounds (d + 2) 93 [(2, 41), (0, pw), (0, st), x3] [] h' Q := by
  obtain ⟨⟨r0, r1⟩, ⟨n0, n1⟩, ⟨m0, m1⟩, hp, hq⟩ := id mb
  have sh' := wr.sh sh
  obtain ⟨e6, e5, ec, e46⟩ := wr.e
  refine Wp.ald_n (j := 0) rfl dX6_rounds_93 ?_
  refine Wp.ald_n (j := 0) rfl dX6_rounds_94 ?_
  refine Wp.getf (k := 19) (tg := 2) kC6 (by decide) rfl lf_X6_60 dX6_rounds_95 (sK41 (h := h') sh') (sF41_19 (h := h') sh') ?_
  obtain ⟨t98, ct98, wr98, f98⟩ := wr_hare d sh mb wr
  have sh98 := wr98.sh sh
  have e103 : hF t98 41 41 = q := by rw [f98]; exact eq
  refine Wp.callV0 (ct98) wc_X6_166 iM_X6_tick se_X6_tick kC6 (sK41 (h := h') sh') dX6_rounds_98 rfl (Nat.le_of_ble_eq_true rfl) rfl (Nat.le_of_ble_eq_true rfl) ?_
  refine Wp.ald_n (j := 0) rfl dX6_rounds_101 ?_
  refine Wp.dup dX6_rounds_102 (Or.inr rfl) ?_
  refine Wp.getf (k := 41) (tg := 0) kC6 (by decide) rfl lf_X6_191 dX6_rounds_103 (sK41 (h := t98) sh98) e103 ?_
  refine Wp.iconst dX6_rounds_106 (by decide) ?_
  refine Wp.iaddE dX6_rounds_107 (by first | exact w32_of (by omega) (by omega) | rfl) ?_
  refine Wp.putf (k := 41) (tg := 0) kC6 (by decide) rfl rfl lf_X6_191 dX6_rounds_108 (sK41 (h := t98) sh98) ?_
  refine inc_4_2 rfl dX6_rounds_111 (by first | exact w32_of (by omega) (by omega) | rfl) ?_
  refine Wp.ild_n (j := 2) rfl dX6_rounds_114 ?_
  refine Wp.ldc (z := 100000) lk_X6_198 (by decide) dX6_rounds_115 ?_
  refine Wp.icle dX6_rounds_117 (by decide) (tgt := 33) (fun c117 => ?_) (fun c117 => ?_)
  · exact kq _ (wr98.f (f := 41) (q + 1) (Or.inr rfl)) rfl (by omega)
  · refine Wp.iconst dX6_rounds_120 (by decide) ?_
    refine Wp.zret rfl dX6_rounds_121 (by omega) ?_
    exact kx _ (wr98.f (f := 41) (q + 1) (Or.inr rfl)) (by omega)

theorem roundsX_33 (d : Nat) (h : mH) (sh : Sh h) (mb : MB h) : ∀ (m : Nat) (st pw : Int) (p l : Nat) (x3 : mV) (h' : mH), (100001 - st).toNat < m → (1 ≤ l) → (st = (p : Int) + l) → (st ≤ 100000) → (WR h h' p (p + l)) → (hF h' 41 41 = l) → (pw = (p : Int) + 1) → (∃ k : Nat, p + 1 = 2 ^ k) → (l ≤ p + 1) → (∀ m, 0 < m → m < l → ¬ EQ9 (hF h 41 6) (mIt (mcf h) (hA h 46)) (p) (p + m)) → (PH9 (hF h 41 6) (mIt (mcf h) (hA h 46)) p) → Wp m_X6_rounds (d + 2) 33 [(2, 41), (0, pw), (0, st), x3] [] h' (fun r t => (∃ y, r = some (0, y) ∧ ((y = 0 ∧ ∀ s u, Rp (hF h 41 6) (mIt (mcf h) (hA h 46)) s u → 20000 < u) ∨ (y = 1 ∧ ∃ s l : Nat, hF t 41 40 = s ∧ hF t 41 41 = l ∧ Rp (hF h 41 6) (mIt (mcf h) (hA h 46)) s (s + l) ∧ s + l ≤ 20000))) ∧ Fr [50, 51, 52, 53, 55, 56] [(41, 40), (41, 41)] h t) := by
  intro m
  induction m with
  | zero => intro st pw p l x3 h' hm; exact absurd hm (Nat.not_lt_zero _)
  | succ m ih =>
    intro st pw p l x3 h' hm l0 es s1 wr el pp pk lp un ph
    obtain ⟨⟨r0, r1⟩, ⟨n0, n1⟩, ⟨m0, m1⟩, hp, hq⟩ := id mb
    have sh' := wr.sh sh
    obtain ⟨e6, e5, ec, e46⟩ := wr.e
    refine Wp.ald_n (j := 0) rfl dX6_rounds_33 ?_
    refine Wp.ald_n (j := 0) rfl dX6_rounds_34 ?_
    refine Wp.getf (k := 20) (tg := 2) kC6 (by decide) rfl lf_X6_63 dX6_rounds_35 (sK41 (h := h') sh') (sF41_20 (h := h') sh') ?_
    refine Wp.ald_n (j := 0) rfl dX6_rounds_38 ?_
    refine Wp.getf (k := 19) (tg := 2) kC6 (by decide) rfl lf_X6_60 dX6_rounds_39 (sK41 (h := h') sh') (sF41_19 (h := h') sh') ?_
    obtain ⟨_, t42, ct42, ⟨y42, rfl, hy42⟩, e42⟩ := cq_misLike (d + 1) h' sh' (by omega) 56 (sK56 sh') (sL56 sh') 55 (sK55 sh') (sL55 sh')
    rw [e42] at ct42
    refine Wp.callV1 (ct42) wc_X6_194 iM_X6_isLike se_X6_isLike kC6 (sK41 (h := h') sh') dX6_rounds_42 rfl (Nat.le_of_ble_eq_true rfl) rfl (Nat.le_of_ble_eq_true rfl) ?_
    refine Wp.ifne dX6_rounds_45 (by decide) (tgt := 122) (fun c45 => ?_) (fun c45 => ?_)
    · have hl : EQ9 (hF h 41 6) (mIt (mcf h) (hA h 46)) (p) (p + l) := by
        rcases hy42 with z | z
        · omega
        · exact mIt_E (wr.like z.2)
      exact roundsX_122 d h sh mb pw st x3 p l l0 (by omega) (by omega) hl un h' _ _ wr el
    · refine Wp.ild_n (j := 1) rfl dX6_rounds_48 ?_
      refine Wp.ald_n (j := 0) rfl dX6_rounds_49 ?_
      refine Wp.getf (k := 41) (tg := 0) kC6 (by decide) rfl lf_X6_191 dX6_rounds_50 (sK41 (h := h') sh') el ?_
      refine Wp.icne dX6_rounds_53 (by decide) (tgt := 93) (fun c53 => ?_) (fun c53 => ?_)
      · have hu : ¬ EQ9 (hF h 41 6) (mIt (mcf h) (hA h 46)) (p) (p + l) := by
          rcases hy42 with z | z
          · exact fun e => wr.unlike z.2 (mIt_eq (c := mcf h) e)
          · omega
        refine roundsX_93 d h sh mb pw st l x3 p (p + l) h' wr el (by omega) (by omega) _ (fun t wt et s2 => ?_) (fun t wt sx => ⟨⟨_, rfl, Or.inl ⟨rfl, fun s u r => PH9.fail (p := p) (mIt_st (c := mcf h) (f := hA h 46)) ph (by omega) r⟩⟩, wt.1⟩)
        clear hy42
        refine ih (st + 1) pw p (l + 1) _ t (by omega) (by omega) (by omega) s2 wt (by rw [et]; omega) pp pk (by omega) (fun m q0 q1 => ?_) ph
        by_cases e : m = l
        · rw [e]
          exact hu
        · exact un m q0 (by omega)
      · refine Wp.iconst dX6_rounds_56 (by decide) ?_
        refine sti_4_3 rfl (dSt_n dX6_rounds_57) ?_
        have hu : ¬ EQ9 (hF h 41 6) (mIt (mcf h) (hA h 46)) (p) (p + l) := by
          rcases hy42 with z | z
          · exact fun e => wr.unlike z.2 (mIt_eq (c := mcf h) e)
          · omega
        have el2 : l = p + 1 := by omega
        obtain ⟨k, hk⟩ := pk
        have ph2 := ph.next hk (fun m q0 q1 => by
          by_cases e : m = l
          · rw [e]
            exact hu
          · exact un m q0 (by omega))
        rw [← el2] at ph2
        refine rounds_58 d h sh mb pw st (p + l) _ (fun t i wt => ?_) _ 0 p h' h' (Nat.lt_succ_self _) (by omega) wr Fr.rf (fun j j0 j1 => absurd j1 (by omega))
        refine Wp.ild_n (j := 1) rfl dX6_rounds_84 ?_
        refine Wp.iconst dX6_rounds_85 (by decide) ?_
        refine Wp.imulE dX6_rounds_86 (w32_of (by omega) (by omega)) ?_
        refine sti_4_1 rfl (dSt_n dX6_rounds_87) ?_
        refine Wp.ald_n (j := 0) rfl dX6_rounds_88 ?_
        refine Wp.iconst dX6_rounds_89 (by decide) ?_
        refine Wp.putf (k := 41) (tg := 0) kC6 (by decide) rfl rfl lf_X6_191 dX6_rounds_90 (sK41 (h := t) (wt.sh sh)) ?_
        refine roundsX_93 d h sh mb _ st 0 _ (p + l) (p + l) _ (wt.f (f := 41) 0 (Or.inr rfl)) rfl (by omega) (by omega) _ (fun u wu eu s2 => ?_) (fun u wu sx => ⟨⟨_, rfl, Or.inl ⟨rfl, fun s v r => PH9.fail (p := p + l) (mIt_st (c := mcf h) (f := hA h 46)) ph2 (by omega) r⟩⟩, wu.1⟩)
        exact ih (st + 1) _ (p + l) 1 _ u (by omega) (by omega) (by omega) s2 wu (by rw [eu]; rfl) (by omega) ⟨k + 1, by rw [Nat.pow_succ]; omega⟩ (by omega) (fun m q0 q1 => absurd q1 (by omega)) ph2

theorem cq_roundsX (d : Nat) (h : mH) (sh : Sh h) (mb : MB h) : Cq m_X6_rounds (d + 2) [(2, 41)] h (fun r t => (∃ y, r = some (0, y) ∧ ((y = 0 ∧ ∀ s u, Rp (hF h 41 6) (mIt (mcf h) (hA h 46)) s u → 20000 < u) ∨ (y = 1 ∧ ∃ s l : Nat, hF t 41 40 = s ∧ hF t 41 41 = l ∧ Rp (hF h 41 6) (mIt (mcf h) (hA h 46)) s (s + l) ∧ s + l ≤ 20000))) ∧ Fr [50, 51, 52, 53, 55, 56] [(41, 40), (41, 41)] h t) := by
  refine Cq.of ?_
  show Wp m_X6_rounds ((d + 2)) 0 [(2, 41), (9, 0), (9, 0), (9, 0)] [] h _
  refine Wp.ald_n (j := 0) rfl dX6_rounds_0 ?_
  refine Wp.ald_n (j := 0) rfl dX6_rounds_1 ?_
  refine Wp.getf (k := 20) (tg := 2) kC6 (by decide) rfl lf_X6_63 dX6_rounds_2 (sK41 (h := h) sh) (sF41_20 (h := h) sh) ?_
  obtain ⟨t5, u5, ct5, cu5, wr5, f5, sh5⟩ := wr_begin (d + 1) sh mb Fr.rf
  refine Wp.callV0 (ct5) wc_X6_188 iM_X6_begin se_X6_begin kC6 (sK41 (h := h) sh) dX6_rounds_5 rfl (Nat.le_of_ble_eq_true rfl) rfl (Nat.le_of_ble_eq_true rfl) ?_
  refine Wp.ald_n (j := 0) rfl dX6_rounds_8 ?_
  refine Wp.ald_n (j := 0) rfl dX6_rounds_9 ?_
  refine Wp.getf (k := 19) (tg := 2) kC6 (by decide) rfl lf_X6_60 dX6_rounds_10 (sK41 (h := t5) sh5) (sF41_19 (h := t5) sh5) ?_
  have sh13 := wr5.sh sh
  refine Wp.callV0 (cu5) wc_X6_188 iM_X6_begin se_X6_begin kC6 (sK41 (h := t5) sh5) dX6_rounds_13 rfl (Nat.le_of_ble_eq_true rfl) rfl (Nat.le_of_ble_eq_true rfl) ?_
  refine Wp.ald_n (j := 0) rfl dX6_rounds_16 ?_
  refine Wp.ald_n (j := 0) rfl dX6_rounds_17 ?_
  refine Wp.getf (k := 19) (tg := 2) kC6 (by decide) rfl lf_X6_60 dX6_rounds_18 (sK41 (h := u5) sh13) (sF41_19 (h := u5) sh13) ?_
  obtain ⟨t21, ct21, wr21, f21⟩ := wr_hare d sh mb wr5
  have sh21 := wr21.sh sh
  refine Wp.callV0 (ct21) wc_X6_166 iM_X6_tick se_X6_tick kC6 (sK41 (h := u5) sh13) dX6_rounds_21 rfl (Nat.le_of_ble_eq_true rfl) rfl (Nat.le_of_ble_eq_true rfl) ?_
  refine Wp.iconst dX6_rounds_24 (by decide) ?_
  refine sti_4_1 rfl (dSt_n dX6_rounds_25) ?_
  refine Wp.ald_n (j := 0) rfl dX6_rounds_26 ?_
  refine Wp.iconst dX6_rounds_27 (by decide) ?_
  refine Wp.putf (k := 41) (tg := 0) kC6 (by decide) rfl rfl lf_X6_191 dX6_rounds_28 (sK41 (h := t21) sh21) ?_
  refine Wp.iconst dX6_rounds_31 (by decide) ?_
  refine sti_4_2 rfl (dSt_n dX6_rounds_32) ?_
  exact roundsX_33 d h sh mb _ 1 1 0 1 _ _ (Nat.lt_succ_self _) (by omega) (by omega) (by omega) (wr21.f (f := 41) 1 (Or.inr rfl)) rfl (by omega) ⟨0, rfl⟩ (by omega) (fun m q0 q1 => absurd q1 (by omega)) (fun e he => absurd he (by omega))

theorem EQ9.cg {n : Int} {X Y : Nat → Int → Int} (h : ∀ k a, 0 ≤ a → a < n → X k a = Y k a) {i j : Nat} : EQ9 n X i j ↔ EQ9 n Y i j := ⟨fun e a a0 a1 => by rw [← h i a a0 a1, ← h j a a0 a1]; exact e a a0 a1, fun e a a0 a1 => by rw [h i a a0 a1, h j a a0 a1]; exact e a a0 a1⟩
theorem Rp.cg {n : Int} {X Y : Nat → Int → Int} (h : ∀ k a, 0 ≤ a → a < n → X k a = Y k a) {s t : Nat} : Rp n X s t ↔ Rp n Y s t := ⟨fun r => ⟨r.1, (EQ9.cg h).mp r.2.1, fun i j a b z => r.2.2 i j a b ((EQ9.cg h).mpr z)⟩, fun r => ⟨r.1, (EQ9.cg h).mpr r.2.1, fun i j a b z => r.2.2 i j a b ((EQ9.cg h).mp z)⟩⟩
/-- what round tells -/
def RD9 (n : Int) (X : Nat → Int → Int) (x y : Int) : Prop := (∃ s u : Nat, Rp n X s u ∧ u ≤ 20000 ∧ y = if x = 0 then (s : Int) else (u : Int) - s) ∨ (y = -1 ∧ ∀ s u, Rp n X s u → 20000 < u)
theorem RD9.uniq {n : Int} {X Y : Nat → Int → Int} (h : ∀ k a, 0 ≤ a → a < n → X k a = Y k a) {x y1 y2 : Int} (a : RD9 n X x y1) (b : RD9 n Y x y2) : y1 = y2 := by
  rcases a with ⟨s, u, r, u1, e⟩ | ⟨e, a⟩ <;> rcases b with ⟨s', u', r', u1', e'⟩ | ⟨e', a'⟩
  · obtain ⟨h1, h2⟩ := Rp.uniq r ((Rp.cg h).mpr r')
    rw [e, e', h1, h2]
  · have := a' s u ((Rp.cg h).mp r)
    omega
  · have := a s' u' ((Rp.cg h).mpr r')
    omega
  · rw [e, e']
/-- what meet tells -/
def MT9 (n : Int) (X : Nat → Int → Int) (F : Nat → Prop) (y : Int) : Prop := (∃ t : Nat, y = t ∧ t ≤ 20000 ∧ F t ∧ (∀ i, i < t → ¬ F i) ∧ ∀ s u, Rp n X s u → t ≤ u) ∨ (y = -1 ∧ ∀ t : Nat, t ≤ 20000 → (∀ s u, Rp n X s u → t ≤ u) → ¬ F t)
theorem MT9.uniq {n : Int} {X Y : Nat → Int → Int} {F G : Nat → Prop} (h : ∀ k a, 0 ≤ a → a < n → X k a = Y k a) (hF : ∀ i, F i ↔ G i) {y1 y2 : Int} (a : MT9 n X F y1) (b : MT9 n Y G y2) : y1 = y2 := by
  rcases a with ⟨t, e, t1, f, u, r⟩ | ⟨e, a⟩ <;> rcases b with ⟨t', e', t1', f', u', r'⟩ | ⟨e', a'⟩
  · rcases Nat.lt_trichotomy t t' with z | z | z
    · exact absurd ((hF t).mp f) (u' t z)
    · rw [e, e', z]
    · exact absurd ((hF t').mpr f') (u t' z)
  · exact absurd ((hF t).mp f) (a' t t1 (fun s u z => r s u ((Rp.cg h).mpr z)))
  · exact absurd ((hF t').mpr f') (a t' t1' (fun s u z => r' s u ((Rp.cg h).mp z)))
  · rw [e, e']
theorem mIt_mI9 {c : mCf} {f : Int → Int} : ∀ (k : Nat) (j : Int), 0 ≤ j → j < c.1.1 → mIt c f k j = mI9 c f k j
  | 0, j, j0, j1 => by
    show cutF c.1.1 f j = f j
    unfold cutF
    rw [if_pos ⟨j0, j1⟩]
  | k + 1, j, j0, j1 => congrFun (mT_eq (c := c) (f := mIt c f k) (g := mI9 c f k) (fun i i0 i1 => mIt_mI9 k i i0 i1)) j
theorem cq_mroundX (d : Nat) (h : mH) (sh : Sh h) (mi : MI h) (x : Int) : Cq m_X6_round (d + 3) [(2, 41), (0, x)] h (fun r t => (∃ y, r = some (0, y) ∧ ((¬ ((0 ≤ x ∧ x ≤ 1) ∧ (hF h 41 6) ≠ 0) ∧ y = -1) ∨ (((0 ≤ x ∧ x ≤ 1) ∧ (hF h 41 6) ≠ 0) ∧ RD9 (hF h 41 6) (mI9 (mcf h) (hA h 46)) x y))) ∧ MI t ∧ Fr mAq mGq h t) := by
  refine Cq.of ?_
  show Wp m_X6_round ((d + 3)) 0 [(2, 41), (0, x)] [] h _
  refine Wp.ald_n (j := 0) rfl dX6_round_0 ?_
  refine Wp.iconst dX6_round_1 (by decide) ?_
  refine Wp.putf (k := 1) (tg := 0) kC6 (by decide) rfl rfl lf_X6_117 dX6_round_2 (sK41 (h := h) sh) ?_
  refine Wp.ald_n (j := 0) rfl dX6_round_5 ?_
  refine Wp.iconst dX6_round_6 (by decide) ?_
  refine Wp.putf (k := 0) (tg := 0) kC6 (by decide) rfl rfl lf_X6_120 dX6_round_7 (sK41 (h := h) sh) ?_
  refine Wp.ild_n (j := 1) rfl dX6_round_10 ?_
  refine Wp.iflt dX6_round_11 (by decide) (tgt := 19) (fun c11 => ?_) (fun c11 => ?_)
  · refine Wp.ald_n (j := 0) rfl dX6_round_19 ?_
    refine Wp.iconst dX6_round_20 (by decide) ?_
    refine Wp.callV1 (ct_mrefuse (d + 2) (sF (sF h 41 1 0) 41 0 0) (sK41 (h := h) sh) 2) wc_X6_151 iM_X6_refuse se_X6_refuse kC6 (sK41 (h := h) sh) dX6_round_21 rfl (Nat.le_of_ble_eq_true rfl) rfl (Nat.le_of_ble_eq_true rfl) ?_
    refine Wp.iret rfl dX6_round_24 ?_
    exact ⟨⟨_, rfl, Or.inl ⟨by omega, rfl⟩⟩, mi, ((Fr.f (by decide)).tr ((Fr.f (by decide)).tr (Fr.f (by decide))))⟩
  · refine Wp.ild_n (j := 1) rfl dX6_round_14 ?_
    refine Wp.iconst dX6_round_15 (by decide) ?_
    refine Wp.icle dX6_round_16 (by decide) (tgt := 25) (fun c16 => ?_) (fun c16 => ?_)
    · refine Wp.ald_n (j := 0) rfl dX6_round_25 ?_
      refine Wp.getf (k := 6) (tg := 0) kC6 (by decide) rfl lf_X6_141 dX6_round_26 (sK41 (h := h) sh) (show hF _ 41 6 = hF h 41 6 from rfl) ?_
      refine Wp.ifne dX6_round_29 (by decide) (tgt := 39) (fun c29 => ?_) (fun c29 => ?_)
      · refine Wp.ald_n (j := 0) rfl dX6_round_39 ?_
        obtain ⟨_, t40, ct40, ⟨y40, rfl, hy40⟩, f40⟩ := cq_roundsX d (sF (sF h 41 1 0) 41 0 0) sh.m0 mi.1
        have sh40 : Sh t40 := sh.m0.fr f40 (by decide +kernel) (by decide)
        have mit40 : MI t40 := MI.fr (h := (sF (sF h 41 1 0) 41 0 0)) mi (f40.mono (by decide) (by decide))
        refine Wp.callV1 (ct40) wc_X6_202 iM_X6_rounds se_X6_rounds kC6 (sK41 (h := h) sh) dX6_round_40 rfl (Nat.le_of_ble_eq_true rfl) rfl (Nat.le_of_ble_eq_true rfl) ?_
        refine Wp.ifne dX6_round_43 (by decide) (tgt := 53) (fun c43 => ?_) (fun c43 => ?_)
        · refine Wp.ild_n (j := 1) rfl dX6_round_53 ?_
          refine Wp.ifne dX6_round_54 (by decide) (tgt := 64) (fun c54 => ?_) (fun c54 => ?_)
          · refine Wp.ald_n (j := 0) rfl dX6_round_64 ?_
            refine Wp.getf (k := 41) (tg := 0) kC6 (by decide) rfl lf_X6_191 dX6_round_65 (sK41 (h := t40) sh40) (show hF _ 41 41 = hF t40 41 41 from rfl) ?_
            refine Wp.iret rfl dX6_round_68 ?_
            rcases hy40 with ⟨z, -⟩ | ⟨z, s, l, es, el, rp, u1⟩
            · omega
            have rp' := (Rp.cg (fun k a a0 a1 => mIt_mI9 (c := mcf h) k a a0 a1)).mp rp
            first
            | exact ⟨⟨_, rfl, Or.inr ⟨by omega, Or.inl ⟨s, s + l, rp', u1, by rw [if_pos (by omega), es]⟩⟩⟩, mit40, ((Fr.f (by decide)).tr (Fr.f (by decide))).tr (f40.mono (by decide) (by decide))⟩
            | exact ⟨⟨_, rfl, Or.inr ⟨by omega, Or.inl ⟨s, s + l, rp', u1, by rw [if_neg (by omega), el]; omega⟩⟩⟩, mit40, ((Fr.f (by decide)).tr (Fr.f (by decide))).tr (f40.mono (by decide) (by decide))⟩
          · refine Wp.ald_n (j := 0) rfl dX6_round_57 ?_
            refine Wp.getf (k := 40) (tg := 0) kC6 (by decide) rfl lf_X6_199 dX6_round_58 (sK41 (h := t40) sh40) (show hF _ 41 40 = hF t40 41 40 from rfl) ?_
            refine Wp.goto (tgt := 68) dX6_round_61 (by decide) ?_
            refine Wp.iret rfl dX6_round_68 ?_
            rcases hy40 with ⟨z, -⟩ | ⟨z, s, l, es, el, rp, u1⟩
            · omega
            have rp' := (Rp.cg (fun k a a0 a1 => mIt_mI9 (c := mcf h) k a a0 a1)).mp rp
            first
            | exact ⟨⟨_, rfl, Or.inr ⟨by omega, Or.inl ⟨s, s + l, rp', u1, by rw [if_pos (by omega), es]⟩⟩⟩, mit40, ((Fr.f (by decide)).tr (Fr.f (by decide))).tr (f40.mono (by decide) (by decide))⟩
            | exact ⟨⟨_, rfl, Or.inr ⟨by omega, Or.inl ⟨s, s + l, rp', u1, by rw [if_neg (by omega), el]; omega⟩⟩⟩, mit40, ((Fr.f (by decide)).tr (Fr.f (by decide))).tr (f40.mono (by decide) (by decide))⟩
        · refine Wp.ald_n (j := 0) rfl dX6_round_46 ?_
          refine Wp.bipush dX6_round_47 (by decide) ?_
          refine Wp.callV1 (ct_mrefuse (d + 2) t40 (sK41 sh40) 10) wc_X6_151 iM_X6_refuse se_X6_refuse kC6 (sK41 (h := t40) sh40) dX6_round_49 rfl (Nat.le_of_ble_eq_true rfl) rfl (Nat.le_of_ble_eq_true rfl) ?_
          refine Wp.iret rfl dX6_round_52 ?_
          rcases hy40 with ⟨z, hz⟩ | ⟨z, -⟩
          · exact ⟨⟨_, rfl, Or.inr ⟨by omega, Or.inr ⟨rfl, fun s u r => hz s u ((Rp.cg (fun k a a0 a1 => mIt_mI9 (c := mcf h) k a a0 a1)).mpr r)⟩⟩⟩, mit40, (((Fr.f (by decide)).tr (Fr.f (by decide))).tr (f40.mono (by decide) (by decide))).tr (Fr.f (by decide))⟩
          · omega
      · refine Wp.ald_n (j := 0) rfl dX6_round_32 ?_
        refine Wp.bipush dX6_round_33 (by decide) ?_
        refine Wp.callV1 (ct_mrefuse (d + 2) (sF (sF h 41 1 0) 41 0 0) (sK41 (h := h) sh) 8) wc_X6_151 iM_X6_refuse se_X6_refuse kC6 (sK41 (h := h) sh) dX6_round_35 rfl (Nat.le_of_ble_eq_true rfl) rfl (Nat.le_of_ble_eq_true rfl) ?_
        refine Wp.iret rfl dX6_round_38 ?_
        exact ⟨⟨_, rfl, Or.inl ⟨by omega, rfl⟩⟩, mi, ((Fr.f (by decide)).tr ((Fr.f (by decide)).tr (Fr.f (by decide))))⟩
    · refine Wp.ald_n (j := 0) rfl dX6_round_19 ?_
      refine Wp.iconst dX6_round_20 (by decide) ?_
      refine Wp.callV1 (ct_mrefuse (d + 2) (sF (sF h 41 1 0) 41 0 0) (sK41 (h := h) sh) 2) wc_X6_151 iM_X6_refuse se_X6_refuse kC6 (sK41 (h := h) sh) dX6_round_21 rfl (Nat.le_of_ble_eq_true rfl) rfl (Nat.le_of_ble_eq_true rfl) ?_
      refine Wp.iret rfl dX6_round_24 ?_
      exact ⟨⟨_, rfl, Or.inl ⟨by omega, rfl⟩⟩, mi, ((Fr.f (by decide)).tr ((Fr.f (by decide)).tr (Fr.f (by decide))))⟩

theorem sp9_cg {f g : Int → Int} {n s : Int} (h : ∀ j, 0 ≤ j → j < n → f j = g j) : sp9 f n s ↔ sp9 g n s := sp9_eq h
theorem mmeetX1 (d : Nat) (h : mH) (sh : Sh h) (mb : MB h) (x c most : Int) (m1 : most ≤ 20000) (X : Nat → Int → Int) (hX : ∀ k, X (k + 1) = mT (mcf h) (X k)) (Q0 : Option mV → mH → Prop) (kx : ∀ (t : mH) (u : Nat), Fr [50, 51, 52, 53, 54] [] h t → (u : Int) ≤ most → sp9 (X u) (hF h 41 6) x → (∀ i, i < u → ¬ sp9 (X i) (hF h 41 6) x) → Q0 (some (0, (u : Int))) t) (Q : Option mV → mH → Prop) (kq : ∀ (t : mH) (u : Int), Fr [50, 51, 52, 53, 54] [] h t → (∀ i : Nat, (i : Int) ≤ most → 1 ≤ i → ¬ sp9 (X i) (hF h 41 6) x) → Wp m_X6_meet (d + 2) 117 [(2, 41), (0, x), (0, c), (0, most), (0, u)] [] t Q) : ∀ (m : Nat) (u : Int) (h' : mH), (most + 1 - u).toNat < m → (Fr [50, 51, 52, 53, 54] [] h h') → (1 ≤ u) → (u ≤ most + 1 ∨ u = 1) → (Q = Q0) → (∀ j, 0 ≤ j → j < hF h 41 6 → 0 ≤ hA h' 54 j ∧ hA h' 54 j < hF h 41 5) → (∀ j, 0 ≤ j → j < hF h 41 6 → hA h' 54 j = X (u - 1).toNat j) → (∀ i : Nat, (i : Int) < u → ¬ sp9 (X i) (hF h 41 6) x) → Wp m_X6_meet (d + 2) 82 [(2, 41), (0, x), (0, c), (0, most), (0, u)] [] h' Q := by
  intro m
  induction m with
  | zero => intro u h' hm; exact absurd hm (Nat.not_lt_zero _)
  | succ m ih =>
    intro u h' hm fr u0 u9 eQ hr iv un
    obtain ⟨⟨r0, r1⟩, ⟨n0, n1⟩, ⟨m0, m1x⟩, hp, hq⟩ := id mb
    have sh' := sh.fr fr (by decide +kernel) (by decide)
    have e5 : hF h' 41 5 = hF h 41 5 := fr.2.2.2.2.1 41 5 (by decide)
    have e6 : hF h' 41 6 = hF h 41 6 := fr.2.2.2.2.1 41 6 (by decide)
    refine Wp.ild (j := 4) rfl dX6_meet_82 ?_
    refine Wp.ild_n (j := 3) rfl dX6_meet_84 ?_
    refine Wp.icgt dX6_meet_85 (by decide) (tgt := 117) (fun c85 => ?_) (fun c85 => ?_)
    · exact kq _ _ fr (fun i i0 i1 => un i (by omega))
    · refine Wp.ald_n (j := 0) rfl dX6_meet_88 ?_
      refine Wp.ald_n (j := 0) rfl dX6_meet_89 ?_
      refine Wp.getf (k := 18) (tg := 2) kC6 (by decide) rfl lf_X6_57 dX6_meet_90 (sK41 (h := h') sh') (sF41_18 (h := h') sh') ?_
      obtain ⟨_, t93, ct93, rfl, f93, r93⟩ := cq_mtick d h' sh' (mb.fr fr (by decide) (by decide) (by decide) (by decide) (by decide)) 54 (sK54 sh') (sL54 sh') (by decide) (by rw [e5, e6]; exact hr)
      have sh93 := sh'.fr f93 (by decide +kernel) (by decide)
      have e93 : hF t93 41 6 = hF h 41 6 := by rw [f93.2.2.2.2.1 41 6 (by decide), e6]
      have n93 : hF t93 41 6 ≤ 24 := by rw [e93]; exact n1
      have c93 : mcf h' = mcf h := mcf_fr fr (by decide) (by decide) (by decide) (by decide) (by decide) (by decide)
      have x93 : ∀ j, 0 ≤ j → j < hF h 41 6 → hA t93 54 j = X u.toNat j := fun j j0 j1 => by
        rw [(r93 j j0 (by rw [e6]; exact j1)).1, c93, mT_eq (c := mcf h) (f := hA h' 54) (g := X (u - 1).toNat) (fun i i0 i1 => iv i i0 i1), ← hX, show (u - 1).toNat + 1 = u.toNat by omega]
      refine Wp.callV0 (ct93) wc_X6_166 iM_X6_tick se_X6_tick kC6 (sK41 (h := h') sh') dX6_meet_93 rfl (Nat.le_of_ble_eq_true rfl) rfl (Nat.le_of_ble_eq_true rfl) ?_
      refine Wp.ald_n (j := 0) rfl dX6_meet_96 ?_
      refine Wp.ald_n (j := 0) rfl dX6_meet_97 ?_
      refine Wp.getf (k := 18) (tg := 2) kC6 (by decide) rfl lf_X6_57 dX6_meet_98 (sK41 (h := t93) sh93) (sF41_18 (h := t93) sh93) ?_
      refine Wp.ild_n (j := 1) rfl dX6_meet_101 ?_
      obtain ⟨_, t102, ct102, ⟨y102, rfl, hy102, hs102⟩, e102⟩ := cq_misInStepX (d + 1) t93 sh93 n93 54 (sK54 sh93) (sL54 sh93) (fun j j0 j1 => (r93 j j0 (by rw [e6, ← e93]; exact j1)).2.1) x
      rw [e102] at ct102
      rw [e93, sp9_cg x93] at hs102
      refine Wp.callV1 (ct102) wc_X6_176 iM_X6_isInStep se_X6_isInStep kC6 (sK41 (h := t93) sh93) dX6_meet_102 rfl (Nat.le_of_ble_eq_true rfl) rfl (Nat.le_of_ble_eq_true rfl) ?_
      refine Wp.ifeq dX6_meet_105 (by decide) (tgt := 111) (fun c105 => ?_) (fun c105 => ?_)
      · refine inc_5_4 rfl dX6_meet_111 (by first | exact w32_of (by omega) (by omega) | rfl) ?_
        refine Wp.goto (tgt := 82) dX6_meet_114 (by decide) ?_
        refine ih (u + 1) t93 (by omega) (fr.tr f93) (by omega) (Or.inl (by omega)) eQ (fun j j0 j1 => ?_) (fun j j0 j1 => ?_) (fun i hi => ?_)
        · have := (r93 j j0 (by rw [e6]; exact j1)).2
          rw [e5] at this
          exact this
        · rw [show u + 1 - 1 = u by omega]
          exact x93 j j0 j1
        · by_cases e : (i : Int) = u
          · rw [show i = u.toNat by omega]
            exact fun z => by
              have := hs102.mpr z
              omega
          · exact un i (by omega)
      · refine Wp.ild (j := 4) rfl dX6_meet_108 ?_
        refine Wp.iret rfl dX6_meet_110 ?_
        rw [eQ]
        have hk := kx t93 u.toNat (fr.tr f93) (by omega) (hs102.mp (by omega)) (fun i hi => un i (by omega))
        rw [show ((u.toNat : Nat) : Int) = u by omega] at hk
        exact hk

theorem cq_mmeetX (d : Nat) (h : mH) (sh : Sh h) (mi : MI h) (x : Int) : Cq m_X6_meet (d + 3) [(2, 41), (0, x)] h (fun r t => (∃ y, r = some (0, y) ∧ ((¬ (0 ≤ x ∧ x < kshl 1 (hF h 41 6)) ∧ y = -1) ∨ ((0 ≤ x ∧ x < kshl 1 (hF h 41 6)) ∧ MT9 (hF h 41 6) (mI9 (mcf h) (hA h 46)) (fun i => sp9 ((mI9 (mcf h) (hA h 46)) i) (hF h 41 6) x) y))) ∧ MI t ∧ Fr mAq mGq h t) := by
  refine Cq.of ?_
  show Wp m_X6_meet ((d + 3)) 0 [(2, 41), (0, x), (9, 0), (9, 0), (9, 0)] [] h _
  obtain ⟨⟨⟨r0, r1⟩, ⟨n0, n1⟩, ⟨m0, m1⟩, hp, hq⟩, hms, ⟨⟨z0, z1⟩, hsp⟩, hme⟩ := id mi
  refine Wp.ald_n (j := 0) rfl dX6_meet_0 ?_
  refine Wp.iconst dX6_meet_1 (by decide) ?_
  refine Wp.putf (k := 1) (tg := 0) kC6 (by decide) rfl rfl lf_X6_117 dX6_meet_2 (sK41 (h := h) sh) ?_
  refine Wp.ald_n (j := 0) rfl dX6_meet_5 ?_
  refine Wp.iconst dX6_meet_6 (by decide) ?_
  refine Wp.putf (k := 0) (tg := 0) kC6 (by decide) rfl rfl lf_X6_120 dX6_meet_7 (sK41 (h := h) sh) ?_
  refine Wp.ald_n (j := 0) rfl dX6_meet_10 ?_
  refine Wp.ild_n (j := 1) rfl dX6_meet_11 ?_
  obtain ⟨_, tq, ctq, ⟨yq, rfl, hyq⟩, eq⟩ := cq_misSetX (d + 2) (sF (sF h 41 1 0) 41 0 0) (sK41 (h := h) sh) x
  rw [eq] at ctq
  have hyq : (yq = 0 ∧ ¬ (0 ≤ x ∧ x < kshl 1 (hF h 41 6))) ∨ (yq = 1 ∧ (0 ≤ x ∧ x < kshl 1 (hF h 41 6))) := hyq
  refine Wp.callV1 (ctq) wc_X6_173 iM_X6_isSet se_X6_isSet kC6 (sK41 (h := h) sh) dX6_meet_12 rfl (Nat.le_of_ble_eq_true rfl) rfl (Nat.le_of_ble_eq_true rfl) ?_
  refine Wp.ifne dX6_meet_15 (by decide) (tgt := 24) (fun c15 => ?_) (fun c15 => ?_)
  · refine Wp.ald_n (j := 0) rfl dX6_meet_24 ?_
    refine Wp.ald_n (j := 0) rfl dX6_meet_25 ?_
    refine Wp.getf (k := 18) (tg := 2) kC6 (by decide) rfl lf_X6_57 dX6_meet_26 (sK41 (h := h) sh) (sF41_18 (h := h) sh) ?_
    obtain ⟨_, t29, ct29, rfl, f29, r29⟩ := cq_mbegin (d + 2) (sF (sF h 41 1 0) 41 0 0) sh.m0 n1 54 (sK54 (h := h) sh) (sL54 (h := h) sh) (by decide) (by decide)
    have sh29 : Sh t29 := sh.m0.fr f29 (by decide +kernel) (by decide)
    have mi29 : MI t29 := MI.fr (h := (sF (sF h 41 1 0) 41 0 0)) mi (f29.mono (by decide) (by simp))
    have n29 : hF t29 41 6 = hF h 41 6 := f29.2.2.2.2.1 41 6 (by decide)
    have c29 : mcf t29 = mcf h := mcf_fr (h := (sF (sF h 41 1 0) 41 0 0)) f29 (by decide) (by decide) (by decide) (by decide) (by decide) (by decide)
    have g29 : hA t29 46 = hA h 46 := f29.2.2.2.2.2 46 (by decide)
    refine Wp.callV0 (ct29) wc_X6_188 iM_X6_begin se_X6_begin kC6 (sK41 (h := h) sh) dX6_meet_29 rfl (Nat.le_of_ble_eq_true rfl) rfl (Nat.le_of_ble_eq_true rfl) ?_
    refine Wp.ald_n (j := 0) rfl dX6_meet_32 ?_
    refine Wp.ald_n (j := 0) rfl dX6_meet_33 ?_
    refine Wp.getf (k := 18) (tg := 2) kC6 (by decide) rfl lf_X6_57 dX6_meet_34 (sK41 (h := t29) sh29) (sF41_18 (h := t29) sh29) ?_
    refine Wp.ild_n (j := 1) rfl dX6_meet_37 ?_
    obtain ⟨_, t38, ct38, ⟨y38, rfl, hy38, hs38⟩, e38⟩ := cq_misInStepX (d + 2) t29 sh29 mi29.1.2.1.2 54 (sK54 sh29) (sL54 sh29) (fun j j0 j1 => by rw [r29 j j0 (by rw [n29] at j1; exact j1)]; exact (hp j j0 (by rw [n29] at j1; exact j1)).1) x
    rw [e38] at ct38
    have hs38 : y38 = 1 ↔ sp9 ((mI9 (mcf h) (hA h 46)) 0) (hF h 41 6) x := by
      rw [n29, sp9_cg (n := hF h 41 6) (f := hA t29 54) (g := (mI9 (mcf h) (hA h 46)) 0) (fun j j0 j1 => r29 j j0 j1)] at hs38
      exact hs38
    refine Wp.callV1 (ct38) wc_X6_176 iM_X6_isInStep se_X6_isInStep kC6 (sK41 (h := t29) sh29) dX6_meet_38 rfl (Nat.le_of_ble_eq_true rfl) rfl (Nat.le_of_ble_eq_true rfl) ?_
    refine Wp.ifeq dX6_meet_41 (by decide) (tgt := 46) (fun c41 => ?_) (fun c41 => ?_)
    · refine Wp.ald_n (j := 0) rfl dX6_meet_46 ?_
      have f0 : ¬ sp9 ((mI9 (mcf h) (hA h 46)) 0) (hF h 41 6) x := fun z => by
        have := hs38.mpr z
        omega
      obtain ⟨_, t47, ct47, ⟨y47, rfl, hy47⟩, f47⟩ := cq_roundsX d t29 sh29 mi29.1
      rw [n29, c29, g29] at hy47
      have hq47 : y47 = 0 ∨ (y47 = 1 ∧ 0 ≤ hF t47 41 40 ∧ 0 ≤ hF t47 41 41 ∧ hF t47 41 40 + hF t47 41 41 ≤ 20000) := by
        rcases hy47 with ⟨z, -⟩ | ⟨z, s, l, es, el, rp, u1⟩
        · exact Or.inl z
        · exact Or.inr ⟨z, by omega, by omega, by omega⟩
      have sh47 : Sh t47 := sh29.fr f47 (by decide +kernel) (by decide)
      have mit47 : MI t47 := mi29.fr (f47.mono (by decide) (by decide))
      have n47 : hF t47 41 6 = hF h 41 6 := (f47.2.2.2.2.1 41 6 (by decide)).trans n29
      have c47 : mcf t47 = mcf h := (mcf_fr f47 (by decide) (by decide) (by decide) (by decide) (by decide) (by decide)).trans c29
      have g47 : hA t47 46 = hA h 46 := (f47.2.2.2.2.2 46 (by decide)).trans g29
      refine Wp.callV1 (ct47) wc_X6_202 iM_X6_rounds se_X6_rounds kC6 (sK41 (h := t29) sh29) dX6_meet_47 rfl (Nat.le_of_ble_eq_true rfl) rfl (Nat.le_of_ble_eq_true rfl) ?_
      refine sti_5_2 rfl (dSt_n dX6_meet_50) ?_
      refine Wp.ild_n (j := 2) rfl dX6_meet_51 ?_
      refine Wp.ifeq dX6_meet_52 (by decide) (tgt := 67) (fun c52 => ?_) (fun c52 => ?_)
      · refine Wp.sipush dX6_meet_67 (by decide) ?_
        refine sti_5_3 rfl (dSt_n dX6_meet_70) ?_
        refine Wp.ald_n (j := 0) rfl dX6_meet_71 ?_
        refine Wp.ald_n (j := 0) rfl dX6_meet_72 ?_
        refine Wp.getf (k := 18) (tg := 2) kC6 (by decide) rfl lf_X6_57 dX6_meet_73 (sK41 (h := t47) sh47) (sF41_18 (h := t47) sh47) ?_
        obtain ⟨_, t76, ct76, rfl, f76, r76⟩ := cq_mbegin (d + 2) t47 sh47 mit47.1.2.1.2 54 (sK54 sh47) (sL54 sh47) (by decide) (by decide)
        have sh76 : Sh t76 := sh47.fr f76 (by decide +kernel) (by decide)
        have mit76 : MI t76 := mit47.fr (f76.mono (by decide) (by simp))
        have e76 : hF t76 41 6 = hF t47 41 6 := f76.2.2.2.2.1 41 6 (by decide)
        have n76 : hF t76 41 6 = hF h 41 6 := e76.trans n47
        have k76 : hF t76 41 5 = hF t47 41 5 := f76.2.2.2.2.1 41 5 (by decide)
        have c76 : mcf t76 = mcf h := (mcf_fr f76 (by decide) (by decide) (by decide) (by decide) (by decide) (by decide)).trans c47
        have fr76 : Fr mAq mGq h t76 := ((((Fr.f (by decide)).tr (Fr.f (by decide))).tr (f29.mono (by decide) (by simp))).tr (f47.mono (by decide) (by decide))).tr (f76.mono (by decide) (by simp))
        refine Wp.callV0 (ct76) wc_X6_188 iM_X6_begin se_X6_begin kC6 (sK41 (h := t47) sh47) dX6_meet_76 rfl (Nat.le_of_ble_eq_true rfl) rfl (Nat.le_of_ble_eq_true rfl) ?_
        refine Wp.iconst dX6_meet_79 (by decide) ?_
        refine sti_5_4 rfl (dSt_w dX6_meet_80) ?_
        rcases hy47 with ⟨z47, hn47⟩ | ⟨z47, s47, l47, es47, el47, rp47, u47⟩
        rotate_left
        · omega
        have hR : ∀ s' u', Rp (hF h 41 6) (mI9 (mcf h) (hA h 46)) s' u' → 20000 < u' := fun s' u' r => hn47 s' u' ((Rp.cg (fun k a a0 a1 => mIt_mI9 (c := mcf h) k a a0 a1)).mpr r)
        refine mmeetX1 (d + 1) t76 sh76 mit76.1 x _ _ (by omega) (mI9 (mcf h) (hA h 46)) (fun k => by rw [c76]; rfl) _ (fun t u frt u1 fu un => ⟨⟨_, rfl, Or.inr ⟨by omega, Or.inl ⟨u, rfl, by omega, by rw [n76] at fu; exact fu, fun i hi => by have := un i hi; rw [n76] at this; exact this, fun s' u' r => by have := hR _ _ r; omega⟩⟩⟩, mit76.fr (frt.mono (by decide) (by simp)), fr76.tr (frt.mono (by decide) (by simp))⟩) _ (fun t u frt un => ?_) _ 1 _ (Nat.lt_succ_self _) Fr.rf (by omega) (Or.inr rfl) rfl ?_ ?_ ?_
        · have sht : Sh t := sh76.fr frt (by decide +kernel) (by decide)
          have mitt : MI t := mit76.fr (frt.mono (by decide) (by simp))
          rw [n76] at un
          have hno : ∀ t : Nat, t ≤ 20000 → (∀ s u, Rp (hF h 41 6) (mI9 (mcf h) (hA h 46)) s u → t ≤ u) → ¬ sp9 ((mI9 (mcf h) (hA h 46)) t) (hF h 41 6) x := fun t t1 hl => by
            by_cases t0 : t = 0
            · rw [t0]
              exact f0
            · exact un t (by omega) (by omega)
          refine Wp.ald_n (j := 0) rfl dX6_meet_117 ?_
          refine Wp.ild_n (j := 2) rfl dX6_meet_118 ?_
          refine Wp.ifeq dX6_meet_119 (by decide) (tgt := 127) (fun _ => ?_) (fun _ => ?_)
          · refine Wp.bipush dX6_meet_127 (by decide) ?_
            refine Wp.callV1 (ct_mrefuse (d + 2) t (sK41 sht) 10) wc_X6_151 iM_X6_refuse se_X6_refuse kC6 (sK41 sht) dX6_meet_129 rfl (Nat.le_of_ble_eq_true rfl) rfl (Nat.le_of_ble_eq_true rfl) ?_
            refine Wp.iret rfl dX6_meet_132 ?_
            exact ⟨⟨_, rfl, Or.inr ⟨by omega, Or.inr ⟨rfl, hno⟩⟩⟩, mitt, (fr76.tr (frt.mono (by decide) (by simp))).tr (Fr.f (by decide))⟩
          · refine Wp.bipush dX6_meet_122 (by decide) ?_
            refine Wp.goto (tgt := 129) dX6_meet_124 (by decide) ?_
            refine Wp.callV1 (ct_mrefuse (d + 2) t (sK41 sht) 8) wc_X6_151 iM_X6_refuse se_X6_refuse kC6 (sK41 sht) dX6_meet_129 rfl (Nat.le_of_ble_eq_true rfl) rfl (Nat.le_of_ble_eq_true rfl) ?_
            refine Wp.iret rfl dX6_meet_132 ?_
            exact ⟨⟨_, rfl, Or.inr ⟨by omega, Or.inr ⟨rfl, hno⟩⟩⟩, mitt, (fr76.tr (frt.mono (by decide) (by simp))).tr (Fr.f (by decide))⟩
        · intro j j0 j1
          rw [e76] at j1
          rw [k76, r76 j j0 j1]
          exact mit47.1.2.2.2.1 j j0 j1
        · intro j j0 j1
          rw [e76] at j1
          rw [r76 j j0 j1, show ((1 : Int) - 1).toNat = 0 by decide, g47]
          rfl
        · intro i hi
          rw [show i = 0 by omega, n76]
          exact f0
      · refine Wp.ald_n (j := 0) rfl dX6_meet_55 ?_
        refine Wp.getf (k := 40) (tg := 0) kC6 (by decide) rfl lf_X6_199 dX6_meet_56 (sK41 (h := t47) sh47) (show hF _ 41 40 = hF t47 41 40 from rfl) ?_
        refine Wp.ald_n (j := 0) rfl dX6_meet_59 ?_
        refine Wp.getf (k := 41) (tg := 0) kC6 (by decide) rfl lf_X6_191 dX6_meet_60 (sK41 (h := t47) sh47) (show hF _ 41 41 = hF t47 41 41 from rfl) ?_
        refine Wp.iaddE dX6_meet_63 (by first | exact w32_of (by omega) (by omega) | rfl) ?_
        refine Wp.goto (tgt := 70) dX6_meet_64 (by decide) ?_
        refine sti_5_3 rfl (dSt_n dX6_meet_70) ?_
        refine Wp.ald_n (j := 0) rfl dX6_meet_71 ?_
        refine Wp.ald_n (j := 0) rfl dX6_meet_72 ?_
        refine Wp.getf (k := 18) (tg := 2) kC6 (by decide) rfl lf_X6_57 dX6_meet_73 (sK41 (h := t47) sh47) (sF41_18 (h := t47) sh47) ?_
        obtain ⟨_, t76, ct76, rfl, f76, r76⟩ := cq_mbegin (d + 2) t47 sh47 mit47.1.2.1.2 54 (sK54 sh47) (sL54 sh47) (by decide) (by decide)
        have sh76 : Sh t76 := sh47.fr f76 (by decide +kernel) (by decide)
        have mit76 : MI t76 := mit47.fr (f76.mono (by decide) (by simp))
        have e76 : hF t76 41 6 = hF t47 41 6 := f76.2.2.2.2.1 41 6 (by decide)
        have n76 : hF t76 41 6 = hF h 41 6 := e76.trans n47
        have k76 : hF t76 41 5 = hF t47 41 5 := f76.2.2.2.2.1 41 5 (by decide)
        have c76 : mcf t76 = mcf h := (mcf_fr f76 (by decide) (by decide) (by decide) (by decide) (by decide) (by decide)).trans c47
        have fr76 : Fr mAq mGq h t76 := ((((Fr.f (by decide)).tr (Fr.f (by decide))).tr (f29.mono (by decide) (by simp))).tr (f47.mono (by decide) (by decide))).tr (f76.mono (by decide) (by simp))
        refine Wp.callV0 (ct76) wc_X6_188 iM_X6_begin se_X6_begin kC6 (sK41 (h := t47) sh47) dX6_meet_76 rfl (Nat.le_of_ble_eq_true rfl) rfl (Nat.le_of_ble_eq_true rfl) ?_
        refine Wp.iconst dX6_meet_79 (by decide) ?_
        refine sti_5_4 rfl (dSt_w dX6_meet_80) ?_
        rcases hy47 with ⟨z47, hn47⟩ | ⟨z47, s47, l47, es47, el47, rp47, u47⟩
        · omega
        have hR : ∀ s' u', Rp (hF h 41 6) (mI9 (mcf h) (hA h 46)) s' u' → u' = s47 + l47 := fun s' u' r => (Rp.uniq ((Rp.cg (fun k a a0 a1 => mIt_mI9 (c := mcf h) k a a0 a1)).mp rp47) r).2.symm
        refine mmeetX1 (d + 1) t76 sh76 mit76.1 x _ _ (by omega) (mI9 (mcf h) (hA h 46)) (fun k => by rw [c76]; rfl) _ (fun t u frt u1 fu un => ⟨⟨_, rfl, Or.inr ⟨by omega, Or.inl ⟨u, rfl, by omega, by rw [n76] at fu; exact fu, fun i hi => by have := un i hi; rw [n76] at this; exact this, fun s' u' r => by have := hR _ _ r; omega⟩⟩⟩, mit76.fr (frt.mono (by decide) (by simp)), fr76.tr (frt.mono (by decide) (by simp))⟩) _ (fun t u frt un => ?_) _ 1 _ (Nat.lt_succ_self _) Fr.rf (by omega) (Or.inr rfl) rfl ?_ ?_ ?_
        · have sht : Sh t := sh76.fr frt (by decide +kernel) (by decide)
          have mitt : MI t := mit76.fr (frt.mono (by decide) (by simp))
          rw [n76] at un
          have hno : ∀ t : Nat, t ≤ 20000 → (∀ s u, Rp (hF h 41 6) (mI9 (mcf h) (hA h 46)) s u → t ≤ u) → ¬ sp9 ((mI9 (mcf h) (hA h 46)) t) (hF h 41 6) x := fun t t1 hl => by
            by_cases t0 : t = 0
            · rw [t0]
              exact f0
            · exact un t (by have := hl s47 (s47 + l47) ((Rp.cg (fun k a a0 a1 => mIt_mI9 (c := mcf h) k a a0 a1)).mp rp47); omega) (by omega)
          refine Wp.ald_n (j := 0) rfl dX6_meet_117 ?_
          refine Wp.ild_n (j := 2) rfl dX6_meet_118 ?_
          refine Wp.ifeq dX6_meet_119 (by decide) (tgt := 127) (fun _ => ?_) (fun _ => ?_)
          · refine Wp.bipush dX6_meet_127 (by decide) ?_
            refine Wp.callV1 (ct_mrefuse (d + 2) t (sK41 sht) 10) wc_X6_151 iM_X6_refuse se_X6_refuse kC6 (sK41 sht) dX6_meet_129 rfl (Nat.le_of_ble_eq_true rfl) rfl (Nat.le_of_ble_eq_true rfl) ?_
            refine Wp.iret rfl dX6_meet_132 ?_
            exact ⟨⟨_, rfl, Or.inr ⟨by omega, Or.inr ⟨rfl, hno⟩⟩⟩, mitt, (fr76.tr (frt.mono (by decide) (by simp))).tr (Fr.f (by decide))⟩
          · refine Wp.bipush dX6_meet_122 (by decide) ?_
            refine Wp.goto (tgt := 129) dX6_meet_124 (by decide) ?_
            refine Wp.callV1 (ct_mrefuse (d + 2) t (sK41 sht) 8) wc_X6_151 iM_X6_refuse se_X6_refuse kC6 (sK41 sht) dX6_meet_129 rfl (Nat.le_of_ble_eq_true rfl) rfl (Nat.le_of_ble_eq_true rfl) ?_
            refine Wp.iret rfl dX6_meet_132 ?_
            exact ⟨⟨_, rfl, Or.inr ⟨by omega, Or.inr ⟨rfl, hno⟩⟩⟩, mitt, (fr76.tr (frt.mono (by decide) (by simp))).tr (Fr.f (by decide))⟩
        · intro j j0 j1
          rw [e76] at j1
          rw [k76, r76 j j0 j1]
          exact mit47.1.2.2.2.1 j j0 j1
        · intro j j0 j1
          rw [e76] at j1
          rw [r76 j j0 j1, show ((1 : Int) - 1).toNat = 0 by decide, g47]
          rfl
        · intro i hi
          rw [show i = 0 by omega, n76]
          exact f0
    · refine Wp.iconst dX6_meet_44 (by decide) ?_
      refine Wp.iret rfl dX6_meet_45 ?_
      exact ⟨⟨_, rfl, Or.inr ⟨by omega, Or.inl ⟨0, rfl, by decide, hs38.mp (by omega), fun i hi => absurd hi (by omega), fun s u r => Nat.zero_le _⟩⟩⟩, mi29, ((Fr.f (by decide)).tr (Fr.f (by decide))).tr (f29.mono (by decide) (by simp))⟩
  · refine Wp.ald_n (j := 0) rfl dX6_meet_18 ?_
    refine Wp.iconst dX6_meet_19 (by decide) ?_
    refine Wp.callV1 (ct_mrefuse (d + 2) (sF (sF h 41 1 0) 41 0 0) (sK41 (h := h) sh) 2) wc_X6_151 iM_X6_refuse se_X6_refuse kC6 (sK41 (h := h) sh) dX6_meet_20 rfl (Nat.le_of_ble_eq_true rfl) rfl (Nat.le_of_ble_eq_true rfl) ?_
    refine Wp.iret rfl dX6_meet_23 ?_
    exact ⟨⟨_, rfl, Or.inl ⟨by omega, rfl⟩⟩, mi, ((Fr.f (by decide)).tr ((Fr.f (by decide)).tr (Fr.f (by decide))))⟩

