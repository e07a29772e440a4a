/-! ===== the mirror: phases to the other side of beater 0 ===== -/
def rfl9 (r : Int) (f : Int → Int) : Int → Int := fun j => if 2 * f 0 - f j < 0 then 2 * f 0 - f j + r else if r ≤ 2 * f 0 - f j then 2 * f 0 - f j - r else 2 * f 0 - f j
theorem rfl9_bd {r : Int} {f : Int → Int} {j : Int} (h0 : 0 ≤ f 0 ∧ f 0 < r) (hj : 0 ≤ f j ∧ f j < r) : 0 ≤ rfl9 r f j ∧ rfl9 r f j < r := by
  unfold rfl9
  split
  · omega
  · split <;> omega
theorem rfl9_0 {r : Int} {f : Int → Int} (h0 : 0 ≤ f 0 ∧ f 0 < r) : rfl9 r f 0 = f 0 := by
  unfold rfl9
  rw [if_neg (by omega), if_neg (by omega)]
  omega
theorem ahd_rfl {r : Int} {f : Int → Int} {j : Int} (h0 : 0 ≤ f 0 ∧ f 0 < r) (hj : 0 ≤ f j ∧ f j < r) : -ahd r (f j - f 0) ≤ ahd r (rfl9 r f j - f 0) := by
  unfold rfl9 ahd
  by_cases a1 : 2 * f 0 - f j < 0
  · rw [if_pos a1]
    split <;> split <;> (try split) <;> (try split) <;> omega
  · rw [if_neg a1]
    by_cases a2 : r ≤ 2 * f 0 - f j
    · rw [if_pos a2]
      split <;> split <;> (try split) <;> (try split) <;> omega
    · rw [if_neg a2]
      split <;> split <;> (try split) <;> (try split) <;> omega
theorem plS_rfl {r s : Int} {f : Int → Int} (h0 : 0 ≤ f 0 ∧ f 0 < r) : ∀ n : Nat, (∀ k : Int, 0 ≤ k → k < n → 0 ≤ f k ∧ f k < r) → -(plS f r (f 0) s n).1 ≤ (plS (rfl9 r f) r (f 0) s n).1
  | 0, _ => by simp [plS]
  | n + 1, hf => by
    have h := plS_rfl (s := s) h0 n (fun k k0 k1 => hf k k0 (by omega))
    have ha := ahd_rfl (j := n) h0 (hf n (by omega) (by omega))
    unfold plS
    by_cases z : kand (kshr s n) 1 = 0
    · rw [if_pos z, if_pos z]
      exact h
    · rw [if_neg z, if_neg z]
      show -((plS f r (f 0) s n).1 + ahd r (f n - f 0)) ≤ (plS (rfl9 r f) r (f 0) s n).1 + ahd r (rfl9 r f n - f 0)
      omega
theorem can9_ex {c : mCf} {f : Int → Int} : ∀ n : Nat, can9 c f n ≠ 0 → ∃ q : Int, 0 ≤ q ∧ q < n ∧ c.2.1 q = 2 ∧ c.1.2.1 ≤ f q + 1
  | 0, h => absurd rfl h
  | n + 1, h => by
    unfold can9 at h
    by_cases z : c.2.1 n = 2 ∧ c.1.2.1 ≤ f n + 1
    · exact ⟨n, by omega, by omega, z.1, z.2⟩
    · rw [if_neg z] at h
      obtain ⟨q, a, b, d⟩ := can9_ex n h
      exact ⟨q, a, by omega, d⟩
/-- a state that stays: beater 0 is pulled back -/
theorem fix_neg {c : mCf} {f : Int → Int} (n0 : 1 ≤ c.1.1) (n1 : c.1.1 ≤ 24) (r0 : 2 ≤ c.1.2.1) (hf : ∀ j, 0 ≤ j → j < c.1.1 → 0 ≤ f j ∧ f j < c.1.2.1) (hx : ∀ j, 0 ≤ j → j < c.1.1 → cT9 c f j = f j) : (plS f c.1.2.1 (f 0) (kand (c.2.2.1 0) (kxor (kshl 1 0) (-1))) c.1.1.toNat).1 < 0 := by
  have hcf : ∀ j, 0 ≤ j → j < c.1.1 → cutF c.1.1 f j = f j := fun j j0 j1 => cutF_in j0 j1
  by_cases z : can9 c (cutF c.1.1 f) c.1.1.toNat = 0
  · have h1 := hx 0 (by omega) (by omega)
    unfold cT9 at h1
    rw [if_pos z, cutF_in (by omega) (by omega)] at h1
    have hf0 := hf 0 (by omega) (by omega)
    unfold cg9 at h1
    rw [hcf 0 (by omega) (by omega)] at h1
    by_cases k2 : c.2.1 0 = 2
    · rw [if_pos k2] at h1
      omega
    · rw [if_neg k2] at h1
      by_cases k1 : c.2.1 0 = 1
      · rw [if_pos k1] at h1
        have hpe : pulC c (cutF c.1.1 f) 0 = plV (plS f c.1.2.1 (f 0) (kand (c.2.2.1 0) (kxor (kshl 1 0) (-1))) c.1.1.toNat) := by
          unfold pulC
          rw [hcf 0 (by omega) (by omega), plS_eq (f := cutF c.1.1 f) (g := f) _ (fun k k0 k1 => hcf k k0 (by omega))]
        rw [hpe] at h1
        have hpb := plS_bd (f := f) (r := c.1.2.1) (m := f 0) (s := kand (c.2.2.1 0) (kxor (kshl 1 0) (-1))) hf0 c.1.1.toNat (fun i i0 i1 => hf i i0 (by omega))
        have hpv := plV_bd (r := c.1.2.1) (by omega) hpb.1 hpb.2.1 hpb.2.2.1
        generalize plS f c.1.2.1 (f 0) (kand (c.2.2.1 0) (kxor (kshl 1 0) (-1))) c.1.1.toNat = p at h1 hpv hpb ⊢
        have hp1 : plV p = -1 := by
          unfold wrpC at h1
          split at h1
          · omega
          · split at h1 <;> omega
        unfold plV at hp1
        split at hp1
        · by_cases y : 0 ≤ p.1
          · have := tdn (a := p.1) (b := p.2) y (by omega)
            omega
          · omega
        · omega
      · rw [if_neg k1] at h1
        unfold wrpC at h1
        split at h1
        · omega
        · split at h1 <;> omega
  · obtain ⟨q, q0, q1, q2, q3⟩ := can9_ex c.1.1.toNat z
    have hg : ∀ b, 0 ≤ b → b < c.1.1 → c.2.1 b = 2 → cg9 c (cutF c.1.1 f) b = f b + 1 := fun b b0 b1 b2 => by
      unfold cg9
      rw [if_pos b2, hcf b b0 b1]
    rw [hcf q q0 (by omega)] at q3
    obtain ⟨b, b0, b1, b2, b3, b4⟩ := cfi_zero (c := c) (g := cg9 c (cutF c.1.1 f)) n1 q0 (by omega) q2 (by rw [hg q q0 (by omega) q2]; exact q3)
    have h1 := hx b b0 b1
    unfold cT9 at h1
    rw [if_neg z, cutF_in b0 b1, b4] at h1
    rw [hg b b0 b1 b2] at b3
    omega
theorem fixdig {c : mCf} {x : Int} (n0 : 0 ≤ c.1.1) (r0 : 2 ≤ c.1.2.1) (hr : ∀ j, 0 ≤ j → j < c.1.1 → 0 ≤ cT9 c (dig9 c.1.2.1 x) j ∧ cT9 c (dig9 c.1.2.1 x) j < c.1.2.1) (hx : G9 c x = x) : ∀ j, 0 ≤ j → j < c.1.1 → cT9 c (dig9 c.1.2.1 x) j = dig9 c.1.2.1 x j := fun j j0 j1 => by
  have h := ec9_all r0 n0 hr j j0 j1
  have h2 : ec9 (cT9 c (dig9 c.1.2.1 x)) c.1.2.1 c.1.1 c.1.1.toNat = x := hx
  rw [h2] at h
  exact h.symm
theorem half_fix {c : mCf} (n0 : 1 ≤ c.1.1) (n1 : c.1.1 ≤ 24) (r0 : 2 ≤ c.1.2.1) (hr : ∀ x, 0 ≤ x → x < c.1.2.1 ^ c.1.1.toNat → ∀ j, 0 ≤ j → j < c.1.1 → 0 ≤ cT9 c (dig9 c.1.2.1 x) j ∧ cT9 c (dig9 c.1.2.1 x) j < c.1.2.1) : 2 * cn9 (fun x => G9 c x = x) (c.1.2.1 ^ c.1.1.toNat).toNat ≤ (c.1.2.1 ^ c.1.1.toNat).toNat := by
  have hS : 0 ≤ c.1.2.1 ^ c.1.1.toNat := Int.le_of_lt (Int.pow_pos (by omega))
  have hd : ∀ x j : Int, 0 ≤ dig9 c.1.2.1 x j ∧ dig9 c.1.2.1 x j < c.1.2.1 := fun x j => dig9_bd r0
  have hb : ∀ x j : Int, 0 ≤ rfl9 c.1.2.1 (dig9 c.1.2.1 x) j ∧ rfl9 c.1.2.1 (dig9 c.1.2.1 x) j < c.1.2.1 := fun x j => rfl9_bd (hd x 0) (hd x j)
  have hφ : ∀ x : Int, 0 ≤ ec9 (rfl9 c.1.2.1 (dig9 c.1.2.1 x)) c.1.2.1 c.1.1 c.1.1.toNat ∧ ec9 (rfl9 c.1.2.1 (dig9 c.1.2.1 x)) c.1.2.1 c.1.1 c.1.1.toNat < c.1.2.1 ^ c.1.1.toNat := fun x => ec9_lt r0 c.1.1.toNat (by omega) (fun j _ _ => hb x j)
  have hdφ : ∀ x j : Int, 0 ≤ j → j < c.1.1 → dig9 c.1.2.1 (ec9 (rfl9 c.1.2.1 (dig9 c.1.2.1 x)) c.1.2.1 c.1.1 c.1.1.toNat) j = rfl9 c.1.2.1 (dig9 c.1.2.1 x) j := fun x j j0 j1 => ec9_all r0 (by omega) (fun j _ _ => hb x j) j j0 j1
  have key : cn9 (fun x => G9 c x = x) (c.1.2.1 ^ c.1.1.toNat).toNat ≤ cn9 (fun x => ¬ G9 c x = x) (c.1.2.1 ^ c.1.1.toNat).toNat := by
    refine cn9_inj (fun x => ec9 (rfl9 c.1.2.1 (dig9 c.1.2.1 x)) c.1.2.1 c.1.1 c.1.1.toNat) (fun x x0 x1 hx => ?_) (fun x y x0 x1 hx y0 y1 hy e => ?_)
    · refine ⟨(hφ x).1, by have := (hφ x).2; omega, fun hz => ?_⟩
      have a1 := fix_neg n0 n1 r0 (fun j _ _ => hd x j) (fixdig (by omega) r0 (hr x x0 (by omega)) hx)
      have hz' : G9 c (ec9 (rfl9 c.1.2.1 (dig9 c.1.2.1 x)) c.1.2.1 c.1.1 c.1.1.toNat) = ec9 (rfl9 c.1.2.1 (dig9 c.1.2.1 x)) c.1.2.1 c.1.1 c.1.1.toNat := hz
      have a2 := fix_neg n0 n1 r0 (fun j _ _ => hd _ j) (fixdig (by omega) r0 (hr _ (hφ x).1 (hφ x).2) hz')
      rw [hdφ x 0 (by omega) (by omega), rfl9_0 (hd x 0), plS_eq (g := rfl9 c.1.2.1 (dig9 c.1.2.1 x)) _ (fun k k0 k1 => hdφ x k k0 (by omega))] at a2
      have a3 := plS_rfl (s := kand (c.2.2.1 0) (kxor (kshl 1 0) (-1))) (r := c.1.2.1) (f := dig9 c.1.2.1 x) (hd x 0) c.1.1.toNat (fun k _ _ => hd x k)
      omega
    · have e' : ec9 (rfl9 c.1.2.1 (dig9 c.1.2.1 x)) c.1.2.1 c.1.1 c.1.1.toNat = ec9 (rfl9 c.1.2.1 (dig9 c.1.2.1 y)) c.1.2.1 c.1.1 c.1.1.toNat := e
      have he : ∀ j : Int, 0 ≤ j → j < c.1.1 → rfl9 c.1.2.1 (dig9 c.1.2.1 x) j = rfl9 c.1.2.1 (dig9 c.1.2.1 y) j := fun j j0 j1 => by
        rw [← hdφ x j j0 j1, ← hdφ y j j0 j1, e']
      have h0 := he 0 (by omega) (by omega)
      rw [rfl9_0 (hd x 0), rfl9_0 (hd y 0)] at h0
      refine dig9_inj r0 (show 0 ≤ c.1.1 by omega) x0 (by omega) y0 (by omega) (fun j j0 j1 => ?_)
      have hj := he j j0 j1
      unfold rfl9 at hj
      rw [h0] at hj
      have b1 := hd x j
      have b2 := hd y j
      have b3 := hd y 0
      split at hj <;> split at hj <;> (try split at hj) <;> (try split at hj) <;> omega
  have h := cn9_not (fun x => G9 c x = x) (c.1.2.1 ^ c.1.1.toNat).toNat
  omega
/-- three of four, at most, are their own home -/
theorem home_le {c : mCf} {S : Int} {f g : Int → Int} (hS : S = c.1.2.1 ^ c.1.1.toNat) (S1 : S ≤ 20736) (n0 : 1 ≤ c.1.1) (n1 : c.1.1 ≤ 24) (r0 : 2 ≤ c.1.2.1) (hr : ∀ x, 0 ≤ x → x < S → ∀ j, 0 ≤ j → j < c.1.1 → 0 ≤ cT9 c (dig9 c.1.2.1 x) j ∧ cT9 c (dig9 c.1.2.1 x) j < c.1.2.1) (hf : ∀ x, 0 ≤ x → x < S → f x = G9 c x) (rg : RG S f) (cl : CL S f g) : cR g S.toNat ≤ 15552 := by
  have hS0 : 0 ≤ S := by rw [hS]; exact Int.le_of_lt (Int.pow_pos (by omega))
  have h1 := cR_half hS0 rg cl
  have h2 : cn9 (fun x => f x = x) S.toNat ≤ cn9 (fun x => G9 c x = x) S.toNat := cn9_inj (fun x => x) (fun x x0 x1 hx => ⟨x0, x1, by rw [← hf x x0 (by omega)]; exact hx⟩) (fun x y _ _ _ _ _ _ e => e)
  have h3 := half_fix n0 n1 r0 (by rw [← hS]; exact hr)
  rw [← hS] at h3
  omega
/-- the range of a tick, out of the machine -/
theorem cT9_rg {h : mH} (sh : Sh h) (bi : BI h) {s : Int} (s0 : 0 ≤ s) (s1 : s ≤ 20736) : ∀ j, 0 ≤ j → j < (ccf h).1.1 → 0 ≤ cT9 (ccf h) (dig9 (ccf h).1.2.1 s) j ∧ cT9 (ccf h) (dig9 (ccf h).1.2.1 s) j < (ccf h).1.2.1 := by
  obtain ⟨_, t2, ct2, rfl, fr2, hr2⟩ := cq_setWalkerX 3 h sh bi s s0 s1
  have sh2 := sh.fr fr2 (by decide +kernel) (by decide)
  have bi2 := bi.fr fr2 (by decide) (by decide) (by decide) (by decide) (by decide)
  have e0 : hF t2 2 0 = hF h 2 0 := fr2.2.2.2.2.1 2 0 (by decide)
  have e1 : hF t2 2 1 = hF h 2 1 := fr2.2.2.2.2.1 2 1 (by decide)
  have ec2 : ccf t2 = ccf h := ccf_fr fr2 (by decide) (by decide) (by decide) (by decide) (by decide) (by decide)
  obtain ⟨_, t6, ct6, rfl, fr6, hr6⟩ := cq_walkX 0 t2 sh2 bi2 (by rw [e0, e1]; exact fun j j0 j1 => (hr2 j j0 j1).2)
  rw [e1, e0, ec2, cT9_eq (c := ccf h) (fun j j0 (j1 : j < hF h 2 1) => (hr2 j j0 j1).1)] at hr6
  intro j j0 j1
  have := hr6 j j0 j1
  rw [this.1] at this
  exact this.2
