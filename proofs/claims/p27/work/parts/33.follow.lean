theorem ff_fin {S M l e s : Int} {f G g : Int → Int} (rg : RG S f) (hM : M < 0) (cl : CL S f G) (R : ∀ x, 0 ≤ x → x < S → g x = G x ∨ (G x = M ∧ g x = l)) (b : G s = M ∨ s = e) (c : ∀ x, 0 ≤ x → x < S → G x = M → g x = l → g (f x) = l ∨ f x = s) (he : G e ≠ M → G e = l) (hs : g s ≠ M) (s0 : 0 ≤ s) (s1 : s < S) : CL S f g := by
  have gs : g s = l := by
    rcases R s s0 s1 with r | r
    · rcases b with b | b
      · exact absurd (r.trans b) hs
      · subst b
        exact r.trans (he (fun z => hs (r.trans z)))
    · exact r.2
  intro x x0 x1 hx
  rcases R x x0 x1 with r | r
  · have h1 := cl x x0 x1 (by omega)
    have hf := rg x x0 x1
    rcases R (f x) hf.1 hf.2 with q | q
    · omega
    · omega
  · rcases c x x0 x1 r.1 r.2 with q | q
    · omega
    · rw [q, gs, r.2]
theorem ff_st2 {S M l e s : Int} {f G g : Int → Int} (rg : RG S f) (P1 : ∀ x, 0 ≤ x → x < S → G x = M → G (f x) = M ∨ f x = e) (R : ∀ x, 0 ≤ x → x < S → g x = G x ∨ (G x = M ∧ g x = l)) (c : ∀ x, 0 ≤ x → x < S → G x = M → g x = l → g (f x) = l ∨ f x = s) (hs : g s = M) (s0 : 0 ≤ s) (s1 : s < S) : (∀ x, 0 ≤ x → x < S → u1 g s l x = G x ∨ (G x = M ∧ u1 g s l x = l)) ∧ (G (f s) = M ∨ f s = e) ∧ (∀ x, 0 ≤ x → x < S → G x = M → u1 g s l x = l → u1 g s l (f x) = l ∨ f x = f s) := by
  have hG : G s = M := by
    rcases R s s0 s1 with r | r
    · omega
    · exact r.1
  refine ⟨fun x x0 x1 => ?_, P1 s s0 s1 hG, fun x x0 x1 hx hl => ?_⟩
  · by_cases e : x = s
    · subst e
      exact Or.inr ⟨hG, u1_s _ _ _⟩
    · rw [u1_n _ _ e]
      exact R x x0 x1
  · by_cases e : x = s
    · subst e
      exact Or.inr rfl
    · rw [u1_n _ _ e] at hl
      refine Or.inl ?_
      by_cases e2 : f x = s
      · rw [e2]
        exact u1_s _ _ _
      · rw [u1_n _ _ e2]
        exact (c x x0 x1 hx hl).resolve_right e2
theorem ff_st1 {S M u s : Int} {f g0 g : Int → Int} (hM : M < -1) (i2 : ∀ x, 0 ≤ x → x < S → g x = g0 x ∨ (g0 x = -1 ∧ g x = M)) (i3 : ∀ x, 0 ≤ x → x < S → g x = M → g (f x) = M ∨ f x = s) (i4 : g u = M ∨ u = s) (hs : g s = -1) (s0 : 0 ≤ s) (s1 : s < S) : (∀ x, 0 ≤ x → x < S → u1 g s M x = g0 x ∨ (g0 x = -1 ∧ u1 g s M x = M)) ∧ (∀ x, 0 ≤ x → x < S → u1 g s M x = M → u1 g s M (f x) = M ∨ f x = f s) ∧ (u1 g s M u = M ∨ u = f s) := by
  refine ⟨fun x x0 x1 => ?_, fun x x0 x1 hx => ?_, ?_⟩
  · by_cases e : x = s
    · subst e
      refine Or.inr ⟨?_, u1_s _ _ _⟩
      rcases i2 x x0 x1 with r | r
      · omega
      · exact r.1
    · rw [u1_n _ _ e]
      exact i2 x x0 x1
  · by_cases e : x = s
    · subst e
      exact Or.inr rfl
    · rw [u1_n _ _ e] at hx
      refine Or.inl ?_
      by_cases e2 : f x = s
      · rw [e2]
        exact u1_s _ _ _
      · rw [u1_n _ _ e2]
        exact (i3 x x0 x1 hx).resolve_right e2
  · refine Or.inl ?_
    by_cases e : u = s
    · subst e
      exact u1_s _ _ _
    · rw [u1_n _ _ e]
      exact i4.resolve_right e
