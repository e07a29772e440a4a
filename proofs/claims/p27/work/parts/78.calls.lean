theorem kx_kind (h : mH) (K : Int) (ck : CK h (K + 1)) (b k : Int) : Cq m_X5_kind 9 [(2, 0), (0, b), (0, k)] h (QC 0 1 ((0 ≤ b ∧ b < hF h 2 1) ∧ (0 ≤ k ∧ k < 4)) (fun h t => hA t 3 = u1 (hA h 3) b k ∧ Cx [3] [] h t) K h) := by
  obtain ⟨_, t, ct, ⟨y, rfl, hy⟩, bi, fr⟩ := cq_kind 8 h ck.1 ck.2.1 b k
  refine ⟨_, t, ct, ⟨y, rfl, ?_⟩, ck.bench0 (fr.mono (fun _ z => z) (by decide)) bi⟩
  rcases hy with ⟨e, a, f⟩ | ⟨e, a, e0, f⟩
  · exact Or.inl ⟨e, a, Cn.fr f (by decide) (by decide)⟩
  · exact Or.inr ⟨e, a, e0, Cx.fr f (by decide) (by decide)⟩
theorem kx_roads (h : mH) (K : Int) (ck : CK h (K + 1)) (x : Int) : Cq m_X5_roads 9 [(2, 0), (0, x)] h (QC 0 1 (0 ≤ x ∧ x ≤ 3) (fun h t => hA t 6 = gF (rdF x (hF h 2 1)) (hA h 6) (hF h 2 1) ∧ Cx [6] [] h t) K h) := by
  obtain ⟨_, t, ct, ⟨y, rfl, hy⟩, bi, fr⟩ := cq_roads 7 h ck.1 ck.2.1 x
  refine ⟨_, t, ct, ⟨y, rfl, ?_⟩, ck.bench0 (fr.mono (fun _ z => z) (by decide)) bi⟩
  rcases hy with ⟨e, a, f⟩ | ⟨e, a, e0, f⟩
  · exact Or.inl ⟨e, a, Cn.fr f (by decide) (by decide)⟩
  · exact Or.inr ⟨e, a, e0, Cx.fr f (by decide) (by decide)⟩
theorem kx_turn (h : mH) (K : Int) (ck : CK h (K + 1)) (b p : Int) : Cq m_X5_turn 9 [(2, 0), (0, b), (0, p)] h (QC 0 1 ((0 ≤ b ∧ b < hF h 2 1) ∧ (0 ≤ p ∧ p < hF h 2 0)) (fun h t => hA t 4 = u1 (hA h 4) b p ∧ Cx [4] [] h t) K h) := by
  obtain ⟨_, t, ct, ⟨y, rfl, hy⟩, bi, fr⟩ := cq_turn 8 h ck.1 ck.2.1 b p
  refine ⟨_, t, ct, ⟨y, rfl, ?_⟩, ck.bench0 (fr.mono (fun _ z => z) (by decide)) bi⟩
  rcases hy with ⟨e, a, f⟩ | ⟨e, a, e0, f⟩
  · exact Or.inl ⟨e, a, Cn.fr f (by decide) (by decide)⟩
  · exact Or.inr ⟨e, a, e0, Cx.fr f (by decide) (by decide)⟩
theorem kx_road (h : mH) (K : Int) (ck : CK h (K + 1)) (b c on : Int) : Cq m_X5_road 9 [(2, 0), (0, b), (0, c), (0, on)] h (QC 0 1 ((0 ≤ b ∧ b < hF h 2 1) ∧ (0 ≤ c ∧ c < hF h 2 1)) (fun h t => hA t 6 = u1 (hA h 6) b (if on = 0 then kand (hA h 6 b) (kxor (kshl 1 c) (-1)) else kor (hA h 6 b) (kshl 1 c)) ∧ Cx [6] [] h t) K h) := by
  obtain ⟨_, t, ct, ⟨y, rfl, hy⟩, bi, fr⟩ := cq_road 8 h ck.1 ck.2.1 b c on
  refine ⟨_, t, ct, ⟨y, rfl, ?_⟩, ck.bench0 (fr.mono (fun _ z => z) (by decide)) bi⟩
  rcases hy with ⟨e, a, f⟩ | ⟨e, a, e0, f⟩
  · exact Or.inl ⟨e, a, Cn.fr f (by decide) (by decide)⟩
  · exact Or.inr ⟨e, a, e0, Cx.fr f (by decide) (by decide)⟩
theorem kx_go (h : mH) (K : Int) (ck : CK h (K + 1)) (n : Int) : Cq m_X5_go 9 [(2, 0), (0, n)] h (QC 0 1 (0 ≤ n ∧ n ≤ 20000) (fun h t => hF t 2 2 = w32 (hF h 2 2 + n) ∧ (∀ j, 0 ≤ j → j < hF h 2 1 → hA t 4 j = cI9 (ccf h) (hA h 4) n.toNat j) ∧ (∀ j, 0 ≤ j → j < hF h 2 1 → hA t 5 j = cB9 (ccf h) (hA h 4) (hA h 5) n.toNat j) ∧ Cx [4, 5] [2] h t) K h) := by
  obtain ⟨_, t, ct, ⟨y, rfl, hy⟩, bi, fr⟩ := cq_go 6 h ck.1 ck.2.1 n
  refine ⟨_, t, ct, ⟨y, rfl, ?_⟩, ck.bench0 (fr.mono (fun _ z => z) (by decide)) bi⟩
  rcases hy with ⟨e, a, f⟩ | ⟨e, a, e0, e1, e2, f⟩
  · exact Or.inl ⟨e, a, Cn.fr f (by decide) (by decide)⟩
  · exact Or.inr ⟨e, a, e0, e1, e2, Cx.fr f (by decide) (by decide)⟩
theorem CK.stat {h t : mH} {K : Int} (ck : CK h (K + 1)) (fr : Fr [] [(0, 0)] h t) : CK t K ∧ Kp h t ∧ Cn h t ∧ Kl h t ∧ Kr h t := by
  have z := ck.bench0 (fr.mono (by decide) (by decide)) (ck.2.1.fr fr (by decide) (by decide) (by decide) (by decide) (by decide))
  exact ⟨z.1, z.2.1, Cn.fr fr (by decide) (by decide), z.2.2⟩
theorem kx_step (h : mH) (K : Int) (ck : CK h (K + 1)) (s : Int) : Cq m_X5_step 9 [(2, 0), (0, s)] h (fun r t => (∃ y, r = some (0, y) ∧ ((¬ kand s (kxor (w32 (kshl 1 (hF h 2 1) - 1)) (-1)) = 0 ∧ y = -1) ∨ (kand s (kxor (w32 (kshl 1 (hF h 2 1) - 1)) (-1)) = 0 ∧ (y = 0 ∨ y = 1) ∧ (y = 1 ↔ sp9 (hA h 4) (hF h 2 1) s)))) ∧ CK t K ∧ Kp h t ∧ Cn h t ∧ Kl h t ∧ Kr h t) := by
  obtain ⟨_, t, ct, ⟨y, rfl, hy⟩, bi, fr⟩ := cq_stepX 7 h ck.1 ck.2.1 s
  exact ⟨_, t, ct, ⟨y, rfl, hy⟩, ck.stat fr⟩
theorem kx_arc (h : mH) (K : Int) (ck : CK h (K + 1)) (s : Int) : Cq m_X5_arc 9 [(2, 0), (0, s)] h (fun r t => (∃ y, r = some (0, y) ∧ (((¬ kand s (kxor (w32 (kshl 1 (hF h 2 1) - 1)) (-1)) = 0 ∨ s = 0) ∧ y = -1) ∨ ((kand s (kxor (w32 (kshl 1 (hF h 2 1) - 1)) (-1)) = 0 ∧ s ≠ 0) ∧ y = la9 (hA h 4) (hF h 2 0) s (hF h 2 1).toNat (hF h 2 1).toNat))) ∧ CK t K ∧ Kp h t ∧ Cn h t ∧ Kl h t ∧ Kr h t) := by
  obtain ⟨_, t, ct, ⟨y, rfl, hy⟩, bi, fr⟩ := cq_arcX 6 h ck.1 ck.2.1 s
  exact ⟨_, t, ct, ⟨y, rfl, hy⟩, ck.stat fr⟩
theorem kx_count (h : mH) (K : Int) (ck : CK h (K + 1)) (x : Int) : Cq m_X5_count 9 [(2, 0), (0, x)] h (fun r t => (∃ y, r = some (0, y) ∧ ((x = 0 → y = hF h 2 2) ∧ (x = 1 → y = hF h 2 0) ∧ (x = 2 → y = hF h 2 1) ∧ (x = 3 → y = rs9 (hA h 6) (hF h 2 1).toNat) ∧ ((x < 0 ∨ 3 < x) → y = -1))) ∧ CK t K ∧ Kp h t ∧ Cn h t ∧ Kl h t ∧ Kr h t) := by
  obtain ⟨_, t, ct, ⟨y, rfl, hy⟩, bi, fr⟩ := cq_countX 7 h ck.1 ck.2.1 x
  exact ⟨_, t, ct, ⟨y, rfl, hy⟩, ck.stat fr⟩
theorem kx_beats (h : mH) (K : Int) (ck : CK h (K + 1)) (b x : Int) : Cq m_X5_beats 9 [(2, 0), (0, b), (0, x)] h (fun r t => (∃ y, r = some (0, y) ∧ ((¬ (0 ≤ b ∧ b < hF h 2 1) ∧ y = -1) ∨ ((0 ≤ b ∧ b < hF h 2 1) ∧ (x = 0 → y = hA h 4 b) ∧ (x = 1 → y = hA h 5 b) ∧ (x = 2 → y = hA h 3 b) ∧ (x = 3 → y = kbc (hA h 6 b)) ∧ ((x < 0 ∨ 3 < x) → y = -1)))) ∧ CK t K ∧ Kp h t ∧ Cn h t ∧ Kl h t ∧ Kr h t) := by
  obtain ⟨_, t, ct, ⟨y, rfl, hy⟩, bi, fr⟩ := cq_beatsX 7 h ck.1 ck.2.1 b x
  exact ⟨_, t, ct, ⟨y, rfl, hy⟩, ck.stat fr⟩
theorem kx_ring (h : mH) (K : Int) (ck : CK h (K + 1)) (p : Int) : Cq m_X5_ring 9 [(2, 0), (0, p)] h (QC 0 1 (2 ≤ p ∧ p ≤ 4096) (fun h t => hF t 2 0 = p ∧ hF t 2 1 = 0 ∧ Cx [] [0, 1] h t) K h) := by
  obtain ⟨_, t, ct, ⟨y, rfl, hy⟩, bi, fr⟩ := cq_ring 8 h ck.1 ck.2.1 p
  refine ⟨_, t, ct, ⟨y, rfl, ?_⟩, ck.bench0 fr bi⟩
  rcases hy with ⟨e, a, f⟩ | ⟨e, a, e0, e1, f⟩
  · exact Or.inl ⟨e, a, Cn.fr f (by decide) (by decide)⟩
  · exact Or.inr ⟨e, a, e0, e1, Cx.fr f (by decide) (by decide)⟩
theorem kx_beater (h : mH) (K : Int) (ck : CK h (K + 1)) (k p : Int) : Cq m_X5_beater 9 [(2, 0), (0, k), (0, p)] h (QC (-1) (hF h 2 1) ((0 ≤ k ∧ k < 4) ∧ (0 ≤ p ∧ p < hF h 2 0) ∧ hF h 2 1 < 24) (fun h t => hF t 2 1 = hF h 2 1 + 1 ∧ (hA t 3 = u1 (hA h 3) (hF h 2 1) k ∧ hA t 4 = u1 (hA h 4) (hF h 2 1) p ∧ hA t 6 = u1 (hA h 6) (hF h 2 1) 0 ∧ hA t 5 = u1 (hA h 5) (hF h 2 1) 0) ∧ Cx [3, 4, 5, 6] [1] h t) K h) := by
  obtain ⟨_, t, ct, ⟨y, rfl, hy⟩, bi, fr⟩ := cq_beater 8 h ck.1 ck.2.1 k p
  refine ⟨_, t, ct, ⟨y, rfl, ?_⟩, ck.bench0 fr bi⟩
  rcases hy with ⟨e, a, f⟩ | ⟨e, a, e0, e1, e2, f⟩
  · exact Or.inl ⟨e, a, Cn.fr f (by decide) (by decide)⟩
  · exact Or.inr ⟨e, a, e1, e2, Cx.fr f (by decide) (by decide)⟩
theorem kx_table (h : mH) (K : Int) (ck : CK h (K + 1)) (n : Int) : Cq m_X5_table 9 [(2, 0), (0, n)] h (QY Cn (0 ≤ n ∧ n ≤ 10) K h) := by
  obtain ⟨_, t, ct, ⟨y, rfl, hy⟩, sp, fr⟩ := cq_table 7 h ck.1 ck.2.2.1 n
  refine ⟨_, t, ct, ⟨y, rfl, hy⟩, ck.spans (fr.mono (by decide) (by decide)) sp ?_⟩
  rw [fr.2.2.2.2.1 0 9 (by decide)]
  exact ck.2.2.2.2.1
theorem kx_span (h : mH) (K : Int) (ck : CK h (K + 1)) (i j v : Int) : Cq m_X5_span 9 [(2, 0), (0, i), (0, j), (0, v)] h (QX 0 K h) := by
  obtain ⟨_, t, ct, ⟨y, rfl, -⟩, sp, fr⟩ := cq_span 7 h ck.1 ck.2.2.1 i j v
  refine ⟨_, t, ct, ⟨y, rfl⟩, ck.spans (fr.mono (by decide) (by decide)) sp ?_⟩
  rw [fr.2.2.2.2.1 0 9 (by decide)]
  exact ck.2.2.2.2.1
theorem kx_cut (h : mH) (K : Int) (ck : CK h (K + 1)) (i j : Int) : Cq m_X5_cut 9 [(2, 0), (0, i), (0, j)] h (QX 0 K h) := by
  obtain ⟨_, t, ct, ⟨y, rfl, -⟩, sp, fr⟩ := cq_cut 7 h ck.1 ck.2.2.1 i j
  refine ⟨_, t, ct, ⟨y, rfl⟩, ck.spans (fr.mono (by decide) (by decide)) sp ?_⟩
  rw [fr.2.2.2.2.1 0 9 (by decide)]
  exact ck.2.2.2.2.1
theorem kx_sums (h : mH) (K : Int) (ck : CK h (K + 1)) (n i j : Int) : Cq m_X5_sums 9 [(2, 0), (1, n), (0, i), (0, j)] h (QX 1 K h) := by
  obtain ⟨_, t, ct, ⟨y, rfl⟩, sp, fr⟩ := cq_sums 4 h ck.1 ck.2.2.1 n i j
  refine ⟨_, t, ct, ⟨y, rfl⟩, ck.spans (fr.mono (by decide) (by decide)) sp ?_⟩
  rw [fr.2.2.2.2.1 0 9 (by decide)]
  exact ck.2.2.2.2.1
theorem kx_pace (h : mH) (K : Int) (ck : CK h (K + 1)) (x : Int) : Cq m_X5_pace 9 [(2, 0), (0, x)] h (QX 1 K h) := by
  obtain ⟨_, t, ct, ⟨y, rfl⟩, sp, fr⟩ := cq_pace 4 h ck.1 ck.2.2.1 x
  refine ⟨_, t, ct, ⟨y, rfl⟩, ck.spans (fr.mono (by decide) (by decide)) sp ?_⟩
  rw [fr.2.2.2.2.1 0 9 (by decide)]
  exact ck.2.2.2.2.1
theorem kx_longest (h : mH) (K : Int) (ck : CK h (K + 1)) (i j : Int) : Cq m_X5_longest 9 [(2, 0), (0, i), (0, j)] h (QX 1 K h) := by
  obtain ⟨_, t, ct, ⟨y, rfl⟩, sp, fr⟩ := cq_longest 4 h ck.1 ck.2.2.1 i j
  refine ⟨_, t, ct, ⟨y, rfl⟩, ck.spans (fr.mono (by decide) (by decide)) sp ?_⟩
  rw [fr.2.2.2.2.1 0 9 (by decide)]
  exact ck.2.2.2.2.1
theorem kx_critical (h : mH) (K : Int) (ck : CK h (K + 1)) : Cq m_X5_critical 9 [(2, 0)] h (QX 0 K h) := by
  obtain ⟨_, t, ct, ⟨y, rfl⟩, sp, h9, fr⟩ := cq_critical 4 h ck.1 ck.2.2.1 ck.2.2.2.2.1
  exact ⟨_, t, ct, ⟨y, rfl⟩, ck.spans fr sp h9⟩
theorem kx_lead (h : mH) (K : Int) (ck : CK h (K + 1)) : Cq m_X5_lead 9 [(2, 0)] h (fun r t => (∃ y, r = some (0, y) ∧ ((hF h 2 1 = 0 ∧ y = -1 ∧ Fr [] [(0, 0)] h t) ∨ (hF h 2 1 ≠ 0 ∧ y = (ls9 (hF h 2 1) (wa2 (hF h 2 1) 25 0 (fun j => kor (hA h 6 j) (kshl 1 j))) (hF h 2 1).toNat).1 ∧ hF t 0 7 = (ls9 (hF h 2 1) (wa2 (hF h 2 1) 25 0 (fun j => kor (hA h 6 j) (kshl 1 j))) (hF h 2 1).toNat).1 ∧ (∀ j, 0 ≤ j → j < (ls9 (hF h 2 1) (wa2 (hF h 2 1) 25 0 (fun j => kor (hA h 6 j) (kshl 1 j))) (hF h 2 1).toNat).1 → hA t 31 j = (ls9 (hF h 2 1) (wa2 (hF h 2 1) 25 0 (fun j => kor (hA h 6 j) (kshl 1 j))) (hF h 2 1).toNat).2 j) ∧ Fr [10, 31] [(0, 0), (0, 7)] h t))) ∧ CK t K ∧ Kp h t ∧ Cn h t ∧ Kr h t) := by
  obtain ⟨_, t, ct, ⟨y, rfl, hy⟩, bi, h7, fr⟩ := cq_leadX 6 h ck.1 ck.2.1 ck.2.2.2.1
  suffices z : CK t K ∧ Kp h t from ⟨_, t, ct, ⟨y, rfl, hy⟩, z.1, z.2, Cn.fr fr (by decide) (by decide), Kr.fr ck fr (by decide) (by decide) (by decide)⟩
  refine ck.fr (fr.mono (by decide) (by decide)) bi (ck.2.2.1.fr fr (by decide)) h7 ?_ (fun i i0 i1 => ?_)
  · rw [fr.2.2.2.2.1 0 9 (by decide)]
    exact ck.2.2.2.2.1
  · rw [fr.2.2.2.2.1 (33 + 2 * i) 1 (by simp)]
    exact ck.2.2.2.2.2.1 i i0 i1
theorem kx_leader (h : mH) (K : Int) (ck : CK h (K + 1)) (k : Int) : Cq m_X5_leader 9 [(2, 0), (0, k)] h (fun r t => (∃ y, r = some (0, y) ∧ ((¬ (0 ≤ k ∧ k < hF h 0 7) ∧ y = -1) ∨ ((0 ≤ k ∧ k < hF h 0 7) ∧ y = hA h 31 k))) ∧ CK t K ∧ Kp h t ∧ Cn h t ∧ Kl h t ∧ Kr h t) := by
  obtain ⟨_, t, ct, ⟨y, rfl, hy⟩, fr⟩ := cq_leaderX 8 h ck.1 ck.2.2.2.1 k
  exact ⟨_, t, ct, ⟨y, rfl, hy⟩, ck.stat fr⟩
theorem kx_end (h : mH) (K : Int) (ck : CK h (K + 1)) (k x : Int) : Cq m_X5_end 9 [(2, 0), (0, k), (0, x)] h (fun r t => (∃ y, r = some (0, y) ∧ ((¬ ((0 ≤ x ∧ x ≤ 2) ∧ (0 ≤ k ∧ k < hF h 17 4)) ∧ y = -1) ∨ (((0 ≤ x ∧ x ≤ 2) ∧ (0 ≤ k ∧ k < hF h 17 4)) ∧ y = hA h (hF h 17 3) (3 * k + x)))) ∧ CK t K ∧ Kp h t ∧ Cn h t ∧ Kl h t ∧ Kr h t) := by
  obtain ⟨hd, lk, wd, nh, nl, nw, af, ho, bs, rw, na, nr, ob, n9, mn, nv, w9, tr, en, ob9, hm, h1, -⟩ := id ck.2.2.2.2.2.2
  obtain ⟨_, t, ct, ⟨y, rfl, hy⟩, fr⟩ := cq_endX 8 h ck.1 af ho bs rw na nr en mn hm (by omega) (by omega) k x
  rw [← hm, ← en.2.2.2.1.1] at hy
  exact ⟨_, t, ct, ⟨y, rfl, hy⟩, ck.stat fr⟩
theorem kx_status (h : mH) (K : Int) (ck : CK h (K + 1)) : Cq m_X5_status 9 [(2, 0)] h (QX 0 K h) := ⟨_, h, ct_status 9 h ck.1, ⟨_, rfl⟩, ck.stat Fr.rf⟩
theorem kx_clear (h : mH) (K : Int) (ck : CK h (K + 1)) : Cq m_X5_clear 9 [(2, 0)] h (fun r t => r = some (0, 1) ∧ CK t K ∧ Kp h t ∧ hF t 2 2 = 0 ∧ hA t 5 = flF (hA h 5) 24 0 ∧ Cx [5] [2] h t ∧ Kl h t ∧ Kr h t) := by
  have fr : Fr [5] [(0, 0), (2, 2)] h (sF (sA (sF h 2 2 0) 5 (flF (hA h 5) 24 0)) 0 0 0) := (Fr.f (by decide)).tr ((Fr.a (by decide)).tr (Fr.f (by decide)))
  have z := ck.bench0 (fr.mono (by decide) (by decide)) ck.2.1
  exact ⟨_, _, ct_clear 8 h ck.1, rfl, z.1, z.2.1, rfl, rfl, Cx.fr fr (by decide) (by decide), z.2.2⟩
