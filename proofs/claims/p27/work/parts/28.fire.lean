/-- the line of those that beat: nx the phases, ln the line, lined its set, first and last its ends -/
def LI (nx ln : Int → Int) (lined last first r n m b : Int) : Prop := (0 ≤ last ∧ 0 ≤ first) ∧ (∀ j, 0 ≤ j → j < n → 0 ≤ nx j ∧ nx j ≤ 10000) ∧ (∀ j, 0 ≤ j → j < m → r ≤ nx j → bt lined j) ∧ (∀ i, 0 ≤ i → i < last → 0 ≤ ln i ∧ ln i < b ∧ bt lined (ln i)) ∧ (∀ i j, 0 ≤ i → i < last → 0 ≤ j → j < last → ln i = ln j → i = j) ∧ (∀ j, 0 ≤ j → j < n → bt lined j → ∃ i, 0 ≤ i ∧ i < last ∧ ln i = j) ∧ ∀ i, 0 ≤ i → i < first → i < last → nx (ln i) < r
theorem LI.nf {nx ln : Int → Int} {lined last first r n m b k : Int} (h : LI nx ln lined last first r n m b) (hk : ¬ bt lined k) : ∀ i, 0 ≤ i → i < last → ln i ≠ k := fun i h0 h1 e => hk (by rw [← e]; exact (h.2.2.2.1 i h0 h1).2.2)
theorem LI.room {nx ln : Int → Int} {lined last first r n m b k : Int} (h : LI nx ln lined last first r n m b) (hb : b ≤ n) (hk : ¬ bt lined k) (k0 : 0 ≤ k) (k1 : k < n) : last + 1 ≤ n := by
  obtain ⟨⟨h1, -⟩, -, -, h4, h5, -⟩ := id h
  have hne := h.nf hk
  refine pigeonI (f := fun i => if i = last then k else ln i) (by omega) (fun i i0 i1 => ?_) (fun i j i0 i1 j0 j1 e => ?_)
  · split
    · omega
    · have := h4 i i0 (by omega)
      omega
  · split at e <;> split at e
    · omega
    · exact absurd e.symm (hne j j0 (by omega))
    · exact absurd e (hne i i0 (by omega))
    · exact h5 i j i0 (by omega) j0 (by omega) e
theorem LI.fits {nx ln : Int → Int} {lined last first r n m b : Int} (h : LI nx ln lined last first r n m b) (hb : b ≤ n) (hn : 0 ≤ n) : last ≤ n := by
  obtain ⟨⟨h1, -⟩, -, -, h4, h5, -⟩ := h
  exact pigeonI (f := ln) hn (fun i i0 i1 => by have := h4 i i0 i1; omega) (fun i j i0 i1 j0 j1 e => h5 i j i0 i1 j0 j1 e)
theorem LI.fitb {nx ln : Int → Int} {lined last first r n m b : Int} (h : LI nx ln lined last first r n m b) (hb : 0 ≤ b) : last ≤ b := by
  obtain ⟨⟨h1, -⟩, -, -, h4, h5, -⟩ := h
  exact pigeonI (f := ln) hb (fun i i0 i1 => by have := h4 i i0 i1; omega) (fun i j i0 i1 j0 j1 e => h5 i j i0 i1 j0 j1 e)
theorem LI.app {nx ln : Int → Int} {lined last first r n m b k m' b' : Int} (h : LI nx ln lined last first r n m b) (hk : ¬ bt lined k) (k0 : 0 ≤ k) (k1 : k < n) (hn : n ≤ 24) (hb : b ≤ b') (hb2 : b' ≤ n) (kb : k < b') (hm' : m' ≤ n) (hm : ∀ j, 0 ≤ j → j < m' → r ≤ nx j → bt lined j ∨ j = k) (hf : first ≤ last) : LI nx (u1 ln last k) (kor lined (kshl 1 k)) (last + 1) first r n m' b' := by
  obtain ⟨h1, h2, h3, h4, h5, h6, h7⟩ := id h
  have hne := h.nf hk
  have hor : ∀ j, 0 ≤ j → j < n → (bt (kor lined (kshl 1 k)) j ↔ bt lined j ∨ j = k) := fun j j0 j1 => by rw [bt_or j0 (by omega), bt_one j0 (by omega) k0 (by omega)]
  refine ⟨⟨by omega, h1.2⟩, h2, fun j j0 j1 hr => (hor j j0 (by omega)).mpr (hm j j0 j1 hr), fun i i0 i1 => ?_, fun i j i0 i1 j0 j1 e => ?_, fun j j0 j1 hj => ?_, fun i i0 i1 i2 => ?_⟩
  · by_cases hi : i = last
    · rw [hi, u1_s]
      exact ⟨k0, kb, (hor k k0 k1).mpr (Or.inr rfl)⟩
    · rw [u1_n _ _ hi]
      obtain ⟨a, b, c⟩ := h4 i i0 (by omega)
      exact ⟨a, by omega, (hor _ a (by omega)).mpr (Or.inl c)⟩
  · by_cases hi : i = last <;> by_cases hj : j = last
    · omega
    · rw [hi, u1_s, u1_n _ _ hj] at e
      exact absurd e.symm (hne j j0 (by omega))
    · rw [hj, u1_s, u1_n _ _ hi] at e
      exact absurd e (hne i i0 (by omega))
    · rw [u1_n _ _ hi, u1_n _ _ hj] at e
      exact h5 i j i0 (by omega) j0 (by omega) e
  · rcases (hor j j0 j1).mp hj with z | z
    · obtain ⟨i, a, b, c⟩ := h6 j j0 j1 z
      exact ⟨i, a, by omega, by rw [u1_n _ _ (by omega)]; exact c⟩
    · exact ⟨last, h1.1, by omega, by rw [u1_s]; exact z.symm⟩
  · rw [u1_n _ _ (by omega)]
    exact h7 i i0 i1 (by omega)
theorem LI.zero {nx ln : Int → Int} {lined last first r n m b : Int} (h : LI nx ln lined last first r n m b) (hr : 0 < r) (hf : first < last) : LI (u1 nx (ln first) 0) ln lined last (first + 1) r n m b := by
  obtain ⟨h1, h2, h3, h4, h5, h6, h7⟩ := h
  refine ⟨⟨h1.1, by omega⟩, fun j j0 j1 => ?_, fun j j0 j1 hj => ?_, h4, h5, h6, fun i i0 i1 i2 => ?_⟩
  · unfold u1
    split
    · omega
    · exact h2 j j0 j1
  · unfold u1 at hj
    split at hj
    · omega
    · exact h3 j j0 j1 hj
  · unfold u1
    split
    · exact hr
    · rename_i hne
      by_cases hi : i = first
      · rw [hi] at hne
        exact absurd rfl hne
      · exact h7 i i0 (by omega) i2
theorem LI.push {nx ln : Int → Int} {lined last first r n m b k v : Int} (h : LI nx ln lined last first r n m b) (hk : ¬ bt lined k) (v0 : 0 ≤ v) (v1 : v ≤ 10000) (vr : v < r) : LI (u1 nx k v) ln lined last first r n m b := by
  obtain ⟨h1, h2, h3, h4, h5, h6, h7⟩ := id h
  have hne := h.nf hk
  refine ⟨h1, fun j j0 j1 => ?_, fun j j0 j1 hj => ?_, h4, h5, h6, fun i i0 i1 i2 => ?_⟩
  · unfold u1
    split
    · omega
    · exact h2 j j0 j1
  · unfold u1 at hj
    split at hj
    · omega
    · exact h3 j j0 j1 hj
  · rw [u1_n _ _ (hne i i0 i2)]
    exact h7 i i0 i1 i2
theorem LI.pushApp {nx ln : Int → Int} {lined last first r n b k v : Int} (h : LI nx ln lined last first r n n b) (hk : ¬ bt lined k) (k0 : 0 ≤ k) (k1 : k < n) (hn : n ≤ 24) (hb : b ≤ n) (v0 : 0 ≤ v) (v1 : v ≤ 10000) (hf : first ≤ last) : LI (u1 nx k v) (u1 ln last k) (kor lined (kshl 1 k)) (last + 1) first r n n n := by
  obtain ⟨h1, h2, h3, h4, h5, h6, h7⟩ := id h
  have hne := h.nf hk
  have h8 : LI (u1 nx k v) ln lined last first r n 0 b := by
    refine ⟨h1, fun j j0 j1 => ?_, fun j j0 j1 hj => by omega, h4, h5, h6, fun i i0 i1 i2 => ?_⟩
    · unfold u1
      split
      · omega
      · exact h2 j j0 j1
    · rw [u1_n _ _ (hne i i0 i2)]
      exact h7 i i0 i1 i2
  refine h8.app hk k0 k1 hn hb (Int.le_refl _) k1 (Int.le_refl _) (fun j j0 j1 hj => ?_) hf
  by_cases hjk : j = k
  · exact Or.inr hjk
  · rw [u1_n _ _ hjk] at hj
    exact Or.inl (h3 j j0 j1 hj)
theorem LI.done {nx ln : Int → Int} {lined last first r n b : Int} (h : LI nx ln lined last first r n n b) (hf : last ≤ first) : ∀ j, 0 ≤ j → j < n → 0 ≤ nx j ∧ nx j < r := by
  obtain ⟨h1, h2, h3, h4, h5, h6, h7⟩ := h
  intro j j0 j1
  refine ⟨(h2 j j0 j1).1, ?_⟩
  by_cases hj : r ≤ nx j
  · obtain ⟨i, i0, i1, e⟩ := h6 j j0 j1 (h3 j j0 j1 hj)
    have := h7 i i0 (by omega) i1
    rw [e] at this
    exact this
  · omega
theorem holds_t {x k : Int} (h : (if kand (kshr x k) 1 = 0 then (0 : Int) else 1) ≠ 0) : bt x k := by
  intro e
  rw [if_pos e] at h
  exact h rfl
theorem holds_f {x k : Int} (h : (if kand (kshr x k) 1 = 0 then (0 : Int) else 1) = 0) : ¬ bt x k := by
  intro e
  rw [if_neg e] at h
  exact absurd h (by decide)
