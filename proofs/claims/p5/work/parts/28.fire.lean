/-- the line of those that beat: nx the phases, ln the line, lined its set, first and last its ends -/
def LI (nx ln : Int → Int) (lined last first r n m b : Int) : Prop := (0 ≤ last ∧ 0 ≤ first) ∧ (∀ j, 0 ≤ j → j < n → 0 ≤ nx j ∧ nx j ≤ 10000) ∧ (∀ j, 0 ≤ j → j < m → r ≤ nx j → bt lined j) ∧ (∀ i, 0 ≤ i → i < last → 0 ≤ ln i ∧ ln i < b ∧ bt lined (ln i)) ∧ (∀ i j, 0 ≤ i → i < last → 0 ≤ j → j < last → ln i = ln j → i = j) ∧ (∀ j, 0 ≤ j → j < n → bt lined j → ∃ i, 0 ≤ i ∧ i < last ∧ ln i = j) ∧ ∀ i, 0 ≤ i → i < first → i < last → nx (ln i) < r
theorem LI.nf {nx ln : Int → Int} {lined last first r n m b k : Int} (h : LI nx ln lined last first r n m b) (hk : ¬ bt lined k) : ∀ i, 0 ≤ i → i < last → ln i ≠ k := fun i h0 h1 e => hk (by rw [← e]; exact (h.2.2.2.1 i h0 h1).2.2)
theorem LI.room {nx ln : Int → Int} {lined last first r n m b k : Int} (h : LI nx ln lined last first r n m b) (hb : b ≤ n) (hk : ¬ bt lined k) (k0 : 0 ≤ k) (k1 : k < n) : last + 1 ≤ n := by
  obtain ⟨⟨h1, -⟩, -, -, h4, h5, -⟩ := id h
  have hne := h.nf hk
  refine pigeonI (f := fun i => if i = last then k else ln i) (by omega) (fun i i0 i1 => ?_) (fun i j i0 i1 j0 j1 e => ?_)
  · split
    · omega
    · have := h4 i i0 (by omega)
      omega
  · split at e <;> split at e
    · omega
    · exact absurd e.symm (hne j j0 (by omega))
    · exact absurd e (hne i i0 (by omega))
    · exact h5 i j i0 (by omega) j0 (by omega) e
theorem LI.fits {nx ln : Int → Int} {lined last first r n m b : Int} (h : LI nx ln lined last first r n m b) (hb : b ≤ n) (hn : 0 ≤ n) : last ≤ n := by
  obtain ⟨⟨h1, -⟩, -, -, h4, h5, -⟩ := h
  exact pigeonI (f := ln) hn (fun i i0 i1 => by have := h4 i i0 i1; omega) (fun i j i0 i1 j0 j1 e => h5 i j i0 i1 j0 j1 e)
theorem LI.fitb {nx ln : Int → Int} {lined last first r n m b : Int} (h : LI nx ln lined last first r n m b) (hb : 0 ≤ b) : last ≤ b := by
  obtain ⟨⟨h1, -⟩, -, -, h4, h5, -⟩ := h
  exact pigeonI (f := ln) hb (fun i i0 i1 => by have := h4 i i0 i1; omega) (fun i j i0 i1 j0 j1 e => h5 i j i0 i1 j0 j1 e)
theorem LI.app {nx ln : Int → Int} {lined last first r n m b k m' b' : Int} (h : LI nx ln lined last first r n m b) (hk : ¬ bt lined k) (k0 : 0 ≤ k) (k1 : k < n) (hn : n ≤ 24) (hb : b ≤ b') (hb2 : b' ≤ n) (kb : k < b') (hm' : m' ≤ n) (hm : ∀ j, 0 ≤ j → j < m' → r ≤ nx j → bt lined j ∨ j = k) (hf : first ≤ last) : LI nx (u1 ln last k) (kor lined (kshl 1 k)) (last + 1) first r n m' b' := by
  obtain ⟨h1, h2, h3, h4, h5, h6, h7⟩ := id h
  have hne := h.nf hk
  have hor : ∀ j, 0 ≤ j → j < n → (bt (kor lined (kshl 1 k)) j ↔ bt lined j ∨ j = k) := fun j j0 j1 => by rw [bt_or j0 (by omega), bt_one j0 (by omega) k0 (by omega)]
  refine ⟨⟨by omega, h1.2⟩, h2, fun j j0 j1 hr => (hor j j0 (by omega)).mpr (hm j j0 j1 hr), fun i i0 i1 => ?_, fun i j i0 i1 j0 j1 e => ?_, fun j j0 j1 hj => ?_, fun i i0 i1 i2 => ?_⟩
  · by_cases hi : i = last
    · rw [hi, u1_s]
      exact ⟨k0, kb, (hor k k0 k1).mpr (Or.inr rfl)⟩
    · rw [u1_n _ _ hi]
      obtain ⟨a, b, c⟩ := h4 i i0 (by omega)
      exact ⟨a, by omega, (hor _ a (by omega)).mpr (Or.inl c)⟩
  · by_cases hi : i = last <;> by_cases hj : j = last
    · omega
    · rw [hi, u1_s, u1_n _ _ hj] at e
      exact absurd e.symm (hne j j0 (by omega))
    · rw [hj, u1_s, u1_n _ _ hi] at e
      exact absurd e (hne i i0 (by omega))
    · rw [u1_n _ _ hi, u1_n _ _ hj] at e
      exact h5 i j i0 (by omega) j0 (by omega) e
  · rcases (hor j j0 j1).mp hj with z | z
    · obtain ⟨i, a, b, c⟩ := h6 j j0 j1 z
      exact ⟨i, a, by omega, by rw [u1_n _ _ (by omega)]; exact c⟩
    · exact ⟨last, h1.1, by omega, by rw [u1_s]; exact z.symm⟩
  · rw [u1_n _ _ (by omega)]
    exact h7 i i0 i1 (by omega)
theorem LI.zero {nx ln : Int → Int} {lined last first r n m b : Int} (h : LI nx ln lined last first r n m b) (hr : 0 < r) (hf : first < last) : LI (u1 nx (ln first) 0) ln lined last (first + 1) r n m b := by
  obtain ⟨h1, h2, h3, h4, h5, h6, h7⟩ := h
  refine ⟨⟨h1.1, by omega⟩, fun j j0 j1 => ?_, fun j j0 j1 hj => ?_, h4, h5, h6, fun i i0 i1 i2 => ?_⟩
  · unfold u1
    split
    · omega
    · exact h2 j j0 j1
  · unfold u1 at hj
    split at hj
    · omega
    · exact h3 j j0 j1 hj
  · unfold u1
    split
    · exact hr
    · rename_i hne
      by_cases hi : i = first
      · rw [hi] at hne
        exact absurd rfl hne
      · exact h7 i i0 (by omega) i2
theorem LI.push {nx ln : Int → Int} {lined last first r n m b k v : Int} (h : LI nx ln lined last first r n m b) (hk : ¬ bt lined k) (v0 : 0 ≤ v) (v1 : v ≤ 10000) (vr : v < r) : LI (u1 nx k v) ln lined last first r n m b := by
  obtain ⟨h1, h2, h3, h4, h5, h6, h7⟩ := id h
  have hne := h.nf hk
  refine ⟨h1, fun j j0 j1 => ?_, fun j j0 j1 hj => ?_, h4, h5, h6, fun i i0 i1 i2 => ?_⟩
  · unfold u1
    split
    · omega
    · exact h2 j j0 j1
  · unfold u1 at hj
    split at hj
    · omega
    · exact h3 j j0 j1 hj
  · rw [u1_n _ _ (hne i i0 i2)]
    exact h7 i i0 i1 i2
theorem LI.pushApp {nx ln : Int → Int} {lined last first r n b k v : Int} (h : LI nx ln lined last first r n n b) (hk : ¬ bt lined k) (k0 : 0 ≤ k) (k1 : k < n) (hn : n ≤ 24) (hb : b ≤ n) (v0 : 0 ≤ v) (v1 : v ≤ 10000) (hf : first ≤ last) : LI (u1 nx k v) (u1 ln last k) (kor lined (kshl 1 k)) (last + 1) first r n n n := by
  obtain ⟨h1, h2, h3, h4, h5, h6, h7⟩ := id h
  have hne := h.nf hk
  have h8 : LI (u1 nx k v) ln lined last first r n 0 b := by
    refine ⟨h1, fun j j0 j1 => ?_, fun j j0 j1 hj => by omega, h4, h5, h6, fun i i0 i1 i2 => ?_⟩
    · unfold u1
      split
      · omega
      · exact h2 j j0 j1
    · rw [u1_n _ _ (hne i i0 i2)]
      exact h7 i i0 i1 i2
  refine h8.app hk k0 k1 hn hb (Int.le_refl _) k1 (Int.le_refl _) (fun j j0 j1 hj => ?_) hf
  by_cases hjk : j = k
  · exact Or.inr hjk
  · rw [u1_n _ _ hjk] at hj
    exact Or.inl (h3 j j0 j1 hj)
theorem LI.done {nx ln : Int → Int} {lined last first r n b : Int} (h : LI nx ln lined last first r n n b) (hf : last ≤ first) : ∀ j, 0 ≤ j → j < n → 0 ≤ nx j ∧ nx j < r := by
  obtain ⟨h1, h2, h3, h4, h5, h6, h7⟩ := h
  intro j j0 j1
  refine ⟨(h2 j j0 j1).1, ?_⟩
  by_cases hj : r ≤ nx j
  · obtain ⟨i, i0, i1, e⟩ := h6 j j0 j1 (h3 j j0 j1 hj)
    have := h7 i i0 (by omega) i1
    rw [e] at this
    exact this
  · omega
theorem holds_t {x k : Int} (h : (if kand (kshr x k) 1 = 0 then (0 : Int) else 1) ≠ 0) : bt x k := by
  intro e
  rw [if_pos e] at h
  exact h rfl
theorem holds_f {x k : Int} (h : (if kand (kshr x k) 1 = 0 then (0 : Int) else 1) = 0) : ¬ bt x k := by
  intro e
  rw [if_neg e] at h
  exact absurd h (by decide)
theorem fire12_in (d : Nat) (h : mH) (sh : Sh h) (bi : BI h) (fst b : Int) (Q : Option mV → mH → Prop) (hb : 0 ≤ b ∧ b < hF h 2 1) (hq : ∀ (t : mH) (last lined i : Int) (x7 : mV), Fr [8, 9, 12] [] h t → fst + 1 ≤ last → LI (hA t 8) (hA t 9) lined last (fst + 1) (hF h 2 0) (hF h 2 1) (hF h 2 1) (hF h 2 1) → Wp m_X0_fire (d + 1) 240 [(2, 2), (2, 12), (0, last), (0, lined), (0, fst), (0, b), (0, i), x7] [] t Q) : ∀ (m : Nat) (k last lined : Int) (h' : mH) (x7 : mV), (hF h 2 1 - k).toNat < m → (0 ≤ k) → (Fr [8, 9, 12] [] h h') → (fst + 1 ≤ last) → (LI (hA h' 8) (hA h' 9) lined last (fst + 1) (hF h 2 0) (hF h 2 1) (hF h 2 1) (hF h 2 1)) → Wp m_X0_fire (d + 1) 111 [(2, 2), (2, 12), (0, last), (0, lined), (0, fst), (0, b), (0, k), x7] [] h' Q := by
  intro m
  induction m with
  | zero => intro k last lined h' x7 hm; exact absurd hm (Nat.not_lt_zero _)
  | succ m ih =>
    intro k last lined h' x7 hm k0 fr hfl li
    have sh' := sh.fr fr (by decide +kernel) (by decide)
    have e0 : hF h' 2 0 = hF h 2 0 := fr.2.2.2.2.1 2 0 (by decide)
    have e1 : hF h' 2 1 = hF h 2 1 := fr.2.2.2.2.1 2 1 (by decide)
    have e3 : hA h' 3 = hA h 3 := fr.2.2.2.2.2 3 (by decide)
    obtain ⟨⟨r0, r1⟩, ⟨n0, n1⟩, -, -, hpu⟩ := id bi
    have hl0 := li.1
    refine Wp.ild (j := 6) rfl dX0_fire_111 ?_
    refine Wp.ald_n (j := 0) rfl dX0_fire_113 ?_
    refine Wp.getf (k := 1) (tg := 0) kC0 (by decide) rfl lf_X0_15 dX0_fire_114 (sK2 (h := h') sh') e1 ?_
    refine Wp.icge dX0_fire_117 (by decide) (tgt := 240) (fun c117 => ?_) (fun c117 => ?_)
    · exact hq _ _ _ _ _ fr hfl li
    · refine Wp.ald_n (j := 0) rfl dX0_fire_120 ?_
      refine Wp.getf (k := 3) (tg := 2) kC0 (by decide) rfl lf_X0_21 dX0_fire_121 (sK2 (h := h') sh') (sF2_3 (h := h') sh') ?_
      refine Wp.ild (j := 6) rfl dX0_fire_124 ?_
      refine Wp.iaload dX0_fire_126 (sK3 (h := h') sh') (by omega) (ilt (sL3 (h := h') sh') (by omega)) (show hA _ 3 _ = hA h' 3 _ from rfl) ?_
      refine Wp.iconst dX0_fire_127 (by decide) ?_
      refine Wp.icne dX0_fire_128 (by decide) (tgt := 159) (fun c128 => ?_) (fun c128 => ?_)
      · refine Wp.iconst dX0_fire_159 (by decide) ?_
        refine sti_8_7 rfl (dSt_w dX0_fire_160) ?_
        refine Wp.ild (j := 7) rfl dX0_fire_162 ?_
        refine Wp.ifeq dX0_fire_164 (by decide) (tgt := 188) (fun _ => ?_) (fun c => absurd c (by decide))
        refine Wp.ild (j := 7) rfl dX0_fire_188 ?_
        refine Wp.ifeq dX0_fire_190 (by decide) (tgt := 234) (fun _ => ?_) (fun c => absurd c (by decide))
        refine inc_8_6 rfl dX0_fire_234 (by first | exact w32_of (by omega) (by omega) | rfl) ?_
        refine Wp.goto (tgt := 111) dX0_fire_237 (by decide) ?_
        first
        | exact ih (k + 1) last lined h' _ (by omega) (by omega) fr hfl li
        | (refine ih (k + 1) last lined _ _ (by omega) (by omega) ?_ hfl ?_
           · exact fr.tr (Fr.e (by decide))
           · exact li.push (holds_f c137) (by omega) (by omega) (by omega))
        | (refine ih (k + 1) (last + 1) _ _ _ (by omega) (by omega) ?_ (by omega) ?_
           · exact (fr.tr (Fr.e (by decide))).tr (Fr.e (by decide))
           · exact li.pushApp (holds_f c137) k0 (by omega) n1 (by omega) (by omega) (by omega) hfl)
      · refine Wp.ild_n (j := 3) rfl dX0_fire_131 ?_
        refine Wp.ild (j := 6) rfl dX0_fire_132 ?_
        refine Wp.callS1 (ct_holds d _ _ _) wc_X0_75 sM_X0_holds dX0_fire_134 rfl (Nat.le_of_ble_eq_true rfl) rfl (Nat.le_of_ble_eq_true rfl) ?_
        refine Wp.ifne dX0_fire_137 (by decide) (tgt := 159) (fun c137 => ?_) (fun c137 => ?_)
        · refine Wp.iconst dX0_fire_159 (by decide) ?_
          refine sti_8_7 rfl (dSt_w dX0_fire_160) ?_
          refine Wp.ild (j := 7) rfl dX0_fire_162 ?_
          refine Wp.ifeq dX0_fire_164 (by decide) (tgt := 188) (fun _ => ?_) (fun c => absurd c (by decide))
          refine Wp.ild (j := 7) rfl dX0_fire_188 ?_
          refine Wp.ifeq dX0_fire_190 (by decide) (tgt := 234) (fun _ => ?_) (fun c => absurd c (by decide))
          refine inc_8_6 rfl dX0_fire_234 (by first | exact w32_of (by omega) (by omega) | rfl) ?_
          refine Wp.goto (tgt := 111) dX0_fire_237 (by decide) ?_
          first
          | exact ih (k + 1) last lined h' _ (by omega) (by omega) fr hfl li
          | (refine ih (k + 1) last lined _ _ (by omega) (by omega) ?_ hfl ?_
             · exact fr.tr (Fr.e (by decide))
             · exact li.push (holds_f c137) (by omega) (by omega) (by omega))
          | (refine ih (k + 1) (last + 1) _ _ _ (by omega) (by omega) ?_ (by omega) ?_
             · exact (fr.tr (Fr.e (by decide))).tr (Fr.e (by decide))
             · exact li.pushApp (holds_f c137) k0 (by omega) n1 (by omega) (by omega) (by omega) hfl)
        · refine Wp.ald_n (j := 0) rfl dX0_fire_140 ?_
          refine Wp.getf (k := 6) (tg := 2) kC0 (by decide) rfl lf_X0_31 dX0_fire_141 (sK2 (h := h') sh') (sF2_6 (h := h') sh') ?_
          refine Wp.ild (j := 6) rfl dX0_fire_144 ?_
          refine Wp.iaload dX0_fire_146 (sK6 (h := h') sh') (by omega) (ilt (sL6 (h := h') sh') (by omega)) (show hA _ 6 _ = hA h' 6 _ from rfl) ?_
          refine Wp.ild (j := 5) rfl dX0_fire_147 ?_
          refine Wp.callS1 (ct_holds d _ _ _) wc_X0_75 sM_X0_holds dX0_fire_149 rfl (Nat.le_of_ble_eq_true rfl) rfl (Nat.le_of_ble_eq_true rfl) ?_
          refine Wp.ifeq dX0_fire_152 (by decide) (tgt := 159) (fun c152 => ?_) (fun c152 => ?_)
          · refine Wp.iconst dX0_fire_159 (by decide) ?_
            refine sti_8_7 rfl (dSt_w dX0_fire_160) ?_
            refine Wp.ild (j := 7) rfl dX0_fire_162 ?_
            refine Wp.ifeq dX0_fire_164 (by decide) (tgt := 188) (fun _ => ?_) (fun c => absurd c (by decide))
            refine Wp.ild (j := 7) rfl dX0_fire_188 ?_
            refine Wp.ifeq dX0_fire_190 (by decide) (tgt := 234) (fun _ => ?_) (fun c => absurd c (by decide))
            refine inc_8_6 rfl dX0_fire_234 (by first | exact w32_of (by omega) (by omega) | rfl) ?_
            refine Wp.goto (tgt := 111) dX0_fire_237 (by decide) ?_
            first
            | exact ih (k + 1) last lined h' _ (by omega) (by omega) fr hfl li
            | (refine ih (k + 1) last lined _ _ (by omega) (by omega) ?_ hfl ?_
               · exact fr.tr (Fr.e (by decide))
               · exact li.push (holds_f c137) (by omega) (by omega) (by omega))
            | (refine ih (k + 1) (last + 1) _ _ _ (by omega) (by omega) ?_ (by omega) ?_
               · exact (fr.tr (Fr.e (by decide))).tr (Fr.e (by decide))
               · exact li.pushApp (holds_f c137) k0 (by omega) n1 (by omega) (by omega) (by omega) hfl)
          · refine Wp.iconst dX0_fire_155 (by decide) ?_
            refine Wp.goto (tgt := 160) dX0_fire_156 (by decide) ?_
            refine sti_8_7 rfl (dSt_w dX0_fire_160) ?_
            refine Wp.ild (j := 7) rfl dX0_fire_162 ?_
            refine Wp.ifeq dX0_fire_164 (by decide) (tgt := 188) (fun c => absurd c (by decide)) (fun _ => ?_)
            have hk := li.2.1 k k0 (by omega)
            have hlt : hA h' 8 k < hF h 2 0 := by
              by_cases hz : hF h 2 0 ≤ hA h' 8 k
              · exact absurd (li.2.2.1 k k0 (by omega) hz) (holds_f c137)
              · omega
            refine Wp.ald_n (j := 0) rfl dX0_fire_167 ?_
            refine Wp.getf (k := 9) (tg := 2) kC0 (by decide) rfl lf_X0_40 dX0_fire_168 (sK2 (h := h') sh') (sF2_9 (h := h') sh') ?_
            refine Wp.ild (j := 6) rfl dX0_fire_171 ?_
            refine Wp.dup2 dX0_fire_173 (Or.inl rfl) (Or.inr rfl) ?_
            refine Wp.iaload dX0_fire_174 (sK8 (h := h') sh') (by omega) (ilt (sL8 (h := h') sh') (by omega)) (show hA _ 8 _ = hA h' 8 _ from rfl) ?_
            refine Wp.ald_n (j := 0) rfl dX0_fire_175 ?_
            refine Wp.ald_n (j := 0) rfl dX0_fire_176 ?_
            refine Wp.getf (k := 9) (tg := 2) kC0 (by decide) rfl lf_X0_40 dX0_fire_177 (sK2 (h := h') sh') (sF2_9 (h := h') sh') ?_
            refine Wp.ild (j := 6) rfl dX0_fire_180 ?_
            refine Wp.iaload dX0_fire_182 (sK8 (h := h') sh') (by omega) (ilt (sL8 (h := h') sh') (by omega)) (show hA _ 8 _ = hA h' 8 _ from rfl) ?_
            have hpu' : ∀ i, 0 ≤ i → i < 16 → 0 ≤ hA h' 7 i ∧ hA h' 7 i ≤ 4096 := fun i i0 i1 => by rw [fr.2.2.2.2.2 7 (by decide)]; exact hpu i i0 i1
            obtain ⟨_, t183, ct183, ⟨y183, rfl, y0, y1⟩, e183⟩ := cq_pushAt d h' sh' (hA h' 8 k) (by omega) hpu'
            rw [e183] at ct183
            refine Wp.callV1 (ct183) wc_X0_96 iM_X0_pushAt se_X0_pushAt kC0 (sK2 (h := h') sh') dX0_fire_183 rfl (Nat.le_of_ble_eq_true rfl) rfl (Nat.le_of_ble_eq_true rfl) ?_
            refine Wp.iaddE dX0_fire_186 (by first | exact w32_of (by omega) (by omega) | rfl) ?_
            refine Wp.iastore dX0_fire_187 (sK8 (h := h') sh') (by omega) (ilt (sL8 (h := h') sh') (by omega)) ?_
            refine Wp.ild (j := 7) rfl dX0_fire_188 ?_
            refine Wp.ifeq dX0_fire_190 (by decide) (tgt := 234) (fun c => absurd c (by decide)) (fun _ => ?_)
            refine Wp.ald_n (j := 0) rfl dX0_fire_193 ?_
            refine Wp.getf (k := 9) (tg := 2) kC0 (by decide) rfl lf_X0_40 dX0_fire_194 (sK2 (h := h') sh') (sF2_9 (h := h') sh') ?_
            refine Wp.ild (j := 6) rfl dX0_fire_197 ?_
            refine Wp.iaload dX0_fire_199 (sK8 (h := h') sh') (by omega) (ilt (sL8 (h := h') sh') (by omega)) (show hA (sE h' 8 k (hA h' 8 k + y183)) 8 k = hA h' 8 k + y183 from u1_s (hA h' 8) k _) ?_
            refine Wp.ald_n (j := 0) rfl dX0_fire_200 ?_
            refine Wp.getf (k := 0) (tg := 0) kC0 (by decide) rfl lf_X0_9 dX0_fire_201 (sK2 (h := h') sh') e0 ?_
            refine Wp.iclt dX0_fire_204 (by decide) (tgt := 234) (fun c204 => ?_) (fun c204 => ?_)
            · refine inc_8_6 rfl dX0_fire_234 (by first | exact w32_of (by omega) (by omega) | rfl) ?_
              refine Wp.goto (tgt := 111) dX0_fire_237 (by decide) ?_
              first
              | exact ih (k + 1) last lined h' _ (by omega) (by omega) fr hfl li
              | (refine ih (k + 1) last lined _ _ (by omega) (by omega) ?_ hfl ?_
                 · exact fr.tr (Fr.e (by decide))
                 · exact li.push (holds_f c137) (by omega) (by omega) (by omega))
              | (refine ih (k + 1) (last + 1) _ _ _ (by omega) (by omega) ?_ (by omega) ?_
                 · exact (fr.tr (Fr.e (by decide))).tr (Fr.e (by decide))
                 · exact li.pushApp (holds_f c137) k0 (by omega) n1 (by omega) (by omega) (by omega) hfl)
            · have hrm := li.room (Int.le_refl _) (holds_f c137) k0 (by omega)
              refine Wp.ild_n (j := 2) rfl dX0_fire_207 ?_
              refine Wp.ald_n (j := 0) rfl dX0_fire_208 ?_
              refine Wp.getf (k := 10) (tg := 2) kC0 (by decide) rfl lf_X0_43 dX0_fire_209 (sK2 (h := h') sh') (sF2_10 (h := h') sh') ?_
              refine Wp.alen dX0_fire_212 (by decide) (by decide) (sK9 (h := h') sh') (sL9 (h := h') sh') (by omega) ?_
              refine Wp.icge dX0_fire_213 (by decide) (tgt := 234) (fun c213 => absurd c213 (by omega)) (fun _ => ?_)
              refine Wp.ald_n (j := 0) rfl dX0_fire_216 ?_
              refine Wp.getf (k := 10) (tg := 2) kC0 (by decide) rfl lf_X0_43 dX0_fire_217 (sK2 (h := h') sh') (sF2_10 (h := h') sh') ?_
              refine Wp.ild_n (j := 2) rfl dX0_fire_220 ?_
              refine Wp.ild (j := 6) rfl dX0_fire_221 ?_
              refine Wp.iastore dX0_fire_223 (sK9 (h := h') sh') (by omega) (ilt (sL9 (h := h') sh') (by omega)) ?_
              refine inc_8_2 rfl dX0_fire_224 (by first | exact w32_of (by omega) (by omega) | rfl) ?_
              refine Wp.ild_n (j := 3) rfl dX0_fire_227 ?_
              refine Wp.iconst dX0_fire_228 (by decide) ?_
              refine Wp.ild (j := 6) rfl dX0_fire_229 ?_
              refine Wp.ishl dX0_fire_231 ?_
              refine Wp.ior dX0_fire_232 ?_
              refine sti_8_3 rfl (dSt_n dX0_fire_233) ?_
              refine inc_8_6 rfl dX0_fire_234 (by first | exact w32_of (by omega) (by omega) | rfl) ?_
              refine Wp.goto (tgt := 111) dX0_fire_237 (by decide) ?_
              first
              | exact ih (k + 1) last lined h' _ (by omega) (by omega) fr hfl li
              | (refine ih (k + 1) last lined _ _ (by omega) (by omega) ?_ hfl ?_
                 · exact fr.tr (Fr.e (by decide))
                 · exact li.push (holds_f c137) (by omega) (by omega) (by omega))
              | (refine ih (k + 1) (last + 1) _ _ _ (by omega) (by omega) ?_ (by omega) ?_
                 · exact (fr.tr (Fr.e (by decide))).tr (Fr.e (by decide))
                 · exact li.pushApp (holds_f c137) k0 (by omega) n1 (by omega) (by omega) (by omega) hfl)

theorem fire12_out (d : Nat) (h : mH) (sh : Sh h) (bi : BI h) : ∀ (m : Nat) (fst last lined : Int) (h' : mH) (x5 x6 x7 : mV), (hF h 2 1 - fst).toNat < m → (0 ≤ fst) → (fst ≤ last) → (Fr [8, 9, 12] [] h h') → ((x5.1 == 1) = false) → (LI (hA h' 8) (hA h' 9) lined last fst (hF h 2 0) (hF h 2 1) (hF h 2 1) (hF h 2 1)) → Wp m_X0_fire (d + 1) 68 [(2, 2), (2, 12), (0, last), (0, lined), (0, fst), x5, x6, x7] [] h' (fun r t => r = none ∧ Fr [8, 9, 12] [] h t ∧ ∀ j, 0 ≤ j → j < hF h 2 1 → 0 ≤ hA t 8 j ∧ hA t 8 j < hF h 2 0) := by
  intro m
  induction m with
  | zero => intro fst last lined h' x5 x6 x7 hm; exact absurd hm (Nat.not_lt_zero _)
  | succ m ih =>
    intro fst last lined h' x5 x6 x7 hm f0 hfl fr t5 li
    have sh' := sh.fr fr (by decide +kernel) (by decide)
    have e0 : hF h' 2 0 = hF h 2 0 := fr.2.2.2.2.1 2 0 (by decide)
    have e1 : hF h' 2 1 = hF h 2 1 := fr.2.2.2.2.1 2 1 (by decide)
    have e3 : hA h' 3 = hA h 3 := fr.2.2.2.2.2 3 (by decide)
    obtain ⟨⟨r0, r1⟩, ⟨n0, n1⟩, -, -, hpu⟩ := id bi
    have hl0 := li.1
    refine Wp.ild (j := 4) rfl dX0_fire_68 ?_
    refine Wp.ild_n (j := 2) rfl dX0_fire_70 ?_
    refine Wp.icge dX0_fire_71 (by decide) (tgt := 246) (fun c71 => ?_) (fun c71 => ?_)
    · refine Wp.vret rfl dX0_fire_246 ?_
      have hft := li.fits (Int.le_refl _) (by omega)
      exact ⟨rfl, fr, li.done (by omega)⟩
    · refine Wp.ild (j := 4) rfl dX0_fire_74 ?_
      refine Wp.ald_n (j := 0) rfl dX0_fire_76 ?_
      refine Wp.getf (k := 1) (tg := 0) kC0 (by decide) rfl lf_X0_15 dX0_fire_77 (sK2 (h := h') sh') e1 ?_
      refine Wp.icge dX0_fire_80 (by decide) (tgt := 246) (fun c80 => ?_) (fun c80 => ?_)
      · refine Wp.vret rfl dX0_fire_246 ?_
        have hft := li.fits (Int.le_refl _) (by omega)
        exact ⟨rfl, fr, li.done (by omega)⟩
      · have hli := li.2.2.2.1 fst f0 (by omega)
        refine Wp.ald_n (j := 0) rfl dX0_fire_83 ?_
        refine Wp.getf (k := 10) (tg := 2) kC0 (by decide) rfl lf_X0_43 dX0_fire_84 (sK2 (h := h') sh') (sF2_10 (h := h') sh') ?_
        refine Wp.ild (j := 4) rfl dX0_fire_87 ?_
        refine Wp.iaload dX0_fire_89 (sK9 (h := h') sh') (by omega) (ilt (sL9 (h := h') sh') (by omega)) (show hA _ 9 _ = hA h' 9 _ from rfl) ?_
        refine sti_8_5 rfl (dSt_w dX0_fire_90) ?_
        refine Wp.ald_n (j := 0) rfl dX0_fire_92 ?_
        refine Wp.getf (k := 9) (tg := 2) kC0 (by decide) rfl lf_X0_40 dX0_fire_93 (sK2 (h := h') sh') (sF2_9 (h := h') sh') ?_
        refine Wp.ild (j := 5) rfl dX0_fire_96 ?_
        refine Wp.iconst dX0_fire_98 (by decide) ?_
        refine Wp.iastore dX0_fire_99 (sK8 (h := h') sh') (by omega) (ilt (sL8 (h := h') sh') (by omega)) ?_
        refine Wp.ald_n (j := 1) rfl dX0_fire_100 ?_
        refine Wp.ild (j := 5) rfl dX0_fire_101 ?_
        refine Wp.dup2 dX0_fire_103 (Or.inl rfl) (Or.inr rfl) ?_
        refine Wp.iaload dX0_fire_104 (sK12 (h := h') sh') (by omega) (ilt (sL12 (h := h') sh') (by omega)) (show hA _ 12 _ = hA h' 12 _ from rfl) ?_
        refine Wp.iconst dX0_fire_105 (by decide) ?_
        refine Wp.iaddE dX0_fire_106 rfl ?_
        refine Wp.iastore dX0_fire_107 (sK12 (h := h') sh') (by omega) (ilt (sL12 (h := h') sh') (by omega)) ?_
        refine Wp.iconst dX0_fire_108 (by decide) ?_
        refine sti_8_6 rfl (dSt_w dX0_fire_109) ?_
        refine fire12_in d h sh bi fst (hA h' 9 fst) _ ⟨hli.1, hli.2.1⟩ (fun t last' lined' i x7' frt hfl' li' => ?_) _ 0 last lined _ _ (Nat.lt_succ_self _) (Int.le_refl _) ((fr.tr (Fr.e (by decide))).tr (Fr.e (by decide))) (by omega) (li.zero (by omega) (by omega))
        refine inc_8_4 rfl dX0_fire_240 (w32_of (by omega) (by omega)) ?_
        refine Wp.goto (tgt := 68) dX0_fire_243 (by decide) ?_
        exact ih (fst + 1) last' lined' t _ _ _ (by omega) (by omega) hfl' frt rfl li'

theorem fire12_line (d : Nat) (h : mH) (sh : Sh h) (bi : BI h) (hx : ∀ j, 0 ≤ j → j < hF h 2 1 → 0 ≤ hA h 8 j ∧ hA h 8 j ≤ 10000 ∧ (hA h 3 j ≠ 2 → hA h 8 j < hF h 2 0)) : ∀ (m : Nat) (k last lined : Int) (h' : mH) (x5 x6 x7 : mV), (hF h 2 1 - k).toNat < m → (0 ≤ k) → (k ≤ hF h 2 1) → ((x5.1 == 1) = false) → ((x6.1 == 1) = false) → (Fr [9] [] h h') → (LI (hA h 8) (hA h' 9) lined last 0 (hF h 2 0) (hF h 2 1) k k) → Wp m_X0_fire (d + 1) 7 [(2, 2), (2, 12), (0, last), (0, lined), (0, k), x5, x6, x7] [] h' (fun r t => r = none ∧ Fr [8, 9, 12] [] h t ∧ ∀ j, 0 ≤ j → j < hF h 2 1 → 0 ≤ hA t 8 j ∧ hA t 8 j < hF h 2 0) := by
  intro m
  induction m with
  | zero => intro k last lined h' x5 x6 x7 hm; exact absurd hm (Nat.not_lt_zero _)
  | succ m ih =>
    intro k last lined h' x5 x6 x7 hm k0 k1 t5 t6 fr li
    have sh' := sh.fr fr (by decide +kernel) (by decide)
    have e0 : hF h' 2 0 = hF h 2 0 := fr.2.2.2.2.1 2 0 (by decide)
    have e1 : hF h' 2 1 = hF h 2 1 := fr.2.2.2.2.1 2 1 (by decide)
    have e3 : hA h' 3 = hA h 3 := fr.2.2.2.2.2 3 (by decide)
    obtain ⟨⟨r0, r1⟩, ⟨n0, n1⟩, -, -, hpu⟩ := id bi
    have hl0 := li.1
    have e8 : hA h' 8 = hA h 8 := fr.2.2.2.2.2 8 (by decide)
    have hft := li.fitb k0
    refine Wp.ild (j := 4) rfl dX0_fire_7 ?_
    refine Wp.ald_n (j := 0) rfl dX0_fire_9 ?_
    refine Wp.getf (k := 1) (tg := 0) kC0 (by decide) rfl lf_X0_15 dX0_fire_10 (sK2 (h := h') sh') e1 ?_
    refine Wp.icge dX0_fire_13 (by decide) (tgt := 65) (fun c13 => ?_) (fun c13 => ?_)
    · refine Wp.iconst dX0_fire_65 (by decide) ?_
      refine sti_8_4 rfl (dSt_w dX0_fire_66) ?_
      have hk : k = hF h 2 1 := by omega
      subst hk
      have fr2 : Fr [8, 9, 12] [] h h' := fr.mono (by decide) (by decide)
      have e8 : hA h' 8 = hA h 8 := fr.2.2.2.2.2 8 (by decide)
      exact fire12_out d h sh bi _ 0 last lined h' _ _ _ (Nat.lt_succ_self _) (Int.le_refl _) li.1.1 fr2 t5 (by rw [e8]; exact li)
    · refine Wp.ald_n (j := 0) rfl dX0_fire_16 ?_
      refine Wp.getf (k := 3) (tg := 2) kC0 (by decide) rfl lf_X0_21 dX0_fire_17 (sK2 (h := h') sh') (sF2_3 (h := h') sh') ?_
      refine Wp.ild (j := 4) rfl dX0_fire_20 ?_
      refine Wp.iaload dX0_fire_22 (sK3 (h := h') sh') (by omega) (ilt (sL3 (h := h') sh') (by omega)) (congrFun e3 k) ?_
      refine Wp.iconst dX0_fire_23 (by decide) ?_
      refine Wp.icne dX0_fire_24 (by decide) (tgt := 59) (fun c24 => ?_) (fun c24 => ?_)
      · refine inc_8_4 rfl dX0_fire_59 (by first | exact w32_of (by omega) (by omega) | rfl) ?_
        refine Wp.goto (tgt := 7) dX0_fire_62 (by decide) ?_
        have hnb : ¬ bt lined k := fun z => by
          obtain ⟨i, i0, i1, e⟩ := li.2.2.2.2.2.1 k k0 (by omega) z
          have := (li.2.2.2.1 i i0 i1).2.1
          omega
        have hxk := hx k k0 (by omega)
        first
        | (refine ih (k + 1) (last + 1) _ _ _ _ _ (by omega) (by omega) (by omega) t5 t6 ?_ ?_
           · exact fr.tr (Fr.e (by decide))
           · exact li.app hnb k0 (by omega) n1 (by omega) (by omega) (by omega) (by omega) (fun j j0 j1 hj => by
               by_cases hjk : j = k
               · exact Or.inr hjk
               · exact Or.inl (li.2.2.1 j j0 (by omega) hj)) li.1.1)
        | exact ih (k + 1) last lined _ _ _ _ (by omega) (by omega) (by omega) t5 t6 fr ⟨li.1, li.2.1, fun j j0 j1 hj => by
            by_cases hjk : j = k
            · subst hjk
              omega
            · exact li.2.2.1 j j0 (by omega) hj, fun i i0 i1 => ⟨(li.2.2.2.1 i i0 i1).1, by have := (li.2.2.2.1 i i0 i1).2.1; omega, (li.2.2.2.1 i i0 i1).2.2⟩, li.2.2.2.2⟩
      · refine Wp.ald_n (j := 0) rfl dX0_fire_27 ?_
        refine Wp.getf (k := 9) (tg := 2) kC0 (by decide) rfl lf_X0_40 dX0_fire_28 (sK2 (h := h') sh') (sF2_9 (h := h') sh') ?_
        refine Wp.ild (j := 4) rfl dX0_fire_31 ?_
        refine Wp.iaload dX0_fire_33 (sK8 (h := h') sh') (by omega) (ilt (sL8 (h := h') sh') (by omega)) (congrFun e8 k) ?_
        refine Wp.ald_n (j := 0) rfl dX0_fire_34 ?_
        refine Wp.getf (k := 0) (tg := 0) kC0 (by decide) rfl lf_X0_9 dX0_fire_35 (sK2 (h := h') sh') e0 ?_
        refine Wp.iclt dX0_fire_38 (by decide) (tgt := 59) (fun c38 => ?_) (fun c38 => ?_)
        · refine inc_8_4 rfl dX0_fire_59 (by first | exact w32_of (by omega) (by omega) | rfl) ?_
          refine Wp.goto (tgt := 7) dX0_fire_62 (by decide) ?_
          have hnb : ¬ bt lined k := fun z => by
            obtain ⟨i, i0, i1, e⟩ := li.2.2.2.2.2.1 k k0 (by omega) z
            have := (li.2.2.2.1 i i0 i1).2.1
            omega
          have hxk := hx k k0 (by omega)
          first
          | (refine ih (k + 1) (last + 1) _ _ _ _ _ (by omega) (by omega) (by omega) t5 t6 ?_ ?_
             · exact fr.tr (Fr.e (by decide))
             · exact li.app hnb k0 (by omega) n1 (by omega) (by omega) (by omega) (by omega) (fun j j0 j1 hj => by
                 by_cases hjk : j = k
                 · exact Or.inr hjk
                 · exact Or.inl (li.2.2.1 j j0 (by omega) hj)) li.1.1)
          | exact ih (k + 1) last lined _ _ _ _ (by omega) (by omega) (by omega) t5 t6 fr ⟨li.1, li.2.1, fun j j0 j1 hj => by
              by_cases hjk : j = k
              · subst hjk
                omega
              · exact li.2.2.1 j j0 (by omega) hj, fun i i0 i1 => ⟨(li.2.2.2.1 i i0 i1).1, by have := (li.2.2.2.1 i i0 i1).2.1; omega, (li.2.2.2.1 i i0 i1).2.2⟩, li.2.2.2.2⟩
        · refine Wp.ald_n (j := 0) rfl dX0_fire_41 ?_
          refine Wp.getf (k := 10) (tg := 2) kC0 (by decide) rfl lf_X0_43 dX0_fire_42 (sK2 (h := h') sh') (sF2_10 (h := h') sh') ?_
          refine Wp.ild_n (j := 2) rfl dX0_fire_45 ?_
          refine Wp.ild (j := 4) rfl dX0_fire_46 ?_
          refine Wp.iastore dX0_fire_48 (sK9 (h := h') sh') (by omega) (ilt (sL9 (h := h') sh') (by omega)) ?_
          refine inc_8_2 rfl dX0_fire_49 (by first | exact w32_of (by omega) (by omega) | rfl) ?_
          refine Wp.ild_n (j := 3) rfl dX0_fire_52 ?_
          refine Wp.iconst dX0_fire_53 (by decide) ?_
          refine Wp.ild (j := 4) rfl dX0_fire_54 ?_
          refine Wp.ishl dX0_fire_56 ?_
          refine Wp.ior dX0_fire_57 ?_
          refine sti_8_3 rfl (dSt_n dX0_fire_58) ?_
          refine inc_8_4 rfl dX0_fire_59 (by first | exact w32_of (by omega) (by omega) | rfl) ?_
          refine Wp.goto (tgt := 7) dX0_fire_62 (by decide) ?_
          have hnb : ¬ bt lined k := fun z => by
            obtain ⟨i, i0, i1, e⟩ := li.2.2.2.2.2.1 k k0 (by omega) z
            have := (li.2.2.2.1 i i0 i1).2.1
            omega
          have hxk := hx k k0 (by omega)
          first
          | (refine ih (k + 1) (last + 1) _ _ _ _ _ (by omega) (by omega) (by omega) t5 t6 ?_ ?_
             · exact fr.tr (Fr.e (by decide))
             · exact li.app hnb k0 (by omega) n1 (by omega) (by omega) (by omega) (by omega) (fun j j0 j1 hj => by
                 by_cases hjk : j = k
                 · exact Or.inr hjk
                 · exact Or.inl (li.2.2.1 j j0 (by omega) hj)) li.1.1)
          | exact ih (k + 1) last lined _ _ _ _ (by omega) (by omega) (by omega) t5 t6 fr ⟨li.1, li.2.1, fun j j0 j1 hj => by
              by_cases hjk : j = k
              · subst hjk
                omega
              · exact li.2.2.1 j j0 (by omega) hj, fun i i0 i1 => ⟨(li.2.2.2.1 i i0 i1).1, by have := (li.2.2.2.1 i i0 i1).2.1; omega, (li.2.2.2.1 i i0 i1).2.2⟩, li.2.2.2.2⟩

theorem cq_fire12 (d : Nat) (h : mH) (sh : Sh h) (bi : BI h) (hx : ∀ j, 0 ≤ j → j < hF h 2 1 → 0 ≤ hA h 8 j ∧ hA h 8 j ≤ 10000 ∧ (hA h 3 j ≠ 2 → hA h 8 j < hF h 2 0)) : Cq m_X0_fire (d + 1) [(2, 2), (2, 12)] h (fun r t => r = none ∧ Fr [8, 9, 12] [] h t ∧ ∀ j, 0 ≤ j → j < hF h 2 1 → 0 ≤ hA t 8 j ∧ hA t 8 j < hF h 2 0) := by
  refine Cq.of ?_
  show Wp m_X0_fire ((d + 1)) 0 [(2, 2), (2, 12), (9, 0), (9, 0), (9, 0), (9, 0), (9, 0), (9, 0)] [] h _
  refine Wp.iconst dX0_fire_0 (by decide) ?_
  refine sti_8_2 rfl (dSt_n dX0_fire_1) ?_
  refine Wp.iconst dX0_fire_2 (by decide) ?_
  refine sti_8_3 rfl (dSt_n dX0_fire_3) ?_
  refine Wp.iconst dX0_fire_4 (by decide) ?_
  refine sti_8_4 rfl (dSt_w dX0_fire_5) ?_
  exact fire12_line d h sh bi hx _ 0 0 0 h _ _ _ (Nat.lt_succ_self _) (Int.le_refl _) bi.2.1.1 rfl rfl Fr.rf ⟨⟨Int.le_refl _, Int.le_refl _⟩, fun j j0 j1 => ⟨(hx j j0 j1).1, (hx j j0 j1).2.1⟩, fun j j0 j1 => by omega, fun i i0 i1 => by omega, fun i j i0 i1 => by omega, fun j j0 j1 z => absurd z (bt_0 j0 (by have := bi.2.1.2; omega)), fun i i0 i1 => by omega⟩

