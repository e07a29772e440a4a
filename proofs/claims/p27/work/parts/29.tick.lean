theorem BI.fr {A : List Int} {G : List (Int × Nat)} {h h' : mH} (bi : BI h) (fr : Fr A G h h') (a4 : (4 : Int) ∉ A) (a7 : (7 : Int) ∉ A) (g0 : ((2 : Int), 0) ∉ G) (g1 : ((2 : Int), 1) ∉ G) (g8 : ((2 : Int), 8) ∉ G) : BI h' := by
  unfold BI
  rw [fr.2.2.2.2.1 2 0 g0, fr.2.2.2.2.1 2 1 g1, fr.2.2.2.2.1 2 8 g8, fr.2.2.2.2.2 4 a4, fr.2.2.2.2.2 7 a7]
  exact bi
theorem kor01 {x : Int} (hx : x = 0 ∨ x = 1) : kor x 1 = 1 ∧ kor x 0 = x := by
  rcases hx with rfl | rfl <;> decide +kernel
