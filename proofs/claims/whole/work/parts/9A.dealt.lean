/-! PURE: dealt, piles, rounds in the form of the others -/
theorem op_dealt' {A B : Bk} (h : R A B) (t : Int32) : ∃ v A' B', gX10_dealt t A = some (v, A') ∧ gX11_dealt t B = some (v, B') ∧ R A' B' := by
  obtain ⟨v, g1, g2⟩ := op_dealt t A B (R_B0 h)
  exact ⟨v, A, _, g1, g2, R_told h⟩
theorem op_piles' {A B : Bk} (h : R A B) (c x : Int32) : ∃ v A' B', gX10_piles c x A = some (v, A') ∧ gX11_piles c x B = some (v, B') ∧ R A' B' := by
  obtain ⟨v, g1, g2⟩ := op_piles c x A B (R_B0 h)
  exact ⟨v, A, _, g1, g2, R_told h⟩
theorem op_rounds' {A B : Bk} (h : R A B) (n r i : Int32) : ∃ v A' B', gX10_rounds n r i A = some (v, A') ∧ gX11_rounds n r i B = some (v, B') ∧ R A' B' := by
  obtain ⟨v, g1, g2⟩ := op_rounds n r i A B (R_B0 h)
  exact ⟨v, A, _, g1, g2, R_told h⟩
