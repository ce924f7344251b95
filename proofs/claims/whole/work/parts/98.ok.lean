theorem law_ok : ∀ (xs : Nat → Int32) (j : Nat), ∃ (z : Nat) (r : LSt), lawF z xs j 0 (C00, M00, (0, 1)) = some r := by
  sorry
