theorem law_total (xs : Nat → Int32) (n : Nat) : o_law xs n 0 z0C 0 z0M = some () := by
  sorry
