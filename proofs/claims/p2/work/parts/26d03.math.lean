theorem fill2m : ∀ k, k < 16 → o_X0_appendFilled (nI k) 10 5 = some ((), 7) := by decide +kernel
theorem fill2d : ∀ k, k < 32 → o_X0_appendFilled (nI k) 10 8 = some ((), 10) := by decide +kernel
theorem fill4a : ∀ k, k < 1000 → o_X0_appendFilled (nI k) 1000 0 = some ((), 4) := by decide +kernel
theorem digs2 : ∀ k, k < 32 → o_X3_digits (nI k) 2 = some 2 := by decide +kernel
theorem digs4a : ∀ k, k < 1000 → o_X3_digits (nI k) 4 = some 4 := by decide +kernel
theorem bf4_1 : ∀ k, k < 1000 → o_J4_append_bf812 (nI (k + 1000)) 0 = some ((), 4) := by decide +kernel
theorem bf4_2 : ∀ k, k < 1000 → o_J4_append_bf812 (nI (k + 2000)) 0 = some ((), 4) := by decide +kernel
theorem bf4_3 : ∀ k, k < 1000 → o_J4_append_bf812 (nI (k + 3000)) 0 = some ((), 4) := by decide +kernel
theorem bf4_4 : ∀ k, k < 1000 → o_J4_append_bf812 (nI (k + 4000)) 0 = some ((), 4) := by decide +kernel
theorem bf4_5 : ∀ k, k < 1000 → o_J4_append_bf812 (nI (k + 5000)) 0 = some ((), 4) := by decide +kernel
theorem bf4_6 : ∀ k, k < 1000 → o_J4_append_bf812 (nI (k + 6000)) 0 = some ((), 4) := by decide +kernel
theorem bf4_7 : ∀ k, k < 1000 → o_J4_append_bf812 (nI (k + 7000)) 0 = some ((), 4) := by decide +kernel
theorem bf4_8 : ∀ k, k < 1000 → o_J4_append_bf812 (nI (k + 8000)) 0 = some ((), 4) := by decide +kernel
theorem bf4_9 : ∀ k, k < 1000 → o_J4_append_bf812 (nI (k + 9000)) 0 = some ((), 4) := by decide +kernel
theorem bf4 {k : Nat} (h : 1000 ≤ k) (h2 : k < 10000) : o_J4_append_bf812 (nI k) 0 = some ((), 4) := by
  by_cases h3 : k < 2000
  · have e := bf4_1 (k - 1000) (by omega)
    rw [Nat.sub_add_cancel (by omega)] at e
    exact e
  by_cases h4 : k < 3000
  · have e := bf4_2 (k - 2000) (by omega)
    rw [Nat.sub_add_cancel (by omega)] at e
    exact e
  by_cases h5 : k < 4000
  · have e := bf4_3 (k - 3000) (by omega)
    rw [Nat.sub_add_cancel (by omega)] at e
    exact e
  by_cases h6 : k < 5000
  · have e := bf4_4 (k - 4000) (by omega)
    rw [Nat.sub_add_cancel (by omega)] at e
    exact e
  by_cases h7 : k < 6000
  · have e := bf4_5 (k - 5000) (by omega)
    rw [Nat.sub_add_cancel (by omega)] at e
    exact e
  by_cases h8 : k < 7000
  · have e := bf4_6 (k - 6000) (by omega)
    rw [Nat.sub_add_cancel (by omega)] at e
    exact e
  by_cases h9 : k < 8000
  · have e := bf4_7 (k - 7000) (by omega)
    rw [Nat.sub_add_cancel (by omega)] at e
    exact e
  by_cases h10 : k < 9000
  · have e := bf4_8 (k - 8000) (by omega)
    rw [Nat.sub_add_cancel (by omega)] at e
    exact e
  have e := bf4_9 (k - 9000) (by omega)
  rw [Nat.sub_add_cancel (by omega)] at e
  exact e
theorem fill4 {k : Nat} (h2 : k < 10000) : o_X0_appendFilled (nI k) 1000 0 = some ((), 4) := by
  by_cases h : k < 1000
  · exact fill4a k h
  · unfold o_X0_appendFilled
    have e := bf4 (k := k) (by omega) h2
    show (if (1000 : Int32) ≤ 1 then _ else (if (1000 : Int32) ≤ nI k then ((o_J4_append_bf812 (nI k) 0).bind fun x_2 => some ((), x_2.2)) else _)) = _
    rw [if_neg (by decide), if_pos (show (1000 : Int32) ≤ nI k from nI_le (a := 1000) (b := k) (by omega) (by omega)), e]
    rfl
theorem digs4 {k : Nat} (h2 : k < 10000) : o_X3_digits (nI k) 4 = some 4 := by
  by_cases h : k < 1000
  · exact digs4a k h
  · unfold o_X3_digits
    have e := bf4 (k := k) (by omega) h2
    have e0 : o_J4_append_15ec4 0 0 = some ((), 0) := by decide +kernel
    rw [e0]
    show (o_J4_append_bf812 (nI k) 0).bind _ = _
    rw [e]
    decide +kernel
