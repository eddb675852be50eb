theorem kk_X3_init : pK yX3_init wsX3_init cX3_init 2 none 0 := ⟨⟨_, rfl⟩, by decide +kernel, by decide +kernel, by decide +kernel⟩
theorem c_X3_init (l : Launch) (k : Kx) (x : Nat) : Met l yX3_init wsX3_init { frames := 2, cells := 10, slots := 40, locals := 80 } (va_Pc [.ref x] (miPc k x)) (miQ k x) 10 40 (fun q => q = x) := by
  sorry
