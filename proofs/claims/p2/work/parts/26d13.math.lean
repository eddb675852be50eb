theorem dR_v {d : DT} (h : dR d) : dV d := h.1
theorem dR_y {d : DT} (h : dR d) : -9999 ≤ d.1.toInt ∧ d.1.toInt ≤ 9999 := h.2
theorem dR_i {d : DT} (h : dV d) (h2 : -9999 ≤ d.1.toInt ∧ d.1.toInt ≤ 9999) : dR d := ⟨h, h2⟩
theorem dV_m {d : DT} (h : dV d) : 1 ≤ d.2.1.toInt ∧ d.2.1.toInt ≤ 12 := ⟨h.1, h.2.1⟩
theorem dV_d {d : DT} (h : dV d) : 1 ≤ d.2.2.toInt := h.2.2.1
theorem i2_12 {m : Int32} (h : ¬ m_X3_isIn m.toInt64 1 12 = 0) : 1 ≤ m.toInt ∧ m.toInt ≤ 12 := i2_F h
theorem one_ne : ¬ (1 : Int32) = 0 := by decide
theorem i2_m {p : Int32} (h : ¬ m_X3_isIn p.toInt64 (-200000) 200000 = 0) : -200000 ≤ p.toInt ∧ p.toInt ≤ 200000 := by
  have := isin_F (ma_l (a := p) rfl) (show (-200000 : Int64).toInt = -200000 from rfl) (show (200000 : Int64).toInt = 200000 from rfl)
  exact Classical.byContradiction fun g => h (this.mpr g)
theorem rK_rc {kn : Int32} {z : MS} (h : rK kn z) (i : Nat) (hi : i < 6) : dR (z.2.1 i) := h.1 i hi
theorem u_c {u : Int32} (h : (u == 0 || u == 1 || u == 2 || u == 3 || u == 4 || u == 5 || u == 6) = true) : u = 0 ∨ u = 1 ∨ u = 2 ∨ u = 3 ∨ u = 4 ∨ u = 5 ∨ u = 6 := by
  simpa [or_assoc] using h
theorem dR_mk {y m d v : Int32} (h1 : m_X3_isNoYear y = 0) (h2 : ¬ m_X3_isIn m.toInt64 1 12 = 0) (h3 : ¬ m_X3_isIn d.toInt64 1 31 = 0) (hv : v.toInt = ml y.toInt m.toInt) (hl : d ≤ v) : dR (y, m, d) := by
  have a := ny_F h1
  have b : 1 ≤ m.toInt ∧ m.toInt ≤ 12 := i2_F h2
  have c : 1 ≤ d.toInt ∧ d.toInt ≤ 31 := i2_F h3
  have l := (ia_le rfl hv).mp hl
  exact ⟨⟨b.1, b.2, c.1, l, by show -300000 ≤ y.toInt; omega, by show y.toInt ≤ 300000; omega⟩, a⟩
theorem dR_wd {e : DT} {d v : Int32} (he : dR e) (h3 : ¬ m_X3_isIn d.toInt64 1 31 = 0) (hv : v.toInt = ml e.1.toInt e.2.1.toInt) (hl : d ≤ v) : dR (e.1, e.2.1, d) := by
  have c : 1 ≤ d.toInt ∧ d.toInt ≤ 31 := i2_F h3
  have l := (ia_le rfl hv).mp hl
  exact ⟨⟨he.1.1, he.1.2.1, c.1, l, he.1.2.2.2.2⟩, he.2⟩
theorem dR_fi {e : DT} (he : dR e) : dR (e.1, e.2.1, (1 : Int32)) := by
  have := ml_b e.1.toInt e.2.1.toInt
  exact ⟨⟨he.1.1, he.1.2.1, by show (1 : Int) ≤ 1; omega, by show (1 : Int) ≤ ml e.1.toInt e.2.1.toInt; omega, he.1.2.2.2.2⟩, he.2⟩
