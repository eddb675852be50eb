theorem X_b {k : Nat × Nat} {x : Nat × Int32 × CS} {y : Option (Int32 × MS)} (h : sX k x y) : sX k x (y.bind fun r => some (r.1, r.2)) := by
  obtain ⟨r, rfl, h1⟩ := h
  exact ⟨_, rfl, h1⟩
theorem mos_e {p : Int32} {z : CS} (hp : m_X3_isNoSpan p = 0) : m_X0_monthsOfSpan p z = (0, 12 * z.2.1 p.toNatClampNeg + z.2.2.1 p.toNatClampNeg) := by
  unfold m_X0_monthsOfSpan; rw [if_pos (sp_no.mpr hp)]
theorem sp_at {p : Int32} {z : CS} {w : MS} (h : sR z w) (hp : m_X3_isNoSpan p = 0) : (z.2.1 p.toNatClampNeg = sget w p.toNatClampNeg (0 : Int32).toNatClampNeg ∧ z.2.2.1 p.toNatClampNeg = sget w p.toNatClampNeg (1 : Int32).toNatClampNeg ∧ z.2.2.2.1 p.toNatClampNeg = sget w p.toNatClampNeg (2 : Int32).toNatClampNeg) ∧ spB (z.2.1 p.toNatClampNeg) ∧ spB (z.2.2.1 p.toNatClampNeg) ∧ spB (z.2.2.2.1 p.toNatClampNeg) := by
  have := ps_F.mp hp
  have e : p.toNatClampNeg = p.toInt.toNat := rfl
  exact h.2.1 _ (by omega)
theorem sm_plusSpan (p0 p1 : Int32) {z : CS} {w : MS} (h : sR z w) : sX (1, 3) (m_X0_plusSpan p0 p1 z) (o_X3_plusSpan p0 p1 w) := by
  unfold m_X0_plusSpan o_X3_plusSpan
  refine X_b (X_at (fun hp => X_sp (fun hs => ?_) (fun hs => ?_)) (fun hp => ?_))
  · obtain ⟨⟨k0, k1, k2⟩, b0, b1, b2⟩ := sp_at h hs
    rw [mos_e hs, if_pos rfl]
    unfold spB at b0 b1 b2
    have f1 := ia_add (ia_mul (show (12 : Int32).toInt = 12 from rfl) (b := z.2.1 p1.toNatClampNeg) rfl (by omega) (by omega)) (b := z.2.2.1 p1.toNatClampNeg) rfl (by omega) (by omega)
    have g1 := ma_add (ma_mul (show (12 : Int64).toInt = 12 from rfl) (ma_l (a := z.2.1 p1.toNatClampNeg) rfl) (by omega) (by omega)) (ma_l (a := z.2.2.1 p1.toNatClampNeg) rfl) (by omega) (by omega)
    refine sm_mbs p0 p1 1 h hp hs (x := 12 * (z.2.1 p1.toNatClampNeg).toInt + (z.2.2.1 p1.toNatClampNeg).toInt) (y := (z.2.2.2.1 p1.toNatClampNeg).toInt) (ma_l f1) (ma_l rfl) (by omega) (by omega) ?_ ?_
    · rw [← k0, ← k1, ma_mul (ma_l (a := (1 : Int32)) (show (1 : Int32).toInt = 1 from rfl)) g1 (by omega) (by omega)]; omega
    · rw [← k2, ma_mul (ma_l (a := (1 : Int32)) (show (1 : Int32).toInt = 1 from rfl)) (ma_l (a := z.2.2.2.1 p1.toNatClampNeg) rfl) (by omega) (by omega)]; omega
  · unfold o_X3_movesBySpan
    exact T_ip hp (T_in hs (fx_1 (by decide) (T_in one_ne (s_code h nz1 rfl))))
  · unfold o_X3_movesBySpan
    exact T_in hp (fx_1 (by decide) (T_in one_ne (s_code h nz1 rfl)))
theorem sm_minusSpan (p0 p1 : Int32) {z : CS} {w : MS} (h : sR z w) : sX (1, 3) (m_X0_minusSpan p0 p1 z) (o_X3_minusSpan p0 p1 w) := by
  unfold m_X0_minusSpan o_X3_minusSpan
  refine X_b (X_at (fun hp => X_sp (fun hs => ?_) (fun hs => ?_)) (fun hp => ?_))
  · obtain ⟨⟨k0, k1, k2⟩, b0, b1, b2⟩ := sp_at h hs
    rw [mos_e hs, if_pos rfl]
    unfold spB at b0 b1 b2
    have f1 := ia_add (ia_mul (show (12 : Int32).toInt = 12 from rfl) (b := z.2.1 p1.toNatClampNeg) rfl (by omega) (by omega)) (b := z.2.2.1 p1.toNatClampNeg) rfl (by omega) (by omega)
    have g1 := ma_add (ma_mul (show (12 : Int64).toInt = 12 from rfl) (ma_l (a := z.2.1 p1.toNatClampNeg) rfl) (by omega) (by omega)) (ma_l (a := z.2.2.1 p1.toNatClampNeg) rfl) (by omega) (by omega)
    refine sm_mbs p0 p1 (-1) h hp hs (x := -(12 * (z.2.1 p1.toNatClampNeg).toInt + (z.2.2.1 p1.toNatClampNeg).toInt)) (y := -(z.2.2.2.1 p1.toNatClampNeg).toInt) (ma_l (ia_neg f1 (by omega) (by omega))) (ma_l (ia_neg rfl (by omega) (by omega))) (by omega) (by omega) ?_ ?_
    · rw [← k0, ← k1, ma_mul (ma_l (a := ((-1) : Int32)) (show ((-1) : Int32).toInt = (-1) from rfl)) g1 (by omega) (by omega)]; omega
    · rw [← k2, ma_mul (ma_l (a := ((-1) : Int32)) (show ((-1) : Int32).toInt = (-1) from rfl)) (ma_l (a := z.2.2.2.1 p1.toNatClampNeg) rfl) (by omega) (by omega)]; omega
  · unfold o_X3_movesBySpan
    exact T_ip hp (T_in hs (fx_1 (by decide) (T_in one_ne (s_code h nz1 rfl))))
  · unfold o_X3_movesBySpan
    exact T_in hp (fx_1 (by decide) (T_in one_ne (s_code h nz1 rfl)))
