theorem ho_e (x : Int32) : m_X0_requireSpanHolds x = if m_X3_isNumber x = 0 then 3 else 0 := by
  have e := isin_F (ma_l (a := x) rfl) (show (-100000 : Int64).toInt = -100000 from rfl) (show (100000 : Int64).toInt = 100000 from rfl)
  have e2 : m_X3_isNumber x = 0 ↔ ¬ (-100000 ≤ x.toInt ∧ x.toInt ≤ 100000) := e
  have l1 : x < -100000 ↔ x.toInt < -100000 := ia_lt rfl rfl
  have l2 : x ≤ 100000 ↔ x.toInt ≤ 100000 := ia_le rfl rfl
  unfold m_X0_requireSpanHolds
  by_cases g : m_X3_isNumber x = 0
  · rw [if_pos g]
    have q := e2.mp g
    by_cases k : x < -100000
    · rw [if_pos k]
    · have hk : ¬ x.toInt < -100000 := fun r => k (l1.mpr r)
      rw [if_neg k, if_neg (fun k2 => q ⟨by omega, l2.mp k2⟩)]
  · rw [if_neg g]
    have q : -100000 ≤ x.toInt ∧ x.toInt ≤ 100000 := Classical.byContradiction fun r => g (e2.mpr r)
    rw [if_neg (fun k => by have := l1.mp k; omega), if_pos (l2.mpr q.2)]
theorem nm_B {x : Int32} (g : ¬ m_X3_isNumber x = 0) : spB x := by
  have e := isin_F (ma_l (a := x) rfl) (show (-100000 : Int64).toInt = -100000 from rfl) (show (100000 : Int64).toInt = 100000 from rfl)
  exact Classical.byContradiction fun r => g (e.mpr r)
theorem sm_addSpan (p0 p1 : Int32) {z : CS} {w : MS} (h : sR z w) : sX (1, 3) (m_X0_addSpan p0 p1 z) (o_X3_addSpan p0 p1 w) := by
  unfold m_X0_addSpan o_X3_addSpan
  refine X_sp (fun hp => X_sp (fun hs => ?_) (fun hs => T_ip hp (T_in hs (fx_1 (by decide) (T_in one_ne (s_code h nz1 rfl)))))) (fun hp => T_in hp (fx_1 (by decide) (T_in one_ne (s_code h nz1 rfl))))
  obtain ⟨⟨k0, k1, k2⟩, _⟩ := sp_at (sR_t (t := 0) h) hp
  obtain ⟨⟨j0, j1, j2⟩, _⟩ := sp_at (sR_t (t := 0) h) hs
  rw [ho_e, ho_e, ho_e, k0, k1, k2, j0, j1, j2]
  refine T_ip hp (T_ip hs (fx_0 rfl rfl rfl (T_ip rfl (T_g2 hp (T_g2 hs ?_)))))
  have F : ∀ {b : Int32} {f : Int32 × MS → Option (Int32 × MS)}, ¬ b = 0 → T (sQ (1, 3) 3 0 z) ((o_X3_fails 0 b 0 ((0 : Int32), w.2)).bind fun x => if x.1 = 0 then f x else some ((0 : Int32), x.2)) := fun hb => fx_2 rfl hb (T_in one_ne (s_code h nz3 rfl))
  by_cases a0 : m_X3_isNumber (sget ((0 : Int32), w.2) p0.toNatClampNeg (0 : Int32).toNatClampNeg + sget ((0 : Int32), w.2) p1.toNatClampNeg (0 : Int32).toNatClampNeg) = 0
  · rw [if_pos a0, if_neg nz3]
    exact T_ip a0 (T_g2 hp (T_g2 hs (T_i (fun _ => T_g2 hp (T_g2 hs (T_i (fun _ => F (by decide)) (fun _ => F (by decide))))) (fun _ => T_g2 hp (T_g2 hs (T_i (fun _ => F (by decide)) (fun _ => F (by decide))))))))
  rw [if_neg a0, if_pos rfl]
  by_cases a1 : m_X3_isNumber (sget ((0 : Int32), w.2) p0.toNatClampNeg (1 : Int32).toNatClampNeg + sget ((0 : Int32), w.2) p1.toNatClampNeg (1 : Int32).toNatClampNeg) = 0
  · rw [if_pos a1, if_neg nz3]
    exact T_in a0 (T_g2 hp (T_g2 hs (T_ip a1 (T_g2 hp (T_g2 hs (T_i (fun _ => F (by decide)) (fun _ => F (by decide))))))))
  rw [if_neg a1, if_pos rfl]
  by_cases a2 : m_X3_isNumber (sget ((0 : Int32), w.2) p0.toNatClampNeg (2 : Int32).toNatClampNeg + sget ((0 : Int32), w.2) p1.toNatClampNeg (2 : Int32).toNatClampNeg) = 0
  · rw [if_pos a2, if_neg nz3]
    exact T_in a0 (T_g2 hp (T_g2 hs (T_in a1 (T_g2 hp (T_g2 hs (T_ip a2 (F (by decide))))))))
  rw [if_neg a2, if_pos rfl, gS_e hp, if_pos rfl]
  refine T_in a0 (T_g2 hp (T_g2 hs (T_in a1 (T_g2 hp (T_g2 hs (T_in a2 (fx_0 rfl (by decide) rfl (T_ip rfl ?_))))))))
  exact T_b (Q := fun x => x = (_, spw ((0 : Int32), w.2) p0 _ _ _)) ⟨_, tl_E hp, rfl⟩ (fun x hx => by subst hx; exact ⟨_, rfl, sR_sp (w := ((0 : Int32), w.2)) h hp (nm_B a0) (nm_B a1) (nm_B a2), rfl, fun _ => rfl⟩)
