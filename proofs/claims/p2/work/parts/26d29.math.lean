theorem dB_B {D E : Int64} {d e : DT} (hD : pkD D d) (hE : pkD E e) (hd : dR d) (he : dR e) : spB (m_X0_daysBehindMonths D E) := by
  obtain ⟨m, a2, b2⟩ := mo_R hd he
  have a3 := pd_mu hD hE hd he
  obtain ⟨⟨h1, h2, h3, h4, _, _⟩, h5, h6⟩ := id hd
  obtain ⟨⟨g1, g2, g3, g4, _, _⟩, g5, g6⟩ := id he
  have em : m_X0_monthsUpTo D E = m := Option.some.inj (a3.symm.trans a2)
  have hq : 0 ≤ (if d.2.2.toInt ≤ e.2.2.toInt then (0 : Int) else 1) ∧ (if d.2.2.toInt ≤ e.2.2.toInt then (0 : Int) else 1) ≤ 1 := by split <;> omega
  generalize (if d.2.2.toInt ≤ e.2.2.toInt then (0 : Int) else 1) = k at *
  unfold m_X0_daysBehindMonths
  rw [em]
  rcases la_F hd.1 (ma_l b2) (by omega) (by omega) with ⟨c, _⟩ | ⟨_, f, e2, f3, f4, _⟩
  · exact absurd ⟨by omega, by omega⟩ c
  · rcases pk_ml hD hd.1 (ma_l b2) (by omega) (by omega) with ⟨f', e1, f1, f2⟩ | ⟨e1, _⟩
    · have : f' = f := Option.some.inj (Option.some.inj (e1.symm.trans e2))
      subst this
      have hy : f'.1.toInt = e.1.toInt ∨ f'.1.toInt = e.1.toInt - 1 := by rw [f4]; omega
      have r1 := dN_b he.1
      have r2 := dN_b f1
      have s1 := nF_succ e.1.toInt
      have s2 := nF_succ (e.1.toInt - 1)
      have y1 := yl_b e.1.toInt
      have y2 := yl_b (e.1.toInt - 1)
      rw [show e.1.toInt - 1 + 1 = e.1.toInt by omega] at s2
      have hb : -1100 ≤ dN e - dN f' ∧ dN e - dN f' ≤ 1100 := by
        rcases hy with q | q
        · rw [q] at r2; omega
        · rw [q, show e.1.toInt - 1 + 1 = e.1.toInt by omega] at r2; omega
      have r3 := dN_r he
      unfold spB
      rw [ma_i (ma_sub (pk_nu hE he.1) (pk_nu f2 f1) (by omega) (by omega)) (by omega) (by omega)]
      omega
    · rw [e1] at e2; cases e2
theorem mu_B {D E : Int64} {d e : DT} (hD : pkD D d) (hE : pkD E e) (hd : dR d) (he : dR e) : spB (m_X0_monthsUpTo D E / 12) ∧ spB (m_X0_monthsUpTo D E - m_X0_monthsUpTo D E / 12 * 12) := by
  obtain ⟨m, a2, b2⟩ := mo_R hd he
  have a3 := pd_mu hD hE hd he
  obtain ⟨⟨h1, h2, h3, h4, _, _⟩, h5, h6⟩ := id hd
  obtain ⟨⟨g1, g2, g3, g4, _, _⟩, g5, g6⟩ := id he
  have em : m_X0_monthsUpTo D E = m := Option.some.inj (a3.symm.trans a2)
  have hq : 0 ≤ (if d.2.2.toInt ≤ e.2.2.toInt then (0 : Int) else 1) ∧ (if d.2.2.toInt ≤ e.2.2.toInt then (0 : Int) else 1) ≤ 1 := by split <;> omega
  generalize (if d.2.2.toInt ≤ e.2.2.toInt then (0 : Int) else 1) = k at *
  rw [em]
  unfold spB
  rw [ia_div b2 (show (12 : Int32).toInt = 12 from rfl) (by decide), ia_rem b2 (show (12 : Int32).toInt = 12 from rfl) (by decide)]
  have hx : -300000 ≤ 12 * (e.1.toInt - d.1.toInt) + e.2.1.toInt - d.2.1.toInt - k ∧ 12 * (e.1.toInt - d.1.toInt) + e.2.1.toInt - d.2.1.toInt - k ≤ 300000 := by omega
  generalize 12 * (e.1.toInt - d.1.toInt) + e.2.1.toInt - d.2.1.toInt - k = x at hx ⊢
  have e1 := Int.mul_tdiv_add_tmod x 12
  have t1 : (x.tmod 12).natAbs < 12 := by rw [Int.natAbs_tmod]; exact Nat.mod_lt _ (by decide)
  omega
theorem sm_until (p0 p1 p2 : Int32) {z : CS} {w : MS} (h : sR z w) : sX (1, 3) (m_X0_until p0 p1 p2 z) (o_X3_until p0 p1 p2 w) := by
  unfold m_X0_until o_X3_until
  refine X_sp (fun hs => X_at (fun hp => X_at (fun hq => ?_) (fun hq => T_ip hs (T_ip hp (T_in hq (fx_1 (by decide) (T_in one_ne (s_code h nz1 rfl))))))) (fun hp => T_ip hs (T_in hp (fx_1 (by decide) (T_in one_ne (s_code h nz1 rfl)))))) (fun hs => T_in hs (fx_1 (by decide) (T_in one_ne (s_code h nz1 rfl))))
  obtain ⟨hD, hd⟩ := at_R h hp
  obtain ⟨hE, he⟩ := at_R h hq
  have m := pd_mu hD hE hd he
  have dd := dO_E hD hE hd he
  have b1 := mu_B hD hE hd he
  have b2 := dB_B hD hE hd he
  rw [na_e hE hD he.1 hd.1]
  refine T_ip hs (T_ip hp (T_ip hq (fx_0 rfl rfl rfl (T_ip rfl (T_g6 hq (T_g6 hp (v_ah (fun g => ?_) (fun g => ?_))))))))
  · rw [if_pos g, if_neg nz3]
    exact fx_2 rfl one_ne (T_in one_ne (s_code h nz3 rfl))
  · rw [if_neg g, if_pos rfl, gS_e hs, if_pos rfl]
    refine fx_0 rfl rfl rfl (T_ip rfl (T_g6 hp (T_g6 hq (T_b (Q := fun v => v = m_X0_monthsUpTo (m_X0_dateAt p1 z).2 (m_X0_dateAt p2 z).2) ⟨_, m, rfl⟩ (fun v hv => ?_)))))
    subst hv
    refine T_g6 hp (T_g6 hq (T_b (Q := fun v => v = m_X0_daysBehindMonths (m_X0_dateAt p1 z).2 (m_X0_dateAt p2 z).2) ⟨_, dd, rfl⟩ (fun v hv => ?_)))
    subst hv
    exact T_b (Q := fun x => x = (_, spw ((0 : Int32), w.2) p0 _ _ _)) ⟨_, tl_E hs, rfl⟩ (fun x hx => by subst hx; exact ⟨_, rfl, sR_sp (w := ((0 : Int32), w.2)) h hs b1.1 b1.2 b2, rfl, fun _ => rfl⟩)
