theorem sm_mbs (p0 p1 c : Int32) {z : CS} {w : MS} (h : sR z w) (hp : m_X3_isNo p0 = 0) (hs : m_X3_isNoSpan p1 = 0) {M N : Int64} {x y : Int} (hM : M.toInt = x) (hN : N.toInt = y) (hx : -1300000 ≤ x ∧ x ≤ 1300000) (hy : -100000 ≤ y ∧ y ≤ 100000)
    (q1 : (c.toInt64 * (((12 : Int64) * ((sget w p1.toNatClampNeg (0 : Int32).toNatClampNeg).toInt64)) + ((sget w p1.toNatClampNeg (1 : Int32).toNatClampNeg).toInt64))).toInt = x) (q2 : (c.toInt64 * ((sget w p1.toNatClampNeg (2 : Int32).toNatClampNeg).toInt64)).toInt = y) :
    sX (1, 3) (if (m_X0_give p0 (m_X0_daysLater (m_X0_monthsLater (m_X0_dateAt p0 z).2 M) N) z).1 = 0 then (0, (m_X0_give p0 (m_X0_daysLater (m_X0_monthsLater (m_X0_dateAt p0 z).2 M) N) z).2.1, (m_X0_give p0 (m_X0_daysLater (m_X0_monthsLater (m_X0_dateAt p0 z).2 M) N) z).2.2) else ((m_X0_give p0 (m_X0_daysLater (m_X0_monthsLater (m_X0_dateAt p0 z).2 M) N) z).1, 0, (m_X0_give p0 (m_X0_daysLater (m_X0_monthsLater (m_X0_dateAt p0 z).2 M) N) z).2.2)) (o_X3_movesBySpan p0 p1 c w) := by
  obtain ⟨hD, hd⟩ := at_R h hp
  have eM : M = c.toInt64 * (((12 : Int64) * ((sget w p1.toNatClampNeg (0 : Int32).toNatClampNeg).toInt64)) + ((sget w p1.toNatClampNeg (1 : Int32).toNatClampNeg).toInt64)) := Int64.toInt_inj.mp (by rw [hM, q1])
  have eN : N = c.toInt64 * ((sget w p1.toNatClampNeg (2 : Int32).toNatClampNeg).toInt64) := Int64.toInt_inj.mp (by rw [hN, q2])
  rw [← eM] at q1
  rw [← eN] at q2
  have hm := pk_ml hD hd.1 hM (by omega) (by omega)
  have hl := la_F hd.1 hM (by omega) (by omega)
  unfold o_X3_movesBySpan
  refine T_ip hp (T_ip hs (fx_0 rfl rfl rfl (T_ip rfl (T_g2 hs (T_g6 hp ?_)))))
  obtain ⟨e, e1, e2, e3⟩ : ∃ e, o_X3_later (w.2.1 p0.toNatClampNeg) M = some (some e) ∧ dV e ∧ pkD (m_X0_monthsLater (m_X0_dateAt p0 z).2 M) e := by
    rcases hm with g | ⟨g, _⟩
    · exact g
    · obtain ⟨⟨v1, v2, v3, v4, v5, v6⟩, v7, v8⟩ := hd
      rcases hl with ⟨k, _⟩ | ⟨_, f, k, _⟩
      · exact absurd ⟨by omega, by omega⟩ k
      · rw [g] at k; cases k
  refine T_b (Q := fun r => r = some e) ⟨some e, by rw [← e1, eM]; rfl, rfl⟩ (fun r hr => ?_)
  subst hr
  refine T_es ?_
  rcases pk_dl e3 e2 hN (by omega) (by omega) with ⟨f, f1, f2, f3⟩ | ⟨f1, f2⟩
  · refine T_b (Q := fun r => r = some f) ⟨some f, by rw [← f1, eN]; rfl, rfl⟩ (fun r hr => ?_)
    subst hr
    refine T_es (v_id (fun g => ?_) (fun g => ?_))
    · rw [give_e0 hp ((pk_rq f3 f2).mpr g), if_pos rfl]
      refine T_in one_ne (fx_0 rfl rfl rfl (T_ip rfl ?_))
      obtain ⟨v, a1, a2⟩ := gives_e (w := ((0 : Int32), w.2)) (d := f) hp f2
      exact T_b (Q := fun r => r = (v, _)) ⟨_, a2, rfl⟩ (fun r hr => by subst hr; exact ⟨_, rfl, sR_put (w := ((0 : Int32), w.2)) h f3 ⟨f2, g⟩, rfl, fun _ => pk_nuI f3 f2 a1⟩)
    · rw [gT_3 (fun k => g ((pk_rq f3 f2).mp k))]
      exact T_ip rfl (fx_2 rfl one_ne (T_in one_ne (s_code h nz3 rfl)))
  · rw [gT_3 (f2 (by omega) (by omega))]
    refine T_b (Q := fun r => r = none) ⟨none, by rw [← f1, eN]; rfl, rfl⟩ (fun r hr => ?_)
    subst hr
    exact T_en (T_dn (T_ip rfl (fx_2 rfl one_ne (T_in one_ne (s_code h nz3 rfl)))))
