theorem dm_e {y : Int64} {m d v : Int32} {a b : Int} (hy : y.toInt = a) (hm : m.toInt = b) (hv : v.toInt = ml a b) : m_X0_requireDayOfMonth y m d = if d ≤ v then 0 else 3 := by
  have e : m_X0_monthLength m (m_X0_isLeap y) = v := Int32.toInt_inj.mp (by rw [mo_F hy hm, hv])
  unfold m_X0_requireDayOfMonth
  rw [e]
theorem sm_of (p0 p1 p2 p3 : Int32) {z : CS} {w : MS} (h : sR z w) : sX (1, 2) (m_X0_of p0 p1 p2 p3 z) (o_X3_of p0 p1 p2 p3 w) := by
  unfold m_X0_of o_X3_of
  refine X_pl (fun hp => ?_) (fun hp => ?_)
  · by_cases hy : m_X3_isNoYear p1 = 0
    · by_cases hm : m_X3_isIn p2.toInt64 1 12 = 0
      · rw [ymd_m hy hm, if_neg nz2]
        exact T_ip hy (T_ip hm (fx_2 hp (by decide) (T_in one_ne (s_code h nz2 rfl))))
      · by_cases hd : m_X3_isIn p3.toInt64 1 31 = 0
        · rw [ymd_d hy hm hd, if_neg nz2]
          exact T_ip hy (T_in hm (T_ip hd (fx_2 hp (by decide) (T_in one_ne (s_code h nz2 rfl)))))
        · rw [ymd_0 hy hm hd, if_pos rfl]
          refine T_ip hy (T_in hm (T_in hd (T_lm hm (fun v hv => ?_))))
          rw [dm_e (ma_l (a := p1) rfl) (show p2.toInt = p2.toInt from rfl) hv]
          by_cases hl : p3 ≤ v
          · rw [if_pos hl, if_pos rfl]
            have hr := dR_mk hy hm hd hv hl
            refine T_ip hl (fx_0 hp rfl rfl (T_ip rfl ?_))
            exact s_give h hp (pk_of (d := (p1, p2, p3)) hr.1 (ma_l rfl) rfl rfl) hr rfl
          · rw [if_neg hl, if_neg nz3]
            exact T_in hl (fx_3 hp rfl one_ne (T_in one_ne (s_code h nz3 rfl)))
    · rw [ymd_2 hy, if_neg nz2]
      exact T_in hy (fx_2 hp (by decide) (T_in one_ne (s_code h nz2 rfl)))
  · refine T_i (fun _ => T_i (fun _ => fx_1 hp (T_in one_ne (s_code h nz1 rfl))) (fun hm => T_i (fun _ => fx_1 hp (T_in one_ne (s_code h nz1 rfl))) (fun _ => T_lm hm (fun v hv => T_i (fun _ => fx_1 hp (T_in one_ne (s_code h nz1 rfl))) (fun _ => fx_1 hp (T_in one_ne (s_code h nz1 rfl))))))) (fun _ => fx_1 hp (T_in one_ne (s_code h nz1 rfl)))
theorem sm_withDay (p0 p1 : Int32) {z : CS} {w : MS} (h : sR z w) : sX (1, 2) (m_X0_withDay p0 p1 z) (o_X3_withDay p0 p1 w) := by
  unfold m_X0_withDay o_X3_withDay
  refine X_at (fun hp => X_rw (A := 1) (B := 31) (by decide) (by decide) (fun hw => ?_) (fun hw => T_ip hw (fx_2 hp (by decide) (T_in one_ne (s_code h nz2 rfl))))) (fun hp => ?_)
  · obtain ⟨hD, hd⟩ := at_R h hp
    have hy := pk_yr hD hd.1
    have hm := pk_mo hD hd.1
    refine T_in hw (fx_0 hp rfl rfl (T_ip rfl (T_g6 hp (T_lo hd.1 (fun v hv => ?_)))))
    rw [dm_e hy (show (m_X0_monthIn (m_X0_dateAt p0 z).2).toInt = (w.2.1 p0.toNatClampNeg).2.1.toInt by rw [hm]) hv]
    by_cases hl : p1 ≤ v
    · have hr := dR_wd hd hw hv hl
      have hf : pkD (m_X0_dateOf (m_X0_yearIn (m_X0_dateAt p0 z).2) (m_X0_monthIn (m_X0_dateAt p0 z).2) p1) ((w.2.1 p0.toNatClampNeg).1, (w.2.1 p0.toNatClampNeg).2.1, p1) := pk_of (d := ((w.2.1 p0.toNatClampNeg).1, (w.2.1 p0.toNatClampNeg).2.1, p1)) hr.1 hy hm rfl
      rw [if_pos hl, if_pos rfl]
      refine T_ip hl (fx_0 rfl rfl rfl (T_ip rfl ?_))
      exact s_give h hp hf hr rfl
    · rw [if_neg hl, if_neg nz3]
      exact T_in hl (fx_3 rfl rfl one_ne (T_in one_ne (s_code h nz3 rfl)))
  · exact T_i (fun _ => fx_1 hp (T_in one_ne (s_code h nz1 rfl))) (fun _ => fx_1 hp (T_in one_ne (s_code h nz1 rfl)))
-- moves
theorem ul_E {D : Int64} {d : DT} (h : pkD D d) (hd : dV d) {u p : Int32} (hu : u = 0 ∨ u = 1 ∨ u = 2 ∨ u = 3 ∨ u = 4 ∨ u = 5 ∨ u = 6) {q : Int64} (hq : q.toInt = p.toInt) (hp : -200000 ≤ p.toInt ∧ p.toInt ≤ 200000) :
    (∃ e, o_X3_moved d u q = some (some e) ∧ dV e ∧ pkD (m_X0_unitsLater D u p) e) ∨ (o_X3_moved d u q = some none ∧ m_X0_requireDate (m_X0_unitsLater D u p) ≠ 0) := by
  have e0 : p.toInt64.toInt = p.toInt := ma_l rfl
  have key : ∀ (c : Int64) (k : Int), c.toInt = k → 1 ≤ k → k ≤ 12000 → (c * p.toInt64).toInt = k * p.toInt ∧ (c * q).toInt = k * p.toInt ∧ -2400000000 ≤ k * p.toInt ∧ k * p.toInt ≤ 2400000000 := fun c k hc h1 h2 => by
    have hm : -2400000000 ≤ k * p.toInt ∧ k * p.toInt ≤ 2400000000 := by
      generalize p.toInt = b at hp
      have k1 : (k * b).natAbs ≤ 12000 * 200000 := by
        rw [Int.natAbs_mul]; exact Nat.mul_le_mul (by omega) (by omega)
      omega
    exact ⟨ma_mul hc e0 (by omega) (by omega), ma_mul hc hq (by omega) (by omega), hm⟩
  rw [mv_F hu]
  unfold m_X0_unitsLater
  rcases hu with rfl | rfl | rfl | rfl | rfl | rfl | rfl
  · rw [if_pos rfl, if_pos rfl]
    have : q = p.toInt64 := Int64.toInt_inj.mp (by rw [hq, e0])
    rw [this]
    exact (pk_dl h hd e0 (by omega) (by omega)).imp id (fun g => ⟨g.1, g.2 (by omega) (by omega)⟩)
  · rw [if_neg (by decide), if_pos rfl, if_neg (by decide), if_pos rfl]
    have : q = p.toInt64 := Int64.toInt_inj.mp (by rw [hq, e0])
    rw [this]
    have k := key 7 7 rfl (by decide) (by decide)
    exact (pk_dl h hd k.1 (by omega) (by omega)).imp id (fun g => ⟨g.1, g.2 (by omega) (by omega)⟩)
  all_goals rw [if_neg (by decide), if_neg (by decide), if_neg (by decide), if_neg (by decide)]
  · rw [if_pos rfl]
    have k := key 1 1 rfl (by decide) (by decide)
    have : mvF 2 * q = p.toInt64 := Int64.toInt_inj.mp (by rw [show mvF 2 = 1 from rfl, k.2.1, e0]; omega)
    rw [this]
    exact (pk_ml h hd e0 (by omega) (by omega)).imp id (fun g => ⟨g.1, g.2 (by omega) (by omega)⟩)
  · rw [if_neg (by decide), if_pos rfl]
    have k := key 12 12 rfl (by decide) (by decide)
    have : mvF 3 * q = 12 * p.toInt64 := Int64.toInt_inj.mp (by rw [show mvF 3 = 12 from rfl, k.2.1, k.1])
    rw [this]
    exact (pk_ml h hd k.1 (by omega) (by omega)).imp id (fun g => ⟨g.1, g.2 (by omega) (by omega)⟩)
  · rw [if_neg (by decide), if_neg (by decide), if_pos rfl]
    have k := key 120 120 rfl (by decide) (by decide)
    have : mvF 4 * q = 120 * p.toInt64 := Int64.toInt_inj.mp (by rw [show mvF 4 = 120 from rfl, k.2.1, k.1])
    rw [this]
    exact (pk_ml h hd k.1 (by omega) (by omega)).imp id (fun g => ⟨g.1, g.2 (by omega) (by omega)⟩)
  · rw [if_neg (by decide), if_neg (by decide), if_neg (by decide), if_pos rfl]
    have k := key 1200 1200 rfl (by decide) (by decide)
    have : mvF 5 * q = 1200 * p.toInt64 := Int64.toInt_inj.mp (by rw [show mvF 5 = 1200 from rfl, k.2.1, k.1])
    rw [this]
    exact (pk_ml h hd k.1 (by omega) (by omega)).imp id (fun g => ⟨g.1, g.2 (by omega) (by omega)⟩)
  · rw [if_neg (by decide), if_neg (by decide), if_neg (by decide), if_neg (by decide)]
    have k := key 12000 12000 rfl (by decide) (by decide)
    have : mvF 6 * q = 12000 * p.toInt64 := Int64.toInt_inj.mp (by rw [show mvF 6 = 12000 from rfl, k.2.1, k.1])
    rw [this]
    exact (pk_ml h hd k.1 (by omega) (by omega)).imp id (fun g => ⟨g.1, g.2 (by omega) (by omega)⟩)
