-- values of the class and of the reference
theorem vv_ye {w : Int64} {d : DT} (h : pkD w d) (hd : dR d) : (m_X0_yearIn w).toInt32 = d.1 := by
  have b := hd.2
  exact Int32.toInt_inj.mp (ma_i (pk_yr h hd.1) (by omega) (by omega))
theorem vv_dy {w : Int64} {d : DT} {v : Int32} (h : pkD w d) (hd : dV d) (hv : v.toInt = dY d) : m_X0_dayInYear w = v := Int32.toInt_inj.mp (by rw [pk_dy h hd, hv])
theorem vv_lm {w : Int64} {d : DT} {v : Int32} (h : pkD w d) (hd : dV d) (hv : v.toInt = ml d.1.toInt d.2.1.toInt) : m_X0_monthLength (m_X0_monthIn w) (m_X0_isLeap (m_X0_yearIn w)) = v := by
  apply Int32.toInt_inj.mp
  rw [mo_F (pk_yr h hd) (show (m_X0_monthIn w).toInt = d.2.1.toInt by rw [pk_mo h hd]), hv]
theorem vv_ly {w : Int64} {d : DT} (h : pkD w d) (hd : dV d) : m_X0_yearLength (m_X0_yearIn w) = m_X3_lengthOf d.1 := Int32.toInt_inj.mp (by rw [yl_F (pk_yr h hd), lw_F rfl])
theorem vv_lp {w : Int64} {d : DT} (h : pkD w d) (hd : dV d) : m_X0_isLeap (m_X0_yearIn w) = m_X3_isLeap d.1 := by rw [lp_F (pk_yr h hd), lr_F rfl]
theorem vv_le {w : Int64} {d : DT} {v : Int32} (h : pkD w d) (hd : dV d) (hv : v.toInt = dY d) : m_X0_yearLength (m_X0_yearIn w) - m_X0_dayInYear w = m_X3_lengthOf d.1 - v := by rw [vv_ly h hd, vv_dy h hd hv]
theorem ia_fmod {p c : Int32} {x y : Int} (hp : p.toInt = x) (hc : c.toInt = y) (h0 : 1 < y) (h1 : -1000000000 ≤ x) (h2 : x ≤ 1000000000) (h3 : y ≤ 1000000) (h4 : 0 ≤ (p ^^^ c) ↔ 0 ≤ x) : (m_J9_floorMod_7cf53 p c).toInt = x % y := by
  have hr := ia_rem hp hc h0
  have hm1 := Int.emod_nonneg x (show y ≠ 0 by omega)
  have hm2 := Int.emod_lt_of_pos x (show 0 < y by omega)
  unfold m_J9_floorMod_7cf53
  by_cases hx : 0 ≤ x
  · rw [if_pos (h4.mpr hx), hr]
    exact Int.tmod_eq_emod_of_nonneg hx
  · rw [if_neg (fun h => hx (h4.mp h))]
    have h9 := Int.tmod_eq_emod (a := x) (b := y)
    by_cases hz : p - p / c * c = 0
    · rw [if_pos hz, hr]
      have := Int.dvd_of_emod_eq_zero ((ia_rem0 hp hc h0).mp hz)
      rw [Int.tmod_eq_zero_of_dvd this, (ia_rem0 hp hc h0).mp hz]
    · rw [if_neg hz]
      have hne : ¬ x % y = 0 := fun g => hz ((ia_rem0 hp hc h0).mpr g)
      have t1 : x.tmod y = x % y - y := by
        rw [h9, if_neg (fun g => g.elim hx (fun q => hne (Int.emod_eq_zero_of_dvd q)))]
        have : (y.natAbs : Int) = y := by omega
        rw [this]
      rw [ia_add hr hc (by omega) (by omega), t1]; omega
theorem ia_xor (p c : Int32) (hc : 0 ≤ c.toInt) : (0 ≤ p ^^^ c) ↔ 0 ≤ p.toInt := by
  have e : (p ^^^ c).toInt < 0 ↔ p.toInt < 0 := by
    show (p ^^^ c).toBitVec.toInt < 0 ↔ p.toBitVec.toInt < 0
    rw [Int32.toBitVec_xor]
    have h1 := BitVec.msb_eq_toInt (x := p.toBitVec ^^^ c.toBitVec)
    have h2 := BitVec.msb_eq_toInt (x := p.toBitVec)
    have h3 := BitVec.msb_eq_toInt (x := c.toBitVec)
    rw [BitVec.msb_xor, h2, h3] at h1
    have h4 : ¬ c.toBitVec.toInt < 0 := Int.not_lt.mpr hc
    rw [decide_eq_false h4, Bool.xor_false] at h1
    exact (decide_eq_decide.mp h1).symm
  rw [Int32.le_iff_toInt_le]
  show 0 ≤ (p ^^^ c).toInt ↔ _
  omega
theorem vv_dw {a : Int32} {p : Int64} {x : Int} (ha : a.toInt = x) (hp : p.toInt = x) (h1 : -900000000 ≤ x) (h2 : x ≤ 900000000) : m_X0_dayInWeek a = m_X3_weekDay p := by
  have e1 := ia_add ha (show (3 : Int32).toInt = 3 from rfl) (by omega) (by omega)
  have e2 := ia_fmod e1 (show (7 : Int32).toInt = 7 from rfl) (by decide) (by omega) (by omega) (by decide) (by rw [ia_xor _ _ (by decide), e1])
  have e3 := re_F (ma_add hp (show (3 : Int64).toInt = 3 from rfl) (by omega) (by omega)) (show (7 : Int64).toInt = 7 from rfl) (by decide) (by omega) (by omega) (by decide)
  have b1 := Int.emod_nonneg (x + 3) (show (7 : Int) ≠ 0 by decide)
  have b2 := Int.emod_lt_of_pos (x + 3) (show (0 : Int) < 7 by decide)
  apply Int32.toInt_inj.mp
  unfold m_X0_dayInWeek m_X3_weekDay
  rw [ia_add e2 (show (1 : Int32).toInt = 1 from rfl) (by omega) (by omega), ia_add (ma_i e3 (by omega) (by omega)) (show (1 : Int32).toInt = 1 from rfl) (by omega) (by omega)]
theorem dN_r {d : DT} (hd : dR d) : -4371587 ≤ dN d ∧ dN d ≤ 2932896 := by
  have b := dN_b hd.1
  have l := nF_lo; have u := nF_hi
  have b1 : nF (-9999) ≤ nF d.1.toInt := by
    by_cases e : d.1.toInt = -9999
    · rw [e]; exact Int.le_refl _
    · exact Int.le_of_lt (nF_lt (by have := hd.2; omega))
  have b2 : nF (d.1.toInt + 1) ≤ nF 10000 := by
    by_cases e : d.1.toInt + 1 = 10000
    · rw [e]; exact Int.le_refl _
    · exact Int.le_of_lt (nF_lt (by have := hd.2; omega))
  omega
theorem td_e {p : Int32} {z : CS} (hp : m_X3_isNo p = 0) : m_X0_toDay p z = (0, (m_X0_numberOf (m_X0_dateAt p z).2).toInt32) := by unfold m_X0_toDay; rw [if_pos (at_no.mpr hp)]
theorem td_1 {p : Int32} {z : CS} (hp : ¬ m_X3_isNo p = 0) : m_X0_toDay p z = (1, 0) := by unfold m_X0_toDay; rw [if_neg (fun g => hp (at_no.mp g)), at_c1 hp]
-- the methods that only tell
theorem sm_year (p0 : Int32) {z : CS} {w : MS} (h : sR z w) : sO (1, 2) z (m_X0_year p0 z) (o_X3_year p0 w) := by
  unfold m_X0_year o_X3_year
  refine O_at (fun hp => ?_) (fun hp => fx_1 hp (T_in one_ne (s_code h (by decide) rfl)))
  obtain ⟨hD, hd⟩ := at_R h hp
  exact fx_0 hp rfl rfl (T_ip rfl (T_g6 hp (s_val h (vv_ye hD hd))))
theorem sm_month (p0 : Int32) {z : CS} {w : MS} (h : sR z w) : sO (1, 2) z (m_X0_month p0 z) (o_X3_month p0 w) := by
  unfold m_X0_month o_X3_month
  refine O_at (fun hp => ?_) (fun hp => fx_1 hp (T_in one_ne (s_code h (by decide) rfl)))
  obtain ⟨hD, hd⟩ := at_R h hp
  exact fx_0 hp rfl rfl (T_ip rfl (T_g6 hp (s_val h (pk_mo hD hd.1))))
theorem sm_day (p0 : Int32) {z : CS} {w : MS} (h : sR z w) : sO (1, 2) z (m_X0_day p0 z) (o_X3_day p0 w) := by
  unfold m_X0_day o_X3_day
  refine O_at (fun hp => ?_) (fun hp => fx_1 hp (T_in one_ne (s_code h (by decide) rfl)))
  obtain ⟨hD, hd⟩ := at_R h hp
  exact fx_0 hp rfl rfl (T_ip rfl (T_g6 hp (s_val h (pk_da hD hd.1))))
theorem sm_dayOfYear (p0 : Int32) {z : CS} {w : MS} (h : sR z w) : sO (1, 2) z (m_X0_dayOfYear p0 z) (o_X3_dayOfYear p0 w) := by
  unfold m_X0_dayOfYear o_X3_dayOfYear
  refine O_at (fun hp => ?_) (fun hp => fx_1 hp (T_in one_ne (s_code h (by decide) rfl)))
  obtain ⟨hD, hd⟩ := at_R h hp
  exact fx_0 hp rfl rfl (T_ip rfl (T_g6 hp (v_iy hd.1 (fun v hv => s_val h (vv_dy hD hd.1 hv)))))
theorem sm_toDay (p0 : Int32) {z : CS} {w : MS} (h : sR z w) : sO (1, 2) z (m_X0_toDay p0 z) (o_X3_toDay p0 w) := by
  unfold m_X0_toDay o_X3_toDay
  refine O_at (fun hp => ?_) (fun hp => fx_1 hp (T_in one_ne (s_code h (by decide) rfl)))
  obtain ⟨hD, hd⟩ := at_R h hp
  exact fx_0 hp rfl rfl (T_ip rfl (T_g6 hp (v_nu hd.1 (fun v hv => s_val h (pk_nuI hD hd.1 hv)))))
theorem sm_lengthOfMonth (p0 : Int32) {z : CS} {w : MS} (h : sR z w) : sO (1, 2) z (m_X0_lengthOfMonth p0 z) (o_X3_lengthOfMonth p0 w) := by
  unfold m_X0_lengthOfMonth o_X3_lengthOfMonth
  refine O_at (fun hp => ?_) (fun hp => fx_1 hp (T_in one_ne (s_code h (by decide) rfl)))
  obtain ⟨hD, hd⟩ := at_R h hp
  exact fx_0 hp rfl rfl (T_ip rfl (T_g6 hp (T_g6 hp (T_lo hd.1 (fun v hv => s_val h (vv_lm hD hd.1 hv))))))
theorem sm_lengthOfYear (p0 : Int32) {z : CS} {w : MS} (h : sR z w) : sO (1, 2) z (m_X0_lengthOfYear p0 z) (o_X3_lengthOfYear p0 w) := by
  unfold m_X0_lengthOfYear o_X3_lengthOfYear
  refine O_at (fun hp => ?_) (fun hp => fx_1 hp (T_in one_ne (s_code h (by decide) rfl)))
  obtain ⟨hD, hd⟩ := at_R h hp
  have e := vv_ly hD hd.1
  refine fx_0 hp rfl rfl (T_ip rfl (T_g6 hp ?_))
  with_reducible exact s_val h e
theorem sm_daysToYearEnd (p0 : Int32) {z : CS} {w : MS} (h : sR z w) : sO (1, 2) z (m_X0_daysToYearEnd p0 z) (o_X3_daysToYearEnd p0 w) := by
  unfold m_X0_daysToYearEnd o_X3_daysToYearEnd
  refine O_at (fun hp => ?_) (fun hp => fx_1 hp (T_in one_ne (s_code h (by decide) rfl)))
  obtain ⟨hD, hd⟩ := at_R h hp
  exact fx_0 hp rfl rfl (T_ip rfl (T_g6 hp (T_g6 hp (v_iy hd.1 (fun v hv => s_val h (vv_le hD hd.1 hv))))))
theorem sm_isLeapYear (p0 : Int32) {z : CS} {w : MS} (h : sR z w) : sO (1, 2) z (m_X0_isLeapYear p0 z) (o_X3_isLeapYear p0 w) := by
  unfold m_X0_isLeapYear o_X3_isLeapYear
  refine O_at (fun hp => ?_) (fun hp => fx_1 hp (T_in one_ne (s_code h (by decide) rfl)))
  obtain ⟨hD, hd⟩ := at_R h hp
  have e := vv_lp hD hd.1
  refine fx_0 hp rfl rfl (T_ip rfl (T_g6 hp (T_i (fun g => s_val h (e.trans g)) (fun g => s_val h ?_))))
  rw [e]
  have e2 := lr_F (p := (w.2.1 p0.toNatClampNeg).1) rfl
  by_cases q : leap (w.2.1 p0.toNatClampNeg).1.toInt
  · rw [e2, if_pos q]
  · exact absurd ((lr_0 rfl).mpr q) g
theorem sm_dayOfWeek (p0 : Int32) {z : CS} {w : MS} (h : sR z w) : sO (1, 2) z (m_X0_dayOfWeek p0 z) (o_X3_dayOfWeek p0 w) := by
  unfold m_X0_dayOfWeek o_X3_dayOfWeek
  by_cases hp : m_X3_isNo p0 = 0
  · obtain ⟨hD, hd⟩ := at_R h hp
    have b := dN_r hd
    rw [td_e hp, if_pos rfl]
    refine fx_0 hp rfl rfl (T_ip rfl (T_g6 hp (v_nu hd.1 (fun v hv => s_val h ?_))))
    have hv2 : v.toInt = dN (w.2.1 p0.toNatClampNeg) := hv
    exact vv_dw (by rw [pk_nuI hD hd.1 hv2]; exact hv2) (ma_l hv2) (by omega) (by omega)
  · rw [td_1 hp, if_neg (by decide)]
    exact fx_1 hp (T_in one_ne (s_code h (by decide) rfl))
