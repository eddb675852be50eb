theorem sm_apart (p0 p1 p2 : Int32) {z : CS} {w : MS} (h : sR z w) : sO (1, 2) z (m_X0_apart p0 p1 p2 z) (o_X3_apart p0 p1 p2 w) := by
  unfold m_X0_apart o_X3_apart
  refine O_at (fun hp => O_at (fun hq => O_rw (A := 0) (B := 2) (by decide) (by decide) (fun hw => ?_) (fun hw => ?_)) (fun hq => ?_)) (fun hp => ?_)
  · obtain ⟨hD, hd⟩ := at_R h hp
    obtain ⟨hE, he⟩ := at_R h hq
    have m := pd_mu hD hE hd he
    have dd := dO_E hD hE hd he
    rw [na_e hE hD he.1 hd.1]
    refine T_ip hp (T_ip hq (T_in hw (fx_0 rfl rfl rfl (T_ip rfl (T_g6 hp (T_g6 hq (v_ah (fun g => ?_) (fun g => ?_))))))))
    · rw [if_pos g, if_neg (by decide)]
      exact fx_3 rfl rfl one_ne (T_in one_ne (s_code h (by decide) rfl))
    · rw [if_neg g, if_pos rfl]
      have hk : 0 ≤ p2.toInt ∧ p2.toInt ≤ 2 := i2_F hw
      have e1 := i32_eq (p := p2) rfl 0
      have e2 := i32_eq (p := p2) rfl 1
      have e3 := i32_eq (p := p2) rfl 2
      refine fx_0 rfl rfl rfl (T_ip rfl ?_)
      rcases (show p2 = 0 ∨ p2 = 1 ∨ p2 = 2 by rw [e1, e2, e3]; show p2.toInt = 0 ∨ p2.toInt = 1 ∨ p2.toInt = 2; omega) with rfl | rfl | rfl
      · rw [if_pos rfl]
        exact T_in (by decide) (T_in (by decide) (T_b (Q := fun v => m_X0_monthsUpTo (m_X0_dateAt p0 z).2 (m_X0_dateAt p1 z).2 = v) ⟨_, m, rfl⟩ (fun v hv => s_val h (by rw [hv]))))
      · rw [if_neg (by decide), if_pos rfl]
        exact T_in (by decide) (T_ip rfl (T_b (Q := fun v => m_X0_monthsUpTo (m_X0_dateAt p0 z).2 (m_X0_dateAt p1 z).2 = v) ⟨_, m, rfl⟩ (fun v hv => s_val h (by rw [hv]))))
      · rw [if_neg (by decide), if_neg (by decide)]
        exact T_ip rfl (T_b (Q := fun v => m_X0_daysBehindMonths (m_X0_dateAt p0 z).2 (m_X0_dateAt p1 z).2 = v) ⟨_, dd, rfl⟩ (fun v hv => s_val h hv))
  · exact T_ip hp (T_ip hq (T_ip hw (fx_2 rfl (by decide) (T_in one_ne (s_code h (by decide) rfl)))))
  · exact T_ip hp (T_in hq (T_i (fun _ => fx_1 (by decide) (T_in one_ne (s_code h (by decide) rfl))) (fun _ => fx_1 (by decide) (T_in one_ne (s_code h (by decide) rfl)))))
  · exact T_in hp (T_i (fun _ => fx_1 (by decide) (T_in one_ne (s_code h (by decide) rfl))) (fun _ => fx_1 (by decide) (T_in one_ne (s_code h (by decide) rfl))))
-- the year, month and day that are told
theorem ymd_2 {y m d : Int32} (hy : ¬ m_X3_isNoYear y = 0) : m_X0_requireYearMonthDay y m d = 2 := by
  have : ¬ m_X0_requireWithin y (-9999) 9999 = 0 := fun g => hy (ny_is.mp g)
  unfold m_X0_requireYearMonthDay; rw [if_neg this]; exact rw_c this
theorem ymd_m {y m d : Int32} (hy : m_X3_isNoYear y = 0) (hm : m_X3_isIn m.toInt64 1 12 = 0) : m_X0_requireYearMonthDay y m d = 2 := by
  have : ¬ m_X0_requireWithin m 1 12 = 0 := fun g => (rw_is (A := 1) (B := 12) (by decide) (by decide)).mp g hm
  unfold m_X0_requireYearMonthDay; rw [if_pos (ny_is.mpr hy), if_neg this]; exact rw_c this
theorem ymd_d {y m d : Int32} (hy : m_X3_isNoYear y = 0) (hm : ¬ m_X3_isIn m.toInt64 1 12 = 0) (hd : m_X3_isIn d.toInt64 1 31 = 0) : m_X0_requireYearMonthDay y m d = 2 := by
  have : ¬ m_X0_requireWithin d 1 31 = 0 := fun g => (rw_is (A := 1) (B := 31) (by decide) (by decide)).mp g hd
  unfold m_X0_requireYearMonthDay; rw [if_pos (ny_is.mpr hy), if_pos ((rw_is (A := 1) (B := 12) (by decide) (by decide)).mpr hm), if_neg this]; exact rw_c this
theorem ymd_0 {y m d : Int32} (hy : m_X3_isNoYear y = 0) (hm : ¬ m_X3_isIn m.toInt64 1 12 = 0) (hd : ¬ m_X3_isIn d.toInt64 1 31 = 0) : m_X0_requireYearMonthDay y m d = 0 := by
  unfold m_X0_requireYearMonthDay; rw [if_pos (ny_is.mpr hy), if_pos ((rw_is (A := 1) (B := 12) (by decide) (by decide)).mpr hm), if_pos ((rw_is (A := 1) (B := 31) (by decide) (by decide)).mpr hd)]
theorem sm_isDate (p0 p1 p2 : Int32) {z : CS} {w : MS} (h : sR z w) : sO (2, 2) z (m_X0_isDate p0 p1 p2 z) (o_X3_isDate_ p0 p1 p2 w) := by
  unfold m_X0_isDate o_X3_isDate_
  by_cases hy : m_X3_isNoYear p0 = 0
  · by_cases hm : m_X3_isIn p1.toInt64 1 12 = 0
    · rw [ymd_m hy hm, if_neg (by decide)]
      exact T_ip hy (T_ip hm (fx_1 (by decide) (T_in one_ne (s_code h (by decide) rfl))))
    · by_cases hd : m_X3_isIn p2.toInt64 1 31 = 0
      · rw [ymd_d hy hm hd, if_neg (by decide)]
        exact T_ip hy (T_in hm (T_ip hd (fx_1 (by decide) (T_in one_ne (s_code h (by decide) rfl)))))
      · rw [ymd_0 hy hm hd, if_pos rfl]
        have em := mo_F (y := p0.toInt64) (ma_l (a := p0) rfl) (show p1.toInt = p1.toInt from rfl)
        refine O_v (T_ip hy (T_in hm (T_in hd (fx_0 rfl rfl rfl (T_ip rfl (T_lm hm (fun v hv => ?_)))))))
        have q : m_X0_monthLength p1 (m_X0_isLeap p0.toInt64) = v := Int32.toInt_inj.mp (by rw [em, hv])
        rw [q]
        exact T_i (fun g => s_val h (if_pos g)) (fun g => s_val h (if_neg g))
  · rw [ymd_2 hy, if_neg (by decide)]
    exact T_in hy (fx_1 (by decide) (T_in one_ne (s_code h (by decide) rfl)))
theorem hn_E (p : Int32) {z : CS} {w : MS} (h : sR z w) {t : Int32} : o_X3_houseNow p (t, w.2) = some (if p = 0 then z.2.2.2.2.1 else if p = 1 then z.2.2.2.2.2 else (m_X0_sumOfNumbers z).2, (t, w.2)) := by
  have k : ∀ c : Int32, m_X3_isNo c = 0 → ∃ v, o_X2_number (w.2.1 c.toNatClampNeg) = some v ∧ (m_X0_toDay c z).2 = v := fun c hc => by
    obtain ⟨hD, hd⟩ := at_R h hc
    obtain ⟨v, e, ev⟩ := nu_F hd.1
    refine ⟨v, e, ?_⟩
    rw [td_e hc]; exact pk_nuI hD hd.1 ev
  obtain ⟨v0, a0, b0⟩ := k 0 (by decide)
  obtain ⟨v1, a1, b1⟩ := k 1 (by decide)
  obtain ⟨v2, a2, b2⟩ := k 2 (by decide)
  obtain ⟨v3, a3, b3⟩ := k 3 (by decide)
  obtain ⟨v4, a4, b4⟩ := k 4 (by decide)
  obtain ⟨v5, a5, b5⟩ := k 5 (by decide)
  have es : (m_X0_sumOfNumbers z).2 = ((((((0 : Int32) + v0) + v1) + v2) + v3) + v4) + v5 := by
    unfold m_X0_sumOfNumbers
    rw [if_pos (td_c pc0 z), if_pos (td_c pc1 z), if_pos (td_c pc2 z), if_pos (td_c pc3 z), if_pos (td_c pc4 z), if_pos (td_c pc5 z), b0, b1, b2, b3, b4, b5]
  unfold o_X3_houseNow
  refine bs a0 (bs a1 (bs a2 (bs a3 (bs a4 (bs a5 ?_)))))
  rw [es, h.2.2.1, h.2.2.2]
  by_cases g0 : p = 0
  · rw [if_pos g0, if_pos g0]
  · rw [if_neg g0, if_neg g0]
    by_cases g1 : p = 1
    · rw [if_pos g1, if_pos g1]
    · rw [if_neg g1, if_neg g1]
theorem sm_house (p0 : Int32) {z : CS} {w : MS} (h : sR z w) : sO (2, 2) z (m_X0_house p0 z) (o_X3_house p0 w) := by
  unfold m_X0_house o_X3_house
  refine O_rw (A := 0) (B := 2) (by decide) (by decide) (fun hw => ?_) (fun hw => T_ip hw (fx_1 (by decide) (T_in one_ne (s_code h (by decide) rfl))))
  have e := hn_E p0 (t := 0) h
  rw [if_pos (oc_sumOfNumbers z)]
  have o3 : (if p0 = 0 then ((0 : Nat), z.2.2.2.2.1) else if p0 = 1 then (0, z.2.2.2.2.2) else (0, (m_X0_sumOfNumbers z).2)) = (0, if p0 = 0 then z.2.2.2.2.1 else if p0 = 1 then z.2.2.2.2.2 else (m_X0_sumOfNumbers z).2) := by
    repeat' split
    all_goals rfl
  rw [o3]
  exact T_in hw (fx_0 rfl rfl rfl (T_ip rfl (T_b (Q := fun x => x = (if p0 = 0 then z.2.2.2.2.1 else if p0 = 1 then z.2.2.2.2.2 else (m_X0_sumOfNumbers z).2, ((0 : Int32), w.2))) ⟨_, e, rfl⟩ (fun x hx => by subst hx; exact s_val h rfl))))
