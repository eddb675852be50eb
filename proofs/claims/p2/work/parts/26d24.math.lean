theorem pk_yd {p0 : Int64} {p1 : Int32} {a k : Int} (hy : p0.toInt = a) (hk : p1.toInt = k) (h1 : 1 ≤ k) (h2 : k ≤ yl a) {d : DT} (hd : dV d) (ha : d.1.toInt = a) (hn : dN d = nF a + k - 1) : pkD (m_X0_dateOfYearDay p0 p1) d := by
  subst ha
  obtain ⟨i, q1, q2, q3, q4⟩ := dd_F hy hk h1 h2
  have eY : dY d = k := by unfold dN at hn; omega
  have hmb := ml_b d.1.toInt d.2.1.toInt
  obtain ⟨g1, g2, g3, g4, g5, g6⟩ := id hd
  have r1 : db d.1.toInt (d.2.1.toInt.toNat - 1 + 1) = db d.1.toInt (d.2.1.toInt.toNat - 1) + ml d.1.toInt ((d.2.1.toInt.toNat - 1 : Nat) + 1 : Int) := rfl
  rw [show ((d.2.1.toInt.toNat - 1 : Nat) + 1 : Int) = d.2.1.toInt by omega] at r1
  have ei : i = d.2.1.toInt.toNat - 1 := db_uniq (y := d.1.toInt) (k := k) q2 q3 (by unfold dY at eY; omega) (by unfold dY at eY; omega)
  have e9 : k - db d.1.toInt (d.2.1.toInt.toNat - 1) = d.2.2.toInt := by unfold dY at eY; omega
  rw [q4]
  refine pk_of hd hy ?_ ?_
  · exact Int32.toInt_inj.mp (by rw [nI_t (by omega)]; omega)
  · rw [ei, e9]
    exact Int32.toInt_inj.mp (by rw [nI_t (by omega)]; omega)
theorem yd_E {p0 : Int64} {y p1 : Int32} (hy : p0.toInt = y.toInt) (hb : -9999 ≤ y.toInt ∧ y.toInt ≤ 9999) (h1 : 1 ≤ p1.toInt) (hl : p1.toInt ≤ yl y.toInt) : ∃ d, o_X3_ofYearAndDay y p1 = some d ∧ dR d ∧ pkD (m_X0_dateOfYearDay p0 p1) d := by
  have hs := nF_succ y.toInt
  obtain ⟨d, e, d1, d2, d3⟩ := od_F (p0 := y) (p1 := p1) rfl rfl h1 rfl (y := y.toInt) (by omega) (by omega) (by omega) (by omega) (by omega) (by omega) (by omega)
  exact ⟨d, e, ⟨d1, by rw [d3]; exact hb⟩, pk_yd hy rfl h1 hl d1 d3 d2⟩
-- the class's giveYearDay
theorem gy_2 {p0 : Int32} {p1 : Int64} {p2 : Int32} {z : CS} (hw : m_X3_isIn p2.toInt64 1 366 = 0) : m_X0_giveYearDay p0 p1 p2 z = (2, 0, z) := by
  have : ¬ m_X0_requireWithin p2 1 366 = 0 := fun g => (rw_is (A := 1) (B := 366) (by decide) (by decide)).mp g hw
  unfold m_X0_giveYearDay; rw [if_neg this, rw_c this]
theorem gy_3 {p0 : Int32} {p1 : Int64} {p2 : Int32} {z : CS} (hw : ¬ m_X3_isIn p2.toInt64 1 366 = 0) (hl : ¬ p2 ≤ m_X0_yearLength p1) : m_X0_giveYearDay p0 p1 p2 z = (3, 0, z) := by
  unfold m_X0_giveYearDay; rw [if_pos ((rw_is (A := 1) (B := 366) (by decide) (by decide)).mpr hw), if_neg hl]
theorem gy_0 {p0 : Int32} {p1 : Int64} {p2 : Int32} {z : CS} (hp : m_X3_isNo p0 = 0) (hw : ¬ m_X3_isIn p2.toInt64 1 366 = 0) (hl : p2 ≤ m_X0_yearLength p1) (hd : m_X0_requireDate (m_X0_dateOfYearDay p1 p2) = 0) : m_X0_giveYearDay p0 p1 p2 z = m_X0_give p0 (m_X0_dateOfYearDay p1 p2) z := by
  unfold m_X0_giveYearDay
  rw [if_pos ((rw_is (A := 1) (B := 366) (by decide) (by decide)).mpr hw), if_pos hl, give_e0 hp hd, if_pos rfl]
theorem sm_ofYearDay (p0 p1 p2 : Int32) {z : CS} {w : MS} (h : sR z w) : sX (1, 2) (m_X0_ofYearDay p0 p1 p2 z) (o_X3_ofYearDay p0 p1 p2 w) := by
  unfold m_X0_ofYearDay o_X3_ofYearDay
  have ey : (m_X0_yearLength p1.toInt64).toInt = yl p1.toInt := yl_F (ma_l rfl)
  have el : p2 ≤ m_X0_yearLength p1.toInt64 ↔ p2 ≤ m_X3_lengthOf p1 := by rw [ia_le rfl ey, ia_le rfl (lw_F rfl)]
  refine X_pl (fun hp => X_ny (fun hy => ?_) (fun hy => T_in hy (fx_2 hp (by decide) (T_in one_ne (s_code h nz2 rfl))))) (fun hp => ?_)
  · by_cases hw : m_X3_isIn p2.toInt64 1 366 = 0
    · rw [gy_2 hw, if_neg (show ¬ ((2 : Nat), (0 : Int32), z).1 = 0 from nz2)]
      exact T_ip hy (T_ip hw (fx_2 hp (by decide) (T_in one_ne (s_code h nz2 rfl))))
    · by_cases hl : p2 ≤ m_X3_lengthOf p1
      · have b := ny_F hy
        have hl2 := (ia_le rfl (lw_F (p := p1) rfl)).mp hl
        have h1 : 1 ≤ p2.toInt ∧ p2.toInt ≤ 366 := i2_F hw
        obtain ⟨d, e, d1, d2⟩ := yd_E (p0 := p1.toInt64) (y := p1) (ma_l rfl) b h1.1 hl2
        rw [gy_0 hp hw (el.mpr hl) ((pk_rq d2 d1.1).mpr d1.2)]
        refine T_ip hy (T_in hw (T_ip hl (fx_0 hp rfl rfl (T_ip rfl (T_b (Q := fun y => y = d) ⟨_, e, rfl⟩ (fun y hy => ?_))))))
        subst hy
        exact s_give h hp d2 d1 rfl
      · rw [gy_3 hw (fun g => hl (el.mp g)), if_neg (show ¬ ((3 : Nat), (0 : Int32), z).1 = 0 from nz3)]
        exact T_ip hy (T_in hw (T_in hl (fx_3 hp rfl one_ne (T_in one_ne (s_code h nz3 rfl)))))
  · refine T_i (fun _ => T_i (fun _ => fx_1 hp (T_in one_ne (s_code h nz1 rfl))) (fun _ => T_i (fun _ => fx_1 hp (T_in one_ne (s_code h nz1 rfl))) (fun _ => fx_1 hp (T_in one_ne (s_code h nz1 rfl))))) (fun _ => fx_1 hp (T_in one_ne (s_code h nz1 rfl)))
theorem sm_withDayOfYear (p0 p1 : Int32) {z : CS} {w : MS} (h : sR z w) : sX (1, 2) (m_X0_withDayOfYear p0 p1 z) (o_X3_withDayOfYear p0 p1 w) := by
  unfold m_X0_withDayOfYear o_X3_withDayOfYear
  refine X_at (fun hp => ?_) (fun hp => ?_)
  · obtain ⟨hD, hd⟩ := at_R h hp
    have hy := pk_yr hD hd.1
    have el : p1 ≤ m_X0_yearLength (m_X0_yearIn (m_X0_dateAt p0 z).2) ↔ p1 ≤ m_X3_lengthOf (w.2.1 p0.toNatClampNeg).1 := by rw [vv_ly hD hd.1]
    by_cases hw : m_X3_isIn p1.toInt64 1 366 = 0
    · rw [gy_2 hw, if_neg (show ¬ ((2 : Nat), (0 : Int32), z).1 = 0 from nz2)]
      exact T_ip hw (fx_2 hp (by decide) (T_in one_ne (s_code h nz2 rfl)))
    · by_cases hl : p1 ≤ m_X3_lengthOf (w.2.1 p0.toNatClampNeg).1
      · have hl2 := (ia_le rfl (lw_F (p := (w.2.1 p0.toNatClampNeg).1) rfl)).mp hl
        have h1 : 1 ≤ p1.toInt ∧ p1.toInt ≤ 366 := i2_F hw
        obtain ⟨d, e, d1, d2⟩ := yd_E hy hd.2 h1.1 hl2
        rw [gy_0 hp hw (el.mpr hl) ((pk_rq d2 d1.1).mpr d1.2)]
        refine T_in hw (fx_0 hp rfl rfl (T_ip rfl (T_g6 hp (T_ip hl (fx_0 rfl rfl rfl (T_ip rfl (T_b (Q := fun y => y = d) ⟨_, e, rfl⟩ (fun y hy => ?_))))))))
        subst hy
        exact s_give h hp d2 d1 rfl
      · rw [gy_3 hw (fun g => hl (el.mp g)), if_neg (show ¬ ((3 : Nat), (0 : Int32), z).1 = 0 from nz3)]
        exact T_in hw (fx_0 hp rfl rfl (T_ip rfl (T_g6 hp (T_in hl (fx_3 rfl rfl one_ne (T_in one_ne (s_code h nz3 rfl)))))))
  · exact T_i (fun _ => fx_1 hp (T_in one_ne (s_code h nz1 rfl))) (fun _ => fx_1 hp (T_in one_ne (s_code h nz1 rfl)))
