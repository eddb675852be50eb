theorem ma_i {a : Int64} {x : Int} (h : a.toInt = x) (h1 : -2147483648 ≤ x) (h2 : x < 2147483648) : a.toInt32.toInt = x := by
  rw [Int64.toInt_toInt32, h]
  apply Int.bmod_eq_of_le <;> omega
theorem nI_at {a : Int32} {x : Int} (h : a.toInt = x) (h1 : 0 ≤ x) : a = nI x.toNat := by
  have := Int32.toInt_lt a
  exact Int32.toInt_inj.mp (by rw [nI_toInt (by omega)]; omega)
theorem tx_X0 {p0 : Int32} {z : CS} (h : cIv z) (h0 : (m_X0_dateAt p0 z).1 = 0) : ∃ n, o_X0_text p0 z = some (0, n) := by
  have hy := at_y h h0
  unfold o_X0_text
  rw [if_pos h0]
  by_cases hp : 0 ≤ (m_X0_yearIn (m_X0_dateAt p0 z).2).toInt32
  · rw [if_pos hp]
    have e := ma_yearIn (m_X0_dateAt p0 z).2
    have hr := yOK_iff.mp hy
    have e2 := ma_i e (by omega) (by omega)
    have hp2 : 0 ≤ (m_X0_yearIn (m_X0_dateAt p0 z).2).toInt32.toInt := Int32.le_iff_toInt_le.mp hp
    rw [e2] at hp2
    have e3 := nI_at e2 hp2
    obtain ⟨b, hb, eb⟩ := pk_andE ((((m_X0_dateAt p0 z).2) >>> ((5 : Int32).toInt64 &&& 63)).toInt32) (m := 15) 4 (by decide)
    obtain ⟨c, hc, ec⟩ := pk_andE (((m_X0_dateAt p0 z).2)).toInt32 (m := 31) 5 (by decide)
    have eb2 : m_X0_monthIn (m_X0_dateAt p0 z).2 = nI b := eb
    have ec2 : m_X0_dayIn (m_X0_dateAt p0 z).2 = nI c := ec
    have a1 : o_J4_append_cf468 45 4 = some ((), 5) := by decide +kernel
    have a2 : o_J4_append_cf468 45 7 = some ((), 8) := by decide +kernel
    rw [e3, eb2, ec2, fill4 (by omega)]
    simp only [Option.bind_some, a1, fill2m b (by omega), a2, fill2d c (by omega)]
    exact ⟨10, rfl⟩
  · rw [if_neg hp]; exact ⟨1, rfl⟩
theorem tx_any {p0 : Int32} {z : CS} (h : cIv z) : ∃ r n, o_X0_text p0 z = some (r, n) ∧ (r = 0 ∨ r = 1) := by
  by_cases h0 : (m_X0_dateAt p0 z).1 = 0
  · obtain ⟨n, hn⟩ := tx_X0 h h0
    exact ⟨0, n, hn, Or.inl rfl⟩
  · refine ⟨(m_X0_dateAt p0 z).1, 0, ?_, at_01 p0 z⟩
    unfold o_X0_text
    rw [if_neg h0]
theorem q_td {c : Int32} {z : CS} (h : (m_X0_dateAt c z).1 = 0) : (m_X0_toDay c z).1 = 0 := by unfold m_X0_toDay; rw [if_pos h]
theorem q_ye {c : Int32} {z : CS} (h : (m_X0_dateAt c z).1 = 0) : (m_X0_year c z).1 = 0 := by unfold m_X0_year; rw [if_pos h]
theorem q_mo {c : Int32} {z : CS} (h : (m_X0_dateAt c z).1 = 0) : (m_X0_month c z).1 = 0 := by unfold m_X0_month; rw [if_pos h]
theorem q_da {c : Int32} {z : CS} (h : (m_X0_dateAt c z).1 = 0) : (m_X0_day c z).1 = 0 := by unfold m_X0_day; rw [if_pos h]
theorem q_dy {c : Int32} {z : CS} (h : (m_X0_dateAt c z).1 = 0) : (m_X0_dayOfYear c z).1 = 0 := by unfold m_X0_dayOfYear; rw [if_pos h]
theorem q_dw {c : Int32} {z : CS} (h : (m_X0_dateAt c z).1 = 0) : (m_X0_dayOfWeek c z).1 = 0 := by unfold m_X0_dayOfWeek; rw [if_pos (q_td h)]
theorem q_lm {c : Int32} {z : CS} (h : (m_X0_dateAt c z).1 = 0) : (m_X0_lengthOfMonth c z).1 = 0 := by unfold m_X0_lengthOfMonth; rw [if_pos h]
theorem q_ly {c : Int32} {z : CS} (h : (m_X0_dateAt c z).1 = 0) : (m_X0_lengthOfYear c z).1 = 0 := by unfold m_X0_lengthOfYear; rw [if_pos h]
theorem q_lp {c : Int32} {z : CS} (h : (m_X0_dateAt c z).1 = 0) : (m_X0_isLeapYear c z).1 = 0 := by unfold m_X0_isLeapYear; rw [if_pos h]
theorem q_fi {c i : Int32} {z : CS} (h : (m_X0_dateAt c z).1 = 0) (hi : m_X0_requireWithin i 0 5 = 0) : (m_X0_field c i z).1 = 0 := by
  unfold m_X0_field; rw [if_pos h, if_pos hi]; repeat' split
  all_goals rfl
theorem q_co {c i : Int32} {z : CS} (h : (m_X0_dateAt c z).1 = 0) (hi : (m_X0_dateAt i z).1 = 0) : (m_X0_compare c i z).1 = 0 := by unfold m_X0_compare; rw [if_pos h, if_pos hi]
theorem q_be {c i u : Int32} {z : CS} (h : (m_X0_dateAt c z).1 = 0) (hi : (m_X0_dateAt i z).1 = 0) (hu : m_X0_requireUnit u = 0) : (m_X0_between c i u z).1 = 0 := by
  unfold m_X0_between; rw [if_pos h, if_pos hi, if_pos hu]; repeat' split
  all_goals rfl
theorem q_os {c i : Int32} {z : CS} (h : m_X0_requireSpan c = 0) (hi : m_X0_requireWithin i 0 2 = 0) : (m_X0_ofSpan c i z).1 = 0 := by
  unfold m_X0_ofSpan; rw [if_pos h, if_pos hi]; repeat' split
  all_goals rfl
theorem q_dp {v : Int64} {c i : Int32} {z : CS} (h : (m_X0_dateAt c z).1 = 0) (hi : (m_X0_dateAt i z).1 = 0) : (m_X0_digestPair v c i z).1 = 0 := by
  unfold m_X0_digestPair
  have hu : ∀ u : Int32, 0 ≤ u.toInt → u.toInt ≤ 6 → m_X0_requireUnit u = 0 := fun u a b => by
    have : m_X0_requireWithin u 0 6 = 0 := rw_iff.mpr ⟨a, b⟩
    unfold m_X0_requireUnit; rw [if_pos this]
  rw [if_pos (q_co h hi), if_pos (q_be h hi (hu 0 (by decide) (by decide))), if_pos (q_be h hi (hu 1 (by decide) (by decide))), if_pos (q_be h hi (hu 2 (by decide) (by decide))), if_pos (q_be h hi (hu 3 (by decide) (by decide))), if_pos (q_be h hi (hu 4 (by decide) (by decide))), if_pos (q_be h hi (hu 5 (by decide) (by decide))), if_pos (q_be h hi (hu 6 (by decide) (by decide)))]
theorem q_dg {v : Int64} {c : Int32} {z : CS} (hz : cIv z) (h : (m_X0_dateAt c z).1 = 0) : ∃ w, o_X0_digestPlace v c z = some (0, w) := by
  obtain ⟨n, hn⟩ := tx_X0 hz h
  have hf : ∀ i : Int32, 0 ≤ i.toInt → i.toInt ≤ 5 → (m_X0_field c i z).1 = 0 := fun i a b => q_fi h (rw_iff.mpr ⟨a, b⟩)
  unfold o_X0_digestPlace
  rw [if_pos (q_td h), if_pos (q_ye h), if_pos (q_mo h), if_pos (q_da h), if_pos (q_dy h), if_pos (q_dw h), if_pos (q_lm h), if_pos (q_ly h), if_pos (q_lp h)]
  split <;>
  · rw [if_pos (hf 0 (by decide) (by decide)), if_pos (hf 1 (by decide) (by decide)), if_pos (hf 2 (by decide) (by decide)), if_pos (hf 3 (by decide) (by decide)), if_pos (hf 4 (by decide) (by decide)), if_pos (hf 5 (by decide) (by decide)), hn]
    exact ⟨_, rfl⟩
