theorem rw_iff {p a b : Int32} : m_X0_requireWithin p a b = 0 ↔ a.toInt ≤ p.toInt ∧ p.toInt ≤ b.toInt := by
  unfold m_X0_requireWithin
  have h1 : p < a ↔ p.toInt < a.toInt := Int32.lt_iff_toInt_lt
  have h2 : p ≤ b ↔ p.toInt ≤ b.toInt := Int32.le_iff_toInt_le
  split
  · rename_i g; rw [h1] at g
    exact ⟨fun h => absurd h (by decide), fun h => by omega⟩
  · rename_i g; rw [h1] at g
    split
    · rename_i g2; rw [h2] at g2
      exact ⟨fun h => by omega, fun h => rfl⟩
    · rename_i g2; rw [h2] at g2
      exact ⟨fun h => absurd h (by decide), fun h => by omega⟩
theorem ep_y : yOK (1008673 : Int64) := by rw [yOK_iff]; decide
theorem oc_copy (p0 p1 : Int32) (z : CS) (h : cIv z) : (m_X0_copy p0 p1 z).1 = 0 ∨ (m_X0_copy p0 p1 z).1 = 1 := by
  unfold m_X0_copy
  have h0 := pl_01 p0
  have h1 := at_01 p1 z
  have h2 : (m_X0_dateAt p1 z).1 = 0 → _ := fun hb => give_y (p := p0) (z := z) (at_y h hb)
  with_reducible repeat' split
  all_goals with_reducible (try dsimp only; first | omega | simp_all)
theorem iv_copy (p0 p1 : Int32) (z : CS) (h : cIv z) : cIv (m_X0_copy p0 p1 z).2.2 := by
  unfold m_X0_copy
  with_reducible repeat' split
  all_goals with_reducible first | exact h | exact give_iv h
theorem oc_epoch (p0 : Int32) (z : CS) (h : cIv z) : (m_X0_epoch p0 z).1 = 0 ∨ (m_X0_epoch p0 z).1 = 1 := by
  unfold m_X0_epoch
  have h1 := oc_toDay p0 z
  have h2 := give_y (p := p0) (z := z) ep_y
  with_reducible repeat' split
  all_goals with_reducible (try dsimp only; first | omega | simp_all)
theorem iv_epoch (p0 : Int32) (z : CS) (h : cIv z) : cIv (m_X0_epoch p0 z).2.2 := by
  unfold m_X0_epoch
  with_reducible repeat' split
  all_goals with_reducible first | exact h | exact give_iv h
theorem oc_swap (p0 p1 : Int32) (z : CS) (h : cIv z) : (m_X0_swap p0 p1 z).1 = 0 ∨ (m_X0_swap p0 p1 z).1 = 1 := by
  unfold m_X0_swap
  have h0 := at_01 p0 z
  have h1 := at_01 p1 z
  have h2 := put_01 p1 (m_X0_dateAt p0 z).2 z
  have h3 : (m_X0_dateAt p1 z).1 = 0 → _ := fun hb => give_y (p := p0) (z := (m_X0_put p1 ((m_X0_dateAt p0 z).2) z).2) (at_y h hb)
  with_reducible repeat' split
  all_goals with_reducible (try dsimp only; first | omega | simp_all)
theorem iv_swap (p0 p1 : Int32) (z : CS) (h : cIv z) : cIv (m_X0_swap p0 p1 z).2.2 := by
  unfold m_X0_swap
  have h3 : (m_X0_dateAt p0 z).1 = 0 → _ := fun hb => put_iv (p := p1) h (at_y h hb)
  with_reducible repeat' split
  all_goals with_reducible first | exact h | exact give_iv (h3 (by assumption)) | exact h3 (by assumption)
theorem ym {d : Int64} (h : yOK d) : ∃ a b c : Int, (m_X0_yearIn d).toInt = a ∧ (m_X0_monthIn d).toInt = b ∧ (m_X0_dayIn d).toInt = c ∧ (-9999 ≤ a ∧ a ≤ 9999) ∧ (0 ≤ b ∧ b ≤ 15) ∧ 0 ≤ c ∧ c ≤ 31 := by
  obtain ⟨b, hb⟩ := ma_monthIn d
  obtain ⟨c, hc⟩ := ma_dayIn d
  exact ⟨d.toInt / 512, b, c, ma_yearIn d, hb.1, hc.1, yOK_iff.mp h, hb.2, hc.2⟩
theorem oc_withYear (p0 p1 : Int32) (z : CS) (h : cIv z) : (m_X0_withYear p0 p1 z).1 = 0 ∨ (m_X0_withYear p0 p1 z).1 = 1 ∨ (m_X0_withYear p0 p1 z).1 = 2 := by
  unfold m_X0_withYear
  have h1 := at_01 p0 z
  have h0 := oc_requireWithin p1 (-9999) 9999
  have h2 : (m_X0_dateAt p0 z).1 = 0 → m_X0_requireWithin p1 (-9999) 9999 = 0 → _ := fun hb hw => give_y (p := p0) (z := z) (d := m_X0_fittedDate p1.toInt64 (m_X0_monthIn ((m_X0_dateAt p0 z).2)) (m_X0_dayIn ((m_X0_dateAt p0 z).2))) (by
    obtain ⟨a, b, c, e1, e2, e3, e4, e5, e6⟩ := ym (at_y h hb)
    exact yOK_fit (ma_l rfl) e2 e3 (rw_iff.mp hw) e5 e6)
  with_reducible repeat' split
  all_goals with_reducible (try dsimp only; first | omega | simp_all)
theorem iv_withYear (p0 p1 : Int32) (z : CS) (h : cIv z) : cIv (m_X0_withYear p0 p1 z).2.2 := by
  unfold m_X0_withYear
  with_reducible repeat' split
  all_goals with_reducible first | exact h | exact give_iv h
theorem oc_withMonth (p0 p1 : Int32) (z : CS) (h : cIv z) : (m_X0_withMonth p0 p1 z).1 = 0 ∨ (m_X0_withMonth p0 p1 z).1 = 1 ∨ (m_X0_withMonth p0 p1 z).1 = 2 := by
  unfold m_X0_withMonth
  have h1 := at_01 p0 z
  have h0 := oc_requireWithin p1 1 12
  have h2 : (m_X0_dateAt p0 z).1 = 0 → m_X0_requireWithin p1 1 12 = 0 → _ := fun hb hw => give_y (p := p0) (z := z) (d := m_X0_fittedDate (m_X0_yearIn ((m_X0_dateAt p0 z).2)) p1 (m_X0_dayIn ((m_X0_dateAt p0 z).2))) (by
    obtain ⟨a, b, c, e1, e2, e3, e4, e5, e6⟩ := ym (at_y h hb)
    have hw2 : 1 ≤ p1.toInt ∧ p1.toInt ≤ 12 := rw_iff.mp hw
    exact yOK_fit e1 rfl e3 e4 (by omega) e6)
  with_reducible repeat' split
  all_goals with_reducible (try dsimp only; first | omega | simp_all)
theorem iv_withMonth (p0 p1 : Int32) (z : CS) (h : cIv z) : cIv (m_X0_withMonth p0 p1 z).2.2 := by
  unfold m_X0_withMonth
  with_reducible repeat' split
  all_goals with_reducible first | exact h | exact give_iv h
theorem oc_toFirst (p0 : Int32) (z : CS) (h : cIv z) : (m_X0_toFirst p0 z).1 = 0 ∨ (m_X0_toFirst p0 z).1 = 1 := by
  unfold m_X0_toFirst
  have h1 := at_01 p0 z
  have h2 : (m_X0_dateAt p0 z).1 = 0 → _ := fun hb => give_y (p := p0) (z := z) (d := m_X0_dateOf (m_X0_yearIn ((m_X0_dateAt p0 z).2)) (m_X0_monthIn ((m_X0_dateAt p0 z).2)) (1 : Int32)) (by
    obtain ⟨a, b, c, e1, e2, e3, e4, e5, e6⟩ := ym (at_y h hb)
    exact yOK_of e1 e2 (show (1 : Int32).toInt = 1 from rfl) e4 e5 (by omega))
  with_reducible repeat' split
  all_goals with_reducible (try dsimp only; first | omega | simp_all)
theorem iv_toFirst (p0 : Int32) (z : CS) (h : cIv z) : cIv (m_X0_toFirst p0 z).2.2 := by
  unfold m_X0_toFirst
  with_reducible repeat' split
  all_goals with_reducible first | exact h | exact give_iv h
theorem oc_toLast (p0 : Int32) (z : CS) (h : cIv z) : (m_X0_toLast p0 z).1 = 0 ∨ (m_X0_toLast p0 z).1 = 1 := by
  unfold m_X0_toLast
  have h1 := at_01 p0 z
  have h2 : (m_X0_dateAt p0 z).1 = 0 → _ := fun hb => give_y (p := p0) (z := z) (d := m_X0_fittedDate (m_X0_yearIn ((m_X0_dateAt p0 z).2)) (m_X0_monthIn ((m_X0_dateAt p0 z).2)) (31 : Int32)) (by
    obtain ⟨a, b, c, e1, e2, e3, e4, e5, e6⟩ := ym (at_y h hb)
    exact yOK_fit e1 e2 (show (31 : Int32).toInt = 31 from rfl) e4 e5 (by omega))
  with_reducible repeat' split
  all_goals with_reducible (try dsimp only; first | omega | simp_all)
theorem iv_toLast (p0 : Int32) (z : CS) (h : cIv z) : cIv (m_X0_toLast p0 z).2.2 := by
  unfold m_X0_toLast
  with_reducible repeat' split
  all_goals with_reducible first | exact h | exact give_iv h
-- constant places
theorem at_c {c : Int32} (h : m_X0_requirePlace c = 0) (z : CS) : (m_X0_dateAt c z).1 = 0 := by
  unfold m_X0_dateAt; rw [if_pos h]
theorem pc0 : m_X0_requirePlace 0 = 0 := pl_iff.mpr (by decide)
theorem pc1 : m_X0_requirePlace 1 = 0 := pl_iff.mpr (by decide)
theorem pc2 : m_X0_requirePlace 2 = 0 := pl_iff.mpr (by decide)
theorem pc3 : m_X0_requirePlace 3 = 0 := pl_iff.mpr (by decide)
theorem pc4 : m_X0_requirePlace 4 = 0 := pl_iff.mpr (by decide)
theorem pc5 : m_X0_requirePlace 5 = 0 := pl_iff.mpr (by decide)
theorem td_c {c : Int32} (h : m_X0_requirePlace c = 0) (z : CS) : (m_X0_toDay c z).1 = 0 := by
  unfold m_X0_toDay; rw [if_pos (at_c h z)]
theorem oc_sumOfNumbers (z : CS) : (m_X0_sumOfNumbers z).1 = 0 := by
  unfold m_X0_sumOfNumbers
  rw [if_pos (td_c pc0 z), if_pos (td_c pc1 z), if_pos (td_c pc2 z), if_pos (td_c pc3 z), if_pos (td_c pc4 z), if_pos (td_c pc5 z)]
theorem oc_house (p0 : Int32) (z : CS) : (m_X0_house p0 z).1 = 0 ∨ (m_X0_house p0 z).1 = 2 := by
  unfold m_X0_house
  have h0 := oc_requireWithin p0 0 2
  have h1 := oc_sumOfNumbers z
  with_reducible repeat' split
  all_goals with_reducible (try dsimp only; first | omega | simp_all)
