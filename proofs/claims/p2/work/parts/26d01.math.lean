theorem civ_e {z w : CS} (h : cIv z) (e : w.1 = z.1) : cIv w := by unfold cIv; rw [e]; exact h
theorem oc_requireWithin (p0 : Int32) (p1 : Int32) (p2 : Int32) : m_X0_requireWithin p0 p1 p2 = 0 ∨ m_X0_requireWithin p0 p1 p2 = 2 := by
  unfold m_X0_requireWithin
  with_reducible repeat' split
  all_goals with_reducible (first | omega | simp_all)
theorem oc_requireYearMonthDay (p0 : Int32) (p1 : Int32) (p2 : Int32) : m_X0_requireYearMonthDay p0 p1 p2 = 0 ∨ m_X0_requireYearMonthDay p0 p1 p2 = 2 := by
  unfold m_X0_requireYearMonthDay
  have h0 := oc_requireWithin p0 (-9999 : Int32) (9999 : Int32)
  have h1 := oc_requireWithin p1 (1 : Int32) (12 : Int32)
  have h2 := oc_requireWithin p2 (1 : Int32) (31 : Int32)
  with_reducible repeat' split
  all_goals with_reducible (first | omega | simp_all)
theorem oc_requireDayOfMonth (p0 : Int64) (p1 : Int32) (p2 : Int32) : m_X0_requireDayOfMonth p0 p1 p2 = 0 ∨ m_X0_requireDayOfMonth p0 p1 p2 = 3 := by
  unfold m_X0_requireDayOfMonth
  with_reducible repeat' split
  all_goals with_reducible (first | omega | simp_all)
theorem oc_of (p0 : Int32) (p1 : Int32) (p2 : Int32) (p3 : Int32) (z : CS) : (m_X0_of p0 p1 p2 p3 z).1 = 0 ∨ (m_X0_of p0 p1 p2 p3 z).1 = 1 ∨ (m_X0_of p0 p1 p2 p3 z).1 = 2 ∨ (m_X0_of p0 p1 p2 p3 z).1 = 3 := by
  unfold m_X0_of
  have h0 := pl_01 p0
  have h1 := oc_requireYearMonthDay p1 p2 p3
  have h2 := oc_requireDayOfMonth p1.toInt64 p2 p3
  have h3 := give_o p0 (m_X0_dateOf p1.toInt64 p2 p3) z
  with_reducible repeat' split
  all_goals with_reducible (try dsimp only; first | omega | simp_all)
theorem iv_of (p0 : Int32) (p1 : Int32) (p2 : Int32) (p3 : Int32) (z : CS) (h : cIv z) : cIv (m_X0_of p0 p1 p2 p3 z).2.2 := by
  unfold m_X0_of
  with_reducible repeat' split
  all_goals with_reducible first | exact h | exact give_iv h | exact civ_e h rfl | fail
theorem oc_giveYearDay (p0 : Int32) (p1 : Int64) (p2 : Int32) (z : CS) : (m_X0_giveYearDay p0 p1 p2 z).1 = 0 ∨ (m_X0_giveYearDay p0 p1 p2 z).1 = 1 ∨ (m_X0_giveYearDay p0 p1 p2 z).1 = 2 ∨ (m_X0_giveYearDay p0 p1 p2 z).1 = 3 := by
  unfold m_X0_giveYearDay
  have h0 := oc_requireWithin p2 (1 : Int32) (366 : Int32)
  have h1 := give_o p0 (m_X0_dateOfYearDay p1 p2) z
  with_reducible repeat' split
  all_goals with_reducible (try dsimp only; first | omega | simp_all)
theorem iv_giveYearDay (p0 : Int32) (p1 : Int64) (p2 : Int32) (z : CS) (h : cIv z) : cIv (m_X0_giveYearDay p0 p1 p2 z).2.2 := by
  unfold m_X0_giveYearDay
  with_reducible repeat' split
  all_goals with_reducible first | exact h | exact give_iv h | exact civ_e h rfl | exact iv_of _ _ _ _ _ h | fail
theorem oc_ofYearDay (p0 : Int32) (p1 : Int32) (p2 : Int32) (z : CS) : (m_X0_ofYearDay p0 p1 p2 z).1 = 0 ∨ (m_X0_ofYearDay p0 p1 p2 z).1 = 1 ∨ (m_X0_ofYearDay p0 p1 p2 z).1 = 2 ∨ (m_X0_ofYearDay p0 p1 p2 z).1 = 3 := by
  unfold m_X0_ofYearDay
  have h0 := pl_01 p0
  have h1 := oc_requireWithin p1 (-9999 : Int32) (9999 : Int32)
  have h2 := oc_giveYearDay p0 p1.toInt64 p2 z
  with_reducible repeat' split
  all_goals with_reducible (try dsimp only; first | omega | simp_all)
theorem iv_ofYearDay (p0 : Int32) (p1 : Int32) (p2 : Int32) (z : CS) (h : cIv z) : cIv (m_X0_ofYearDay p0 p1 p2 z).2.2 := by
  unfold m_X0_ofYearDay
  with_reducible repeat' split
  all_goals with_reducible first | exact h | exact give_iv h | exact civ_e h rfl | exact iv_of _ _ _ _ _ h | exact iv_giveYearDay _ _ _ _ h | fail
theorem oc_toDay (p0 : Int32) (z : CS) : (m_X0_toDay p0 z).1 = 0 ∨ (m_X0_toDay p0 z).1 = 1 := by
  unfold m_X0_toDay
  have h0 := at_01 p0 z
  with_reducible repeat' split
  all_goals with_reducible (try dsimp only; first | omega | simp_all)
theorem oc_withDay (p0 : Int32) (p1 : Int32) (z : CS) : (m_X0_withDay p0 p1 z).1 = 0 ∨ (m_X0_withDay p0 p1 z).1 = 1 ∨ (m_X0_withDay p0 p1 z).1 = 2 ∨ (m_X0_withDay p0 p1 z).1 = 3 := by
  unfold m_X0_withDay
  have h0 := at_01 p0 z
  have h1 := oc_requireWithin p1 (1 : Int32) (31 : Int32)
  have h2 := oc_requireDayOfMonth (m_X0_yearIn ((m_X0_dateAt p0 z).2)) (m_X0_monthIn ((m_X0_dateAt p0 z).2)) p1
  have h3 := give_o p0 (m_X0_dateOf (m_X0_yearIn ((m_X0_dateAt p0 z).2)) (m_X0_monthIn ((m_X0_dateAt p0 z).2)) p1) z
  with_reducible repeat' split
  all_goals with_reducible (try dsimp only; first | omega | simp_all)
theorem iv_withDay (p0 : Int32) (p1 : Int32) (z : CS) (h : cIv z) : cIv (m_X0_withDay p0 p1 z).2.2 := by
  unfold m_X0_withDay
  with_reducible repeat' split
  all_goals with_reducible first | exact h | exact give_iv h | exact civ_e h rfl | exact iv_of _ _ _ _ _ h | exact iv_giveYearDay _ _ _ _ h | exact iv_ofYearDay _ _ _ _ h | fail
theorem oc_withDayOfYear (p0 : Int32) (p1 : Int32) (z : CS) : (m_X0_withDayOfYear p0 p1 z).1 = 0 ∨ (m_X0_withDayOfYear p0 p1 z).1 = 1 ∨ (m_X0_withDayOfYear p0 p1 z).1 = 2 ∨ (m_X0_withDayOfYear p0 p1 z).1 = 3 := by
  unfold m_X0_withDayOfYear
  have h0 := at_01 p0 z
  have h1 := oc_giveYearDay p0 (m_X0_yearIn ((m_X0_dateAt p0 z).2)) p1 z
  with_reducible repeat' split
  all_goals with_reducible (try dsimp only; first | omega | simp_all)
theorem iv_withDayOfYear (p0 : Int32) (p1 : Int32) (z : CS) (h : cIv z) : cIv (m_X0_withDayOfYear p0 p1 z).2.2 := by
  unfold m_X0_withDayOfYear
  with_reducible repeat' split
  all_goals with_reducible first | exact h | exact give_iv h | exact civ_e h rfl | exact iv_of _ _ _ _ _ h | exact iv_giveYearDay _ _ _ _ h | exact iv_ofYearDay _ _ _ _ h | exact iv_withDay _ _ _ h | fail
theorem oc_requireAmount (p0 : Int32) : m_X0_requireAmount p0 = 0 ∨ m_X0_requireAmount p0 = 2 := by
  unfold m_X0_requireAmount
  have h0 := oc_requireWithin p0 (-200000 : Int32) (200000 : Int32)
  with_reducible repeat' split
  all_goals with_reducible (first | omega | simp_all)
theorem oc_move (p0 : Int32) (p1 : Int32) (p2 : Int32) (z : CS) : (m_X0_move p0 p1 p2 z).1 = 0 ∨ (m_X0_move p0 p1 p2 z).1 = 1 ∨ (m_X0_move p0 p1 p2 z).1 = 2 ∨ (m_X0_move p0 p1 p2 z).1 = 3 := by
  unfold m_X0_move
  have h0 := at_01 p0 z
  have h1 := oc_requireAmount p2
  have h2 := give_o p0 (m_X0_unitsLater ((m_X0_dateAt p0 z).2) p1 p2) z
  with_reducible repeat' split
  all_goals with_reducible (try dsimp only; first | omega | simp_all)
theorem iv_move (p0 : Int32) (p1 : Int32) (p2 : Int32) (z : CS) (h : cIv z) : cIv (m_X0_move p0 p1 p2 z).2.2 := by
  unfold m_X0_move
  with_reducible repeat' split
  all_goals with_reducible first | exact h | exact give_iv h | exact civ_e h rfl | exact iv_of _ _ _ _ _ h | exact iv_giveYearDay _ _ _ _ h | exact iv_ofYearDay _ _ _ _ h | exact iv_withDay _ _ _ h | exact iv_withDayOfYear _ _ _ h | fail
theorem oc_plusDays (p0 : Int32) (p1 : Int32) (z : CS) : (m_X0_plusDays p0 p1 z).1 = 0 ∨ (m_X0_plusDays p0 p1 z).1 = 1 ∨ (m_X0_plusDays p0 p1 z).1 = 2 ∨ (m_X0_plusDays p0 p1 z).1 = 3 := by
  unfold m_X0_plusDays
  have h0 := oc_move p0 (0 : Int32) p1 z
  with_reducible repeat' split
  all_goals with_reducible (try dsimp only; first | omega | simp_all)
theorem iv_plusDays (p0 : Int32) (p1 : Int32) (z : CS) (h : cIv z) : cIv (m_X0_plusDays p0 p1 z).2.2 := by
  unfold m_X0_plusDays
  with_reducible repeat' split
  all_goals with_reducible first | exact h | exact give_iv h | exact civ_e h rfl | exact iv_of _ _ _ _ _ h | exact iv_giveYearDay _ _ _ _ h | exact iv_ofYearDay _ _ _ _ h | exact iv_withDay _ _ _ h | exact iv_withDayOfYear _ _ _ h | exact iv_move _ _ _ _ h | fail
theorem oc_plusWeeks (p0 : Int32) (p1 : Int32) (z : CS) : (m_X0_plusWeeks p0 p1 z).1 = 0 ∨ (m_X0_plusWeeks p0 p1 z).1 = 1 ∨ (m_X0_plusWeeks p0 p1 z).1 = 2 ∨ (m_X0_plusWeeks p0 p1 z).1 = 3 := by
  unfold m_X0_plusWeeks
  have h0 := oc_move p0 (1 : Int32) p1 z
  with_reducible repeat' split
  all_goals with_reducible (try dsimp only; first | omega | simp_all)
theorem iv_plusWeeks (p0 : Int32) (p1 : Int32) (z : CS) (h : cIv z) : cIv (m_X0_plusWeeks p0 p1 z).2.2 := by
  unfold m_X0_plusWeeks
  with_reducible repeat' split
  all_goals with_reducible first | exact h | exact give_iv h | exact civ_e h rfl | exact iv_of _ _ _ _ _ h | exact iv_giveYearDay _ _ _ _ h | exact iv_ofYearDay _ _ _ _ h | exact iv_withDay _ _ _ h | exact iv_withDayOfYear _ _ _ h | exact iv_move _ _ _ _ h | exact iv_plusDays _ _ _ h | fail
theorem oc_plusMonths (p0 : Int32) (p1 : Int32) (z : CS) : (m_X0_plusMonths p0 p1 z).1 = 0 ∨ (m_X0_plusMonths p0 p1 z).1 = 1 ∨ (m_X0_plusMonths p0 p1 z).1 = 2 ∨ (m_X0_plusMonths p0 p1 z).1 = 3 := by
  unfold m_X0_plusMonths
  have h0 := oc_move p0 (2 : Int32) p1 z
  with_reducible repeat' split
  all_goals with_reducible (try dsimp only; first | omega | simp_all)
theorem iv_plusMonths (p0 : Int32) (p1 : Int32) (z : CS) (h : cIv z) : cIv (m_X0_plusMonths p0 p1 z).2.2 := by
  unfold m_X0_plusMonths
  with_reducible repeat' split
  all_goals with_reducible first | exact h | exact give_iv h | exact civ_e h rfl | exact iv_of _ _ _ _ _ h | exact iv_giveYearDay _ _ _ _ h | exact iv_ofYearDay _ _ _ _ h | exact iv_withDay _ _ _ h | exact iv_withDayOfYear _ _ _ h | exact iv_move _ _ _ _ h | exact iv_plusDays _ _ _ h | exact iv_plusWeeks _ _ _ h | fail
theorem oc_plusYears (p0 : Int32) (p1 : Int32) (z : CS) : (m_X0_plusYears p0 p1 z).1 = 0 ∨ (m_X0_plusYears p0 p1 z).1 = 1 ∨ (m_X0_plusYears p0 p1 z).1 = 2 ∨ (m_X0_plusYears p0 p1 z).1 = 3 := by
  unfold m_X0_plusYears
  have h0 := oc_move p0 (3 : Int32) p1 z
  with_reducible repeat' split
  all_goals with_reducible (try dsimp only; first | omega | simp_all)
theorem iv_plusYears (p0 : Int32) (p1 : Int32) (z : CS) (h : cIv z) : cIv (m_X0_plusYears p0 p1 z).2.2 := by
  unfold m_X0_plusYears
  with_reducible repeat' split
  all_goals with_reducible first | exact h | exact give_iv h | exact civ_e h rfl | exact iv_of _ _ _ _ _ h | exact iv_giveYearDay _ _ _ _ h | exact iv_ofYearDay _ _ _ _ h | exact iv_withDay _ _ _ h | exact iv_withDayOfYear _ _ _ h | exact iv_move _ _ _ _ h | exact iv_plusDays _ _ _ h | exact iv_plusWeeks _ _ _ h | exact iv_plusMonths _ _ _ h | fail
theorem oc_minusDays (p0 : Int32) (p1 : Int32) (z : CS) : (m_X0_minusDays p0 p1 z).1 = 0 ∨ (m_X0_minusDays p0 p1 z).1 = 1 ∨ (m_X0_minusDays p0 p1 z).1 = 2 ∨ (m_X0_minusDays p0 p1 z).1 = 3 := by
  unfold m_X0_minusDays
  have h0 := oc_move p0 (0 : Int32) (-p1) z
  with_reducible repeat' split
  all_goals with_reducible (try dsimp only; first | omega | simp_all)
theorem iv_minusDays (p0 : Int32) (p1 : Int32) (z : CS) (h : cIv z) : cIv (m_X0_minusDays p0 p1 z).2.2 := by
  unfold m_X0_minusDays
  with_reducible repeat' split
  all_goals with_reducible first | exact h | exact give_iv h | exact civ_e h rfl | exact iv_of _ _ _ _ _ h | exact iv_giveYearDay _ _ _ _ h | exact iv_ofYearDay _ _ _ _ h | exact iv_withDay _ _ _ h | exact iv_withDayOfYear _ _ _ h | exact iv_move _ _ _ _ h | exact iv_plusDays _ _ _ h | exact iv_plusWeeks _ _ _ h | exact iv_plusMonths _ _ _ h | exact iv_plusYears _ _ _ h | fail
theorem oc_minusWeeks (p0 : Int32) (p1 : Int32) (z : CS) : (m_X0_minusWeeks p0 p1 z).1 = 0 ∨ (m_X0_minusWeeks p0 p1 z).1 = 1 ∨ (m_X0_minusWeeks p0 p1 z).1 = 2 ∨ (m_X0_minusWeeks p0 p1 z).1 = 3 := by
  unfold m_X0_minusWeeks
  have h0 := oc_move p0 (1 : Int32) (-p1) z
  with_reducible repeat' split
  all_goals with_reducible (try dsimp only; first | omega | simp_all)
theorem iv_minusWeeks (p0 : Int32) (p1 : Int32) (z : CS) (h : cIv z) : cIv (m_X0_minusWeeks p0 p1 z).2.2 := by
  unfold m_X0_minusWeeks
  with_reducible repeat' split
  all_goals with_reducible first | exact h | exact give_iv h | exact civ_e h rfl | exact iv_of _ _ _ _ _ h | exact iv_giveYearDay _ _ _ _ h | exact iv_ofYearDay _ _ _ _ h | exact iv_withDay _ _ _ h | exact iv_withDayOfYear _ _ _ h | exact iv_move _ _ _ _ h | exact iv_plusDays _ _ _ h | exact iv_plusWeeks _ _ _ h | exact iv_plusMonths _ _ _ h | exact iv_plusYears _ _ _ h | exact iv_minusDays _ _ _ h | fail
theorem oc_minusMonths (p0 : Int32) (p1 : Int32) (z : CS) : (m_X0_minusMonths p0 p1 z).1 = 0 ∨ (m_X0_minusMonths p0 p1 z).1 = 1 ∨ (m_X0_minusMonths p0 p1 z).1 = 2 ∨ (m_X0_minusMonths p0 p1 z).1 = 3 := by
  unfold m_X0_minusMonths
  have h0 := oc_move p0 (2 : Int32) (-p1) z
  with_reducible repeat' split
  all_goals with_reducible (try dsimp only; first | omega | simp_all)
theorem iv_minusMonths (p0 : Int32) (p1 : Int32) (z : CS) (h : cIv z) : cIv (m_X0_minusMonths p0 p1 z).2.2 := by
  unfold m_X0_minusMonths
  with_reducible repeat' split
  all_goals with_reducible first | exact h | exact give_iv h | exact civ_e h rfl | exact iv_of _ _ _ _ _ h | exact iv_giveYearDay _ _ _ _ h | exact iv_ofYearDay _ _ _ _ h | exact iv_withDay _ _ _ h | exact iv_withDayOfYear _ _ _ h | exact iv_move _ _ _ _ h | exact iv_plusDays _ _ _ h | exact iv_plusWeeks _ _ _ h | exact iv_plusMonths _ _ _ h | exact iv_plusYears _ _ _ h | exact iv_minusDays _ _ _ h | exact iv_minusWeeks _ _ _ h | fail
theorem oc_minusYears (p0 : Int32) (p1 : Int32) (z : CS) : (m_X0_minusYears p0 p1 z).1 = 0 ∨ (m_X0_minusYears p0 p1 z).1 = 1 ∨ (m_X0_minusYears p0 p1 z).1 = 2 ∨ (m_X0_minusYears p0 p1 z).1 = 3 := by
  unfold m_X0_minusYears
  have h0 := oc_move p0 (3 : Int32) (-p1) z
  with_reducible repeat' split
  all_goals with_reducible (try dsimp only; first | omega | simp_all)
theorem iv_minusYears (p0 : Int32) (p1 : Int32) (z : CS) (h : cIv z) : cIv (m_X0_minusYears p0 p1 z).2.2 := by
  unfold m_X0_minusYears
  with_reducible repeat' split
  all_goals with_reducible first | exact h | exact give_iv h | exact civ_e h rfl | exact iv_of _ _ _ _ _ h | exact iv_giveYearDay _ _ _ _ h | exact iv_ofYearDay _ _ _ _ h | exact iv_withDay _ _ _ h | exact iv_withDayOfYear _ _ _ h | exact iv_move _ _ _ _ h | exact iv_plusDays _ _ _ h | exact iv_plusWeeks _ _ _ h | exact iv_plusMonths _ _ _ h | exact iv_plusYears _ _ _ h | exact iv_minusDays _ _ _ h | exact iv_minusWeeks _ _ _ h | exact iv_minusMonths _ _ _ h | fail
theorem oc_requireSpan (p0 : Int32) : m_X0_requireSpan p0 = 0 ∨ m_X0_requireSpan p0 = 1 := by
  unfold m_X0_requireSpan
  with_reducible repeat' split
  all_goals with_reducible (first | omega | simp_all)
theorem oc_putSpan (p0 : Int32) (p1 : Int32) (p2 : Int32) (p3 : Int32) (z : CS) : (m_X0_putSpan p0 p1 p2 p3 z).1 = 0 ∨ (m_X0_putSpan p0 p1 p2 p3 z).1 = 1 := by
  unfold m_X0_putSpan
  have h0 := oc_requireSpan p0
  with_reducible repeat' split
  all_goals with_reducible (try dsimp only; first | omega | simp_all)
theorem iv_putSpan (p0 : Int32) (p1 : Int32) (p2 : Int32) (p3 : Int32) (z : CS) (h : cIv z) : cIv (m_X0_putSpan p0 p1 p2 p3 z).2 := by
  unfold m_X0_putSpan
  with_reducible repeat' split
  all_goals with_reducible first | exact h | exact give_iv h | exact civ_e h rfl | exact iv_of _ _ _ _ _ h | exact iv_giveYearDay _ _ _ _ h | exact iv_ofYearDay _ _ _ _ h | exact iv_withDay _ _ _ h | exact iv_withDayOfYear _ _ _ h | exact iv_move _ _ _ _ h | exact iv_plusDays _ _ _ h | exact iv_plusWeeks _ _ _ h | exact iv_plusMonths _ _ _ h | exact iv_plusYears _ _ _ h | exact iv_minusDays _ _ _ h | exact iv_minusWeeks _ _ _ h | exact iv_minusMonths _ _ _ h | exact iv_minusYears _ _ _ h | fail
theorem oc_giveSpan (p0 : Int32) (p1 : Int32) (p2 : Int32) (p3 : Int32) (z : CS) : (m_X0_giveSpan p0 p1 p2 p3 z).1 = 0 ∨ (m_X0_giveSpan p0 p1 p2 p3 z).1 = 1 := by
  unfold m_X0_giveSpan
  have h0 := oc_putSpan p0 p1 p2 p3 z
  with_reducible repeat' split
  all_goals with_reducible (try dsimp only; first | omega | simp_all)
theorem iv_giveSpan (p0 : Int32) (p1 : Int32) (p2 : Int32) (p3 : Int32) (z : CS) (h : cIv z) : cIv (m_X0_giveSpan p0 p1 p2 p3 z).2 := by
  unfold m_X0_giveSpan
  with_reducible repeat' split
  all_goals with_reducible first | exact h | exact give_iv h | exact civ_e h rfl | exact civ_e (iv_putSpan _ _ _ _ _ h) rfl | exact iv_of _ _ _ _ _ h | exact iv_giveYearDay _ _ _ _ h | exact iv_ofYearDay _ _ _ _ h | exact iv_withDay _ _ _ h | exact iv_withDayOfYear _ _ _ h | exact iv_move _ _ _ _ h | exact iv_plusDays _ _ _ h | exact iv_plusWeeks _ _ _ h | exact iv_plusMonths _ _ _ h | exact iv_plusYears _ _ _ h | exact iv_minusDays _ _ _ h | exact iv_minusWeeks _ _ _ h | exact iv_minusMonths _ _ _ h | exact iv_minusYears _ _ _ h | exact iv_putSpan _ _ _ _ _ h | fail
theorem oc_monthsOfSpan (p0 : Int32) (z : CS) : (m_X0_monthsOfSpan p0 z).1 = 0 ∨ (m_X0_monthsOfSpan p0 z).1 = 1 := by
  unfold m_X0_monthsOfSpan
  have h0 := oc_requireSpan p0
  with_reducible repeat' split
  all_goals with_reducible (try dsimp only; first | omega | simp_all)
theorem oc_span (p0 : Int32) (p1 : Int32) (p2 : Int32) (p3 : Int32) (z : CS) : (m_X0_span p0 p1 p2 p3 z).1 = 0 ∨ (m_X0_span p0 p1 p2 p3 z).1 = 1 ∨ (m_X0_span p0 p1 p2 p3 z).1 = 2 := by
  unfold m_X0_span
  have h0 := oc_requireSpan p0
  have h1 := oc_requireWithin p1 (-100000 : Int32) (100000 : Int32)
  have h2 := oc_requireWithin p2 (-100000 : Int32) (100000 : Int32)
  have h3 := oc_requireWithin p3 (-100000 : Int32) (100000 : Int32)
  have h4 := oc_giveSpan p0 p1 p2 p3 z
  have h5 := oc_monthsOfSpan p0 ((m_X0_giveSpan p0 p1 p2 p3 z).2)
  with_reducible repeat' split
  all_goals with_reducible (try dsimp only; first | omega | simp_all)
theorem iv_span (p0 : Int32) (p1 : Int32) (p2 : Int32) (p3 : Int32) (z : CS) (h : cIv z) : cIv (m_X0_span p0 p1 p2 p3 z).2.2 := by
  unfold m_X0_span
  with_reducible repeat' split
  all_goals with_reducible first | exact h | exact give_iv h | exact civ_e h rfl | exact civ_e (iv_putSpan _ _ _ _ _ h) rfl | exact civ_e (iv_giveSpan _ _ _ _ _ h) rfl | exact iv_of _ _ _ _ _ h | exact iv_giveYearDay _ _ _ _ h | exact iv_ofYearDay _ _ _ _ h | exact iv_withDay _ _ _ h | exact iv_withDayOfYear _ _ _ h | exact iv_move _ _ _ _ h | exact iv_plusDays _ _ _ h | exact iv_plusWeeks _ _ _ h | exact iv_plusMonths _ _ _ h | exact iv_plusYears _ _ _ h | exact iv_minusDays _ _ _ h | exact iv_minusWeeks _ _ _ h | exact iv_minusMonths _ _ _ h | exact iv_minusYears _ _ _ h | exact iv_putSpan _ _ _ _ _ h | exact iv_giveSpan _ _ _ _ _ h | fail
theorem oc_requireNotAhead (p0 : Int64) (p1 : Int64) : m_X0_requireNotAhead p0 p1 = 0 ∨ m_X0_requireNotAhead p0 p1 = 3 := by
  unfold m_X0_requireNotAhead
  with_reducible repeat' split
  all_goals with_reducible (first | omega | simp_all)
theorem oc_until (p0 : Int32) (p1 : Int32) (p2 : Int32) (z : CS) : (m_X0_until p0 p1 p2 z).1 = 0 ∨ (m_X0_until p0 p1 p2 z).1 = 1 ∨ (m_X0_until p0 p1 p2 z).1 = 3 := by
  unfold m_X0_until
  have h0 := oc_requireSpan p0
  have h1 := at_01 p1 z
  have h2 := at_01 p2 z
  have h3 := oc_requireNotAhead ((m_X0_dateAt p2 z).2) ((m_X0_dateAt p1 z).2)
  have h4 := oc_giveSpan p0 ((m_X0_monthsUpTo ((m_X0_dateAt p1 z).2) ((m_X0_dateAt p2 z).2)) / (12 : Int32)) ((m_X0_monthsUpTo ((m_X0_dateAt p1 z).2) ((m_X0_dateAt p2 z).2)) - (m_X0_monthsUpTo ((m_X0_dateAt p1 z).2) ((m_X0_dateAt p2 z).2)) / (12 : Int32) * (12 : Int32)) (m_X0_daysBehindMonths ((m_X0_dateAt p1 z).2) ((m_X0_dateAt p2 z).2)) z
  with_reducible repeat' split
  all_goals with_reducible (try dsimp only; first | omega | simp_all)
theorem iv_until (p0 : Int32) (p1 : Int32) (p2 : Int32) (z : CS) (h : cIv z) : cIv (m_X0_until p0 p1 p2 z).2.2 := by
  unfold m_X0_until
  with_reducible repeat' split
  all_goals with_reducible first | exact h | exact give_iv h | exact civ_e h rfl | exact civ_e (iv_putSpan _ _ _ _ _ h) rfl | exact civ_e (iv_giveSpan _ _ _ _ _ h) rfl | exact iv_of _ _ _ _ _ h | exact iv_giveYearDay _ _ _ _ h | exact iv_ofYearDay _ _ _ _ h | exact iv_withDay _ _ _ h | exact iv_withDayOfYear _ _ _ h | exact iv_move _ _ _ _ h | exact iv_plusDays _ _ _ h | exact iv_plusWeeks _ _ _ h | exact iv_plusMonths _ _ _ h | exact iv_plusYears _ _ _ h | exact iv_minusDays _ _ _ h | exact iv_minusWeeks _ _ _ h | exact iv_minusMonths _ _ _ h | exact iv_minusYears _ _ _ h | exact iv_putSpan _ _ _ _ _ h | exact iv_giveSpan _ _ _ _ _ h | exact iv_span _ _ _ _ _ h | fail
theorem oc_requireSpanHolds (p0 : Int32) : m_X0_requireSpanHolds p0 = 0 ∨ m_X0_requireSpanHolds p0 = 3 := by
  unfold m_X0_requireSpanHolds
  with_reducible repeat' split
  all_goals with_reducible (first | omega | simp_all)
theorem oc_addSpan (p0 : Int32) (p1 : Int32) (z : CS) : (m_X0_addSpan p0 p1 z).1 = 0 ∨ (m_X0_addSpan p0 p1 z).1 = 1 ∨ (m_X0_addSpan p0 p1 z).1 = 3 := by
  unfold m_X0_addSpan
  have h0 := oc_requireSpan p0
  have h1 := oc_requireSpan p1
  have h2 := oc_requireSpanHolds ((z.2.1 p0.toNatClampNeg) + (z.2.1 p1.toNatClampNeg))
  have h3 := oc_requireSpanHolds ((z.2.2.1 p0.toNatClampNeg) + (z.2.2.1 p1.toNatClampNeg))
  have h4 := oc_requireSpanHolds ((z.2.2.2.1 p0.toNatClampNeg) + (z.2.2.2.1 p1.toNatClampNeg))
  have h5 := oc_giveSpan p0 ((z.2.1 p0.toNatClampNeg) + (z.2.1 p1.toNatClampNeg)) ((z.2.2.1 p0.toNatClampNeg) + (z.2.2.1 p1.toNatClampNeg)) ((z.2.2.2.1 p0.toNatClampNeg) + (z.2.2.2.1 p1.toNatClampNeg)) z
  with_reducible repeat' split
  all_goals with_reducible (try dsimp only; first | omega | simp_all)
theorem iv_addSpan (p0 : Int32) (p1 : Int32) (z : CS) (h : cIv z) : cIv (m_X0_addSpan p0 p1 z).2.2 := by
  unfold m_X0_addSpan
  with_reducible repeat' split
  all_goals with_reducible first | exact h | exact give_iv h | exact civ_e h rfl | exact civ_e (iv_putSpan _ _ _ _ _ h) rfl | exact civ_e (iv_giveSpan _ _ _ _ _ h) rfl | exact iv_of _ _ _ _ _ h | exact iv_giveYearDay _ _ _ _ h | exact iv_ofYearDay _ _ _ _ h | exact iv_withDay _ _ _ h | exact iv_withDayOfYear _ _ _ h | exact iv_move _ _ _ _ h | exact iv_plusDays _ _ _ h | exact iv_plusWeeks _ _ _ h | exact iv_plusMonths _ _ _ h | exact iv_plusYears _ _ _ h | exact iv_minusDays _ _ _ h | exact iv_minusWeeks _ _ _ h | exact iv_minusMonths _ _ _ h | exact iv_minusYears _ _ _ h | exact iv_putSpan _ _ _ _ _ h | exact iv_giveSpan _ _ _ _ _ h | exact iv_span _ _ _ _ _ h | exact iv_until _ _ _ _ h | fail
theorem oc_ofSpan (p0 : Int32) (p1 : Int32) (z : CS) : (m_X0_ofSpan p0 p1 z).1 = 0 ∨ (m_X0_ofSpan p0 p1 z).1 = 1 ∨ (m_X0_ofSpan p0 p1 z).1 = 2 := by
  unfold m_X0_ofSpan
  have h0 := oc_requireSpan p0
  have h1 := oc_requireWithin p1 (0 : Int32) (2 : Int32)
  with_reducible repeat' split
  all_goals with_reducible (try dsimp only; first | omega | simp_all)
theorem oc_plusSpan (p0 : Int32) (p1 : Int32) (z : CS) : (m_X0_plusSpan p0 p1 z).1 = 0 ∨ (m_X0_plusSpan p0 p1 z).1 = 1 ∨ (m_X0_plusSpan p0 p1 z).1 = 3 := by
  unfold m_X0_plusSpan
  have h0 := at_01 p0 z
  have h1 := oc_requireSpan p1
  have h2 := oc_monthsOfSpan p1 z
  have h3 := give_o p0 (m_X0_daysLater (m_X0_monthsLater ((m_X0_dateAt p0 z).2) (((m_X0_monthsOfSpan p1 z).2).toInt64)) ((z.2.2.2.1 p1.toNatClampNeg).toInt64)) z
  with_reducible repeat' split
  all_goals with_reducible (try dsimp only; first | omega | simp_all)
theorem iv_plusSpan (p0 : Int32) (p1 : Int32) (z : CS) (h : cIv z) : cIv (m_X0_plusSpan p0 p1 z).2.2 := by
  unfold m_X0_plusSpan
  with_reducible repeat' split
  all_goals with_reducible first | exact h | exact give_iv h | exact civ_e h rfl | exact civ_e (iv_putSpan _ _ _ _ _ h) rfl | exact civ_e (iv_giveSpan _ _ _ _ _ h) rfl | exact iv_of _ _ _ _ _ h | exact iv_giveYearDay _ _ _ _ h | exact iv_ofYearDay _ _ _ _ h | exact iv_withDay _ _ _ h | exact iv_withDayOfYear _ _ _ h | exact iv_move _ _ _ _ h | exact iv_plusDays _ _ _ h | exact iv_plusWeeks _ _ _ h | exact iv_plusMonths _ _ _ h | exact iv_plusYears _ _ _ h | exact iv_minusDays _ _ _ h | exact iv_minusWeeks _ _ _ h | exact iv_minusMonths _ _ _ h | exact iv_minusYears _ _ _ h | exact iv_putSpan _ _ _ _ _ h | exact iv_giveSpan _ _ _ _ _ h | exact iv_span _ _ _ _ _ h | exact iv_until _ _ _ _ h | exact iv_addSpan _ _ _ h | fail
theorem oc_minusSpan (p0 : Int32) (p1 : Int32) (z : CS) : (m_X0_minusSpan p0 p1 z).1 = 0 ∨ (m_X0_minusSpan p0 p1 z).1 = 1 ∨ (m_X0_minusSpan p0 p1 z).1 = 3 := by
  unfold m_X0_minusSpan
  have h0 := at_01 p0 z
  have h1 := oc_requireSpan p1
  have h2 := oc_monthsOfSpan p1 z
  have h3 := give_o p0 (m_X0_daysLater (m_X0_monthsLater ((m_X0_dateAt p0 z).2) ((-((m_X0_monthsOfSpan p1 z).2)).toInt64)) ((-(z.2.2.2.1 p1.toNatClampNeg)).toInt64)) z
  with_reducible repeat' split
  all_goals with_reducible (try dsimp only; first | omega | simp_all)
theorem iv_minusSpan (p0 : Int32) (p1 : Int32) (z : CS) (h : cIv z) : cIv (m_X0_minusSpan p0 p1 z).2.2 := by
  unfold m_X0_minusSpan
  with_reducible repeat' split
  all_goals with_reducible first | exact h | exact give_iv h | exact civ_e h rfl | exact civ_e (iv_putSpan _ _ _ _ _ h) rfl | exact civ_e (iv_giveSpan _ _ _ _ _ h) rfl | exact iv_of _ _ _ _ _ h | exact iv_giveYearDay _ _ _ _ h | exact iv_ofYearDay _ _ _ _ h | exact iv_withDay _ _ _ h | exact iv_withDayOfYear _ _ _ h | exact iv_move _ _ _ _ h | exact iv_plusDays _ _ _ h | exact iv_plusWeeks _ _ _ h | exact iv_plusMonths _ _ _ h | exact iv_plusYears _ _ _ h | exact iv_minusDays _ _ _ h | exact iv_minusWeeks _ _ _ h | exact iv_minusMonths _ _ _ h | exact iv_minusYears _ _ _ h | exact iv_putSpan _ _ _ _ _ h | exact iv_giveSpan _ _ _ _ _ h | exact iv_span _ _ _ _ _ h | exact iv_until _ _ _ _ h | exact iv_addSpan _ _ _ h | exact iv_plusSpan _ _ _ h | fail
theorem oc_year (p0 : Int32) (z : CS) : (m_X0_year p0 z).1 = 0 ∨ (m_X0_year p0 z).1 = 1 := by
  unfold m_X0_year
  have h0 := at_01 p0 z
  with_reducible repeat' split
  all_goals with_reducible (try dsimp only; first | omega | simp_all)
theorem oc_month (p0 : Int32) (z : CS) : (m_X0_month p0 z).1 = 0 ∨ (m_X0_month p0 z).1 = 1 := by
  unfold m_X0_month
  have h0 := at_01 p0 z
  with_reducible repeat' split
  all_goals with_reducible (try dsimp only; first | omega | simp_all)
theorem oc_day (p0 : Int32) (z : CS) : (m_X0_day p0 z).1 = 0 ∨ (m_X0_day p0 z).1 = 1 := by
  unfold m_X0_day
  have h0 := at_01 p0 z
  with_reducible repeat' split
  all_goals with_reducible (try dsimp only; first | omega | simp_all)
theorem oc_dayOfYear (p0 : Int32) (z : CS) : (m_X0_dayOfYear p0 z).1 = 0 ∨ (m_X0_dayOfYear p0 z).1 = 1 := by
  unfold m_X0_dayOfYear
  have h0 := at_01 p0 z
  with_reducible repeat' split
  all_goals with_reducible (try dsimp only; first | omega | simp_all)
theorem oc_dayOfWeek (p0 : Int32) (z : CS) : (m_X0_dayOfWeek p0 z).1 = 0 ∨ (m_X0_dayOfWeek p0 z).1 = 1 := by
  unfold m_X0_dayOfWeek
  have h0 := oc_toDay p0 z
  with_reducible repeat' split
  all_goals with_reducible (try dsimp only; first | omega | simp_all)
theorem oc_laterDayOfWeek (p0 : Int32) (p1 : Int32) (z : CS) : (m_X0_laterDayOfWeek p0 p1 z).1 = 0 ∨ (m_X0_laterDayOfWeek p0 p1 z).1 = 1 ∨ (m_X0_laterDayOfWeek p0 p1 z).1 = 2 := by
  unfold m_X0_laterDayOfWeek
  have h0 := pl_01 p0
  have h1 := oc_requireAmount p1
  have h2 := oc_toDay p0 z
  with_reducible repeat' split
  all_goals with_reducible (try dsimp only; first | omega | simp_all)
theorem oc_lengthOfMonth (p0 : Int32) (z : CS) : (m_X0_lengthOfMonth p0 z).1 = 0 ∨ (m_X0_lengthOfMonth p0 z).1 = 1 := by
  unfold m_X0_lengthOfMonth
  have h0 := at_01 p0 z
  with_reducible repeat' split
  all_goals with_reducible (try dsimp only; first | omega | simp_all)
theorem oc_lengthOfYear (p0 : Int32) (z : CS) : (m_X0_lengthOfYear p0 z).1 = 0 ∨ (m_X0_lengthOfYear p0 z).1 = 1 := by
  unfold m_X0_lengthOfYear
  have h0 := at_01 p0 z
  with_reducible repeat' split
  all_goals with_reducible (try dsimp only; first | omega | simp_all)
theorem oc_isLeapYear (p0 : Int32) (z : CS) : (m_X0_isLeapYear p0 z).1 = 0 ∨ (m_X0_isLeapYear p0 z).1 = 1 := by
  unfold m_X0_isLeapYear
  have h0 := at_01 p0 z
  with_reducible repeat' split
  all_goals with_reducible (try dsimp only; first | omega | simp_all)
theorem oc_field (p0 : Int32) (p1 : Int32) (z : CS) : (m_X0_field p0 p1 z).1 = 0 ∨ (m_X0_field p0 p1 z).1 = 1 ∨ (m_X0_field p0 p1 z).1 = 2 := by
  unfold m_X0_field
  have h0 := at_01 p0 z
  have h1 := oc_requireWithin p1 (0 : Int32) (5 : Int32)
  with_reducible repeat' split
  all_goals with_reducible (try dsimp only; first | omega | simp_all)
theorem oc_isDate (p0 : Int32) (p1 : Int32) (p2 : Int32) (z : CS) : (m_X0_isDate p0 p1 p2 z).1 = 0 ∨ (m_X0_isDate p0 p1 p2 z).1 = 2 := by
  unfold m_X0_isDate
  have h0 := oc_requireYearMonthDay p0 p1 p2
  with_reducible repeat' split
  all_goals with_reducible (try dsimp only; first | omega | simp_all)
theorem oc_requireUnit (p0 : Int32) : m_X0_requireUnit p0 = 0 ∨ m_X0_requireUnit p0 = 2 := by
  unfold m_X0_requireUnit
  have h0 := oc_requireWithin p0 (0 : Int32) (6 : Int32)
  with_reducible repeat' split
  all_goals with_reducible (first | omega | simp_all)
theorem oc_wouldBe (p0 : Int32) (p1 : Int32) (p2 : Int32) (z : CS) : (m_X0_wouldBe p0 p1 p2 z).1 = 0 ∨ (m_X0_wouldBe p0 p1 p2 z).1 = 1 ∨ (m_X0_wouldBe p0 p1 p2 z).1 = 2 ∨ (m_X0_wouldBe p0 p1 p2 z).1 = 3 := by
  unfold m_X0_wouldBe
  have h0 := at_01 p0 z
  have h1 := oc_requireUnit p1
  have h2 := oc_requireAmount p2
  have h3 := oc_requireDate (m_X0_unitsLater ((m_X0_dateAt p0 z).2) p1 p2)
  with_reducible repeat' split
  all_goals with_reducible (try dsimp only; first | omega | simp_all)
theorem oc_compare (p0 : Int32) (p1 : Int32) (z : CS) : (m_X0_compare p0 p1 z).1 = 0 ∨ (m_X0_compare p0 p1 z).1 = 1 := by
  unfold m_X0_compare
  have h0 := at_01 p0 z
  have h1 := at_01 p1 z
  with_reducible repeat' split
  all_goals with_reducible (try dsimp only; first | omega | simp_all)
theorem oc_isBefore (p0 : Int32) (p1 : Int32) (z : CS) : (m_X0_isBefore p0 p1 z).1 = 0 ∨ (m_X0_isBefore p0 p1 z).1 = 1 := by
  unfold m_X0_isBefore
  have h0 := at_01 p0 z
  have h1 := at_01 p1 z
  with_reducible repeat' split
  all_goals with_reducible (try dsimp only; first | omega | simp_all)
theorem oc_isAfter (p0 : Int32) (p1 : Int32) (z : CS) : (m_X0_isAfter p0 p1 z).1 = 0 ∨ (m_X0_isAfter p0 p1 z).1 = 1 := by
  unfold m_X0_isAfter
  have h0 := at_01 p0 z
  have h1 := at_01 p1 z
  with_reducible repeat' split
  all_goals with_reducible (try dsimp only; first | omega | simp_all)
theorem oc_isSame (p0 : Int32) (p1 : Int32) (z : CS) : (m_X0_isSame p0 p1 z).1 = 0 ∨ (m_X0_isSame p0 p1 z).1 = 1 := by
  unfold m_X0_isSame
  have h0 := at_01 p0 z
  have h1 := at_01 p1 z
  with_reducible repeat' split
  all_goals with_reducible (try dsimp only; first | omega | simp_all)
theorem oc_between (p0 : Int32) (p1 : Int32) (p2 : Int32) (z : CS) : (m_X0_between p0 p1 p2 z).1 = 0 ∨ (m_X0_between p0 p1 p2 z).1 = 1 ∨ (m_X0_between p0 p1 p2 z).1 = 2 := by
  unfold m_X0_between
  have h0 := at_01 p0 z
  have h1 := at_01 p1 z
  have h2 := oc_requireUnit p2
  with_reducible repeat' split
  all_goals with_reducible (try dsimp only; first | omega | simp_all)
theorem oc_apart (p0 : Int32) (p1 : Int32) (p2 : Int32) (z : CS) : (m_X0_apart p0 p1 p2 z).1 = 0 ∨ (m_X0_apart p0 p1 p2 z).1 = 1 ∨ (m_X0_apart p0 p1 p2 z).1 = 2 ∨ (m_X0_apart p0 p1 p2 z).1 = 3 := by
  unfold m_X0_apart
  have h0 := at_01 p0 z
  have h1 := at_01 p1 z
  have h2 := oc_requireWithin p2 (0 : Int32) (2 : Int32)
  have h3 := oc_requireNotAhead ((m_X0_dateAt p1 z).2) ((m_X0_dateAt p0 z).2)
  with_reducible repeat' split
  all_goals with_reducible (try dsimp only; first | omega | simp_all)
theorem oc_daysToYearEnd (p0 : Int32) (z : CS) : (m_X0_daysToYearEnd p0 z).1 = 0 ∨ (m_X0_daysToYearEnd p0 z).1 = 1 := by
  unfold m_X0_daysToYearEnd
  have h0 := at_01 p0 z
  with_reducible repeat' split
  all_goals with_reducible (try dsimp only; first | omega | simp_all)
theorem oc_sameDay (p0 : Int32) (p1 : Int32) (z : CS) : (m_X0_sameDay p0 p1 z).1 = 0 ∨ (m_X0_sameDay p0 p1 z).1 = 1 ∨ (m_X0_sameDay p0 p1 z).1 = 2 := by
  unfold m_X0_sameDay
  have h0 := at_01 p0 z
  have h1 := oc_requireWithin p1 (-9999 : Int32) (9999 : Int32)
  with_reducible repeat' split
  all_goals with_reducible (try dsimp only; first | omega | simp_all)
theorem oc_knock  (z : CS) : (m_X0_knock  z).1 = 0 := by
  unfold m_X0_knock
  rfl
theorem iv_knock  (z : CS) (h : cIv z) : cIv (m_X0_knock  z).2.2 := by
  unfold m_X0_knock
  all_goals with_reducible first | exact h | exact give_iv h | exact civ_e h rfl | exact civ_e (iv_putSpan _ _ _ _ _ h) rfl | exact civ_e (iv_giveSpan _ _ _ _ _ h) rfl | exact iv_of _ _ _ _ _ h | exact iv_giveYearDay _ _ _ _ h | exact iv_ofYearDay _ _ _ _ h | exact iv_withDay _ _ _ h | exact iv_withDayOfYear _ _ _ h | exact iv_move _ _ _ _ h | exact iv_plusDays _ _ _ h | exact iv_plusWeeks _ _ _ h | exact iv_plusMonths _ _ _ h | exact iv_plusYears _ _ _ h | exact iv_minusDays _ _ _ h | exact iv_minusWeeks _ _ _ h | exact iv_minusMonths _ _ _ h | exact iv_minusYears _ _ _ h | exact iv_putSpan _ _ _ _ _ h | exact iv_giveSpan _ _ _ _ _ h | exact iv_span _ _ _ _ _ h | exact iv_until _ _ _ _ h | exact iv_addSpan _ _ _ h | exact iv_plusSpan _ _ _ h | exact iv_minusSpan _ _ _ h | fail
