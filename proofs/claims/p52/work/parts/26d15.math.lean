theorem kn_put (p0 : Int32) (p1 : Int64) (z : CS) : (m_X0_put p0 p1 z).2.2.2.2.2.2 = z.2.2.2.2.2 := by
  unfold m_X0_put
  with_reducible repeat' split
  all_goals with_reducible first | rfl
theorem kn_give (p0 : Int32) (p1 : Int64) (z : CS) : (m_X0_give p0 p1 z).2.2.2.2.2.2.2 = z.2.2.2.2.2 := by
  unfold m_X0_give
  with_reducible repeat' split
  all_goals with_reducible first | rfl | exact kn_put _ _ _
theorem kn_giveYearDay (p0 : Int32) (p1 : Int64) (p2 : Int32) (z : CS) : (m_X0_giveYearDay p0 p1 p2 z).2.2.2.2.2.2.2 = z.2.2.2.2.2 := by
  unfold m_X0_giveYearDay
  with_reducible repeat' split
  all_goals with_reducible first | rfl | exact kn_put _ _ _ | exact kn_give _ _ _ | exact (kn_give _ _ _).trans (kn_put _ _ _)
theorem kn_move (p0 : Int32) (p1 : Int32) (p2 : Int32) (z : CS) : (m_X0_move p0 p1 p2 z).2.2.2.2.2.2.2 = z.2.2.2.2.2 := by
  unfold m_X0_move
  with_reducible repeat' split
  all_goals with_reducible first | rfl | exact kn_put _ _ _ | exact kn_give _ _ _ | exact kn_giveYearDay _ _ _ _ | exact (kn_give _ _ _).trans (kn_put _ _ _)
theorem kn_putSpan (p0 : Int32) (p1 : Int32) (p2 : Int32) (p3 : Int32) (z : CS) : (m_X0_putSpan p0 p1 p2 p3 z).2.2.2.2.2.2 = z.2.2.2.2.2 := by
  unfold m_X0_putSpan
  with_reducible repeat' split
  all_goals with_reducible first | rfl | exact kn_put _ _ _ | exact kn_give _ _ _ | exact kn_giveYearDay _ _ _ _ | exact kn_move _ _ _ _ | exact (kn_give _ _ _).trans (kn_put _ _ _)
theorem kn_giveSpan (p0 : Int32) (p1 : Int32) (p2 : Int32) (p3 : Int32) (z : CS) : (m_X0_giveSpan p0 p1 p2 p3 z).2.2.2.2.2.2 = z.2.2.2.2.2 := by
  unfold m_X0_giveSpan
  with_reducible repeat' split
  all_goals with_reducible first | rfl | exact kn_put _ _ _ | exact kn_give _ _ _ | exact kn_giveYearDay _ _ _ _ | exact kn_move _ _ _ _ | exact kn_putSpan _ _ _ _ _ | exact (kn_give _ _ _).trans (kn_put _ _ _) | exact (kn_give _ _ _).trans (kn_putSpan _ _ _ _ _) | exact (kn_putSpan _ _ _ _ _).trans (kn_put _ _ _) | exact (kn_putSpan _ _ _ _ _).trans (kn_putSpan _ _ _ _ _)
theorem kn_of (p0 : Int32) (p1 : Int32) (p2 : Int32) (p3 : Int32) (z : CS) : (m_X0_of p0 p1 p2 p3 z).2.2.2.2.2.2.2 = z.2.2.2.2.2 := by
  unfold m_X0_of
  with_reducible repeat' split
  all_goals with_reducible first | rfl | exact kn_put _ _ _ | exact kn_give _ _ _ | exact kn_giveYearDay _ _ _ _ | exact kn_move _ _ _ _ | exact kn_putSpan _ _ _ _ _ | exact kn_giveSpan _ _ _ _ _ | exact (kn_give _ _ _).trans (kn_put _ _ _) | exact (kn_give _ _ _).trans (kn_putSpan _ _ _ _ _) | exact (kn_give _ _ _).trans (kn_giveSpan _ _ _ _ _) | exact (kn_putSpan _ _ _ _ _).trans (kn_put _ _ _) | exact (kn_putSpan _ _ _ _ _).trans (kn_putSpan _ _ _ _ _) | exact (kn_putSpan _ _ _ _ _).trans (kn_giveSpan _ _ _ _ _)
theorem kn_ofDay (p0 : Int32) (p1 : Int32) (z : CS) : (m_X0_ofDay p0 p1 z).2.2.2.2.2.2.2 = z.2.2.2.2.2 := by
  unfold m_X0_ofDay
  with_reducible repeat' split
  all_goals with_reducible first | rfl | exact kn_put _ _ _ | exact kn_give _ _ _ | exact kn_giveYearDay _ _ _ _ | exact kn_move _ _ _ _ | exact kn_putSpan _ _ _ _ _ | exact kn_giveSpan _ _ _ _ _ | exact kn_of _ _ _ _ _ | exact (kn_give _ _ _).trans (kn_put _ _ _) | exact (kn_give _ _ _).trans (kn_putSpan _ _ _ _ _) | exact (kn_give _ _ _).trans (kn_giveSpan _ _ _ _ _) | exact (kn_putSpan _ _ _ _ _).trans (kn_put _ _ _) | exact (kn_putSpan _ _ _ _ _).trans (kn_putSpan _ _ _ _ _) | exact (kn_putSpan _ _ _ _ _).trans (kn_giveSpan _ _ _ _ _)
theorem kn_ofYearDay (p0 : Int32) (p1 : Int32) (p2 : Int32) (z : CS) : (m_X0_ofYearDay p0 p1 p2 z).2.2.2.2.2.2.2 = z.2.2.2.2.2 := by
  unfold m_X0_ofYearDay
  with_reducible repeat' split
  all_goals with_reducible first | rfl | exact kn_put _ _ _ | exact kn_give _ _ _ | exact kn_giveYearDay _ _ _ _ | exact kn_move _ _ _ _ | exact kn_putSpan _ _ _ _ _ | exact kn_giveSpan _ _ _ _ _ | exact kn_of _ _ _ _ _ | exact kn_ofDay _ _ _ | exact (kn_give _ _ _).trans (kn_put _ _ _) | exact (kn_give _ _ _).trans (kn_putSpan _ _ _ _ _) | exact (kn_give _ _ _).trans (kn_giveSpan _ _ _ _ _) | exact (kn_putSpan _ _ _ _ _).trans (kn_put _ _ _) | exact (kn_putSpan _ _ _ _ _).trans (kn_putSpan _ _ _ _ _) | exact (kn_putSpan _ _ _ _ _).trans (kn_giveSpan _ _ _ _ _)
theorem kn_copy (p0 : Int32) (p1 : Int32) (z : CS) : (m_X0_copy p0 p1 z).2.2.2.2.2.2.2 = z.2.2.2.2.2 := by
  unfold m_X0_copy
  with_reducible repeat' split
  all_goals with_reducible first | rfl | exact kn_put _ _ _ | exact kn_give _ _ _ | exact kn_giveYearDay _ _ _ _ | exact kn_move _ _ _ _ | exact kn_putSpan _ _ _ _ _ | exact kn_giveSpan _ _ _ _ _ | exact kn_of _ _ _ _ _ | exact kn_ofDay _ _ _ | exact kn_ofYearDay _ _ _ _ | exact (kn_give _ _ _).trans (kn_put _ _ _) | exact (kn_give _ _ _).trans (kn_putSpan _ _ _ _ _) | exact (kn_give _ _ _).trans (kn_giveSpan _ _ _ _ _) | exact (kn_putSpan _ _ _ _ _).trans (kn_put _ _ _) | exact (kn_putSpan _ _ _ _ _).trans (kn_putSpan _ _ _ _ _) | exact (kn_putSpan _ _ _ _ _).trans (kn_giveSpan _ _ _ _ _)
theorem kn_epoch (p0 : Int32) (z : CS) : (m_X0_epoch p0 z).2.2.2.2.2.2.2 = z.2.2.2.2.2 := by
  unfold m_X0_epoch
  with_reducible repeat' split
  all_goals with_reducible first | rfl | exact kn_put _ _ _ | exact kn_give _ _ _ | exact kn_giveYearDay _ _ _ _ | exact kn_move _ _ _ _ | exact kn_putSpan _ _ _ _ _ | exact kn_giveSpan _ _ _ _ _ | exact kn_of _ _ _ _ _ | exact kn_ofDay _ _ _ | exact kn_ofYearDay _ _ _ _ | exact kn_copy _ _ _ | exact (kn_give _ _ _).trans (kn_put _ _ _) | exact (kn_give _ _ _).trans (kn_putSpan _ _ _ _ _) | exact (kn_give _ _ _).trans (kn_giveSpan _ _ _ _ _) | exact (kn_putSpan _ _ _ _ _).trans (kn_put _ _ _) | exact (kn_putSpan _ _ _ _ _).trans (kn_putSpan _ _ _ _ _) | exact (kn_putSpan _ _ _ _ _).trans (kn_giveSpan _ _ _ _ _)
theorem kn_swap (p0 : Int32) (p1 : Int32) (z : CS) : (m_X0_swap p0 p1 z).2.2.2.2.2.2.2 = z.2.2.2.2.2 := by
  unfold m_X0_swap
  with_reducible repeat' split
  all_goals with_reducible first | rfl | exact kn_put _ _ _ | exact kn_give _ _ _ | exact kn_giveYearDay _ _ _ _ | exact kn_move _ _ _ _ | exact kn_putSpan _ _ _ _ _ | exact kn_giveSpan _ _ _ _ _ | exact kn_of _ _ _ _ _ | exact kn_ofDay _ _ _ | exact kn_ofYearDay _ _ _ _ | exact kn_copy _ _ _ | exact kn_epoch _ _ | exact (kn_give _ _ _).trans (kn_put _ _ _) | exact (kn_give _ _ _).trans (kn_putSpan _ _ _ _ _) | exact (kn_give _ _ _).trans (kn_giveSpan _ _ _ _ _) | exact (kn_putSpan _ _ _ _ _).trans (kn_put _ _ _) | exact (kn_putSpan _ _ _ _ _).trans (kn_putSpan _ _ _ _ _) | exact (kn_putSpan _ _ _ _ _).trans (kn_giveSpan _ _ _ _ _)
theorem kn_withYear (p0 : Int32) (p1 : Int32) (z : CS) : (m_X0_withYear p0 p1 z).2.2.2.2.2.2.2 = z.2.2.2.2.2 := by
  unfold m_X0_withYear
  with_reducible repeat' split
  all_goals with_reducible first | rfl | exact kn_put _ _ _ | exact kn_give _ _ _ | exact kn_giveYearDay _ _ _ _ | exact kn_move _ _ _ _ | exact kn_putSpan _ _ _ _ _ | exact kn_giveSpan _ _ _ _ _ | exact kn_of _ _ _ _ _ | exact kn_ofDay _ _ _ | exact kn_ofYearDay _ _ _ _ | exact kn_copy _ _ _ | exact kn_epoch _ _ | exact kn_swap _ _ _ | exact (kn_give _ _ _).trans (kn_put _ _ _) | exact (kn_give _ _ _).trans (kn_putSpan _ _ _ _ _) | exact (kn_give _ _ _).trans (kn_giveSpan _ _ _ _ _) | exact (kn_putSpan _ _ _ _ _).trans (kn_put _ _ _) | exact (kn_putSpan _ _ _ _ _).trans (kn_putSpan _ _ _ _ _) | exact (kn_putSpan _ _ _ _ _).trans (kn_giveSpan _ _ _ _ _)
theorem kn_withMonth (p0 : Int32) (p1 : Int32) (z : CS) : (m_X0_withMonth p0 p1 z).2.2.2.2.2.2.2 = z.2.2.2.2.2 := by
  unfold m_X0_withMonth
  with_reducible repeat' split
  all_goals with_reducible first | rfl | exact kn_put _ _ _ | exact kn_give _ _ _ | exact kn_giveYearDay _ _ _ _ | exact kn_move _ _ _ _ | exact kn_putSpan _ _ _ _ _ | exact kn_giveSpan _ _ _ _ _ | exact kn_of _ _ _ _ _ | exact kn_ofDay _ _ _ | exact kn_ofYearDay _ _ _ _ | exact kn_copy _ _ _ | exact kn_epoch _ _ | exact kn_swap _ _ _ | exact kn_withYear _ _ _ | exact (kn_give _ _ _).trans (kn_put _ _ _) | exact (kn_give _ _ _).trans (kn_putSpan _ _ _ _ _) | exact (kn_give _ _ _).trans (kn_giveSpan _ _ _ _ _) | exact (kn_putSpan _ _ _ _ _).trans (kn_put _ _ _) | exact (kn_putSpan _ _ _ _ _).trans (kn_putSpan _ _ _ _ _) | exact (kn_putSpan _ _ _ _ _).trans (kn_giveSpan _ _ _ _ _)
theorem kn_withDay (p0 : Int32) (p1 : Int32) (z : CS) : (m_X0_withDay p0 p1 z).2.2.2.2.2.2.2 = z.2.2.2.2.2 := by
  unfold m_X0_withDay
  with_reducible repeat' split
  all_goals with_reducible first | rfl | exact kn_put _ _ _ | exact kn_give _ _ _ | exact kn_giveYearDay _ _ _ _ | exact kn_move _ _ _ _ | exact kn_putSpan _ _ _ _ _ | exact kn_giveSpan _ _ _ _ _ | exact kn_of _ _ _ _ _ | exact kn_ofDay _ _ _ | exact kn_ofYearDay _ _ _ _ | exact kn_copy _ _ _ | exact kn_epoch _ _ | exact kn_swap _ _ _ | exact kn_withYear _ _ _ | exact kn_withMonth _ _ _ | exact (kn_give _ _ _).trans (kn_put _ _ _) | exact (kn_give _ _ _).trans (kn_putSpan _ _ _ _ _) | exact (kn_give _ _ _).trans (kn_giveSpan _ _ _ _ _) | exact (kn_putSpan _ _ _ _ _).trans (kn_put _ _ _) | exact (kn_putSpan _ _ _ _ _).trans (kn_putSpan _ _ _ _ _) | exact (kn_putSpan _ _ _ _ _).trans (kn_giveSpan _ _ _ _ _)
theorem kn_withDayOfYear (p0 : Int32) (p1 : Int32) (z : CS) : (m_X0_withDayOfYear p0 p1 z).2.2.2.2.2.2.2 = z.2.2.2.2.2 := by
  unfold m_X0_withDayOfYear
  with_reducible repeat' split
  all_goals with_reducible first | rfl | exact kn_put _ _ _ | exact kn_give _ _ _ | exact kn_giveYearDay _ _ _ _ | exact kn_move _ _ _ _ | exact kn_putSpan _ _ _ _ _ | exact kn_giveSpan _ _ _ _ _ | exact kn_of _ _ _ _ _ | exact kn_ofDay _ _ _ | exact kn_ofYearDay _ _ _ _ | exact kn_copy _ _ _ | exact kn_epoch _ _ | exact kn_swap _ _ _ | exact kn_withYear _ _ _ | exact kn_withMonth _ _ _ | exact kn_withDay _ _ _ | exact (kn_give _ _ _).trans (kn_put _ _ _) | exact (kn_give _ _ _).trans (kn_putSpan _ _ _ _ _) | exact (kn_give _ _ _).trans (kn_giveSpan _ _ _ _ _) | exact (kn_putSpan _ _ _ _ _).trans (kn_put _ _ _) | exact (kn_putSpan _ _ _ _ _).trans (kn_putSpan _ _ _ _ _) | exact (kn_putSpan _ _ _ _ _).trans (kn_giveSpan _ _ _ _ _)
theorem kn_toFirst (p0 : Int32) (z : CS) : (m_X0_toFirst p0 z).2.2.2.2.2.2.2 = z.2.2.2.2.2 := by
  unfold m_X0_toFirst
  with_reducible repeat' split
  all_goals with_reducible first | rfl | exact kn_put _ _ _ | exact kn_give _ _ _ | exact kn_giveYearDay _ _ _ _ | exact kn_move _ _ _ _ | exact kn_putSpan _ _ _ _ _ | exact kn_giveSpan _ _ _ _ _ | exact kn_of _ _ _ _ _ | exact kn_ofDay _ _ _ | exact kn_ofYearDay _ _ _ _ | exact kn_copy _ _ _ | exact kn_epoch _ _ | exact kn_swap _ _ _ | exact kn_withYear _ _ _ | exact kn_withMonth _ _ _ | exact kn_withDay _ _ _ | exact kn_withDayOfYear _ _ _ | exact (kn_give _ _ _).trans (kn_put _ _ _) | exact (kn_give _ _ _).trans (kn_putSpan _ _ _ _ _) | exact (kn_give _ _ _).trans (kn_giveSpan _ _ _ _ _) | exact (kn_putSpan _ _ _ _ _).trans (kn_put _ _ _) | exact (kn_putSpan _ _ _ _ _).trans (kn_putSpan _ _ _ _ _) | exact (kn_putSpan _ _ _ _ _).trans (kn_giveSpan _ _ _ _ _)
theorem kn_toLast (p0 : Int32) (z : CS) : (m_X0_toLast p0 z).2.2.2.2.2.2.2 = z.2.2.2.2.2 := by
  unfold m_X0_toLast
  with_reducible repeat' split
  all_goals with_reducible first | rfl | exact kn_put _ _ _ | exact kn_give _ _ _ | exact kn_giveYearDay _ _ _ _ | exact kn_move _ _ _ _ | exact kn_putSpan _ _ _ _ _ | exact kn_giveSpan _ _ _ _ _ | exact kn_of _ _ _ _ _ | exact kn_ofDay _ _ _ | exact kn_ofYearDay _ _ _ _ | exact kn_copy _ _ _ | exact kn_epoch _ _ | exact kn_swap _ _ _ | exact kn_withYear _ _ _ | exact kn_withMonth _ _ _ | exact kn_withDay _ _ _ | exact kn_withDayOfYear _ _ _ | exact kn_toFirst _ _ | exact (kn_give _ _ _).trans (kn_put _ _ _) | exact (kn_give _ _ _).trans (kn_putSpan _ _ _ _ _) | exact (kn_give _ _ _).trans (kn_giveSpan _ _ _ _ _) | exact (kn_putSpan _ _ _ _ _).trans (kn_put _ _ _) | exact (kn_putSpan _ _ _ _ _).trans (kn_putSpan _ _ _ _ _) | exact (kn_putSpan _ _ _ _ _).trans (kn_giveSpan _ _ _ _ _)
theorem kn_plusDays (p0 : Int32) (p1 : Int32) (z : CS) : (m_X0_plusDays p0 p1 z).2.2.2.2.2.2.2 = z.2.2.2.2.2 := by
  unfold m_X0_plusDays
  with_reducible repeat' split
  all_goals with_reducible first | rfl | exact kn_put _ _ _ | exact kn_give _ _ _ | exact kn_giveYearDay _ _ _ _ | exact kn_move _ _ _ _ | exact kn_putSpan _ _ _ _ _ | exact kn_giveSpan _ _ _ _ _ | exact kn_of _ _ _ _ _ | exact kn_ofDay _ _ _ | exact kn_ofYearDay _ _ _ _ | exact kn_copy _ _ _ | exact kn_epoch _ _ | exact kn_swap _ _ _ | exact kn_withYear _ _ _ | exact kn_withMonth _ _ _ | exact kn_withDay _ _ _ | exact kn_withDayOfYear _ _ _ | exact kn_toFirst _ _ | exact kn_toLast _ _ | exact (kn_give _ _ _).trans (kn_put _ _ _) | exact (kn_give _ _ _).trans (kn_putSpan _ _ _ _ _) | exact (kn_give _ _ _).trans (kn_giveSpan _ _ _ _ _) | exact (kn_putSpan _ _ _ _ _).trans (kn_put _ _ _) | exact (kn_putSpan _ _ _ _ _).trans (kn_putSpan _ _ _ _ _) | exact (kn_putSpan _ _ _ _ _).trans (kn_giveSpan _ _ _ _ _)
theorem kn_plusWeeks (p0 : Int32) (p1 : Int32) (z : CS) : (m_X0_plusWeeks p0 p1 z).2.2.2.2.2.2.2 = z.2.2.2.2.2 := by
  unfold m_X0_plusWeeks
  with_reducible repeat' split
  all_goals with_reducible first | rfl | exact kn_put _ _ _ | exact kn_give _ _ _ | exact kn_giveYearDay _ _ _ _ | exact kn_move _ _ _ _ | exact kn_putSpan _ _ _ _ _ | exact kn_giveSpan _ _ _ _ _ | exact kn_of _ _ _ _ _ | exact kn_ofDay _ _ _ | exact kn_ofYearDay _ _ _ _ | exact kn_copy _ _ _ | exact kn_epoch _ _ | exact kn_swap _ _ _ | exact kn_withYear _ _ _ | exact kn_withMonth _ _ _ | exact kn_withDay _ _ _ | exact kn_withDayOfYear _ _ _ | exact kn_toFirst _ _ | exact kn_toLast _ _ | exact kn_plusDays _ _ _ | exact (kn_give _ _ _).trans (kn_put _ _ _) | exact (kn_give _ _ _).trans (kn_putSpan _ _ _ _ _) | exact (kn_give _ _ _).trans (kn_giveSpan _ _ _ _ _) | exact (kn_putSpan _ _ _ _ _).trans (kn_put _ _ _) | exact (kn_putSpan _ _ _ _ _).trans (kn_putSpan _ _ _ _ _) | exact (kn_putSpan _ _ _ _ _).trans (kn_giveSpan _ _ _ _ _)
theorem kn_plusMonths (p0 : Int32) (p1 : Int32) (z : CS) : (m_X0_plusMonths p0 p1 z).2.2.2.2.2.2.2 = z.2.2.2.2.2 := by
  unfold m_X0_plusMonths
  with_reducible repeat' split
  all_goals with_reducible first | rfl | exact kn_put _ _ _ | exact kn_give _ _ _ | exact kn_giveYearDay _ _ _ _ | exact kn_move _ _ _ _ | exact kn_putSpan _ _ _ _ _ | exact kn_giveSpan _ _ _ _ _ | exact kn_of _ _ _ _ _ | exact kn_ofDay _ _ _ | exact kn_ofYearDay _ _ _ _ | exact kn_copy _ _ _ | exact kn_epoch _ _ | exact kn_swap _ _ _ | exact kn_withYear _ _ _ | exact kn_withMonth _ _ _ | exact kn_withDay _ _ _ | exact kn_withDayOfYear _ _ _ | exact kn_toFirst _ _ | exact kn_toLast _ _ | exact kn_plusDays _ _ _ | exact kn_plusWeeks _ _ _ | exact (kn_give _ _ _).trans (kn_put _ _ _) | exact (kn_give _ _ _).trans (kn_putSpan _ _ _ _ _) | exact (kn_give _ _ _).trans (kn_giveSpan _ _ _ _ _) | exact (kn_putSpan _ _ _ _ _).trans (kn_put _ _ _) | exact (kn_putSpan _ _ _ _ _).trans (kn_putSpan _ _ _ _ _) | exact (kn_putSpan _ _ _ _ _).trans (kn_giveSpan _ _ _ _ _)
theorem kn_plusYears (p0 : Int32) (p1 : Int32) (z : CS) : (m_X0_plusYears p0 p1 z).2.2.2.2.2.2.2 = z.2.2.2.2.2 := by
  unfold m_X0_plusYears
  with_reducible repeat' split
  all_goals with_reducible first | rfl | exact kn_put _ _ _ | exact kn_give _ _ _ | exact kn_giveYearDay _ _ _ _ | exact kn_move _ _ _ _ | exact kn_putSpan _ _ _ _ _ | exact kn_giveSpan _ _ _ _ _ | exact kn_of _ _ _ _ _ | exact kn_ofDay _ _ _ | exact kn_ofYearDay _ _ _ _ | exact kn_copy _ _ _ | exact kn_epoch _ _ | exact kn_swap _ _ _ | exact kn_withYear _ _ _ | exact kn_withMonth _ _ _ | exact kn_withDay _ _ _ | exact kn_withDayOfYear _ _ _ | exact kn_toFirst _ _ | exact kn_toLast _ _ | exact kn_plusDays _ _ _ | exact kn_plusWeeks _ _ _ | exact kn_plusMonths _ _ _ | exact (kn_give _ _ _).trans (kn_put _ _ _) | exact (kn_give _ _ _).trans (kn_putSpan _ _ _ _ _) | exact (kn_give _ _ _).trans (kn_giveSpan _ _ _ _ _) | exact (kn_putSpan _ _ _ _ _).trans (kn_put _ _ _) | exact (kn_putSpan _ _ _ _ _).trans (kn_putSpan _ _ _ _ _) | exact (kn_putSpan _ _ _ _ _).trans (kn_giveSpan _ _ _ _ _)
theorem kn_minusDays (p0 : Int32) (p1 : Int32) (z : CS) : (m_X0_minusDays p0 p1 z).2.2.2.2.2.2.2 = z.2.2.2.2.2 := by
  unfold m_X0_minusDays
  with_reducible repeat' split
  all_goals with_reducible first | rfl | exact kn_put _ _ _ | exact kn_give _ _ _ | exact kn_giveYearDay _ _ _ _ | exact kn_move _ _ _ _ | exact kn_putSpan _ _ _ _ _ | exact kn_giveSpan _ _ _ _ _ | exact kn_of _ _ _ _ _ | exact kn_ofDay _ _ _ | exact kn_ofYearDay _ _ _ _ | exact kn_copy _ _ _ | exact kn_epoch _ _ | exact kn_swap _ _ _ | exact kn_withYear _ _ _ | exact kn_withMonth _ _ _ | exact kn_withDay _ _ _ | exact kn_withDayOfYear _ _ _ | exact kn_toFirst _ _ | exact kn_toLast _ _ | exact kn_plusDays _ _ _ | exact kn_plusWeeks _ _ _ | exact kn_plusMonths _ _ _ | exact kn_plusYears _ _ _ | exact (kn_give _ _ _).trans (kn_put _ _ _) | exact (kn_give _ _ _).trans (kn_putSpan _ _ _ _ _) | exact (kn_give _ _ _).trans (kn_giveSpan _ _ _ _ _) | exact (kn_putSpan _ _ _ _ _).trans (kn_put _ _ _) | exact (kn_putSpan _ _ _ _ _).trans (kn_putSpan _ _ _ _ _) | exact (kn_putSpan _ _ _ _ _).trans (kn_giveSpan _ _ _ _ _)
theorem kn_minusWeeks (p0 : Int32) (p1 : Int32) (z : CS) : (m_X0_minusWeeks p0 p1 z).2.2.2.2.2.2.2 = z.2.2.2.2.2 := by
  unfold m_X0_minusWeeks
  with_reducible repeat' split
  all_goals with_reducible first | rfl | exact kn_put _ _ _ | exact kn_give _ _ _ | exact kn_giveYearDay _ _ _ _ | exact kn_move _ _ _ _ | exact kn_putSpan _ _ _ _ _ | exact kn_giveSpan _ _ _ _ _ | exact kn_of _ _ _ _ _ | exact kn_ofDay _ _ _ | exact kn_ofYearDay _ _ _ _ | exact kn_copy _ _ _ | exact kn_epoch _ _ | exact kn_swap _ _ _ | exact kn_withYear _ _ _ | exact kn_withMonth _ _ _ | exact kn_withDay _ _ _ | exact kn_withDayOfYear _ _ _ | exact kn_toFirst _ _ | exact kn_toLast _ _ | exact kn_plusDays _ _ _ | exact kn_plusWeeks _ _ _ | exact kn_plusMonths _ _ _ | exact kn_plusYears _ _ _ | exact kn_minusDays _ _ _ | exact (kn_give _ _ _).trans (kn_put _ _ _) | exact (kn_give _ _ _).trans (kn_putSpan _ _ _ _ _) | exact (kn_give _ _ _).trans (kn_giveSpan _ _ _ _ _) | exact (kn_putSpan _ _ _ _ _).trans (kn_put _ _ _) | exact (kn_putSpan _ _ _ _ _).trans (kn_putSpan _ _ _ _ _) | exact (kn_putSpan _ _ _ _ _).trans (kn_giveSpan _ _ _ _ _)
theorem kn_minusMonths (p0 : Int32) (p1 : Int32) (z : CS) : (m_X0_minusMonths p0 p1 z).2.2.2.2.2.2.2 = z.2.2.2.2.2 := by
  unfold m_X0_minusMonths
  with_reducible repeat' split
  all_goals with_reducible first | rfl | exact kn_put _ _ _ | exact kn_give _ _ _ | exact kn_giveYearDay _ _ _ _ | exact kn_move _ _ _ _ | exact kn_putSpan _ _ _ _ _ | exact kn_giveSpan _ _ _ _ _ | exact kn_of _ _ _ _ _ | exact kn_ofDay _ _ _ | exact kn_ofYearDay _ _ _ _ | exact kn_copy _ _ _ | exact kn_epoch _ _ | exact kn_swap _ _ _ | exact kn_withYear _ _ _ | exact kn_withMonth _ _ _ | exact kn_withDay _ _ _ | exact kn_withDayOfYear _ _ _ | exact kn_toFirst _ _ | exact kn_toLast _ _ | exact kn_plusDays _ _ _ | exact kn_plusWeeks _ _ _ | exact kn_plusMonths _ _ _ | exact kn_plusYears _ _ _ | exact kn_minusDays _ _ _ | exact kn_minusWeeks _ _ _ | exact (kn_give _ _ _).trans (kn_put _ _ _) | exact (kn_give _ _ _).trans (kn_putSpan _ _ _ _ _) | exact (kn_give _ _ _).trans (kn_giveSpan _ _ _ _ _) | exact (kn_putSpan _ _ _ _ _).trans (kn_put _ _ _) | exact (kn_putSpan _ _ _ _ _).trans (kn_putSpan _ _ _ _ _) | exact (kn_putSpan _ _ _ _ _).trans (kn_giveSpan _ _ _ _ _)
theorem kn_minusYears (p0 : Int32) (p1 : Int32) (z : CS) : (m_X0_minusYears p0 p1 z).2.2.2.2.2.2.2 = z.2.2.2.2.2 := by
  unfold m_X0_minusYears
  with_reducible repeat' split
  all_goals with_reducible first | rfl | exact kn_put _ _ _ | exact kn_give _ _ _ | exact kn_giveYearDay _ _ _ _ | exact kn_move _ _ _ _ | exact kn_putSpan _ _ _ _ _ | exact kn_giveSpan _ _ _ _ _ | exact kn_of _ _ _ _ _ | exact kn_ofDay _ _ _ | exact kn_ofYearDay _ _ _ _ | exact kn_copy _ _ _ | exact kn_epoch _ _ | exact kn_swap _ _ _ | exact kn_withYear _ _ _ | exact kn_withMonth _ _ _ | exact kn_withDay _ _ _ | exact kn_withDayOfYear _ _ _ | exact kn_toFirst _ _ | exact kn_toLast _ _ | exact kn_plusDays _ _ _ | exact kn_plusWeeks _ _ _ | exact kn_plusMonths _ _ _ | exact kn_plusYears _ _ _ | exact kn_minusDays _ _ _ | exact kn_minusWeeks _ _ _ | exact kn_minusMonths _ _ _ | exact (kn_give _ _ _).trans (kn_put _ _ _) | exact (kn_give _ _ _).trans (kn_putSpan _ _ _ _ _) | exact (kn_give _ _ _).trans (kn_giveSpan _ _ _ _ _) | exact (kn_putSpan _ _ _ _ _).trans (kn_put _ _ _) | exact (kn_putSpan _ _ _ _ _).trans (kn_putSpan _ _ _ _ _) | exact (kn_putSpan _ _ _ _ _).trans (kn_giveSpan _ _ _ _ _)
theorem kn_span (p0 : Int32) (p1 : Int32) (p2 : Int32) (p3 : Int32) (z : CS) : (m_X0_span p0 p1 p2 p3 z).2.2.2.2.2.2.2 = z.2.2.2.2.2 := by
  unfold m_X0_span
  with_reducible repeat' split
  all_goals with_reducible first | rfl | exact kn_put _ _ _ | exact kn_give _ _ _ | exact kn_giveYearDay _ _ _ _ | exact kn_move _ _ _ _ | exact kn_putSpan _ _ _ _ _ | exact kn_giveSpan _ _ _ _ _ | exact kn_of _ _ _ _ _ | exact kn_ofDay _ _ _ | exact kn_ofYearDay _ _ _ _ | exact kn_copy _ _ _ | exact kn_epoch _ _ | exact kn_swap _ _ _ | exact kn_withYear _ _ _ | exact kn_withMonth _ _ _ | exact kn_withDay _ _ _ | exact kn_withDayOfYear _ _ _ | exact kn_toFirst _ _ | exact kn_toLast _ _ | exact kn_plusDays _ _ _ | exact kn_plusWeeks _ _ _ | exact kn_plusMonths _ _ _ | exact kn_plusYears _ _ _ | exact kn_minusDays _ _ _ | exact kn_minusWeeks _ _ _ | exact kn_minusMonths _ _ _ | exact kn_minusYears _ _ _ | exact (kn_give _ _ _).trans (kn_put _ _ _) | exact (kn_give _ _ _).trans (kn_putSpan _ _ _ _ _) | exact (kn_give _ _ _).trans (kn_giveSpan _ _ _ _ _) | exact (kn_putSpan _ _ _ _ _).trans (kn_put _ _ _) | exact (kn_putSpan _ _ _ _ _).trans (kn_putSpan _ _ _ _ _) | exact (kn_putSpan _ _ _ _ _).trans (kn_giveSpan _ _ _ _ _)
theorem kn_until (p0 : Int32) (p1 : Int32) (p2 : Int32) (z : CS) : (m_X0_until p0 p1 p2 z).2.2.2.2.2.2.2 = z.2.2.2.2.2 := by
  unfold m_X0_until
  with_reducible repeat' split
  all_goals with_reducible first | rfl | exact kn_put _ _ _ | exact kn_give _ _ _ | exact kn_giveYearDay _ _ _ _ | exact kn_move _ _ _ _ | exact kn_putSpan _ _ _ _ _ | exact kn_giveSpan _ _ _ _ _ | exact kn_of _ _ _ _ _ | exact kn_ofDay _ _ _ | exact kn_ofYearDay _ _ _ _ | exact kn_copy _ _ _ | exact kn_epoch _ _ | exact kn_swap _ _ _ | exact kn_withYear _ _ _ | exact kn_withMonth _ _ _ | exact kn_withDay _ _ _ | exact kn_withDayOfYear _ _ _ | exact kn_toFirst _ _ | exact kn_toLast _ _ | exact kn_plusDays _ _ _ | exact kn_plusWeeks _ _ _ | exact kn_plusMonths _ _ _ | exact kn_plusYears _ _ _ | exact kn_minusDays _ _ _ | exact kn_minusWeeks _ _ _ | exact kn_minusMonths _ _ _ | exact kn_minusYears _ _ _ | exact kn_span _ _ _ _ _ | exact (kn_give _ _ _).trans (kn_put _ _ _) | exact (kn_give _ _ _).trans (kn_putSpan _ _ _ _ _) | exact (kn_give _ _ _).trans (kn_giveSpan _ _ _ _ _) | exact (kn_putSpan _ _ _ _ _).trans (kn_put _ _ _) | exact (kn_putSpan _ _ _ _ _).trans (kn_putSpan _ _ _ _ _) | exact (kn_putSpan _ _ _ _ _).trans (kn_giveSpan _ _ _ _ _)
theorem kn_addSpan (p0 : Int32) (p1 : Int32) (z : CS) : (m_X0_addSpan p0 p1 z).2.2.2.2.2.2.2 = z.2.2.2.2.2 := by
  unfold m_X0_addSpan
  with_reducible repeat' split
  all_goals with_reducible first | rfl | exact kn_put _ _ _ | exact kn_give _ _ _ | exact kn_giveYearDay _ _ _ _ | exact kn_move _ _ _ _ | exact kn_putSpan _ _ _ _ _ | exact kn_giveSpan _ _ _ _ _ | exact kn_of _ _ _ _ _ | exact kn_ofDay _ _ _ | exact kn_ofYearDay _ _ _ _ | exact kn_copy _ _ _ | exact kn_epoch _ _ | exact kn_swap _ _ _ | exact kn_withYear _ _ _ | exact kn_withMonth _ _ _ | exact kn_withDay _ _ _ | exact kn_withDayOfYear _ _ _ | exact kn_toFirst _ _ | exact kn_toLast _ _ | exact kn_plusDays _ _ _ | exact kn_plusWeeks _ _ _ | exact kn_plusMonths _ _ _ | exact kn_plusYears _ _ _ | exact kn_minusDays _ _ _ | exact kn_minusWeeks _ _ _ | exact kn_minusMonths _ _ _ | exact kn_minusYears _ _ _ | exact kn_span _ _ _ _ _ | exact kn_until _ _ _ _ | exact (kn_give _ _ _).trans (kn_put _ _ _) | exact (kn_give _ _ _).trans (kn_putSpan _ _ _ _ _) | exact (kn_give _ _ _).trans (kn_giveSpan _ _ _ _ _) | exact (kn_putSpan _ _ _ _ _).trans (kn_put _ _ _) | exact (kn_putSpan _ _ _ _ _).trans (kn_putSpan _ _ _ _ _) | exact (kn_putSpan _ _ _ _ _).trans (kn_giveSpan _ _ _ _ _)
theorem kn_plusSpan (p0 : Int32) (p1 : Int32) (z : CS) : (m_X0_plusSpan p0 p1 z).2.2.2.2.2.2.2 = z.2.2.2.2.2 := by
  unfold m_X0_plusSpan
  with_reducible repeat' split
  all_goals with_reducible first | rfl | exact kn_put _ _ _ | exact kn_give _ _ _ | exact kn_giveYearDay _ _ _ _ | exact kn_move _ _ _ _ | exact kn_putSpan _ _ _ _ _ | exact kn_giveSpan _ _ _ _ _ | exact kn_of _ _ _ _ _ | exact kn_ofDay _ _ _ | exact kn_ofYearDay _ _ _ _ | exact kn_copy _ _ _ | exact kn_epoch _ _ | exact kn_swap _ _ _ | exact kn_withYear _ _ _ | exact kn_withMonth _ _ _ | exact kn_withDay _ _ _ | exact kn_withDayOfYear _ _ _ | exact kn_toFirst _ _ | exact kn_toLast _ _ | exact kn_plusDays _ _ _ | exact kn_plusWeeks _ _ _ | exact kn_plusMonths _ _ _ | exact kn_plusYears _ _ _ | exact kn_minusDays _ _ _ | exact kn_minusWeeks _ _ _ | exact kn_minusMonths _ _ _ | exact kn_minusYears _ _ _ | exact kn_span _ _ _ _ _ | exact kn_until _ _ _ _ | exact kn_addSpan _ _ _ | exact (kn_give _ _ _).trans (kn_put _ _ _) | exact (kn_give _ _ _).trans (kn_putSpan _ _ _ _ _) | exact (kn_give _ _ _).trans (kn_giveSpan _ _ _ _ _) | exact (kn_putSpan _ _ _ _ _).trans (kn_put _ _ _) | exact (kn_putSpan _ _ _ _ _).trans (kn_putSpan _ _ _ _ _) | exact (kn_putSpan _ _ _ _ _).trans (kn_giveSpan _ _ _ _ _)
theorem kn_minusSpan (p0 : Int32) (p1 : Int32) (z : CS) : (m_X0_minusSpan p0 p1 z).2.2.2.2.2.2.2 = z.2.2.2.2.2 := by
  unfold m_X0_minusSpan
  with_reducible repeat' split
  all_goals with_reducible first | rfl | exact kn_put _ _ _ | exact kn_give _ _ _ | exact kn_giveYearDay _ _ _ _ | exact kn_move _ _ _ _ | exact kn_putSpan _ _ _ _ _ | exact kn_giveSpan _ _ _ _ _ | exact kn_of _ _ _ _ _ | exact kn_ofDay _ _ _ | exact kn_ofYearDay _ _ _ _ | exact kn_copy _ _ _ | exact kn_epoch _ _ | exact kn_swap _ _ _ | exact kn_withYear _ _ _ | exact kn_withMonth _ _ _ | exact kn_withDay _ _ _ | exact kn_withDayOfYear _ _ _ | exact kn_toFirst _ _ | exact kn_toLast _ _ | exact kn_plusDays _ _ _ | exact kn_plusWeeks _ _ _ | exact kn_plusMonths _ _ _ | exact kn_plusYears _ _ _ | exact kn_minusDays _ _ _ | exact kn_minusWeeks _ _ _ | exact kn_minusMonths _ _ _ | exact kn_minusYears _ _ _ | exact kn_span _ _ _ _ _ | exact kn_until _ _ _ _ | exact kn_addSpan _ _ _ | exact kn_plusSpan _ _ _ | exact (kn_give _ _ _).trans (kn_put _ _ _) | exact (kn_give _ _ _).trans (kn_putSpan _ _ _ _ _) | exact (kn_give _ _ _).trans (kn_giveSpan _ _ _ _ _) | exact (kn_putSpan _ _ _ _ _).trans (kn_put _ _ _) | exact (kn_putSpan _ _ _ _ _).trans (kn_putSpan _ _ _ _ _) | exact (kn_putSpan _ _ _ _ _).trans (kn_giveSpan _ _ _ _ _)
def rkP (kn : Int32) (r : Nat × Int32 × CS) : Prop := r.2.2.2.2.2.2.2 = kn
theorem rk_i {kn : Int32} {c : Prop} [Decidable c] {A B : Nat × Int32 × CS} (h1 : rkP kn A) (h2 : rkP kn B) : rkP kn (if c then A else B) := by split <;> assumption
theorem rk_l {kn : Int32} {w : CS} (h : w.2.2.2.2.2 = kn) {v : Int32} {B C : Nat × Int32 × CS} : rkP kn (if (m_X0_putSpan 0 0 0 0 w).1 = 0 then (if (m_X0_putSpan 1 0 0 0 (m_X0_putSpan 0 0 0 0 w).2).1 = 0 then (0, v, (m_X0_putSpan 1 0 0 0 (m_X0_putSpan 0 0 0 0 w).2).2) else B) else C) := by
  rw [if_pos (ps_0 sp0 ..), if_pos (ps_0 sp1 ..)]
  exact (kn_putSpan _ _ _ _ _).trans ((kn_putSpan _ _ _ _ _).trans h)
theorem rk_reset (z : CS) : rkP z.2.2.2.2.2 (m_X0_reset z) := by
  unfold m_X0_reset
  refine rk_i ?_ ?_ <;> refine rk_i ?_ ?_ <;> refine rk_i ?_ ?_ <;> refine rk_i ?_ ?_ <;> refine rk_i ?_ ?_ <;> refine rk_i ?_ ?_ <;> exact rk_l rfl
theorem kn_reset (z : CS) : (m_X0_reset z).2.2.2.2.2.2.2 = z.2.2.2.2.2 := rk_reset z
theorem t_reset {kn : Int32} (z : MS) (hz : rK kn z) : T (fun r => rK kn r.2) (o_X3_reset z) := by
  unfold o_X3_reset
  have h0 : rK kn ((0 : Int32), z.2.1, z.2.2.1, z.2.2.2.1, z.2.2.2.2.1, z.2.2.2.2.2) := hz
  refine T_nu (rK_dc hz (0 : Int32).toNatClampNeg (by decide)) (fun v0 => ?_)
  generalize ((0 : Int32), z.2.1, z.2.2.1, z.2.2.2.1, z.2.2.2.2.1, z.2.2.2.2.2) = w0 at h0 ⊢
  have h1 := rK_put (n := (0 : Int32).toNatClampNeg) h0 dR_ep
  generalize dput w0 (0 : Int32).toNatClampNeg ((1970 : Int32), (1 : Int32), (1 : Int32)) = w1 at h1 ⊢
  refine T_nu (rK_dc h1 (1 : Int32).toNatClampNeg (by decide)) (fun v1 => ?_)
  have h2 := rK_put (n := (1 : Int32).toNatClampNeg) h1 dR_ep
  generalize dput w1 (1 : Int32).toNatClampNeg ((1970 : Int32), (1 : Int32), (1 : Int32)) = w2 at h2 ⊢
  refine T_nu (rK_dc h2 (2 : Int32).toNatClampNeg (by decide)) (fun v2 => ?_)
  have h3 := rK_put (n := (2 : Int32).toNatClampNeg) h2 dR_ep
  generalize dput w2 (2 : Int32).toNatClampNeg ((1970 : Int32), (1 : Int32), (1 : Int32)) = w3 at h3 ⊢
  refine T_nu (rK_dc h3 (3 : Int32).toNatClampNeg (by decide)) (fun v3 => ?_)
  have h4 := rK_put (n := (3 : Int32).toNatClampNeg) h3 dR_ep
  generalize dput w3 (3 : Int32).toNatClampNeg ((1970 : Int32), (1 : Int32), (1 : Int32)) = w4 at h4 ⊢
  refine T_nu (rK_dc h4 (4 : Int32).toNatClampNeg (by decide)) (fun v4 => ?_)
  have h5 := rK_put (n := (4 : Int32).toNatClampNeg) h4 dR_ep
  generalize dput w4 (4 : Int32).toNatClampNeg ((1970 : Int32), (1 : Int32), (1 : Int32)) = w5 at h5 ⊢
  refine T_nu (rK_dc h5 (5 : Int32).toNatClampNeg (by decide)) (fun v5 => ?_)
  have h6 := rK_put (n := (5 : Int32).toNatClampNeg) h5 dR_ep
  generalize dput w5 (5 : Int32).toNatClampNeg ((1970 : Int32), (1 : Int32), (1 : Int32)) = w6 at h6 ⊢
  exact T_s (rK_sput (rK_sput (rK_sput (rK_sput (rK_sput (rK_sput h6))))))
theorem T_sw {kn : Int32} {β : Type} {P : β → Prop} {p q : Int32} {w : MS} {F : MS → Option β} (hp : m_X3_isNo p = 0) (hq : m_X3_isNo q = 0) (hw : rK kn w) (h : ∀ w2, rK kn w2 → dV (w2.2.1 p.toNatClampNeg) → T P (F w2)) : T P (F (dput (dput w p.toNatClampNeg (w.2.1 q.toNatClampNeg)) q.toNatClampNeg (w.2.1 p.toNatClampNeg))) :=
  h _ (rK_put (rK_put hw (rK_dr hw hq)) (rK_dr hw hp)) (rK_dv (rK_put (rK_put hw (rK_dr hw hq)) (rK_dr hw hp)) hp)
theorem t_swap {kn : Int32} (p0 p1 : Int32) (z : MS) (hz : rK kn z) : T (fun r => rK kn r.2) (o_X3_swap p0 p1 z) := by
  unfold o_X3_swap
  with_reducible repeat' (first
    | exact T_s (by assumption)
    | (refine T_fl (by assumption) (fun ha hb hc w hw _ => ?_) (fun w hw => T_in one_ne (T_s hw)); first | exact absurd ha (by decide) | exact absurd hb (by decide) | exact absurd hc (by decide) | refine T_ip rfl ?_)
    | refine T_g6 (by assumption) ?_
    | (dsimp only; refine T_sw (F := fun w2 => (o_X2_number (w2.2.1 p0.toNatClampNeg)).bind fun x => some (x, w2.1, w2.2.1, w2.2.2.1, w2.2.2.2.1, w2.2.2.2.2.1 + 1, w2.2.2.2.2.2)) (by assumption) (by assumption) (by assumption) (fun w2 h2 hd => T_nu hd (fun v => T_s h2)))
    | refine T_i (fun h => ?_) (fun h => ?_))
theorem t_knock {kn : Int32} (z : MS) (hz : rK kn z) : T (fun r => rK (kn + 1) r.2 ∧ r.1 = kn + 1) (o_X3_knock z) := by
  refine ⟨_, rfl, ⟨hz.1, ?_⟩, ?_⟩
  · show z.2.2.2.2.2 + 1 = kn + 1; rw [hz.2]
  · show z.2.2.2.2.2 + 1 = kn + 1; rw [hz.2]
theorem t_isSound {kn : Int32} (z : MS) (hz : rK kn z) : T (fun r => rK kn r.2) (o_X3_isSound z) := ⟨_, rfl, hz⟩
theorem t_digest {kn : Int32} (z : MS) (hz : rK kn z) : T (fun r => rK kn r.2) (o_X3_digest z) := by
  unfold o_X3_digest
  have g0 : ¬ ((0 : Int32) + (1 : Int32) < 0 ∨ 6 ≤ ((0 : Int32) + (1 : Int32)).toNatClampNeg) := by decide
  have g1 : ¬ ((1 : Int32) + (1 : Int32) < 0 ∨ 6 ≤ ((1 : Int32) + (1 : Int32)).toNatClampNeg) := by decide
  have g2 : ¬ ((2 : Int32) + (1 : Int32) < 0 ∨ 6 ≤ ((2 : Int32) + (1 : Int32)).toNatClampNeg) := by decide
  have g3 : ¬ ((3 : Int32) + (1 : Int32) < 0 ∨ 6 ≤ ((3 : Int32) + (1 : Int32)).toNatClampNeg) := by decide
  have g4 : ¬ ((4 : Int32) + (1 : Int32) < 0 ∨ 6 ≤ ((4 : Int32) + (1 : Int32)).toNatClampNeg) := by decide
  have d0 : dR (z.2.1 (0 : Int32).toNatClampNeg) := rK_rc hz _ (by decide)
  have d1 : dR (z.2.1 (1 : Int32).toNatClampNeg) := rK_rc hz _ (by decide)
  have d2 : dR (z.2.1 (2 : Int32).toNatClampNeg) := rK_rc hz _ (by decide)
  have d3 : dR (z.2.1 (3 : Int32).toNatClampNeg) := rK_rc hz _ (by decide)
  have d4 : dR (z.2.1 (4 : Int32).toNatClampNeg) := rK_rc hz _ (by decide)
  have d5 : dR (z.2.1 (5 : Int32).toNatClampNeg) := rK_rc hz _ (by decide)
  have e0 : dR (z.2.1 ((0 : Int32) + (1 : Int32)).toNatClampNeg) := rK_rc hz _ (by decide)
  have e1 : dR (z.2.1 ((1 : Int32) + (1 : Int32)).toNatClampNeg) := rK_rc hz _ (by decide)
  have e2 : dR (z.2.1 ((2 : Int32) + (1 : Int32)).toNatClampNeg) := rK_rc hz _ (by decide)
  have e3 : dR (z.2.1 ((3 : Int32) + (1 : Int32)).toNatClampNeg) := rK_rc hz _ (by decide)
  have e4 : dR (z.2.1 ((4 : Int32) + (1 : Int32)).toNatClampNeg) := rK_rc hz _ (by decide)
  have u0 : (0 : Int32) = 0 ∨ (0 : Int32) = 1 ∨ (0 : Int32) = 2 ∨ (0 : Int32) = 3 ∨ (0 : Int32) = 4 ∨ (0 : Int32) = 5 ∨ (0 : Int32) = 6 := u_c (by decide)
  have u1 : (1 : Int32) = 0 ∨ (1 : Int32) = 1 ∨ (1 : Int32) = 2 ∨ (1 : Int32) = 3 ∨ (1 : Int32) = 4 ∨ (1 : Int32) = 5 ∨ (1 : Int32) = 6 := u_c (by decide)
  have u2 : (2 : Int32) = 0 ∨ (2 : Int32) = 1 ∨ (2 : Int32) = 2 ∨ (2 : Int32) = 3 ∨ (2 : Int32) = 4 ∨ (2 : Int32) = 5 ∨ (2 : Int32) = 6 := u_c (by decide)
  have u3 : (3 : Int32) = 0 ∨ (3 : Int32) = 1 ∨ (3 : Int32) = 2 ∨ (3 : Int32) = 3 ∨ (3 : Int32) = 4 ∨ (3 : Int32) = 5 ∨ (3 : Int32) = 6 := u_c (by decide)
  have u4 : (4 : Int32) = 0 ∨ (4 : Int32) = 1 ∨ (4 : Int32) = 2 ∨ (4 : Int32) = 3 ∨ (4 : Int32) = 4 ∨ (4 : Int32) = 5 ∨ (4 : Int32) = 6 := u_c (by decide)
  have u5 : (5 : Int32) = 0 ∨ (5 : Int32) = 1 ∨ (5 : Int32) = 2 ∨ (5 : Int32) = 3 ∨ (5 : Int32) = 4 ∨ (5 : Int32) = 5 ∨ (5 : Int32) = 6 := u_c (by decide)
  have u6 : (6 : Int32) = 0 ∨ (6 : Int32) = 1 ∨ (6 : Int32) = 2 ∨ (6 : Int32) = 3 ∨ (6 : Int32) = 4 ∨ (6 : Int32) = 5 ∨ (6 : Int32) = 6 := u_c (by decide)
  refine T_ad d0 (fun _ => ?_)
  refine T_ad d1 (fun _ => ?_)
  refine T_ad d2 (fun _ => ?_)
  refine T_ad d3 (fun _ => ?_)
  refine T_ad d4 (fun _ => ?_)
  refine T_ad d5 (fun _ => ?_)
  refine T_in g0 (T_cp (fun _ => ?_))
  refine T_in g0 (T_wh d0 e0 u0 (fun _ => ?_))
  refine T_in g0 (T_wh d0 e0 u1 (fun _ => ?_))
  refine T_in g0 (T_wh d0 e0 u2 (fun _ => ?_))
  refine T_in g0 (T_wh d0 e0 u3 (fun _ => ?_))
  refine T_in g0 (T_wh d0 e0 u4 (fun _ => ?_))
  refine T_in g0 (T_wh d0 e0 u5 (fun _ => ?_))
  refine T_in g0 (T_wh d0 e0 u6 (fun _ => ?_))
  refine T_in g1 (T_cp (fun _ => ?_))
  refine T_in g1 (T_wh d1 e1 u0 (fun _ => ?_))
  refine T_in g1 (T_wh d1 e1 u1 (fun _ => ?_))
  refine T_in g1 (T_wh d1 e1 u2 (fun _ => ?_))
  refine T_in g1 (T_wh d1 e1 u3 (fun _ => ?_))
  refine T_in g1 (T_wh d1 e1 u4 (fun _ => ?_))
  refine T_in g1 (T_wh d1 e1 u5 (fun _ => ?_))
  refine T_in g1 (T_wh d1 e1 u6 (fun _ => ?_))
  refine T_in g2 (T_cp (fun _ => ?_))
  refine T_in g2 (T_wh d2 e2 u0 (fun _ => ?_))
  refine T_in g2 (T_wh d2 e2 u1 (fun _ => ?_))
  refine T_in g2 (T_wh d2 e2 u2 (fun _ => ?_))
  refine T_in g2 (T_wh d2 e2 u3 (fun _ => ?_))
  refine T_in g2 (T_wh d2 e2 u4 (fun _ => ?_))
  refine T_in g2 (T_wh d2 e2 u5 (fun _ => ?_))
  refine T_in g2 (T_wh d2 e2 u6 (fun _ => ?_))
  refine T_in g3 (T_cp (fun _ => ?_))
  refine T_in g3 (T_wh d3 e3 u0 (fun _ => ?_))
  refine T_in g3 (T_wh d3 e3 u1 (fun _ => ?_))
  refine T_in g3 (T_wh d3 e3 u2 (fun _ => ?_))
  refine T_in g3 (T_wh d3 e3 u3 (fun _ => ?_))
  refine T_in g3 (T_wh d3 e3 u4 (fun _ => ?_))
  refine T_in g3 (T_wh d3 e3 u5 (fun _ => ?_))
  refine T_in g3 (T_wh d3 e3 u6 (fun _ => ?_))
  refine T_in g4 (T_cp (fun _ => ?_))
  refine T_in g4 (T_wh d4 e4 u0 (fun _ => ?_))
  refine T_in g4 (T_wh d4 e4 u1 (fun _ => ?_))
  refine T_in g4 (T_wh d4 e4 u2 (fun _ => ?_))
  refine T_in g4 (T_wh d4 e4 u3 (fun _ => ?_))
  refine T_in g4 (T_wh d4 e4 u4 (fun _ => ?_))
  refine T_in g4 (T_wh d4 e4 u5 (fun _ => ?_))
  refine T_in g4 (T_wh d4 e4 u6 (fun _ => ?_))
  have hw : rK kn ((0 : Int32), z.2.1, z.2.2.1, z.2.2.2.1, z.2.2.2.2.1, z.2.2.2.2.2) := hz
  refine T_b (t_houseNow _ _ hw) (fun a0 h0 => T_b (t_houseNow _ _ h0) (fun a1 h1 => T_b (t_houseNow _ _ h1) (fun a2 h2 => T_s h2)))
