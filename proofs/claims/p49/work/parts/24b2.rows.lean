noncomputable def WL_25 : List (Nat × Cond) := [(25, Cond.initialized RL), (78, Cond.methodLink RL 339 yX0_reset), (79, Cond.instanceMethod yX0_reset), (80, Cond.selects RX0 yX0_reset yX0_reset), (81, Cond.code yX0_reset cX0_reset 3 (some .int)), (157, Cond.methodLink RL 346 yX0_knock), (158, Cond.instanceMethod yX0_knock), (159, Cond.selects RX0 yX0_knock yX0_knock), (160, Cond.code yX0_knock cX0_knock 1 (some .int)), (161, Cond.methodLink RL 350 yX0_isSound), (248, Cond.methodLink RL 355 yX0_digest), (249, Cond.instanceMethod yX0_digest), (250, Cond.selects RX0 yX0_digest yX0_digest), (251, Cond.code yX0_digest cX0_digest 5 (some .long)), (657, Cond.methodLink RL 185 yL_of), (658, Cond.static yL_of), (659, Cond.codeWith yL_of cL_of 7 (some .int) [(0, 15, 18, 19), (0, 15, 22, 21), (0, 15, 26, 23)]), (703, Cond.methodLink RL 191 yL_ofDay), (704, Cond.static yL_ofDay), (705, Cond.codeWith yL_ofDay cL_ofDay 5 (some .int) [(0, 11, 14, 19), (0, 11, 18, 21)]), (712, Cond.methodLink RL 195 yL_ofYearDay), (713, Cond.static yL_ofYearDay), (714, Cond.codeWith yL_ofYearDay cL_ofYearDay 6 (some .int) [(0, 13, 16, 19), (0, 13, 20, 21), (0, 13, 24, 23)]), (724, Cond.methodLink RL 199 yL_copy), (725, Cond.static yL_copy), (726, Cond.codeWith yL_copy cL_copy 5 (some .int) [(0, 11, 14, 19)]), (731, Cond.methodLink RL 202 yL_epoch), (732, Cond.static yL_epoch), (733, Cond.codeWith yL_epoch cL_epoch 4 (some .int) [(0, 10, 13, 19)]), (738, Cond.methodLink RL 206 yL_swap), (739, Cond.static yL_swap), (740, Cond.codeWith yL_swap cL_swap 5 (some .int) [(0, 11, 14, 19)]), (745, Cond.methodLink RL 209 yL_withYear), (746, Cond.static yL_withYear), (747, Cond.codeWith yL_withYear cL_withYear 5 (some .int) [(0, 11, 14, 19), (0, 11, 18, 21)]), (752, Cond.methodLink RL 212 yL_withMonth), (753, Cond.static yL_withMonth), (754, Cond.codeWith yL_withMonth cL_withMonth 5 (some .int) [(0, 11, 14, 19), (0, 11, 18, 21)]), (759, Cond.methodLink RL 215 yL_withDay), (760, Cond.static yL_withDay)]
theorem WA_25 : ∀ q ∈ WL_25, lw_tbl[q.1]? = some q.2 ∧ goodWord q.2 = true := by decide +kernel
theorem w_25 : Cond.initialized RL ∈ GL := GL_of (WA_25 (25, Cond.initialized RL) (List.mem_of_getElem? (i := 0) rfl))
theorem w_78 : Cond.methodLink RL 339 yX0_reset ∈ GL := GL_of (WA_25 (78, Cond.methodLink RL 339 yX0_reset) (List.mem_of_getElem? (i := 1) rfl))
theorem w_79 : Cond.instanceMethod yX0_reset ∈ GL := GL_of (WA_25 (79, Cond.instanceMethod yX0_reset) (List.mem_of_getElem? (i := 2) rfl))
theorem w_80 : Cond.selects RX0 yX0_reset yX0_reset ∈ GL := GL_of (WA_25 (80, Cond.selects RX0 yX0_reset yX0_reset) (List.mem_of_getElem? (i := 3) rfl))
theorem w_81 : Cond.code yX0_reset cX0_reset 3 (some .int) ∈ GL := GL_of (WA_25 (81, Cond.code yX0_reset cX0_reset 3 (some .int)) (List.mem_of_getElem? (i := 4) rfl))
theorem w_145 : Cond.methodLink RL 346 yX0_knock ∈ GL := GL_of (WA_25 (157, Cond.methodLink RL 346 yX0_knock) (List.mem_of_getElem? (i := 5) rfl))
theorem w_146 : Cond.instanceMethod yX0_knock ∈ GL := GL_of (WA_25 (158, Cond.instanceMethod yX0_knock) (List.mem_of_getElem? (i := 6) rfl))
theorem w_147 : Cond.selects RX0 yX0_knock yX0_knock ∈ GL := GL_of (WA_25 (159, Cond.selects RX0 yX0_knock yX0_knock) (List.mem_of_getElem? (i := 7) rfl))
theorem w_148 : Cond.code yX0_knock cX0_knock 1 (some .int) ∈ GL := GL_of (WA_25 (160, Cond.code yX0_knock cX0_knock 1 (some .int)) (List.mem_of_getElem? (i := 8) rfl))
theorem w_149 : Cond.methodLink RL 350 yX0_isSound ∈ GL := GL_of (WA_25 (161, Cond.methodLink RL 350 yX0_isSound) (List.mem_of_getElem? (i := 9) rfl))
theorem w_234 : Cond.methodLink RL 355 yX0_digest ∈ GL := GL_of (WA_25 (248, Cond.methodLink RL 355 yX0_digest) (List.mem_of_getElem? (i := 10) rfl))
theorem w_235 : Cond.instanceMethod yX0_digest ∈ GL := GL_of (WA_25 (249, Cond.instanceMethod yX0_digest) (List.mem_of_getElem? (i := 11) rfl))
theorem w_236 : Cond.selects RX0 yX0_digest yX0_digest ∈ GL := GL_of (WA_25 (250, Cond.selects RX0 yX0_digest yX0_digest) (List.mem_of_getElem? (i := 12) rfl))
theorem w_237 : Cond.code yX0_digest cX0_digest 5 (some .long) ∈ GL := GL_of (WA_25 (251, Cond.code yX0_digest cX0_digest 5 (some .long)) (List.mem_of_getElem? (i := 13) rfl))
theorem w_619 : Cond.methodLink RL 185 yL_of ∈ GL := GL_of (WA_25 (657, Cond.methodLink RL 185 yL_of) (List.mem_of_getElem? (i := 14) rfl))
theorem w_620 : Cond.static yL_of ∈ GL := GL_of (WA_25 (658, Cond.static yL_of) (List.mem_of_getElem? (i := 15) rfl))
theorem w_621 : Cond.codeWith yL_of cL_of 7 (some .int) [(0, 15, 18, 19), (0, 15, 22, 21), (0, 15, 26, 23)] ∈ GL := GL_of (WA_25 (659, Cond.codeWith yL_of cL_of 7 (some .int) [(0, 15, 18, 19), (0, 15, 22, 21), (0, 15, 26, 23)]) (List.mem_of_getElem? (i := 16) rfl))
theorem w_660 : Cond.methodLink RL 191 yL_ofDay ∈ GL := GL_of (WA_25 (703, Cond.methodLink RL 191 yL_ofDay) (List.mem_of_getElem? (i := 17) rfl))
theorem w_661 : Cond.static yL_ofDay ∈ GL := GL_of (WA_25 (704, Cond.static yL_ofDay) (List.mem_of_getElem? (i := 18) rfl))
theorem w_662 : Cond.codeWith yL_ofDay cL_ofDay 5 (some .int) [(0, 11, 14, 19), (0, 11, 18, 21)] ∈ GL := GL_of (WA_25 (705, Cond.codeWith yL_ofDay cL_ofDay 5 (some .int) [(0, 11, 14, 19), (0, 11, 18, 21)]) (List.mem_of_getElem? (i := 19) rfl))
theorem w_669 : Cond.methodLink RL 195 yL_ofYearDay ∈ GL := GL_of (WA_25 (712, Cond.methodLink RL 195 yL_ofYearDay) (List.mem_of_getElem? (i := 20) rfl))
theorem w_670 : Cond.static yL_ofYearDay ∈ GL := GL_of (WA_25 (713, Cond.static yL_ofYearDay) (List.mem_of_getElem? (i := 21) rfl))
theorem w_671 : Cond.codeWith yL_ofYearDay cL_ofYearDay 6 (some .int) [(0, 13, 16, 19), (0, 13, 20, 21), (0, 13, 24, 23)] ∈ GL := GL_of (WA_25 (714, Cond.codeWith yL_ofYearDay cL_ofYearDay 6 (some .int) [(0, 13, 16, 19), (0, 13, 20, 21), (0, 13, 24, 23)]) (List.mem_of_getElem? (i := 22) rfl))
theorem w_679 : Cond.methodLink RL 199 yL_copy ∈ GL := GL_of (WA_25 (724, Cond.methodLink RL 199 yL_copy) (List.mem_of_getElem? (i := 23) rfl))
theorem w_680 : Cond.static yL_copy ∈ GL := GL_of (WA_25 (725, Cond.static yL_copy) (List.mem_of_getElem? (i := 24) rfl))
theorem w_681 : Cond.codeWith yL_copy cL_copy 5 (some .int) [(0, 11, 14, 19)] ∈ GL := GL_of (WA_25 (726, Cond.codeWith yL_copy cL_copy 5 (some .int) [(0, 11, 14, 19)]) (List.mem_of_getElem? (i := 25) rfl))
theorem w_686 : Cond.methodLink RL 202 yL_epoch ∈ GL := GL_of (WA_25 (731, Cond.methodLink RL 202 yL_epoch) (List.mem_of_getElem? (i := 26) rfl))
theorem w_687 : Cond.static yL_epoch ∈ GL := GL_of (WA_25 (732, Cond.static yL_epoch) (List.mem_of_getElem? (i := 27) rfl))
theorem w_688 : Cond.codeWith yL_epoch cL_epoch 4 (some .int) [(0, 10, 13, 19)] ∈ GL := GL_of (WA_25 (733, Cond.codeWith yL_epoch cL_epoch 4 (some .int) [(0, 10, 13, 19)]) (List.mem_of_getElem? (i := 28) rfl))
theorem w_693 : Cond.methodLink RL 206 yL_swap ∈ GL := GL_of (WA_25 (738, Cond.methodLink RL 206 yL_swap) (List.mem_of_getElem? (i := 29) rfl))
theorem w_694 : Cond.static yL_swap ∈ GL := GL_of (WA_25 (739, Cond.static yL_swap) (List.mem_of_getElem? (i := 30) rfl))
theorem w_695 : Cond.codeWith yL_swap cL_swap 5 (some .int) [(0, 11, 14, 19)] ∈ GL := GL_of (WA_25 (740, Cond.codeWith yL_swap cL_swap 5 (some .int) [(0, 11, 14, 19)]) (List.mem_of_getElem? (i := 31) rfl))
theorem w_700 : Cond.methodLink RL 209 yL_withYear ∈ GL := GL_of (WA_25 (745, Cond.methodLink RL 209 yL_withYear) (List.mem_of_getElem? (i := 32) rfl))
theorem w_701 : Cond.static yL_withYear ∈ GL := GL_of (WA_25 (746, Cond.static yL_withYear) (List.mem_of_getElem? (i := 33) rfl))
theorem w_702 : Cond.codeWith yL_withYear cL_withYear 5 (some .int) [(0, 11, 14, 19), (0, 11, 18, 21)] ∈ GL := GL_of (WA_25 (747, Cond.codeWith yL_withYear cL_withYear 5 (some .int) [(0, 11, 14, 19), (0, 11, 18, 21)]) (List.mem_of_getElem? (i := 34) rfl))
theorem w_707 : Cond.methodLink RL 212 yL_withMonth ∈ GL := GL_of (WA_25 (752, Cond.methodLink RL 212 yL_withMonth) (List.mem_of_getElem? (i := 35) rfl))
theorem w_708 : Cond.static yL_withMonth ∈ GL := GL_of (WA_25 (753, Cond.static yL_withMonth) (List.mem_of_getElem? (i := 36) rfl))
theorem w_709 : Cond.codeWith yL_withMonth cL_withMonth 5 (some .int) [(0, 11, 14, 19), (0, 11, 18, 21)] ∈ GL := GL_of (WA_25 (754, Cond.codeWith yL_withMonth cL_withMonth 5 (some .int) [(0, 11, 14, 19), (0, 11, 18, 21)]) (List.mem_of_getElem? (i := 37) rfl))
theorem w_714 : Cond.methodLink RL 215 yL_withDay ∈ GL := GL_of (WA_25 (759, Cond.methodLink RL 215 yL_withDay) (List.mem_of_getElem? (i := 38) rfl))
theorem w_715 : Cond.static yL_withDay ∈ GL := GL_of (WA_25 (760, Cond.static yL_withDay) (List.mem_of_getElem? (i := 39) rfl))
noncomputable def WL_716 : List (Nat × Cond) := [(761, Cond.codeWith yL_withDay cL_withDay 5 (some .int) [(0, 11, 14, 19), (0, 11, 18, 21), (0, 11, 22, 23)]), (766, Cond.methodLink RL 218 yL_withDayOfYear), (767, Cond.static yL_withDayOfYear), (768, Cond.codeWith yL_withDayOfYear cL_withDayOfYear 5 (some .int) [(0, 11, 14, 19), (0, 11, 18, 21), (0, 11, 22, 23)]), (773, Cond.methodLink RL 221 yL_toFirst), (774, Cond.static yL_toFirst), (775, Cond.codeWith yL_toFirst cL_toFirst 4 (some .int) [(0, 10, 13, 19)]), (780, Cond.methodLink RL 224 yL_toLast), (781, Cond.static yL_toLast), (782, Cond.codeWith yL_toLast cL_toLast 4 (some .int) [(0, 10, 13, 19)]), (787, Cond.methodLink RL 227 yL_plusDays), (788, Cond.static yL_plusDays), (789, Cond.codeWith yL_plusDays cL_plusDays 5 (some .int) [(0, 11, 14, 19), (0, 11, 18, 21), (0, 11, 22, 23)]), (810, Cond.methodLink RL 230 yL_plusWeeks), (811, Cond.static yL_plusWeeks), (812, Cond.codeWith yL_plusWeeks cL_plusWeeks 5 (some .int) [(0, 11, 14, 19), (0, 11, 18, 21), (0, 11, 22, 23)]), (817, Cond.methodLink RL 233 yL_plusMonths), (818, Cond.static yL_plusMonths), (819, Cond.codeWith yL_plusMonths cL_plusMonths 5 (some .int) [(0, 11, 14, 19), (0, 11, 18, 21), (0, 11, 22, 23)]), (824, Cond.methodLink RL 236 yL_plusYears), (825, Cond.static yL_plusYears), (826, Cond.codeWith yL_plusYears cL_plusYears 5 (some .int) [(0, 11, 14, 19), (0, 11, 18, 21), (0, 11, 22, 23)]), (831, Cond.methodLink RL 239 yL_minusDays), (832, Cond.static yL_minusDays), (833, Cond.codeWith yL_minusDays cL_minusDays 5 (some .int) [(0, 11, 14, 19), (0, 11, 18, 21), (0, 11, 22, 23)]), (838, Cond.methodLink RL 242 yL_minusWeeks), (839, Cond.static yL_minusWeeks), (840, Cond.codeWith yL_minusWeeks cL_minusWeeks 5 (some .int) [(0, 11, 14, 19), (0, 11, 18, 21), (0, 11, 22, 23)]), (845, Cond.methodLink RL 245 yL_minusMonths), (846, Cond.static yL_minusMonths), (847, Cond.codeWith yL_minusMonths cL_minusMonths 5 (some .int) [(0, 11, 14, 19), (0, 11, 18, 21), (0, 11, 22, 23)]), (852, Cond.methodLink RL 248 yL_minusYears), (853, Cond.static yL_minusYears), (854, Cond.codeWith yL_minusYears cL_minusYears 5 (some .int) [(0, 11, 14, 19), (0, 11, 18, 21), (0, 11, 22, 23)]), (859, Cond.methodLink RL 251 yL_span), (860, Cond.static yL_span), (861, Cond.codeWith yL_span cL_span 7 (some .int) [(0, 15, 18, 19), (0, 15, 22, 21)]), (876, Cond.methodLink RL 254 yL_until), (877, Cond.static yL_until), (878, Cond.codeWith yL_until cL_until 6 (some .int) [(0, 13, 16, 19), (0, 13, 20, 23)])]
theorem WA_716 : ∀ q ∈ WL_716, lw_tbl[q.1]? = some q.2 ∧ goodWord q.2 = true := by decide +kernel
theorem w_716 : Cond.codeWith yL_withDay cL_withDay 5 (some .int) [(0, 11, 14, 19), (0, 11, 18, 21), (0, 11, 22, 23)] ∈ GL := GL_of (WA_716 (761, Cond.codeWith yL_withDay cL_withDay 5 (some .int) [(0, 11, 14, 19), (0, 11, 18, 21), (0, 11, 22, 23)]) (List.mem_of_getElem? (i := 0) rfl))
theorem w_721 : Cond.methodLink RL 218 yL_withDayOfYear ∈ GL := GL_of (WA_716 (766, Cond.methodLink RL 218 yL_withDayOfYear) (List.mem_of_getElem? (i := 1) rfl))
theorem w_722 : Cond.static yL_withDayOfYear ∈ GL := GL_of (WA_716 (767, Cond.static yL_withDayOfYear) (List.mem_of_getElem? (i := 2) rfl))
theorem w_723 : Cond.codeWith yL_withDayOfYear cL_withDayOfYear 5 (some .int) [(0, 11, 14, 19), (0, 11, 18, 21), (0, 11, 22, 23)] ∈ GL := GL_of (WA_716 (768, Cond.codeWith yL_withDayOfYear cL_withDayOfYear 5 (some .int) [(0, 11, 14, 19), (0, 11, 18, 21), (0, 11, 22, 23)]) (List.mem_of_getElem? (i := 3) rfl))
theorem w_728 : Cond.methodLink RL 221 yL_toFirst ∈ GL := GL_of (WA_716 (773, Cond.methodLink RL 221 yL_toFirst) (List.mem_of_getElem? (i := 4) rfl))
theorem w_729 : Cond.static yL_toFirst ∈ GL := GL_of (WA_716 (774, Cond.static yL_toFirst) (List.mem_of_getElem? (i := 5) rfl))
theorem w_730 : Cond.codeWith yL_toFirst cL_toFirst 4 (some .int) [(0, 10, 13, 19)] ∈ GL := GL_of (WA_716 (775, Cond.codeWith yL_toFirst cL_toFirst 4 (some .int) [(0, 10, 13, 19)]) (List.mem_of_getElem? (i := 6) rfl))
theorem w_735 : Cond.methodLink RL 224 yL_toLast ∈ GL := GL_of (WA_716 (780, Cond.methodLink RL 224 yL_toLast) (List.mem_of_getElem? (i := 7) rfl))
theorem w_736 : Cond.static yL_toLast ∈ GL := GL_of (WA_716 (781, Cond.static yL_toLast) (List.mem_of_getElem? (i := 8) rfl))
theorem w_737 : Cond.codeWith yL_toLast cL_toLast 4 (some .int) [(0, 10, 13, 19)] ∈ GL := GL_of (WA_716 (782, Cond.codeWith yL_toLast cL_toLast 4 (some .int) [(0, 10, 13, 19)]) (List.mem_of_getElem? (i := 9) rfl))
theorem w_742 : Cond.methodLink RL 227 yL_plusDays ∈ GL := GL_of (WA_716 (787, Cond.methodLink RL 227 yL_plusDays) (List.mem_of_getElem? (i := 10) rfl))
theorem w_743 : Cond.static yL_plusDays ∈ GL := GL_of (WA_716 (788, Cond.static yL_plusDays) (List.mem_of_getElem? (i := 11) rfl))
theorem w_744 : Cond.codeWith yL_plusDays cL_plusDays 5 (some .int) [(0, 11, 14, 19), (0, 11, 18, 21), (0, 11, 22, 23)] ∈ GL := GL_of (WA_716 (789, Cond.codeWith yL_plusDays cL_plusDays 5 (some .int) [(0, 11, 14, 19), (0, 11, 18, 21), (0, 11, 22, 23)]) (List.mem_of_getElem? (i := 12) rfl))
theorem w_764 : Cond.methodLink RL 230 yL_plusWeeks ∈ GL := GL_of (WA_716 (810, Cond.methodLink RL 230 yL_plusWeeks) (List.mem_of_getElem? (i := 13) rfl))
theorem w_765 : Cond.static yL_plusWeeks ∈ GL := GL_of (WA_716 (811, Cond.static yL_plusWeeks) (List.mem_of_getElem? (i := 14) rfl))
theorem w_766 : Cond.codeWith yL_plusWeeks cL_plusWeeks 5 (some .int) [(0, 11, 14, 19), (0, 11, 18, 21), (0, 11, 22, 23)] ∈ GL := GL_of (WA_716 (812, Cond.codeWith yL_plusWeeks cL_plusWeeks 5 (some .int) [(0, 11, 14, 19), (0, 11, 18, 21), (0, 11, 22, 23)]) (List.mem_of_getElem? (i := 15) rfl))
theorem w_771 : Cond.methodLink RL 233 yL_plusMonths ∈ GL := GL_of (WA_716 (817, Cond.methodLink RL 233 yL_plusMonths) (List.mem_of_getElem? (i := 16) rfl))
theorem w_772 : Cond.static yL_plusMonths ∈ GL := GL_of (WA_716 (818, Cond.static yL_plusMonths) (List.mem_of_getElem? (i := 17) rfl))
theorem w_773 : Cond.codeWith yL_plusMonths cL_plusMonths 5 (some .int) [(0, 11, 14, 19), (0, 11, 18, 21), (0, 11, 22, 23)] ∈ GL := GL_of (WA_716 (819, Cond.codeWith yL_plusMonths cL_plusMonths 5 (some .int) [(0, 11, 14, 19), (0, 11, 18, 21), (0, 11, 22, 23)]) (List.mem_of_getElem? (i := 18) rfl))
theorem w_778 : Cond.methodLink RL 236 yL_plusYears ∈ GL := GL_of (WA_716 (824, Cond.methodLink RL 236 yL_plusYears) (List.mem_of_getElem? (i := 19) rfl))
theorem w_779 : Cond.static yL_plusYears ∈ GL := GL_of (WA_716 (825, Cond.static yL_plusYears) (List.mem_of_getElem? (i := 20) rfl))
theorem w_780 : Cond.codeWith yL_plusYears cL_plusYears 5 (some .int) [(0, 11, 14, 19), (0, 11, 18, 21), (0, 11, 22, 23)] ∈ GL := GL_of (WA_716 (826, Cond.codeWith yL_plusYears cL_plusYears 5 (some .int) [(0, 11, 14, 19), (0, 11, 18, 21), (0, 11, 22, 23)]) (List.mem_of_getElem? (i := 21) rfl))
theorem w_785 : Cond.methodLink RL 239 yL_minusDays ∈ GL := GL_of (WA_716 (831, Cond.methodLink RL 239 yL_minusDays) (List.mem_of_getElem? (i := 22) rfl))
theorem w_786 : Cond.static yL_minusDays ∈ GL := GL_of (WA_716 (832, Cond.static yL_minusDays) (List.mem_of_getElem? (i := 23) rfl))
theorem w_787 : Cond.codeWith yL_minusDays cL_minusDays 5 (some .int) [(0, 11, 14, 19), (0, 11, 18, 21), (0, 11, 22, 23)] ∈ GL := GL_of (WA_716 (833, Cond.codeWith yL_minusDays cL_minusDays 5 (some .int) [(0, 11, 14, 19), (0, 11, 18, 21), (0, 11, 22, 23)]) (List.mem_of_getElem? (i := 24) rfl))
theorem w_792 : Cond.methodLink RL 242 yL_minusWeeks ∈ GL := GL_of (WA_716 (838, Cond.methodLink RL 242 yL_minusWeeks) (List.mem_of_getElem? (i := 25) rfl))
theorem w_793 : Cond.static yL_minusWeeks ∈ GL := GL_of (WA_716 (839, Cond.static yL_minusWeeks) (List.mem_of_getElem? (i := 26) rfl))
theorem w_794 : Cond.codeWith yL_minusWeeks cL_minusWeeks 5 (some .int) [(0, 11, 14, 19), (0, 11, 18, 21), (0, 11, 22, 23)] ∈ GL := GL_of (WA_716 (840, Cond.codeWith yL_minusWeeks cL_minusWeeks 5 (some .int) [(0, 11, 14, 19), (0, 11, 18, 21), (0, 11, 22, 23)]) (List.mem_of_getElem? (i := 27) rfl))
theorem w_799 : Cond.methodLink RL 245 yL_minusMonths ∈ GL := GL_of (WA_716 (845, Cond.methodLink RL 245 yL_minusMonths) (List.mem_of_getElem? (i := 28) rfl))
theorem w_800 : Cond.static yL_minusMonths ∈ GL := GL_of (WA_716 (846, Cond.static yL_minusMonths) (List.mem_of_getElem? (i := 29) rfl))
theorem w_801 : Cond.codeWith yL_minusMonths cL_minusMonths 5 (some .int) [(0, 11, 14, 19), (0, 11, 18, 21), (0, 11, 22, 23)] ∈ GL := GL_of (WA_716 (847, Cond.codeWith yL_minusMonths cL_minusMonths 5 (some .int) [(0, 11, 14, 19), (0, 11, 18, 21), (0, 11, 22, 23)]) (List.mem_of_getElem? (i := 30) rfl))
theorem w_806 : Cond.methodLink RL 248 yL_minusYears ∈ GL := GL_of (WA_716 (852, Cond.methodLink RL 248 yL_minusYears) (List.mem_of_getElem? (i := 31) rfl))
theorem w_807 : Cond.static yL_minusYears ∈ GL := GL_of (WA_716 (853, Cond.static yL_minusYears) (List.mem_of_getElem? (i := 32) rfl))
theorem w_808 : Cond.codeWith yL_minusYears cL_minusYears 5 (some .int) [(0, 11, 14, 19), (0, 11, 18, 21), (0, 11, 22, 23)] ∈ GL := GL_of (WA_716 (854, Cond.codeWith yL_minusYears cL_minusYears 5 (some .int) [(0, 11, 14, 19), (0, 11, 18, 21), (0, 11, 22, 23)]) (List.mem_of_getElem? (i := 33) rfl))
theorem w_813 : Cond.methodLink RL 251 yL_span ∈ GL := GL_of (WA_716 (859, Cond.methodLink RL 251 yL_span) (List.mem_of_getElem? (i := 34) rfl))
theorem w_814 : Cond.static yL_span ∈ GL := GL_of (WA_716 (860, Cond.static yL_span) (List.mem_of_getElem? (i := 35) rfl))
theorem w_815 : Cond.codeWith yL_span cL_span 7 (some .int) [(0, 15, 18, 19), (0, 15, 22, 21)] ∈ GL := GL_of (WA_716 (861, Cond.codeWith yL_span cL_span 7 (some .int) [(0, 15, 18, 19), (0, 15, 22, 21)]) (List.mem_of_getElem? (i := 36) rfl))
theorem w_828 : Cond.methodLink RL 254 yL_until ∈ GL := GL_of (WA_716 (876, Cond.methodLink RL 254 yL_until) (List.mem_of_getElem? (i := 37) rfl))
theorem w_829 : Cond.static yL_until ∈ GL := GL_of (WA_716 (877, Cond.static yL_until) (List.mem_of_getElem? (i := 38) rfl))
theorem w_830 : Cond.codeWith yL_until cL_until 6 (some .int) [(0, 13, 16, 19), (0, 13, 20, 23)] ∈ GL := GL_of (WA_716 (878, Cond.codeWith yL_until cL_until 6 (some .int) [(0, 13, 16, 19), (0, 13, 20, 23)]) (List.mem_of_getElem? (i := 39) rfl))
noncomputable def WL_838 : List (Nat × Cond) := [(887, Cond.methodLink RL 257 yL_addSpan), (888, Cond.static yL_addSpan), (889, Cond.codeWith yL_addSpan cL_addSpan 5 (some .int) [(0, 11, 14, 19), (0, 11, 18, 23)]), (898, Cond.methodLink RL 260 yL_ofSpan), (899, Cond.static yL_ofSpan), (900, Cond.codeWith yL_ofSpan cL_ofSpan 5 (some .int) [(0, 11, 14, 19), (0, 11, 18, 21)]), (902, Cond.methodLink RL 263 yL_plusSpan), (903, Cond.static yL_plusSpan), (904, Cond.codeWith yL_plusSpan cL_plusSpan 5 (some .int) [(0, 11, 14, 19), (0, 11, 18, 23)]), (909, Cond.methodLink RL 266 yL_minusSpan), (910, Cond.static yL_minusSpan), (911, Cond.codeWith yL_minusSpan cL_minusSpan 5 (some .int) [(0, 11, 14, 19), (0, 11, 18, 23)]), (916, Cond.methodLink RL 269 yL_year), (917, Cond.static yL_year), (918, Cond.codeWith yL_year cL_year 4 (some .int) [(0, 10, 13, 19)]), (920, Cond.methodLink RL 272 yL_month), (921, Cond.static yL_month), (922, Cond.codeWith yL_month cL_month 4 (some .int) [(0, 10, 13, 19)]), (924, Cond.methodLink RL 275 yL_day), (925, Cond.static yL_day), (926, Cond.codeWith yL_day cL_day 4 (some .int) [(0, 10, 13, 19)]), (928, Cond.methodLink RL 278 yL_dayOfYear), (929, Cond.static yL_dayOfYear), (930, Cond.codeWith yL_dayOfYear cL_dayOfYear 4 (some .int) [(0, 10, 13, 19)]), (932, Cond.methodLink RL 281 yL_dayOfWeek), (933, Cond.static yL_dayOfWeek), (934, Cond.codeWith yL_dayOfWeek cL_dayOfWeek 4 (some .int) [(0, 10, 13, 19)]), (936, Cond.methodLink RL 284 yL_laterDayOfWeek), (937, Cond.static yL_laterDayOfWeek), (938, Cond.codeWith yL_laterDayOfWeek cL_laterDayOfWeek 5 (some .int) [(0, 11, 14, 19), (0, 11, 18, 21)]), (943, Cond.methodLink RL 287 yL_lengthOfMonth), (944, Cond.static yL_lengthOfMonth), (945, Cond.codeWith yL_lengthOfMonth cL_lengthOfMonth 4 (some .int) [(0, 10, 13, 19)]), (947, Cond.methodLink RL 290 yL_lengthOfYear), (948, Cond.static yL_lengthOfYear), (949, Cond.codeWith yL_lengthOfYear cL_lengthOfYear 4 (some .int) [(0, 10, 13, 19)]), (951, Cond.methodLink RL 293 yL_isLeapYear), (952, Cond.static yL_isLeapYear), (953, Cond.codeWith yL_isLeapYear cL_isLeapYear 4 (some .int) [(0, 17, 20, 19)]), (955, Cond.methodLink RL 296 yL_field)]
theorem WA_838 : ∀ q ∈ WL_838, lw_tbl[q.1]? = some q.2 ∧ goodWord q.2 = true := by decide +kernel
theorem w_838 : Cond.methodLink RL 257 yL_addSpan ∈ GL := GL_of (WA_838 (887, Cond.methodLink RL 257 yL_addSpan) (List.mem_of_getElem? (i := 0) rfl))
theorem w_839 : Cond.static yL_addSpan ∈ GL := GL_of (WA_838 (888, Cond.static yL_addSpan) (List.mem_of_getElem? (i := 1) rfl))
theorem w_840 : Cond.codeWith yL_addSpan cL_addSpan 5 (some .int) [(0, 11, 14, 19), (0, 11, 18, 23)] ∈ GL := GL_of (WA_838 (889, Cond.codeWith yL_addSpan cL_addSpan 5 (some .int) [(0, 11, 14, 19), (0, 11, 18, 23)]) (List.mem_of_getElem? (i := 2) rfl))
theorem w_848 : Cond.methodLink RL 260 yL_ofSpan ∈ GL := GL_of (WA_838 (898, Cond.methodLink RL 260 yL_ofSpan) (List.mem_of_getElem? (i := 3) rfl))
theorem w_849 : Cond.static yL_ofSpan ∈ GL := GL_of (WA_838 (899, Cond.static yL_ofSpan) (List.mem_of_getElem? (i := 4) rfl))
theorem w_850 : Cond.codeWith yL_ofSpan cL_ofSpan 5 (some .int) [(0, 11, 14, 19), (0, 11, 18, 21)] ∈ GL := GL_of (WA_838 (900, Cond.codeWith yL_ofSpan cL_ofSpan 5 (some .int) [(0, 11, 14, 19), (0, 11, 18, 21)]) (List.mem_of_getElem? (i := 5) rfl))
theorem w_852 : Cond.methodLink RL 263 yL_plusSpan ∈ GL := GL_of (WA_838 (902, Cond.methodLink RL 263 yL_plusSpan) (List.mem_of_getElem? (i := 6) rfl))
theorem w_853 : Cond.static yL_plusSpan ∈ GL := GL_of (WA_838 (903, Cond.static yL_plusSpan) (List.mem_of_getElem? (i := 7) rfl))
theorem w_854 : Cond.codeWith yL_plusSpan cL_plusSpan 5 (some .int) [(0, 11, 14, 19), (0, 11, 18, 23)] ∈ GL := GL_of (WA_838 (904, Cond.codeWith yL_plusSpan cL_plusSpan 5 (some .int) [(0, 11, 14, 19), (0, 11, 18, 23)]) (List.mem_of_getElem? (i := 8) rfl))
theorem w_859 : Cond.methodLink RL 266 yL_minusSpan ∈ GL := GL_of (WA_838 (909, Cond.methodLink RL 266 yL_minusSpan) (List.mem_of_getElem? (i := 9) rfl))
theorem w_860 : Cond.static yL_minusSpan ∈ GL := GL_of (WA_838 (910, Cond.static yL_minusSpan) (List.mem_of_getElem? (i := 10) rfl))
theorem w_861 : Cond.codeWith yL_minusSpan cL_minusSpan 5 (some .int) [(0, 11, 14, 19), (0, 11, 18, 23)] ∈ GL := GL_of (WA_838 (911, Cond.codeWith yL_minusSpan cL_minusSpan 5 (some .int) [(0, 11, 14, 19), (0, 11, 18, 23)]) (List.mem_of_getElem? (i := 11) rfl))
theorem w_866 : Cond.methodLink RL 269 yL_year ∈ GL := GL_of (WA_838 (916, Cond.methodLink RL 269 yL_year) (List.mem_of_getElem? (i := 12) rfl))
theorem w_867 : Cond.static yL_year ∈ GL := GL_of (WA_838 (917, Cond.static yL_year) (List.mem_of_getElem? (i := 13) rfl))
theorem w_868 : Cond.codeWith yL_year cL_year 4 (some .int) [(0, 10, 13, 19)] ∈ GL := GL_of (WA_838 (918, Cond.codeWith yL_year cL_year 4 (some .int) [(0, 10, 13, 19)]) (List.mem_of_getElem? (i := 14) rfl))
theorem w_870 : Cond.methodLink RL 272 yL_month ∈ GL := GL_of (WA_838 (920, Cond.methodLink RL 272 yL_month) (List.mem_of_getElem? (i := 15) rfl))
theorem w_871 : Cond.static yL_month ∈ GL := GL_of (WA_838 (921, Cond.static yL_month) (List.mem_of_getElem? (i := 16) rfl))
theorem w_872 : Cond.codeWith yL_month cL_month 4 (some .int) [(0, 10, 13, 19)] ∈ GL := GL_of (WA_838 (922, Cond.codeWith yL_month cL_month 4 (some .int) [(0, 10, 13, 19)]) (List.mem_of_getElem? (i := 17) rfl))
theorem w_874 : Cond.methodLink RL 275 yL_day ∈ GL := GL_of (WA_838 (924, Cond.methodLink RL 275 yL_day) (List.mem_of_getElem? (i := 18) rfl))
theorem w_875 : Cond.static yL_day ∈ GL := GL_of (WA_838 (925, Cond.static yL_day) (List.mem_of_getElem? (i := 19) rfl))
theorem w_876 : Cond.codeWith yL_day cL_day 4 (some .int) [(0, 10, 13, 19)] ∈ GL := GL_of (WA_838 (926, Cond.codeWith yL_day cL_day 4 (some .int) [(0, 10, 13, 19)]) (List.mem_of_getElem? (i := 20) rfl))
theorem w_878 : Cond.methodLink RL 278 yL_dayOfYear ∈ GL := GL_of (WA_838 (928, Cond.methodLink RL 278 yL_dayOfYear) (List.mem_of_getElem? (i := 21) rfl))
theorem w_879 : Cond.static yL_dayOfYear ∈ GL := GL_of (WA_838 (929, Cond.static yL_dayOfYear) (List.mem_of_getElem? (i := 22) rfl))
theorem w_880 : Cond.codeWith yL_dayOfYear cL_dayOfYear 4 (some .int) [(0, 10, 13, 19)] ∈ GL := GL_of (WA_838 (930, Cond.codeWith yL_dayOfYear cL_dayOfYear 4 (some .int) [(0, 10, 13, 19)]) (List.mem_of_getElem? (i := 23) rfl))
theorem w_882 : Cond.methodLink RL 281 yL_dayOfWeek ∈ GL := GL_of (WA_838 (932, Cond.methodLink RL 281 yL_dayOfWeek) (List.mem_of_getElem? (i := 24) rfl))
theorem w_883 : Cond.static yL_dayOfWeek ∈ GL := GL_of (WA_838 (933, Cond.static yL_dayOfWeek) (List.mem_of_getElem? (i := 25) rfl))
theorem w_884 : Cond.codeWith yL_dayOfWeek cL_dayOfWeek 4 (some .int) [(0, 10, 13, 19)] ∈ GL := GL_of (WA_838 (934, Cond.codeWith yL_dayOfWeek cL_dayOfWeek 4 (some .int) [(0, 10, 13, 19)]) (List.mem_of_getElem? (i := 26) rfl))
theorem w_886 : Cond.methodLink RL 284 yL_laterDayOfWeek ∈ GL := GL_of (WA_838 (936, Cond.methodLink RL 284 yL_laterDayOfWeek) (List.mem_of_getElem? (i := 27) rfl))
theorem w_887 : Cond.static yL_laterDayOfWeek ∈ GL := GL_of (WA_838 (937, Cond.static yL_laterDayOfWeek) (List.mem_of_getElem? (i := 28) rfl))
theorem w_888 : Cond.codeWith yL_laterDayOfWeek cL_laterDayOfWeek 5 (some .int) [(0, 11, 14, 19), (0, 11, 18, 21)] ∈ GL := GL_of (WA_838 (938, Cond.codeWith yL_laterDayOfWeek cL_laterDayOfWeek 5 (some .int) [(0, 11, 14, 19), (0, 11, 18, 21)]) (List.mem_of_getElem? (i := 29) rfl))
theorem w_893 : Cond.methodLink RL 287 yL_lengthOfMonth ∈ GL := GL_of (WA_838 (943, Cond.methodLink RL 287 yL_lengthOfMonth) (List.mem_of_getElem? (i := 30) rfl))
theorem w_894 : Cond.static yL_lengthOfMonth ∈ GL := GL_of (WA_838 (944, Cond.static yL_lengthOfMonth) (List.mem_of_getElem? (i := 31) rfl))
theorem w_895 : Cond.codeWith yL_lengthOfMonth cL_lengthOfMonth 4 (some .int) [(0, 10, 13, 19)] ∈ GL := GL_of (WA_838 (945, Cond.codeWith yL_lengthOfMonth cL_lengthOfMonth 4 (some .int) [(0, 10, 13, 19)]) (List.mem_of_getElem? (i := 32) rfl))
theorem w_897 : Cond.methodLink RL 290 yL_lengthOfYear ∈ GL := GL_of (WA_838 (947, Cond.methodLink RL 290 yL_lengthOfYear) (List.mem_of_getElem? (i := 33) rfl))
theorem w_898 : Cond.static yL_lengthOfYear ∈ GL := GL_of (WA_838 (948, Cond.static yL_lengthOfYear) (List.mem_of_getElem? (i := 34) rfl))
theorem w_899 : Cond.codeWith yL_lengthOfYear cL_lengthOfYear 4 (some .int) [(0, 10, 13, 19)] ∈ GL := GL_of (WA_838 (949, Cond.codeWith yL_lengthOfYear cL_lengthOfYear 4 (some .int) [(0, 10, 13, 19)]) (List.mem_of_getElem? (i := 35) rfl))
theorem w_901 : Cond.methodLink RL 293 yL_isLeapYear ∈ GL := GL_of (WA_838 (951, Cond.methodLink RL 293 yL_isLeapYear) (List.mem_of_getElem? (i := 36) rfl))
theorem w_902 : Cond.static yL_isLeapYear ∈ GL := GL_of (WA_838 (952, Cond.static yL_isLeapYear) (List.mem_of_getElem? (i := 37) rfl))
theorem w_903 : Cond.codeWith yL_isLeapYear cL_isLeapYear 4 (some .int) [(0, 17, 20, 19)] ∈ GL := GL_of (WA_838 (953, Cond.codeWith yL_isLeapYear cL_isLeapYear 4 (some .int) [(0, 17, 20, 19)]) (List.mem_of_getElem? (i := 38) rfl))
theorem w_905 : Cond.methodLink RL 296 yL_field ∈ GL := GL_of (WA_838 (955, Cond.methodLink RL 296 yL_field) (List.mem_of_getElem? (i := 39) rfl))
noncomputable def WL_906 : List (Nat × Cond) := [(956, Cond.static yL_field), (957, Cond.codeWith yL_field cL_field 5 (some .int) [(0, 11, 14, 19), (0, 11, 18, 21)]), (959, Cond.methodLink RL 299 yL_toDay), (960, Cond.static yL_toDay), (961, Cond.codeWith yL_toDay cL_toDay 4 (some .int) [(0, 10, 13, 19)]), (963, Cond.methodLink RL 302 yL_text), (964, Cond.static yL_text), (965, Cond.codeWith yL_text cL_text 4 (some .int) [(0, 9, 12, 19)]), (967, Cond.methodLink RL 305 yL_isDate), (968, Cond.static yL_isDate), (969, Cond.codeWith yL_isDate cL_isDate 6 (some .int) [(0, 20, 23, 21)]), (974, Cond.methodLink RL 308 yL_wouldBe), (975, Cond.static yL_wouldBe), (976, Cond.codeWith yL_wouldBe cL_wouldBe 6 (some .int) [(0, 13, 16, 19), (0, 13, 20, 21), (0, 13, 24, 23)]), (981, Cond.methodLink RL 311 yL_compare), (982, Cond.static yL_compare), (983, Cond.codeWith yL_compare cL_compare 5 (some .int) [(0, 11, 14, 19)]), (985, Cond.methodLink RL 314 yL_isBefore), (986, Cond.static yL_isBefore), (987, Cond.codeWith yL_isBefore cL_isBefore 5 (some .int) [(0, 18, 21, 19)]), (992, Cond.methodLink RL 317 yL_isAfter), (993, Cond.static yL_isAfter), (994, Cond.codeWith yL_isAfter cL_isAfter 5 (some .int) [(0, 18, 21, 19)]), (999, Cond.methodLink RL 320 yL_isSame), (1000, Cond.static yL_isSame), (1001, Cond.codeWith yL_isSame cL_isSame 5 (some .int) [(0, 18, 21, 19)]), (1006, Cond.methodLink RL 323 yL_between), (1007, Cond.static yL_between), (1008, Cond.codeWith yL_between cL_between 6 (some .int) [(0, 13, 16, 19), (0, 13, 20, 21)]), (1010, Cond.methodLink RL 326 yL_apart), (1011, Cond.static yL_apart), (1012, Cond.codeWith yL_apart cL_apart 6 (some .int) [(0, 13, 16, 19), (0, 13, 20, 21), (0, 13, 24, 23)]), (1017, Cond.methodLink RL 329 yL_daysToYearEnd), (1018, Cond.static yL_daysToYearEnd), (1019, Cond.codeWith yL_daysToYearEnd cL_daysToYearEnd 4 (some .int) [(0, 10, 13, 19)]), (1024, Cond.methodLink RL 332 yL_sameDay), (1025, Cond.static yL_sameDay), (1026, Cond.codeWith yL_sameDay cL_sameDay 5 (some .int) [(0, 11, 14, 19), (0, 11, 18, 21)]), (1031, Cond.methodLink RL 343 yL_house), (1032, Cond.static yL_house)]
theorem WA_906 : ∀ q ∈ WL_906, lw_tbl[q.1]? = some q.2 ∧ goodWord q.2 = true := by decide +kernel
theorem w_906 : Cond.static yL_field ∈ GL := GL_of (WA_906 (956, Cond.static yL_field) (List.mem_of_getElem? (i := 0) rfl))
theorem w_907 : Cond.codeWith yL_field cL_field 5 (some .int) [(0, 11, 14, 19), (0, 11, 18, 21)] ∈ GL := GL_of (WA_906 (957, Cond.codeWith yL_field cL_field 5 (some .int) [(0, 11, 14, 19), (0, 11, 18, 21)]) (List.mem_of_getElem? (i := 1) rfl))
theorem w_909 : Cond.methodLink RL 299 yL_toDay ∈ GL := GL_of (WA_906 (959, Cond.methodLink RL 299 yL_toDay) (List.mem_of_getElem? (i := 2) rfl))
theorem w_910 : Cond.static yL_toDay ∈ GL := GL_of (WA_906 (960, Cond.static yL_toDay) (List.mem_of_getElem? (i := 3) rfl))
theorem w_911 : Cond.codeWith yL_toDay cL_toDay 4 (some .int) [(0, 10, 13, 19)] ∈ GL := GL_of (WA_906 (961, Cond.codeWith yL_toDay cL_toDay 4 (some .int) [(0, 10, 13, 19)]) (List.mem_of_getElem? (i := 4) rfl))
theorem w_913 : Cond.methodLink RL 302 yL_text ∈ GL := GL_of (WA_906 (963, Cond.methodLink RL 302 yL_text) (List.mem_of_getElem? (i := 5) rfl))
theorem w_914 : Cond.static yL_text ∈ GL := GL_of (WA_906 (964, Cond.static yL_text) (List.mem_of_getElem? (i := 6) rfl))
theorem w_915 : Cond.codeWith yL_text cL_text 4 (some .int) [(0, 9, 12, 19)] ∈ GL := GL_of (WA_906 (965, Cond.codeWith yL_text cL_text 4 (some .int) [(0, 9, 12, 19)]) (List.mem_of_getElem? (i := 7) rfl))
theorem w_917 : Cond.methodLink RL 305 yL_isDate ∈ GL := GL_of (WA_906 (967, Cond.methodLink RL 305 yL_isDate) (List.mem_of_getElem? (i := 8) rfl))
theorem w_918 : Cond.static yL_isDate ∈ GL := GL_of (WA_906 (968, Cond.static yL_isDate) (List.mem_of_getElem? (i := 9) rfl))
theorem w_919 : Cond.codeWith yL_isDate cL_isDate 6 (some .int) [(0, 20, 23, 21)] ∈ GL := GL_of (WA_906 (969, Cond.codeWith yL_isDate cL_isDate 6 (some .int) [(0, 20, 23, 21)]) (List.mem_of_getElem? (i := 10) rfl))
theorem w_924 : Cond.methodLink RL 308 yL_wouldBe ∈ GL := GL_of (WA_906 (974, Cond.methodLink RL 308 yL_wouldBe) (List.mem_of_getElem? (i := 11) rfl))
theorem w_925 : Cond.static yL_wouldBe ∈ GL := GL_of (WA_906 (975, Cond.static yL_wouldBe) (List.mem_of_getElem? (i := 12) rfl))
theorem w_926 : Cond.codeWith yL_wouldBe cL_wouldBe 6 (some .int) [(0, 13, 16, 19), (0, 13, 20, 21), (0, 13, 24, 23)] ∈ GL := GL_of (WA_906 (976, Cond.codeWith yL_wouldBe cL_wouldBe 6 (some .int) [(0, 13, 16, 19), (0, 13, 20, 21), (0, 13, 24, 23)]) (List.mem_of_getElem? (i := 13) rfl))
theorem w_931 : Cond.methodLink RL 311 yL_compare ∈ GL := GL_of (WA_906 (981, Cond.methodLink RL 311 yL_compare) (List.mem_of_getElem? (i := 14) rfl))
theorem w_932 : Cond.static yL_compare ∈ GL := GL_of (WA_906 (982, Cond.static yL_compare) (List.mem_of_getElem? (i := 15) rfl))
theorem w_933 : Cond.codeWith yL_compare cL_compare 5 (some .int) [(0, 11, 14, 19)] ∈ GL := GL_of (WA_906 (983, Cond.codeWith yL_compare cL_compare 5 (some .int) [(0, 11, 14, 19)]) (List.mem_of_getElem? (i := 16) rfl))
theorem w_935 : Cond.methodLink RL 314 yL_isBefore ∈ GL := GL_of (WA_906 (985, Cond.methodLink RL 314 yL_isBefore) (List.mem_of_getElem? (i := 17) rfl))
theorem w_936 : Cond.static yL_isBefore ∈ GL := GL_of (WA_906 (986, Cond.static yL_isBefore) (List.mem_of_getElem? (i := 18) rfl))
theorem w_937 : Cond.codeWith yL_isBefore cL_isBefore 5 (some .int) [(0, 18, 21, 19)] ∈ GL := GL_of (WA_906 (987, Cond.codeWith yL_isBefore cL_isBefore 5 (some .int) [(0, 18, 21, 19)]) (List.mem_of_getElem? (i := 19) rfl))
theorem w_942 : Cond.methodLink RL 317 yL_isAfter ∈ GL := GL_of (WA_906 (992, Cond.methodLink RL 317 yL_isAfter) (List.mem_of_getElem? (i := 20) rfl))
theorem w_943 : Cond.static yL_isAfter ∈ GL := GL_of (WA_906 (993, Cond.static yL_isAfter) (List.mem_of_getElem? (i := 21) rfl))
theorem w_944 : Cond.codeWith yL_isAfter cL_isAfter 5 (some .int) [(0, 18, 21, 19)] ∈ GL := GL_of (WA_906 (994, Cond.codeWith yL_isAfter cL_isAfter 5 (some .int) [(0, 18, 21, 19)]) (List.mem_of_getElem? (i := 22) rfl))
theorem w_949 : Cond.methodLink RL 320 yL_isSame ∈ GL := GL_of (WA_906 (999, Cond.methodLink RL 320 yL_isSame) (List.mem_of_getElem? (i := 23) rfl))
theorem w_950 : Cond.static yL_isSame ∈ GL := GL_of (WA_906 (1000, Cond.static yL_isSame) (List.mem_of_getElem? (i := 24) rfl))
theorem w_951 : Cond.codeWith yL_isSame cL_isSame 5 (some .int) [(0, 18, 21, 19)] ∈ GL := GL_of (WA_906 (1001, Cond.codeWith yL_isSame cL_isSame 5 (some .int) [(0, 18, 21, 19)]) (List.mem_of_getElem? (i := 25) rfl))
theorem w_956 : Cond.methodLink RL 323 yL_between ∈ GL := GL_of (WA_906 (1006, Cond.methodLink RL 323 yL_between) (List.mem_of_getElem? (i := 26) rfl))
theorem w_957 : Cond.static yL_between ∈ GL := GL_of (WA_906 (1007, Cond.static yL_between) (List.mem_of_getElem? (i := 27) rfl))
theorem w_958 : Cond.codeWith yL_between cL_between 6 (some .int) [(0, 13, 16, 19), (0, 13, 20, 21)] ∈ GL := GL_of (WA_906 (1008, Cond.codeWith yL_between cL_between 6 (some .int) [(0, 13, 16, 19), (0, 13, 20, 21)]) (List.mem_of_getElem? (i := 28) rfl))
theorem w_960 : Cond.methodLink RL 326 yL_apart ∈ GL := GL_of (WA_906 (1010, Cond.methodLink RL 326 yL_apart) (List.mem_of_getElem? (i := 29) rfl))
theorem w_961 : Cond.static yL_apart ∈ GL := GL_of (WA_906 (1011, Cond.static yL_apart) (List.mem_of_getElem? (i := 30) rfl))
theorem w_962 : Cond.codeWith yL_apart cL_apart 6 (some .int) [(0, 13, 16, 19), (0, 13, 20, 21), (0, 13, 24, 23)] ∈ GL := GL_of (WA_906 (1012, Cond.codeWith yL_apart cL_apart 6 (some .int) [(0, 13, 16, 19), (0, 13, 20, 21), (0, 13, 24, 23)]) (List.mem_of_getElem? (i := 31) rfl))
theorem w_967 : Cond.methodLink RL 329 yL_daysToYearEnd ∈ GL := GL_of (WA_906 (1017, Cond.methodLink RL 329 yL_daysToYearEnd) (List.mem_of_getElem? (i := 32) rfl))
theorem w_968 : Cond.static yL_daysToYearEnd ∈ GL := GL_of (WA_906 (1018, Cond.static yL_daysToYearEnd) (List.mem_of_getElem? (i := 33) rfl))
theorem w_969 : Cond.codeWith yL_daysToYearEnd cL_daysToYearEnd 4 (some .int) [(0, 10, 13, 19)] ∈ GL := GL_of (WA_906 (1019, Cond.codeWith yL_daysToYearEnd cL_daysToYearEnd 4 (some .int) [(0, 10, 13, 19)]) (List.mem_of_getElem? (i := 34) rfl))
theorem w_974 : Cond.methodLink RL 332 yL_sameDay ∈ GL := GL_of (WA_906 (1024, Cond.methodLink RL 332 yL_sameDay) (List.mem_of_getElem? (i := 35) rfl))
theorem w_975 : Cond.static yL_sameDay ∈ GL := GL_of (WA_906 (1025, Cond.static yL_sameDay) (List.mem_of_getElem? (i := 36) rfl))
theorem w_976 : Cond.codeWith yL_sameDay cL_sameDay 5 (some .int) [(0, 11, 14, 19), (0, 11, 18, 21)] ∈ GL := GL_of (WA_906 (1026, Cond.codeWith yL_sameDay cL_sameDay 5 (some .int) [(0, 11, 14, 19), (0, 11, 18, 21)]) (List.mem_of_getElem? (i := 37) rfl))
theorem w_981 : Cond.methodLink RL 343 yL_house ∈ GL := GL_of (WA_906 (1031, Cond.methodLink RL 343 yL_house) (List.mem_of_getElem? (i := 38) rfl))
theorem w_982 : Cond.static yL_house ∈ GL := GL_of (WA_906 (1032, Cond.static yL_house) (List.mem_of_getElem? (i := 39) rfl))
noncomputable def WL_983 : List (Nat × Cond) := [(1033, Cond.codeWith yL_house cL_house 4 (some .int) [(0, 10, 13, 21)]), (1079, Cond.methodLink RL 335 yX3_thrown), (1080, Cond.instanceMethod yX3_thrown), (1081, Cond.selects RX3 yX3_thrown yX3_thrown), (1082, Cond.code yX3_thrown cX3_thrown 1 (some .int)), (1083, Cond.methodLink RL 190 yX3_of), (1084, Cond.instanceMethod yX3_of), (1085, Cond.selects RX3 yX3_of yX3_of), (1086, Cond.code yX3_of cX3_of 6 (some .int)), (1135, Cond.methodLink RL 194 yX3_ofDay), (1136, Cond.instanceMethod yX3_ofDay), (1137, Cond.selects RX3 yX3_ofDay yX3_ofDay), (1138, Cond.code yX3_ofDay cX3_ofDay 3 (some .int)), (1154, Cond.methodLink RL 198 yX3_ofYearDay), (1155, Cond.instanceMethod yX3_ofYearDay), (1156, Cond.selects RX3 yX3_ofYearDay yX3_ofYearDay), (1157, Cond.code yX3_ofYearDay cX3_ofYearDay 5 (some .int)), (1159, Cond.methodLink RL 201 yX3_copy), (1160, Cond.instanceMethod yX3_copy), (1161, Cond.selects RX3 yX3_copy yX3_copy), (1162, Cond.code yX3_copy cX3_copy 3 (some .int)), (1163, Cond.methodLink RL 205 yX3_epoch), (1164, Cond.instanceMethod yX3_epoch), (1165, Cond.selects RX3 yX3_epoch yX3_epoch), (1166, Cond.code yX3_epoch cX3_epoch 3 (some .int)), (1167, Cond.methodLink RL 208 yX3_swap), (1168, Cond.instanceMethod yX3_swap), (1169, Cond.selects RX3 yX3_swap yX3_swap), (1170, Cond.code yX3_swap cX3_swap 4 (some .int)), (1171, Cond.methodLink RL 211 yX3_withYear), (1172, Cond.instanceMethod yX3_withYear), (1173, Cond.selects RX3 yX3_withYear yX3_withYear), (1174, Cond.code yX3_withYear cX3_withYear 3 (some .int)), (1178, Cond.methodLink RL 214 yX3_withMonth), (1179, Cond.instanceMethod yX3_withMonth), (1180, Cond.selects RX3 yX3_withMonth yX3_withMonth), (1181, Cond.code yX3_withMonth cX3_withMonth 3 (some .int)), (1182, Cond.methodLink RL 217 yX3_withDay), (1183, Cond.instanceMethod yX3_withDay), (1184, Cond.selects RX3 yX3_withDay yX3_withDay)]
theorem WA_983 : ∀ q ∈ WL_983, lw_tbl[q.1]? = some q.2 ∧ goodWord q.2 = true := by decide +kernel
theorem w_983 : Cond.codeWith yL_house cL_house 4 (some .int) [(0, 10, 13, 21)] ∈ GL := GL_of (WA_983 (1033, Cond.codeWith yL_house cL_house 4 (some .int) [(0, 10, 13, 21)]) (List.mem_of_getElem? (i := 0) rfl))
theorem w_1027 : Cond.methodLink RL 335 yX3_thrown ∈ GL := GL_of (WA_983 (1079, Cond.methodLink RL 335 yX3_thrown) (List.mem_of_getElem? (i := 1) rfl))
theorem w_1028 : Cond.instanceMethod yX3_thrown ∈ GL := GL_of (WA_983 (1080, Cond.instanceMethod yX3_thrown) (List.mem_of_getElem? (i := 2) rfl))
theorem w_1029 : Cond.selects RX3 yX3_thrown yX3_thrown ∈ GL := GL_of (WA_983 (1081, Cond.selects RX3 yX3_thrown yX3_thrown) (List.mem_of_getElem? (i := 3) rfl))
theorem w_1030 : Cond.code yX3_thrown cX3_thrown 1 (some .int) ∈ GL := GL_of (WA_983 (1082, Cond.code yX3_thrown cX3_thrown 1 (some .int)) (List.mem_of_getElem? (i := 4) rfl))
theorem w_1031 : Cond.methodLink RL 190 yX3_of ∈ GL := GL_of (WA_983 (1083, Cond.methodLink RL 190 yX3_of) (List.mem_of_getElem? (i := 5) rfl))
theorem w_1032 : Cond.instanceMethod yX3_of ∈ GL := GL_of (WA_983 (1084, Cond.instanceMethod yX3_of) (List.mem_of_getElem? (i := 6) rfl))
theorem w_1033 : Cond.selects RX3 yX3_of yX3_of ∈ GL := GL_of (WA_983 (1085, Cond.selects RX3 yX3_of yX3_of) (List.mem_of_getElem? (i := 7) rfl))
theorem w_1034 : Cond.code yX3_of cX3_of 6 (some .int) ∈ GL := GL_of (WA_983 (1086, Cond.code yX3_of cX3_of 6 (some .int)) (List.mem_of_getElem? (i := 8) rfl))
theorem w_1077 : Cond.methodLink RL 194 yX3_ofDay ∈ GL := GL_of (WA_983 (1135, Cond.methodLink RL 194 yX3_ofDay) (List.mem_of_getElem? (i := 9) rfl))
theorem w_1078 : Cond.instanceMethod yX3_ofDay ∈ GL := GL_of (WA_983 (1136, Cond.instanceMethod yX3_ofDay) (List.mem_of_getElem? (i := 10) rfl))
theorem w_1079 : Cond.selects RX3 yX3_ofDay yX3_ofDay ∈ GL := GL_of (WA_983 (1137, Cond.selects RX3 yX3_ofDay yX3_ofDay) (List.mem_of_getElem? (i := 11) rfl))
theorem w_1080 : Cond.code yX3_ofDay cX3_ofDay 3 (some .int) ∈ GL := GL_of (WA_983 (1138, Cond.code yX3_ofDay cX3_ofDay 3 (some .int)) (List.mem_of_getElem? (i := 12) rfl))
theorem w_1096 : Cond.methodLink RL 198 yX3_ofYearDay ∈ GL := GL_of (WA_983 (1154, Cond.methodLink RL 198 yX3_ofYearDay) (List.mem_of_getElem? (i := 13) rfl))
theorem w_1097 : Cond.instanceMethod yX3_ofYearDay ∈ GL := GL_of (WA_983 (1155, Cond.instanceMethod yX3_ofYearDay) (List.mem_of_getElem? (i := 14) rfl))
theorem w_1098 : Cond.selects RX3 yX3_ofYearDay yX3_ofYearDay ∈ GL := GL_of (WA_983 (1156, Cond.selects RX3 yX3_ofYearDay yX3_ofYearDay) (List.mem_of_getElem? (i := 15) rfl))
theorem w_1099 : Cond.code yX3_ofYearDay cX3_ofYearDay 5 (some .int) ∈ GL := GL_of (WA_983 (1157, Cond.code yX3_ofYearDay cX3_ofYearDay 5 (some .int)) (List.mem_of_getElem? (i := 16) rfl))
theorem w_1101 : Cond.methodLink RL 201 yX3_copy ∈ GL := GL_of (WA_983 (1159, Cond.methodLink RL 201 yX3_copy) (List.mem_of_getElem? (i := 17) rfl))
theorem w_1102 : Cond.instanceMethod yX3_copy ∈ GL := GL_of (WA_983 (1160, Cond.instanceMethod yX3_copy) (List.mem_of_getElem? (i := 18) rfl))
theorem w_1103 : Cond.selects RX3 yX3_copy yX3_copy ∈ GL := GL_of (WA_983 (1161, Cond.selects RX3 yX3_copy yX3_copy) (List.mem_of_getElem? (i := 19) rfl))
theorem w_1104 : Cond.code yX3_copy cX3_copy 3 (some .int) ∈ GL := GL_of (WA_983 (1162, Cond.code yX3_copy cX3_copy 3 (some .int)) (List.mem_of_getElem? (i := 20) rfl))
theorem w_1105 : Cond.methodLink RL 205 yX3_epoch ∈ GL := GL_of (WA_983 (1163, Cond.methodLink RL 205 yX3_epoch) (List.mem_of_getElem? (i := 21) rfl))
theorem w_1106 : Cond.instanceMethod yX3_epoch ∈ GL := GL_of (WA_983 (1164, Cond.instanceMethod yX3_epoch) (List.mem_of_getElem? (i := 22) rfl))
theorem w_1107 : Cond.selects RX3 yX3_epoch yX3_epoch ∈ GL := GL_of (WA_983 (1165, Cond.selects RX3 yX3_epoch yX3_epoch) (List.mem_of_getElem? (i := 23) rfl))
theorem w_1108 : Cond.code yX3_epoch cX3_epoch 3 (some .int) ∈ GL := GL_of (WA_983 (1166, Cond.code yX3_epoch cX3_epoch 3 (some .int)) (List.mem_of_getElem? (i := 24) rfl))
theorem w_1109 : Cond.methodLink RL 208 yX3_swap ∈ GL := GL_of (WA_983 (1167, Cond.methodLink RL 208 yX3_swap) (List.mem_of_getElem? (i := 25) rfl))
theorem w_1110 : Cond.instanceMethod yX3_swap ∈ GL := GL_of (WA_983 (1168, Cond.instanceMethod yX3_swap) (List.mem_of_getElem? (i := 26) rfl))
theorem w_1111 : Cond.selects RX3 yX3_swap yX3_swap ∈ GL := GL_of (WA_983 (1169, Cond.selects RX3 yX3_swap yX3_swap) (List.mem_of_getElem? (i := 27) rfl))
theorem w_1112 : Cond.code yX3_swap cX3_swap 4 (some .int) ∈ GL := GL_of (WA_983 (1170, Cond.code yX3_swap cX3_swap 4 (some .int)) (List.mem_of_getElem? (i := 28) rfl))
theorem w_1113 : Cond.methodLink RL 211 yX3_withYear ∈ GL := GL_of (WA_983 (1171, Cond.methodLink RL 211 yX3_withYear) (List.mem_of_getElem? (i := 29) rfl))
theorem w_1114 : Cond.instanceMethod yX3_withYear ∈ GL := GL_of (WA_983 (1172, Cond.instanceMethod yX3_withYear) (List.mem_of_getElem? (i := 30) rfl))
theorem w_1115 : Cond.selects RX3 yX3_withYear yX3_withYear ∈ GL := GL_of (WA_983 (1173, Cond.selects RX3 yX3_withYear yX3_withYear) (List.mem_of_getElem? (i := 31) rfl))
theorem w_1116 : Cond.code yX3_withYear cX3_withYear 3 (some .int) ∈ GL := GL_of (WA_983 (1174, Cond.code yX3_withYear cX3_withYear 3 (some .int)) (List.mem_of_getElem? (i := 32) rfl))
theorem w_1120 : Cond.methodLink RL 214 yX3_withMonth ∈ GL := GL_of (WA_983 (1178, Cond.methodLink RL 214 yX3_withMonth) (List.mem_of_getElem? (i := 33) rfl))
theorem w_1121 : Cond.instanceMethod yX3_withMonth ∈ GL := GL_of (WA_983 (1179, Cond.instanceMethod yX3_withMonth) (List.mem_of_getElem? (i := 34) rfl))
theorem w_1122 : Cond.selects RX3 yX3_withMonth yX3_withMonth ∈ GL := GL_of (WA_983 (1180, Cond.selects RX3 yX3_withMonth yX3_withMonth) (List.mem_of_getElem? (i := 35) rfl))
theorem w_1123 : Cond.code yX3_withMonth cX3_withMonth 3 (some .int) ∈ GL := GL_of (WA_983 (1181, Cond.code yX3_withMonth cX3_withMonth 3 (some .int)) (List.mem_of_getElem? (i := 36) rfl))
theorem w_1124 : Cond.methodLink RL 217 yX3_withDay ∈ GL := GL_of (WA_983 (1182, Cond.methodLink RL 217 yX3_withDay) (List.mem_of_getElem? (i := 37) rfl))
theorem w_1125 : Cond.instanceMethod yX3_withDay ∈ GL := GL_of (WA_983 (1183, Cond.instanceMethod yX3_withDay) (List.mem_of_getElem? (i := 38) rfl))
theorem w_1126 : Cond.selects RX3 yX3_withDay yX3_withDay ∈ GL := GL_of (WA_983 (1184, Cond.selects RX3 yX3_withDay yX3_withDay) (List.mem_of_getElem? (i := 39) rfl))
noncomputable def WL_1127 : List (Nat × Cond) := [(1185, Cond.code yX3_withDay cX3_withDay 4 (some .int)), (1186, Cond.methodLink RL 220 yX3_withDayOfYear), (1187, Cond.instanceMethod yX3_withDayOfYear), (1188, Cond.selects RX3 yX3_withDayOfYear yX3_withDayOfYear), (1189, Cond.code yX3_withDayOfYear cX3_withDayOfYear 4 (some .int)), (1190, Cond.methodLink RL 223 yX3_toFirst), (1191, Cond.instanceMethod yX3_toFirst), (1192, Cond.selects RX3 yX3_toFirst yX3_toFirst), (1193, Cond.code yX3_toFirst cX3_toFirst 2 (some .int)), (1194, Cond.methodLink RL 226 yX3_toLast), (1195, Cond.instanceMethod yX3_toLast), (1196, Cond.selects RX3 yX3_toLast yX3_toLast), (1197, Cond.code yX3_toLast cX3_toLast 2 (some .int)), (1198, Cond.methodLink RL 229 yX3_plusDays), (1199, Cond.instanceMethod yX3_plusDays), (1200, Cond.selects RX3 yX3_plusDays yX3_plusDays), (1201, Cond.code yX3_plusDays cX3_plusDays 3 (some .int)), (1224, Cond.methodLink RL 232 yX3_plusWeeks), (1225, Cond.instanceMethod yX3_plusWeeks), (1226, Cond.selects RX3 yX3_plusWeeks yX3_plusWeeks), (1227, Cond.code yX3_plusWeeks cX3_plusWeeks 3 (some .int)), (1228, Cond.methodLink RL 235 yX3_plusMonths), (1229, Cond.instanceMethod yX3_plusMonths), (1230, Cond.selects RX3 yX3_plusMonths yX3_plusMonths), (1231, Cond.code yX3_plusMonths cX3_plusMonths 3 (some .int)), (1232, Cond.methodLink RL 238 yX3_plusYears), (1233, Cond.instanceMethod yX3_plusYears), (1234, Cond.selects RX3 yX3_plusYears yX3_plusYears), (1235, Cond.code yX3_plusYears cX3_plusYears 3 (some .int)), (1236, Cond.methodLink RL 241 yX3_minusDays), (1237, Cond.instanceMethod yX3_minusDays), (1238, Cond.selects RX3 yX3_minusDays yX3_minusDays), (1239, Cond.code yX3_minusDays cX3_minusDays 3 (some .int)), (1240, Cond.methodLink RL 244 yX3_minusWeeks), (1241, Cond.instanceMethod yX3_minusWeeks), (1242, Cond.selects RX3 yX3_minusWeeks yX3_minusWeeks), (1243, Cond.code yX3_minusWeeks cX3_minusWeeks 3 (some .int)), (1244, Cond.methodLink RL 247 yX3_minusMonths), (1245, Cond.instanceMethod yX3_minusMonths), (1246, Cond.selects RX3 yX3_minusMonths yX3_minusMonths)]
theorem WA_1127 : ∀ q ∈ WL_1127, lw_tbl[q.1]? = some q.2 ∧ goodWord q.2 = true := by decide +kernel
theorem w_1127 : Cond.code yX3_withDay cX3_withDay 4 (some .int) ∈ GL := GL_of (WA_1127 (1185, Cond.code yX3_withDay cX3_withDay 4 (some .int)) (List.mem_of_getElem? (i := 0) rfl))
theorem w_1128 : Cond.methodLink RL 220 yX3_withDayOfYear ∈ GL := GL_of (WA_1127 (1186, Cond.methodLink RL 220 yX3_withDayOfYear) (List.mem_of_getElem? (i := 1) rfl))
theorem w_1129 : Cond.instanceMethod yX3_withDayOfYear ∈ GL := GL_of (WA_1127 (1187, Cond.instanceMethod yX3_withDayOfYear) (List.mem_of_getElem? (i := 2) rfl))
theorem w_1130 : Cond.selects RX3 yX3_withDayOfYear yX3_withDayOfYear ∈ GL := GL_of (WA_1127 (1188, Cond.selects RX3 yX3_withDayOfYear yX3_withDayOfYear) (List.mem_of_getElem? (i := 3) rfl))
theorem w_1131 : Cond.code yX3_withDayOfYear cX3_withDayOfYear 4 (some .int) ∈ GL := GL_of (WA_1127 (1189, Cond.code yX3_withDayOfYear cX3_withDayOfYear 4 (some .int)) (List.mem_of_getElem? (i := 4) rfl))
theorem w_1132 : Cond.methodLink RL 223 yX3_toFirst ∈ GL := GL_of (WA_1127 (1190, Cond.methodLink RL 223 yX3_toFirst) (List.mem_of_getElem? (i := 5) rfl))
theorem w_1133 : Cond.instanceMethod yX3_toFirst ∈ GL := GL_of (WA_1127 (1191, Cond.instanceMethod yX3_toFirst) (List.mem_of_getElem? (i := 6) rfl))
theorem w_1134 : Cond.selects RX3 yX3_toFirst yX3_toFirst ∈ GL := GL_of (WA_1127 (1192, Cond.selects RX3 yX3_toFirst yX3_toFirst) (List.mem_of_getElem? (i := 7) rfl))
theorem w_1135 : Cond.code yX3_toFirst cX3_toFirst 2 (some .int) ∈ GL := GL_of (WA_1127 (1193, Cond.code yX3_toFirst cX3_toFirst 2 (some .int)) (List.mem_of_getElem? (i := 8) rfl))
theorem w_1136 : Cond.methodLink RL 226 yX3_toLast ∈ GL := GL_of (WA_1127 (1194, Cond.methodLink RL 226 yX3_toLast) (List.mem_of_getElem? (i := 9) rfl))
theorem w_1137 : Cond.instanceMethod yX3_toLast ∈ GL := GL_of (WA_1127 (1195, Cond.instanceMethod yX3_toLast) (List.mem_of_getElem? (i := 10) rfl))
theorem w_1138 : Cond.selects RX3 yX3_toLast yX3_toLast ∈ GL := GL_of (WA_1127 (1196, Cond.selects RX3 yX3_toLast yX3_toLast) (List.mem_of_getElem? (i := 11) rfl))
theorem w_1139 : Cond.code yX3_toLast cX3_toLast 2 (some .int) ∈ GL := GL_of (WA_1127 (1197, Cond.code yX3_toLast cX3_toLast 2 (some .int)) (List.mem_of_getElem? (i := 12) rfl))
theorem w_1140 : Cond.methodLink RL 229 yX3_plusDays ∈ GL := GL_of (WA_1127 (1198, Cond.methodLink RL 229 yX3_plusDays) (List.mem_of_getElem? (i := 13) rfl))
theorem w_1141 : Cond.instanceMethod yX3_plusDays ∈ GL := GL_of (WA_1127 (1199, Cond.instanceMethod yX3_plusDays) (List.mem_of_getElem? (i := 14) rfl))
theorem w_1142 : Cond.selects RX3 yX3_plusDays yX3_plusDays ∈ GL := GL_of (WA_1127 (1200, Cond.selects RX3 yX3_plusDays yX3_plusDays) (List.mem_of_getElem? (i := 15) rfl))
theorem w_1143 : Cond.code yX3_plusDays cX3_plusDays 3 (some .int) ∈ GL := GL_of (WA_1127 (1201, Cond.code yX3_plusDays cX3_plusDays 3 (some .int)) (List.mem_of_getElem? (i := 16) rfl))
theorem w_1165 : Cond.methodLink RL 232 yX3_plusWeeks ∈ GL := GL_of (WA_1127 (1224, Cond.methodLink RL 232 yX3_plusWeeks) (List.mem_of_getElem? (i := 17) rfl))
theorem w_1166 : Cond.instanceMethod yX3_plusWeeks ∈ GL := GL_of (WA_1127 (1225, Cond.instanceMethod yX3_plusWeeks) (List.mem_of_getElem? (i := 18) rfl))
theorem w_1167 : Cond.selects RX3 yX3_plusWeeks yX3_plusWeeks ∈ GL := GL_of (WA_1127 (1226, Cond.selects RX3 yX3_plusWeeks yX3_plusWeeks) (List.mem_of_getElem? (i := 19) rfl))
theorem w_1168 : Cond.code yX3_plusWeeks cX3_plusWeeks 3 (some .int) ∈ GL := GL_of (WA_1127 (1227, Cond.code yX3_plusWeeks cX3_plusWeeks 3 (some .int)) (List.mem_of_getElem? (i := 20) rfl))
theorem w_1169 : Cond.methodLink RL 235 yX3_plusMonths ∈ GL := GL_of (WA_1127 (1228, Cond.methodLink RL 235 yX3_plusMonths) (List.mem_of_getElem? (i := 21) rfl))
theorem w_1170 : Cond.instanceMethod yX3_plusMonths ∈ GL := GL_of (WA_1127 (1229, Cond.instanceMethod yX3_plusMonths) (List.mem_of_getElem? (i := 22) rfl))
theorem w_1171 : Cond.selects RX3 yX3_plusMonths yX3_plusMonths ∈ GL := GL_of (WA_1127 (1230, Cond.selects RX3 yX3_plusMonths yX3_plusMonths) (List.mem_of_getElem? (i := 23) rfl))
theorem w_1172 : Cond.code yX3_plusMonths cX3_plusMonths 3 (some .int) ∈ GL := GL_of (WA_1127 (1231, Cond.code yX3_plusMonths cX3_plusMonths 3 (some .int)) (List.mem_of_getElem? (i := 24) rfl))
theorem w_1173 : Cond.methodLink RL 238 yX3_plusYears ∈ GL := GL_of (WA_1127 (1232, Cond.methodLink RL 238 yX3_plusYears) (List.mem_of_getElem? (i := 25) rfl))
theorem w_1174 : Cond.instanceMethod yX3_plusYears ∈ GL := GL_of (WA_1127 (1233, Cond.instanceMethod yX3_plusYears) (List.mem_of_getElem? (i := 26) rfl))
theorem w_1175 : Cond.selects RX3 yX3_plusYears yX3_plusYears ∈ GL := GL_of (WA_1127 (1234, Cond.selects RX3 yX3_plusYears yX3_plusYears) (List.mem_of_getElem? (i := 27) rfl))
theorem w_1176 : Cond.code yX3_plusYears cX3_plusYears 3 (some .int) ∈ GL := GL_of (WA_1127 (1235, Cond.code yX3_plusYears cX3_plusYears 3 (some .int)) (List.mem_of_getElem? (i := 28) rfl))
theorem w_1177 : Cond.methodLink RL 241 yX3_minusDays ∈ GL := GL_of (WA_1127 (1236, Cond.methodLink RL 241 yX3_minusDays) (List.mem_of_getElem? (i := 29) rfl))
theorem w_1178 : Cond.instanceMethod yX3_minusDays ∈ GL := GL_of (WA_1127 (1237, Cond.instanceMethod yX3_minusDays) (List.mem_of_getElem? (i := 30) rfl))
theorem w_1179 : Cond.selects RX3 yX3_minusDays yX3_minusDays ∈ GL := GL_of (WA_1127 (1238, Cond.selects RX3 yX3_minusDays yX3_minusDays) (List.mem_of_getElem? (i := 31) rfl))
theorem w_1180 : Cond.code yX3_minusDays cX3_minusDays 3 (some .int) ∈ GL := GL_of (WA_1127 (1239, Cond.code yX3_minusDays cX3_minusDays 3 (some .int)) (List.mem_of_getElem? (i := 32) rfl))
theorem w_1181 : Cond.methodLink RL 244 yX3_minusWeeks ∈ GL := GL_of (WA_1127 (1240, Cond.methodLink RL 244 yX3_minusWeeks) (List.mem_of_getElem? (i := 33) rfl))
theorem w_1182 : Cond.instanceMethod yX3_minusWeeks ∈ GL := GL_of (WA_1127 (1241, Cond.instanceMethod yX3_minusWeeks) (List.mem_of_getElem? (i := 34) rfl))
theorem w_1183 : Cond.selects RX3 yX3_minusWeeks yX3_minusWeeks ∈ GL := GL_of (WA_1127 (1242, Cond.selects RX3 yX3_minusWeeks yX3_minusWeeks) (List.mem_of_getElem? (i := 35) rfl))
theorem w_1184 : Cond.code yX3_minusWeeks cX3_minusWeeks 3 (some .int) ∈ GL := GL_of (WA_1127 (1243, Cond.code yX3_minusWeeks cX3_minusWeeks 3 (some .int)) (List.mem_of_getElem? (i := 36) rfl))
theorem w_1185 : Cond.methodLink RL 247 yX3_minusMonths ∈ GL := GL_of (WA_1127 (1244, Cond.methodLink RL 247 yX3_minusMonths) (List.mem_of_getElem? (i := 37) rfl))
theorem w_1186 : Cond.instanceMethod yX3_minusMonths ∈ GL := GL_of (WA_1127 (1245, Cond.instanceMethod yX3_minusMonths) (List.mem_of_getElem? (i := 38) rfl))
theorem w_1187 : Cond.selects RX3 yX3_minusMonths yX3_minusMonths ∈ GL := GL_of (WA_1127 (1246, Cond.selects RX3 yX3_minusMonths yX3_minusMonths) (List.mem_of_getElem? (i := 39) rfl))
noncomputable def WL_1188 : List (Nat × Cond) := [(1247, Cond.code yX3_minusMonths cX3_minusMonths 3 (some .int)), (1248, Cond.methodLink RL 250 yX3_minusYears), (1249, Cond.instanceMethod yX3_minusYears), (1250, Cond.selects RX3 yX3_minusYears yX3_minusYears), (1251, Cond.code yX3_minusYears cX3_minusYears 3 (some .int)), (1252, Cond.methodLink RL 253 yX3_span), (1253, Cond.instanceMethod yX3_span), (1254, Cond.selects RX3 yX3_span yX3_span), (1255, Cond.code yX3_span cX3_span 5 (some .int)), (1268, Cond.methodLink RL 256 yX3_until), (1269, Cond.instanceMethod yX3_until), (1270, Cond.selects RX3 yX3_until yX3_until), (1271, Cond.code yX3_until cX3_until 5 (some .int)), (1284, Cond.methodLink RL 259 yX3_addSpan), (1285, Cond.instanceMethod yX3_addSpan), (1286, Cond.selects RX3 yX3_addSpan yX3_addSpan), (1287, Cond.code yX3_addSpan cX3_addSpan 6 (some .int)), (1288, Cond.methodLink RL 262 yX3_ofSpan), (1289, Cond.instanceMethod yX3_ofSpan), (1290, Cond.selects RX3 yX3_ofSpan yX3_ofSpan), (1291, Cond.code yX3_ofSpan cX3_ofSpan 3 (some .int)), (1293, Cond.methodLink RL 265 yX3_plusSpan), (1294, Cond.instanceMethod yX3_plusSpan), (1295, Cond.selects RX3 yX3_plusSpan yX3_plusSpan), (1296, Cond.code yX3_plusSpan cX3_plusSpan 3 (some .int)), (1301, Cond.methodLink RL 268 yX3_minusSpan), (1302, Cond.instanceMethod yX3_minusSpan), (1303, Cond.selects RX3 yX3_minusSpan yX3_minusSpan), (1304, Cond.code yX3_minusSpan cX3_minusSpan 3 (some .int)), (1305, Cond.methodLink RL 271 yX3_year), (1306, Cond.instanceMethod yX3_year), (1307, Cond.selects RX3 yX3_year yX3_year), (1308, Cond.code yX3_year cX3_year 2 (some .int)), (1309, Cond.methodLink RL 274 yX3_month), (1310, Cond.instanceMethod yX3_month), (1311, Cond.selects RX3 yX3_month yX3_month), (1312, Cond.code yX3_month cX3_month 2 (some .int)), (1313, Cond.methodLink RL 277 yX3_day), (1314, Cond.instanceMethod yX3_day), (1315, Cond.selects RX3 yX3_day yX3_day)]
theorem WA_1188 : ∀ q ∈ WL_1188, lw_tbl[q.1]? = some q.2 ∧ goodWord q.2 = true := by decide +kernel
theorem w_1188 : Cond.code yX3_minusMonths cX3_minusMonths 3 (some .int) ∈ GL := GL_of (WA_1188 (1247, Cond.code yX3_minusMonths cX3_minusMonths 3 (some .int)) (List.mem_of_getElem? (i := 0) rfl))
theorem w_1189 : Cond.methodLink RL 250 yX3_minusYears ∈ GL := GL_of (WA_1188 (1248, Cond.methodLink RL 250 yX3_minusYears) (List.mem_of_getElem? (i := 1) rfl))
theorem w_1190 : Cond.instanceMethod yX3_minusYears ∈ GL := GL_of (WA_1188 (1249, Cond.instanceMethod yX3_minusYears) (List.mem_of_getElem? (i := 2) rfl))
theorem w_1191 : Cond.selects RX3 yX3_minusYears yX3_minusYears ∈ GL := GL_of (WA_1188 (1250, Cond.selects RX3 yX3_minusYears yX3_minusYears) (List.mem_of_getElem? (i := 3) rfl))
theorem w_1192 : Cond.code yX3_minusYears cX3_minusYears 3 (some .int) ∈ GL := GL_of (WA_1188 (1251, Cond.code yX3_minusYears cX3_minusYears 3 (some .int)) (List.mem_of_getElem? (i := 4) rfl))
theorem w_1193 : Cond.methodLink RL 253 yX3_span ∈ GL := GL_of (WA_1188 (1252, Cond.methodLink RL 253 yX3_span) (List.mem_of_getElem? (i := 5) rfl))
theorem w_1194 : Cond.instanceMethod yX3_span ∈ GL := GL_of (WA_1188 (1253, Cond.instanceMethod yX3_span) (List.mem_of_getElem? (i := 6) rfl))
theorem w_1195 : Cond.selects RX3 yX3_span yX3_span ∈ GL := GL_of (WA_1188 (1254, Cond.selects RX3 yX3_span yX3_span) (List.mem_of_getElem? (i := 7) rfl))
theorem w_1196 : Cond.code yX3_span cX3_span 5 (some .int) ∈ GL := GL_of (WA_1188 (1255, Cond.code yX3_span cX3_span 5 (some .int)) (List.mem_of_getElem? (i := 8) rfl))
theorem w_1208 : Cond.methodLink RL 256 yX3_until ∈ GL := GL_of (WA_1188 (1268, Cond.methodLink RL 256 yX3_until) (List.mem_of_getElem? (i := 9) rfl))
theorem w_1209 : Cond.instanceMethod yX3_until ∈ GL := GL_of (WA_1188 (1269, Cond.instanceMethod yX3_until) (List.mem_of_getElem? (i := 10) rfl))
theorem w_1210 : Cond.selects RX3 yX3_until yX3_until ∈ GL := GL_of (WA_1188 (1270, Cond.selects RX3 yX3_until yX3_until) (List.mem_of_getElem? (i := 11) rfl))
theorem w_1211 : Cond.code yX3_until cX3_until 5 (some .int) ∈ GL := GL_of (WA_1188 (1271, Cond.code yX3_until cX3_until 5 (some .int)) (List.mem_of_getElem? (i := 12) rfl))
theorem w_1224 : Cond.methodLink RL 259 yX3_addSpan ∈ GL := GL_of (WA_1188 (1284, Cond.methodLink RL 259 yX3_addSpan) (List.mem_of_getElem? (i := 13) rfl))
theorem w_1225 : Cond.instanceMethod yX3_addSpan ∈ GL := GL_of (WA_1188 (1285, Cond.instanceMethod yX3_addSpan) (List.mem_of_getElem? (i := 14) rfl))
theorem w_1226 : Cond.selects RX3 yX3_addSpan yX3_addSpan ∈ GL := GL_of (WA_1188 (1286, Cond.selects RX3 yX3_addSpan yX3_addSpan) (List.mem_of_getElem? (i := 15) rfl))
theorem w_1227 : Cond.code yX3_addSpan cX3_addSpan 6 (some .int) ∈ GL := GL_of (WA_1188 (1287, Cond.code yX3_addSpan cX3_addSpan 6 (some .int)) (List.mem_of_getElem? (i := 16) rfl))
theorem w_1228 : Cond.methodLink RL 262 yX3_ofSpan ∈ GL := GL_of (WA_1188 (1288, Cond.methodLink RL 262 yX3_ofSpan) (List.mem_of_getElem? (i := 17) rfl))
theorem w_1229 : Cond.instanceMethod yX3_ofSpan ∈ GL := GL_of (WA_1188 (1289, Cond.instanceMethod yX3_ofSpan) (List.mem_of_getElem? (i := 18) rfl))
theorem w_1230 : Cond.selects RX3 yX3_ofSpan yX3_ofSpan ∈ GL := GL_of (WA_1188 (1290, Cond.selects RX3 yX3_ofSpan yX3_ofSpan) (List.mem_of_getElem? (i := 19) rfl))
theorem w_1231 : Cond.code yX3_ofSpan cX3_ofSpan 3 (some .int) ∈ GL := GL_of (WA_1188 (1291, Cond.code yX3_ofSpan cX3_ofSpan 3 (some .int)) (List.mem_of_getElem? (i := 20) rfl))
theorem w_1233 : Cond.methodLink RL 265 yX3_plusSpan ∈ GL := GL_of (WA_1188 (1293, Cond.methodLink RL 265 yX3_plusSpan) (List.mem_of_getElem? (i := 21) rfl))
theorem w_1234 : Cond.instanceMethod yX3_plusSpan ∈ GL := GL_of (WA_1188 (1294, Cond.instanceMethod yX3_plusSpan) (List.mem_of_getElem? (i := 22) rfl))
theorem w_1235 : Cond.selects RX3 yX3_plusSpan yX3_plusSpan ∈ GL := GL_of (WA_1188 (1295, Cond.selects RX3 yX3_plusSpan yX3_plusSpan) (List.mem_of_getElem? (i := 23) rfl))
theorem w_1236 : Cond.code yX3_plusSpan cX3_plusSpan 3 (some .int) ∈ GL := GL_of (WA_1188 (1296, Cond.code yX3_plusSpan cX3_plusSpan 3 (some .int)) (List.mem_of_getElem? (i := 24) rfl))
theorem w_1240 : Cond.methodLink RL 268 yX3_minusSpan ∈ GL := GL_of (WA_1188 (1301, Cond.methodLink RL 268 yX3_minusSpan) (List.mem_of_getElem? (i := 25) rfl))
theorem w_1241 : Cond.instanceMethod yX3_minusSpan ∈ GL := GL_of (WA_1188 (1302, Cond.instanceMethod yX3_minusSpan) (List.mem_of_getElem? (i := 26) rfl))
theorem w_1242 : Cond.selects RX3 yX3_minusSpan yX3_minusSpan ∈ GL := GL_of (WA_1188 (1303, Cond.selects RX3 yX3_minusSpan yX3_minusSpan) (List.mem_of_getElem? (i := 27) rfl))
theorem w_1243 : Cond.code yX3_minusSpan cX3_minusSpan 3 (some .int) ∈ GL := GL_of (WA_1188 (1304, Cond.code yX3_minusSpan cX3_minusSpan 3 (some .int)) (List.mem_of_getElem? (i := 28) rfl))
theorem w_1244 : Cond.methodLink RL 271 yX3_year ∈ GL := GL_of (WA_1188 (1305, Cond.methodLink RL 271 yX3_year) (List.mem_of_getElem? (i := 29) rfl))
theorem w_1245 : Cond.instanceMethod yX3_year ∈ GL := GL_of (WA_1188 (1306, Cond.instanceMethod yX3_year) (List.mem_of_getElem? (i := 30) rfl))
theorem w_1246 : Cond.selects RX3 yX3_year yX3_year ∈ GL := GL_of (WA_1188 (1307, Cond.selects RX3 yX3_year yX3_year) (List.mem_of_getElem? (i := 31) rfl))
theorem w_1247 : Cond.code yX3_year cX3_year 2 (some .int) ∈ GL := GL_of (WA_1188 (1308, Cond.code yX3_year cX3_year 2 (some .int)) (List.mem_of_getElem? (i := 32) rfl))
theorem w_1248 : Cond.methodLink RL 274 yX3_month ∈ GL := GL_of (WA_1188 (1309, Cond.methodLink RL 274 yX3_month) (List.mem_of_getElem? (i := 33) rfl))
theorem w_1249 : Cond.instanceMethod yX3_month ∈ GL := GL_of (WA_1188 (1310, Cond.instanceMethod yX3_month) (List.mem_of_getElem? (i := 34) rfl))
theorem w_1250 : Cond.selects RX3 yX3_month yX3_month ∈ GL := GL_of (WA_1188 (1311, Cond.selects RX3 yX3_month yX3_month) (List.mem_of_getElem? (i := 35) rfl))
theorem w_1251 : Cond.code yX3_month cX3_month 2 (some .int) ∈ GL := GL_of (WA_1188 (1312, Cond.code yX3_month cX3_month 2 (some .int)) (List.mem_of_getElem? (i := 36) rfl))
theorem w_1252 : Cond.methodLink RL 277 yX3_day ∈ GL := GL_of (WA_1188 (1313, Cond.methodLink RL 277 yX3_day) (List.mem_of_getElem? (i := 37) rfl))
theorem w_1253 : Cond.instanceMethod yX3_day ∈ GL := GL_of (WA_1188 (1314, Cond.instanceMethod yX3_day) (List.mem_of_getElem? (i := 38) rfl))
theorem w_1254 : Cond.selects RX3 yX3_day yX3_day ∈ GL := GL_of (WA_1188 (1315, Cond.selects RX3 yX3_day yX3_day) (List.mem_of_getElem? (i := 39) rfl))
noncomputable def WL_1255 : List (Nat × Cond) := [(1316, Cond.code yX3_day cX3_day 2 (some .int)), (1317, Cond.methodLink RL 280 yX3_dayOfYear), (1318, Cond.instanceMethod yX3_dayOfYear), (1319, Cond.selects RX3 yX3_dayOfYear yX3_dayOfYear), (1320, Cond.code yX3_dayOfYear cX3_dayOfYear 2 (some .int)), (1322, Cond.methodLink RL 283 yX3_dayOfWeek), (1323, Cond.instanceMethod yX3_dayOfWeek), (1324, Cond.selects RX3 yX3_dayOfWeek yX3_dayOfWeek), (1325, Cond.code yX3_dayOfWeek cX3_dayOfWeek 2 (some .int)), (1330, Cond.methodLink RL 286 yX3_laterDayOfWeek), (1331, Cond.instanceMethod yX3_laterDayOfWeek), (1332, Cond.selects RX3 yX3_laterDayOfWeek yX3_laterDayOfWeek), (1333, Cond.code yX3_laterDayOfWeek cX3_laterDayOfWeek 3 (some .int)), (1334, Cond.methodLink RL 289 yX3_lengthOfMonth), (1335, Cond.instanceMethod yX3_lengthOfMonth), (1336, Cond.selects RX3 yX3_lengthOfMonth yX3_lengthOfMonth), (1337, Cond.code yX3_lengthOfMonth cX3_lengthOfMonth 2 (some .int)), (1338, Cond.methodLink RL 292 yX3_lengthOfYear), (1339, Cond.instanceMethod yX3_lengthOfYear), (1340, Cond.selects RX3 yX3_lengthOfYear yX3_lengthOfYear), (1341, Cond.code yX3_lengthOfYear cX3_lengthOfYear 2 (some .int)), (1342, Cond.methodLink RL 295 yX3_isLeapYear), (1343, Cond.instanceMethod yX3_isLeapYear), (1344, Cond.selects RX3 yX3_isLeapYear yX3_isLeapYear), (1345, Cond.code yX3_isLeapYear cX3_isLeapYear 2 (some .boolean)), (1346, Cond.methodLink RL 298 yX3_field), (1347, Cond.instanceMethod yX3_field), (1348, Cond.selects RX3 yX3_field yX3_field), (1349, Cond.code yX3_field cX3_field 3 (some .int)), (1353, Cond.methodLink RL 301 yX3_toDay), (1354, Cond.instanceMethod yX3_toDay), (1355, Cond.selects RX3 yX3_toDay yX3_toDay), (1356, Cond.code yX3_toDay cX3_toDay 2 (some .int)), (1357, Cond.methodLink RL 304 yX3_text), (1358, Cond.instanceMethod yX3_text), (1359, Cond.selects RX3 yX3_text yX3_text), (1360, Cond.code yX3_text cX3_text 2 (some (.object "java/lang/String"))), (1377, Cond.methodLink RL 307 yX3_isDate_), (1378, Cond.instanceMethod yX3_isDate_), (1379, Cond.selects RX3 yX3_isDate_ yX3_isDate_)]
theorem WA_1255 : ∀ q ∈ WL_1255, lw_tbl[q.1]? = some q.2 ∧ goodWord q.2 = true := by decide +kernel
theorem w_1255 : Cond.code yX3_day cX3_day 2 (some .int) ∈ GL := GL_of (WA_1255 (1316, Cond.code yX3_day cX3_day 2 (some .int)) (List.mem_of_getElem? (i := 0) rfl))
theorem w_1256 : Cond.methodLink RL 280 yX3_dayOfYear ∈ GL := GL_of (WA_1255 (1317, Cond.methodLink RL 280 yX3_dayOfYear) (List.mem_of_getElem? (i := 1) rfl))
theorem w_1257 : Cond.instanceMethod yX3_dayOfYear ∈ GL := GL_of (WA_1255 (1318, Cond.instanceMethod yX3_dayOfYear) (List.mem_of_getElem? (i := 2) rfl))
theorem w_1258 : Cond.selects RX3 yX3_dayOfYear yX3_dayOfYear ∈ GL := GL_of (WA_1255 (1319, Cond.selects RX3 yX3_dayOfYear yX3_dayOfYear) (List.mem_of_getElem? (i := 3) rfl))
theorem w_1259 : Cond.code yX3_dayOfYear cX3_dayOfYear 2 (some .int) ∈ GL := GL_of (WA_1255 (1320, Cond.code yX3_dayOfYear cX3_dayOfYear 2 (some .int)) (List.mem_of_getElem? (i := 4) rfl))
theorem w_1261 : Cond.methodLink RL 283 yX3_dayOfWeek ∈ GL := GL_of (WA_1255 (1322, Cond.methodLink RL 283 yX3_dayOfWeek) (List.mem_of_getElem? (i := 5) rfl))
theorem w_1262 : Cond.instanceMethod yX3_dayOfWeek ∈ GL := GL_of (WA_1255 (1323, Cond.instanceMethod yX3_dayOfWeek) (List.mem_of_getElem? (i := 6) rfl))
theorem w_1263 : Cond.selects RX3 yX3_dayOfWeek yX3_dayOfWeek ∈ GL := GL_of (WA_1255 (1324, Cond.selects RX3 yX3_dayOfWeek yX3_dayOfWeek) (List.mem_of_getElem? (i := 7) rfl))
theorem w_1264 : Cond.code yX3_dayOfWeek cX3_dayOfWeek 2 (some .int) ∈ GL := GL_of (WA_1255 (1325, Cond.code yX3_dayOfWeek cX3_dayOfWeek 2 (some .int)) (List.mem_of_getElem? (i := 8) rfl))
theorem w_1269 : Cond.methodLink RL 286 yX3_laterDayOfWeek ∈ GL := GL_of (WA_1255 (1330, Cond.methodLink RL 286 yX3_laterDayOfWeek) (List.mem_of_getElem? (i := 9) rfl))
theorem w_1270 : Cond.instanceMethod yX3_laterDayOfWeek ∈ GL := GL_of (WA_1255 (1331, Cond.instanceMethod yX3_laterDayOfWeek) (List.mem_of_getElem? (i := 10) rfl))
theorem w_1271 : Cond.selects RX3 yX3_laterDayOfWeek yX3_laterDayOfWeek ∈ GL := GL_of (WA_1255 (1332, Cond.selects RX3 yX3_laterDayOfWeek yX3_laterDayOfWeek) (List.mem_of_getElem? (i := 11) rfl))
theorem w_1272 : Cond.code yX3_laterDayOfWeek cX3_laterDayOfWeek 3 (some .int) ∈ GL := GL_of (WA_1255 (1333, Cond.code yX3_laterDayOfWeek cX3_laterDayOfWeek 3 (some .int)) (List.mem_of_getElem? (i := 12) rfl))
theorem w_1273 : Cond.methodLink RL 289 yX3_lengthOfMonth ∈ GL := GL_of (WA_1255 (1334, Cond.methodLink RL 289 yX3_lengthOfMonth) (List.mem_of_getElem? (i := 13) rfl))
theorem w_1274 : Cond.instanceMethod yX3_lengthOfMonth ∈ GL := GL_of (WA_1255 (1335, Cond.instanceMethod yX3_lengthOfMonth) (List.mem_of_getElem? (i := 14) rfl))
theorem w_1275 : Cond.selects RX3 yX3_lengthOfMonth yX3_lengthOfMonth ∈ GL := GL_of (WA_1255 (1336, Cond.selects RX3 yX3_lengthOfMonth yX3_lengthOfMonth) (List.mem_of_getElem? (i := 15) rfl))
theorem w_1276 : Cond.code yX3_lengthOfMonth cX3_lengthOfMonth 2 (some .int) ∈ GL := GL_of (WA_1255 (1337, Cond.code yX3_lengthOfMonth cX3_lengthOfMonth 2 (some .int)) (List.mem_of_getElem? (i := 16) rfl))
theorem w_1277 : Cond.methodLink RL 292 yX3_lengthOfYear ∈ GL := GL_of (WA_1255 (1338, Cond.methodLink RL 292 yX3_lengthOfYear) (List.mem_of_getElem? (i := 17) rfl))
theorem w_1278 : Cond.instanceMethod yX3_lengthOfYear ∈ GL := GL_of (WA_1255 (1339, Cond.instanceMethod yX3_lengthOfYear) (List.mem_of_getElem? (i := 18) rfl))
theorem w_1279 : Cond.selects RX3 yX3_lengthOfYear yX3_lengthOfYear ∈ GL := GL_of (WA_1255 (1340, Cond.selects RX3 yX3_lengthOfYear yX3_lengthOfYear) (List.mem_of_getElem? (i := 19) rfl))
theorem w_1280 : Cond.code yX3_lengthOfYear cX3_lengthOfYear 2 (some .int) ∈ GL := GL_of (WA_1255 (1341, Cond.code yX3_lengthOfYear cX3_lengthOfYear 2 (some .int)) (List.mem_of_getElem? (i := 20) rfl))
theorem w_1281 : Cond.methodLink RL 295 yX3_isLeapYear ∈ GL := GL_of (WA_1255 (1342, Cond.methodLink RL 295 yX3_isLeapYear) (List.mem_of_getElem? (i := 21) rfl))
theorem w_1282 : Cond.instanceMethod yX3_isLeapYear ∈ GL := GL_of (WA_1255 (1343, Cond.instanceMethod yX3_isLeapYear) (List.mem_of_getElem? (i := 22) rfl))
theorem w_1283 : Cond.selects RX3 yX3_isLeapYear yX3_isLeapYear ∈ GL := GL_of (WA_1255 (1344, Cond.selects RX3 yX3_isLeapYear yX3_isLeapYear) (List.mem_of_getElem? (i := 23) rfl))
theorem w_1284 : Cond.code yX3_isLeapYear cX3_isLeapYear 2 (some .boolean) ∈ GL := GL_of (WA_1255 (1345, Cond.code yX3_isLeapYear cX3_isLeapYear 2 (some .boolean)) (List.mem_of_getElem? (i := 24) rfl))
theorem w_1285 : Cond.methodLink RL 298 yX3_field ∈ GL := GL_of (WA_1255 (1346, Cond.methodLink RL 298 yX3_field) (List.mem_of_getElem? (i := 25) rfl))
theorem w_1286 : Cond.instanceMethod yX3_field ∈ GL := GL_of (WA_1255 (1347, Cond.instanceMethod yX3_field) (List.mem_of_getElem? (i := 26) rfl))
theorem w_1287 : Cond.selects RX3 yX3_field yX3_field ∈ GL := GL_of (WA_1255 (1348, Cond.selects RX3 yX3_field yX3_field) (List.mem_of_getElem? (i := 27) rfl))
theorem w_1288 : Cond.code yX3_field cX3_field 3 (some .int) ∈ GL := GL_of (WA_1255 (1349, Cond.code yX3_field cX3_field 3 (some .int)) (List.mem_of_getElem? (i := 28) rfl))
theorem w_1292 : Cond.methodLink RL 301 yX3_toDay ∈ GL := GL_of (WA_1255 (1353, Cond.methodLink RL 301 yX3_toDay) (List.mem_of_getElem? (i := 29) rfl))
theorem w_1293 : Cond.instanceMethod yX3_toDay ∈ GL := GL_of (WA_1255 (1354, Cond.instanceMethod yX3_toDay) (List.mem_of_getElem? (i := 30) rfl))
theorem w_1294 : Cond.selects RX3 yX3_toDay yX3_toDay ∈ GL := GL_of (WA_1255 (1355, Cond.selects RX3 yX3_toDay yX3_toDay) (List.mem_of_getElem? (i := 31) rfl))
theorem w_1295 : Cond.code yX3_toDay cX3_toDay 2 (some .int) ∈ GL := GL_of (WA_1255 (1356, Cond.code yX3_toDay cX3_toDay 2 (some .int)) (List.mem_of_getElem? (i := 32) rfl))
theorem w_1296 : Cond.methodLink RL 304 yX3_text ∈ GL := GL_of (WA_1255 (1357, Cond.methodLink RL 304 yX3_text) (List.mem_of_getElem? (i := 33) rfl))
theorem w_1297 : Cond.instanceMethod yX3_text ∈ GL := GL_of (WA_1255 (1358, Cond.instanceMethod yX3_text) (List.mem_of_getElem? (i := 34) rfl))
theorem w_1298 : Cond.selects RX3 yX3_text yX3_text ∈ GL := GL_of (WA_1255 (1359, Cond.selects RX3 yX3_text yX3_text) (List.mem_of_getElem? (i := 35) rfl))
theorem w_1299 : Cond.code yX3_text cX3_text 2 (some (.object "java/lang/String")) ∈ GL := GL_of (WA_1255 (1360, Cond.code yX3_text cX3_text 2 (some (.object "java/lang/String"))) (List.mem_of_getElem? (i := 36) rfl))
theorem w_1312 : Cond.methodLink RL 307 yX3_isDate_ ∈ GL := GL_of (WA_1255 (1377, Cond.methodLink RL 307 yX3_isDate_) (List.mem_of_getElem? (i := 37) rfl))
theorem w_1313 : Cond.instanceMethod yX3_isDate_ ∈ GL := GL_of (WA_1255 (1378, Cond.instanceMethod yX3_isDate_) (List.mem_of_getElem? (i := 38) rfl))
theorem w_1314 : Cond.selects RX3 yX3_isDate_ yX3_isDate_ ∈ GL := GL_of (WA_1255 (1379, Cond.selects RX3 yX3_isDate_ yX3_isDate_) (List.mem_of_getElem? (i := 39) rfl))
noncomputable def WL_1315 : List (Nat × Cond) := [(1380, Cond.code yX3_isDate_ cX3_isDate_ 4 (some .boolean)), (1381, Cond.methodLink RL 310 yX3_wouldBe), (1382, Cond.instanceMethod yX3_wouldBe), (1383, Cond.selects RX3 yX3_wouldBe yX3_wouldBe), (1384, Cond.code yX3_wouldBe cX3_wouldBe 5 (some .int)), (1386, Cond.methodLink RL 313 yX3_compare), (1387, Cond.instanceMethod yX3_compare), (1388, Cond.selects RX3 yX3_compare yX3_compare), (1389, Cond.code yX3_compare cX3_compare 3 (some .int)), (1397, Cond.methodLink RL 316 yX3_isBefore), (1398, Cond.instanceMethod yX3_isBefore), (1399, Cond.selects RX3 yX3_isBefore yX3_isBefore), (1400, Cond.code yX3_isBefore cX3_isBefore 3 (some .boolean)), (1401, Cond.methodLink RL 319 yX3_isAfter), (1402, Cond.instanceMethod yX3_isAfter), (1403, Cond.selects RX3 yX3_isAfter yX3_isAfter), (1404, Cond.code yX3_isAfter cX3_isAfter 3 (some .boolean)), (1405, Cond.methodLink RL 322 yX3_isSame), (1406, Cond.instanceMethod yX3_isSame), (1407, Cond.selects RX3 yX3_isSame yX3_isSame), (1408, Cond.code yX3_isSame cX3_isSame 3 (some .boolean)), (1413, Cond.methodLink RL 325 yX3_between), (1414, Cond.instanceMethod yX3_between), (1415, Cond.selects RX3 yX3_between yX3_between), (1416, Cond.code yX3_between cX3_between 4 (some .int)), (1420, Cond.methodLink RL 328 yX3_apart), (1421, Cond.instanceMethod yX3_apart), (1422, Cond.selects RX3 yX3_apart yX3_apart), (1423, Cond.code yX3_apart cX3_apart 6 (some .int)), (1424, Cond.methodLink RL 331 yX3_daysToYearEnd), (1425, Cond.instanceMethod yX3_daysToYearEnd), (1426, Cond.selects RX3 yX3_daysToYearEnd yX3_daysToYearEnd), (1427, Cond.code yX3_daysToYearEnd cX3_daysToYearEnd 2 (some .int)), (1428, Cond.methodLink RL 334 yX3_sameDay), (1429, Cond.instanceMethod yX3_sameDay), (1430, Cond.selects RX3 yX3_sameDay yX3_sameDay), (1431, Cond.code yX3_sameDay cX3_sameDay 3 (some .int)), (1432, Cond.methodLink RL 342 yX3_reset), (1433, Cond.instanceMethod yX3_reset), (1434, Cond.selects RX3 yX3_reset yX3_reset)]
theorem WA_1315 : ∀ q ∈ WL_1315, lw_tbl[q.1]? = some q.2 ∧ goodWord q.2 = true := by decide +kernel
theorem w_1315 : Cond.code yX3_isDate_ cX3_isDate_ 4 (some .boolean) ∈ GL := GL_of (WA_1315 (1380, Cond.code yX3_isDate_ cX3_isDate_ 4 (some .boolean)) (List.mem_of_getElem? (i := 0) rfl))
theorem w_1316 : Cond.methodLink RL 310 yX3_wouldBe ∈ GL := GL_of (WA_1315 (1381, Cond.methodLink RL 310 yX3_wouldBe) (List.mem_of_getElem? (i := 1) rfl))
theorem w_1317 : Cond.instanceMethod yX3_wouldBe ∈ GL := GL_of (WA_1315 (1382, Cond.instanceMethod yX3_wouldBe) (List.mem_of_getElem? (i := 2) rfl))
theorem w_1318 : Cond.selects RX3 yX3_wouldBe yX3_wouldBe ∈ GL := GL_of (WA_1315 (1383, Cond.selects RX3 yX3_wouldBe yX3_wouldBe) (List.mem_of_getElem? (i := 3) rfl))
theorem w_1319 : Cond.code yX3_wouldBe cX3_wouldBe 5 (some .int) ∈ GL := GL_of (WA_1315 (1384, Cond.code yX3_wouldBe cX3_wouldBe 5 (some .int)) (List.mem_of_getElem? (i := 4) rfl))
theorem w_1321 : Cond.methodLink RL 313 yX3_compare ∈ GL := GL_of (WA_1315 (1386, Cond.methodLink RL 313 yX3_compare) (List.mem_of_getElem? (i := 5) rfl))
theorem w_1322 : Cond.instanceMethod yX3_compare ∈ GL := GL_of (WA_1315 (1387, Cond.instanceMethod yX3_compare) (List.mem_of_getElem? (i := 6) rfl))
theorem w_1323 : Cond.selects RX3 yX3_compare yX3_compare ∈ GL := GL_of (WA_1315 (1388, Cond.selects RX3 yX3_compare yX3_compare) (List.mem_of_getElem? (i := 7) rfl))
theorem w_1324 : Cond.code yX3_compare cX3_compare 3 (some .int) ∈ GL := GL_of (WA_1315 (1389, Cond.code yX3_compare cX3_compare 3 (some .int)) (List.mem_of_getElem? (i := 8) rfl))
theorem w_1331 : Cond.methodLink RL 316 yX3_isBefore ∈ GL := GL_of (WA_1315 (1397, Cond.methodLink RL 316 yX3_isBefore) (List.mem_of_getElem? (i := 9) rfl))
theorem w_1332 : Cond.instanceMethod yX3_isBefore ∈ GL := GL_of (WA_1315 (1398, Cond.instanceMethod yX3_isBefore) (List.mem_of_getElem? (i := 10) rfl))
theorem w_1333 : Cond.selects RX3 yX3_isBefore yX3_isBefore ∈ GL := GL_of (WA_1315 (1399, Cond.selects RX3 yX3_isBefore yX3_isBefore) (List.mem_of_getElem? (i := 11) rfl))
theorem w_1334 : Cond.code yX3_isBefore cX3_isBefore 3 (some .boolean) ∈ GL := GL_of (WA_1315 (1400, Cond.code yX3_isBefore cX3_isBefore 3 (some .boolean)) (List.mem_of_getElem? (i := 12) rfl))
theorem w_1335 : Cond.methodLink RL 319 yX3_isAfter ∈ GL := GL_of (WA_1315 (1401, Cond.methodLink RL 319 yX3_isAfter) (List.mem_of_getElem? (i := 13) rfl))
theorem w_1336 : Cond.instanceMethod yX3_isAfter ∈ GL := GL_of (WA_1315 (1402, Cond.instanceMethod yX3_isAfter) (List.mem_of_getElem? (i := 14) rfl))
theorem w_1337 : Cond.selects RX3 yX3_isAfter yX3_isAfter ∈ GL := GL_of (WA_1315 (1403, Cond.selects RX3 yX3_isAfter yX3_isAfter) (List.mem_of_getElem? (i := 15) rfl))
theorem w_1338 : Cond.code yX3_isAfter cX3_isAfter 3 (some .boolean) ∈ GL := GL_of (WA_1315 (1404, Cond.code yX3_isAfter cX3_isAfter 3 (some .boolean)) (List.mem_of_getElem? (i := 16) rfl))
theorem w_1339 : Cond.methodLink RL 322 yX3_isSame ∈ GL := GL_of (WA_1315 (1405, Cond.methodLink RL 322 yX3_isSame) (List.mem_of_getElem? (i := 17) rfl))
theorem w_1340 : Cond.instanceMethod yX3_isSame ∈ GL := GL_of (WA_1315 (1406, Cond.instanceMethod yX3_isSame) (List.mem_of_getElem? (i := 18) rfl))
theorem w_1341 : Cond.selects RX3 yX3_isSame yX3_isSame ∈ GL := GL_of (WA_1315 (1407, Cond.selects RX3 yX3_isSame yX3_isSame) (List.mem_of_getElem? (i := 19) rfl))
theorem w_1342 : Cond.code yX3_isSame cX3_isSame 3 (some .boolean) ∈ GL := GL_of (WA_1315 (1408, Cond.code yX3_isSame cX3_isSame 3 (some .boolean)) (List.mem_of_getElem? (i := 20) rfl))
theorem w_1347 : Cond.methodLink RL 325 yX3_between ∈ GL := GL_of (WA_1315 (1413, Cond.methodLink RL 325 yX3_between) (List.mem_of_getElem? (i := 21) rfl))
theorem w_1348 : Cond.instanceMethod yX3_between ∈ GL := GL_of (WA_1315 (1414, Cond.instanceMethod yX3_between) (List.mem_of_getElem? (i := 22) rfl))
theorem w_1349 : Cond.selects RX3 yX3_between yX3_between ∈ GL := GL_of (WA_1315 (1415, Cond.selects RX3 yX3_between yX3_between) (List.mem_of_getElem? (i := 23) rfl))
theorem w_1350 : Cond.code yX3_between cX3_between 4 (some .int) ∈ GL := GL_of (WA_1315 (1416, Cond.code yX3_between cX3_between 4 (some .int)) (List.mem_of_getElem? (i := 24) rfl))
theorem w_1354 : Cond.methodLink RL 328 yX3_apart ∈ GL := GL_of (WA_1315 (1420, Cond.methodLink RL 328 yX3_apart) (List.mem_of_getElem? (i := 25) rfl))
theorem w_1355 : Cond.instanceMethod yX3_apart ∈ GL := GL_of (WA_1315 (1421, Cond.instanceMethod yX3_apart) (List.mem_of_getElem? (i := 26) rfl))
theorem w_1356 : Cond.selects RX3 yX3_apart yX3_apart ∈ GL := GL_of (WA_1315 (1422, Cond.selects RX3 yX3_apart yX3_apart) (List.mem_of_getElem? (i := 27) rfl))
theorem w_1357 : Cond.code yX3_apart cX3_apart 6 (some .int) ∈ GL := GL_of (WA_1315 (1423, Cond.code yX3_apart cX3_apart 6 (some .int)) (List.mem_of_getElem? (i := 28) rfl))
theorem w_1358 : Cond.methodLink RL 331 yX3_daysToYearEnd ∈ GL := GL_of (WA_1315 (1424, Cond.methodLink RL 331 yX3_daysToYearEnd) (List.mem_of_getElem? (i := 29) rfl))
theorem w_1359 : Cond.instanceMethod yX3_daysToYearEnd ∈ GL := GL_of (WA_1315 (1425, Cond.instanceMethod yX3_daysToYearEnd) (List.mem_of_getElem? (i := 30) rfl))
theorem w_1360 : Cond.selects RX3 yX3_daysToYearEnd yX3_daysToYearEnd ∈ GL := GL_of (WA_1315 (1426, Cond.selects RX3 yX3_daysToYearEnd yX3_daysToYearEnd) (List.mem_of_getElem? (i := 31) rfl))
theorem w_1361 : Cond.code yX3_daysToYearEnd cX3_daysToYearEnd 2 (some .int) ∈ GL := GL_of (WA_1315 (1427, Cond.code yX3_daysToYearEnd cX3_daysToYearEnd 2 (some .int)) (List.mem_of_getElem? (i := 32) rfl))
theorem w_1362 : Cond.methodLink RL 334 yX3_sameDay ∈ GL := GL_of (WA_1315 (1428, Cond.methodLink RL 334 yX3_sameDay) (List.mem_of_getElem? (i := 33) rfl))
theorem w_1363 : Cond.instanceMethod yX3_sameDay ∈ GL := GL_of (WA_1315 (1429, Cond.instanceMethod yX3_sameDay) (List.mem_of_getElem? (i := 34) rfl))
theorem w_1364 : Cond.selects RX3 yX3_sameDay yX3_sameDay ∈ GL := GL_of (WA_1315 (1430, Cond.selects RX3 yX3_sameDay yX3_sameDay) (List.mem_of_getElem? (i := 35) rfl))
theorem w_1365 : Cond.code yX3_sameDay cX3_sameDay 3 (some .int) ∈ GL := GL_of (WA_1315 (1431, Cond.code yX3_sameDay cX3_sameDay 3 (some .int)) (List.mem_of_getElem? (i := 36) rfl))
theorem w_1366 : Cond.methodLink RL 342 yX3_reset ∈ GL := GL_of (WA_1315 (1432, Cond.methodLink RL 342 yX3_reset) (List.mem_of_getElem? (i := 37) rfl))
theorem w_1367 : Cond.instanceMethod yX3_reset ∈ GL := GL_of (WA_1315 (1433, Cond.instanceMethod yX3_reset) (List.mem_of_getElem? (i := 38) rfl))
theorem w_1368 : Cond.selects RX3 yX3_reset yX3_reset ∈ GL := GL_of (WA_1315 (1434, Cond.selects RX3 yX3_reset yX3_reset) (List.mem_of_getElem? (i := 39) rfl))
noncomputable def WL_1369 : List (Nat × Cond) := [(1435, Cond.code yX3_reset cX3_reset 7 (some .int)), (1436, Cond.methodLink RL 345 yX3_house), (1437, Cond.instanceMethod yX3_house), (1438, Cond.selects RX3 yX3_house yX3_house), (1439, Cond.code yX3_house cX3_house 2 (some .int)), (1444, Cond.methodLink RL 349 yX3_knock), (1445, Cond.instanceMethod yX3_knock), (1446, Cond.selects RX3 yX3_knock yX3_knock), (1447, Cond.code yX3_knock cX3_knock 1 (some .int)), (1448, Cond.methodLink RL 354 yX3_isSound), (1449, Cond.instanceMethod yX3_isSound), (1450, Cond.selects RX3 yX3_isSound yX3_isSound), (1451, Cond.code yX3_isSound cX3_isSound 1 (some .boolean)), (1452, Cond.methodLink RL 359 yX3_digest), (1453, Cond.instanceMethod yX3_digest), (1454, Cond.selects RX3 yX3_digest yX3_digest), (1455, Cond.code yX3_digest cX3_digest 11 (some .long))]
theorem WA_1369 : ∀ q ∈ WL_1369, lw_tbl[q.1]? = some q.2 ∧ goodWord q.2 = true := by decide +kernel
theorem w_1369 : Cond.code yX3_reset cX3_reset 7 (some .int) ∈ GL := GL_of (WA_1369 (1435, Cond.code yX3_reset cX3_reset 7 (some .int)) (List.mem_of_getElem? (i := 0) rfl))
theorem w_1370 : Cond.methodLink RL 345 yX3_house ∈ GL := GL_of (WA_1369 (1436, Cond.methodLink RL 345 yX3_house) (List.mem_of_getElem? (i := 1) rfl))
theorem w_1371 : Cond.instanceMethod yX3_house ∈ GL := GL_of (WA_1369 (1437, Cond.instanceMethod yX3_house) (List.mem_of_getElem? (i := 2) rfl))
theorem w_1372 : Cond.selects RX3 yX3_house yX3_house ∈ GL := GL_of (WA_1369 (1438, Cond.selects RX3 yX3_house yX3_house) (List.mem_of_getElem? (i := 3) rfl))
theorem w_1373 : Cond.code yX3_house cX3_house 2 (some .int) ∈ GL := GL_of (WA_1369 (1439, Cond.code yX3_house cX3_house 2 (some .int)) (List.mem_of_getElem? (i := 4) rfl))
theorem w_1377 : Cond.methodLink RL 349 yX3_knock ∈ GL := GL_of (WA_1369 (1444, Cond.methodLink RL 349 yX3_knock) (List.mem_of_getElem? (i := 5) rfl))
theorem w_1378 : Cond.instanceMethod yX3_knock ∈ GL := GL_of (WA_1369 (1445, Cond.instanceMethod yX3_knock) (List.mem_of_getElem? (i := 6) rfl))
theorem w_1379 : Cond.selects RX3 yX3_knock yX3_knock ∈ GL := GL_of (WA_1369 (1446, Cond.selects RX3 yX3_knock yX3_knock) (List.mem_of_getElem? (i := 7) rfl))
theorem w_1380 : Cond.code yX3_knock cX3_knock 1 (some .int) ∈ GL := GL_of (WA_1369 (1447, Cond.code yX3_knock cX3_knock 1 (some .int)) (List.mem_of_getElem? (i := 8) rfl))
theorem w_1381 : Cond.methodLink RL 354 yX3_isSound ∈ GL := GL_of (WA_1369 (1448, Cond.methodLink RL 354 yX3_isSound) (List.mem_of_getElem? (i := 9) rfl))
theorem w_1382 : Cond.instanceMethod yX3_isSound ∈ GL := GL_of (WA_1369 (1449, Cond.instanceMethod yX3_isSound) (List.mem_of_getElem? (i := 10) rfl))
theorem w_1383 : Cond.selects RX3 yX3_isSound yX3_isSound ∈ GL := GL_of (WA_1369 (1450, Cond.selects RX3 yX3_isSound yX3_isSound) (List.mem_of_getElem? (i := 11) rfl))
theorem w_1384 : Cond.code yX3_isSound cX3_isSound 1 (some .boolean) ∈ GL := GL_of (WA_1369 (1451, Cond.code yX3_isSound cX3_isSound 1 (some .boolean)) (List.mem_of_getElem? (i := 12) rfl))
theorem w_1385 : Cond.methodLink RL 359 yX3_digest ∈ GL := GL_of (WA_1369 (1452, Cond.methodLink RL 359 yX3_digest) (List.mem_of_getElem? (i := 13) rfl))
theorem w_1386 : Cond.instanceMethod yX3_digest ∈ GL := GL_of (WA_1369 (1453, Cond.instanceMethod yX3_digest) (List.mem_of_getElem? (i := 14) rfl))
theorem w_1387 : Cond.selects RX3 yX3_digest yX3_digest ∈ GL := GL_of (WA_1369 (1454, Cond.selects RX3 yX3_digest yX3_digest) (List.mem_of_getElem? (i := 15) rfl))
theorem w_1388 : Cond.code yX3_digest cX3_digest 11 (some .long) ∈ GL := GL_of (WA_1369 (1455, Cond.code yX3_digest cX3_digest 11 (some .long)) (List.mem_of_getElem? (i := 16) rfl))
theorem dL_law_0 : decode cL_law 0 = .ok (.new 8, 3) := de_187 by_0 by_1 by_2
theorem dL_law_3 : decode cL_law 3 = .ok (.dup, 1) := de_89 by_3
theorem dL_law_4 : decode cL_law 4 = .ok (.invokespecial 180, 3) := de_183 by_4 by_5 by_6
theorem dL_law_7 : decode cL_law 7 = .ok (.astore_n 1, 1) := de_76 by_7
theorem dL_law_8 : decode cL_law 8 = .ok (.new 181, 3) := de_187 by_8 by_9 by_10
theorem dL_law_11 : decode cL_law 11 = .ok (.dup, 1) := de_89 by_11
theorem dL_law_12 : decode cL_law 12 = .ok (.invokespecial 183, 3) := de_183 by_12 by_13 by_14
theorem dL_law_15 : decode cL_law 15 = .ok (.astore_n 2, 1) := de_77 by_15
theorem dL_law_16 : decode cL_law 16 = .ok (.new 14, 3) := de_187 by_16 by_17 by_18
theorem dL_law_19 : decode cL_law 19 = .ok (.dup, 1) := de_89 by_19
theorem dL_law_20 : decode cL_law 20 = .ok (.invokespecial 184, 3) := de_183 by_20 by_21 by_22
theorem dL_law_23 : decode cL_law 23 = .ok (.astore_n 3, 1) := de_78 by_23
theorem dL_law_24 : decode cL_law 24 = .ok (.iconst 0, 1) := de_3 by_24
theorem dL_law_25 : decode cL_law 25 = .ok (.istore 4, 2) := de_54 by_25 by_26
theorem dL_law_27 : decode cL_law 27 = .ok (.iload 4, 2) := de_21 by_27 by_28
theorem dL_law_29 : decode cL_law 29 = .ok (.aload_n 0, 1) := de_42 by_29
theorem dL_law_30 : decode cL_law 30 = .ok (.arraylength, 1) := de_190 by_30
theorem dL_law_31 : decode cL_law 31 = .ok (.iconst 5, 1) := de_8 by_31
theorem dL_law_32 : decode cL_law 32 = .ok (.isub, 1) := de_100 by_32
theorem dL_law_33 : decode cL_law 33 = .ok (.if_icmp .gt 2222, 3) := de_163 by_33 by_34 by_35
theorem dL_law_36 : decode cL_law 36 = .ok (.aload_n 0, 1) := de_42 by_36
theorem dL_law_37 : decode cL_law 37 = .ok (.iload 4, 2) := de_21 by_37 by_38
theorem dL_law_39 : decode cL_law 39 = .ok (.iaload, 1) := de_46 by_39
theorem dL_law_40 : decode cL_law 40 = .ok (.bipush 63, 2) := de_16 by_40 by_41
theorem dL_law_42 : decode cL_law 42 = .ok (.iand, 1) := de_126 by_42
theorem dL_law_43 : decode cL_law 43 = .ok (.tableswitch 2206 0 52 #[225, 289, 329, 381, 421, 449, 489, 529, 569, 609, 649, 677, 705, 745, 785, 825, 865, 905, 945, 985, 1025, 1089, 1141, 1181, 1221, 1261, 1301, 1329, 1357, 1385, 1413, 1441, 1481, 1509, 1537, 1565, 1605, 1633, 1661, 1713, 1765, 1805, 1845, 1885, 1925, 1977, 2029, 2057, 2126, 2139, 2167, 2180, 2193], 225) := by decide +kernel
theorem dL_law_268 : decode cL_law 268 = .ok (.aload_n 1, 1) := de_43 by_268
theorem dL_law_269 : decode cL_law 269 = .ok (.aload_n 0, 1) := de_42 by_269
theorem dL_law_270 : decode cL_law 270 = .ok (.iload 4, 2) := de_21 by_270 by_271
theorem dL_law_272 : decode cL_law 272 = .ok (.iconst 1, 1) := de_4 by_272
theorem dL_law_273 : decode cL_law 273 = .ok (.iadd, 1) := de_96 by_273
theorem dL_law_274 : decode cL_law 274 = .ok (.iaload, 1) := de_46 by_274
theorem dL_law_275 : decode cL_law 275 = .ok (.aload_n 0, 1) := de_42 by_275
theorem dL_law_276 : decode cL_law 276 = .ok (.iload 4, 2) := de_21 by_276 by_277
theorem dL_law_278 : decode cL_law 278 = .ok (.iconst 2, 1) := de_5 by_278
theorem dL_law_279 : decode cL_law 279 = .ok (.iadd, 1) := de_96 by_279
theorem dL_law_280 : decode cL_law 280 = .ok (.iaload, 1) := de_46 by_280
theorem dL_law_281 : decode cL_law 281 = .ok (.aload_n 0, 1) := de_42 by_281
theorem dL_law_282 : decode cL_law 282 = .ok (.iload 4, 2) := de_21 by_282 by_283
theorem dL_law_284 : decode cL_law 284 = .ok (.iconst 3, 1) := de_6 by_284
theorem dL_law_285 : decode cL_law 285 = .ok (.iadd, 1) := de_96 by_285
theorem dL_law_286 : decode cL_law 286 = .ok (.iaload, 1) := de_46 by_286
theorem dL_law_287 : decode cL_law 287 = .ok (.aload_n 0, 1) := de_42 by_287
theorem dL_law_288 : decode cL_law 288 = .ok (.iload 4, 2) := de_21 by_288 by_289
theorem dL_law_290 : decode cL_law 290 = .ok (.iconst 4, 1) := de_7 by_290
theorem dL_law_291 : decode cL_law 291 = .ok (.iadd, 1) := de_96 by_291
theorem dL_law_292 : decode cL_law 292 = .ok (.iaload, 1) := de_46 by_292
theorem dL_law_293 : decode cL_law 293 = .ok (.aload_n 3, 1) := de_45 by_293
theorem dL_law_294 : decode cL_law 294 = .ok (.invokestatic 185, 3) := de_184 by_294 by_295 by_296
theorem dL_law_297 : decode cL_law 297 = .ok (.istore 5, 2) := de_54 by_297 by_298
theorem dL_law_299 : decode cL_law 299 = .ok (.aload_n 2, 1) := de_44 by_299
theorem dL_law_300 : decode cL_law 300 = .ok (.aload_n 0, 1) := de_42 by_300
theorem dL_law_301 : decode cL_law 301 = .ok (.iload 4, 2) := de_21 by_301 by_302
theorem dL_law_303 : decode cL_law 303 = .ok (.iconst 1, 1) := de_4 by_303
theorem dL_law_304 : decode cL_law 304 = .ok (.iadd, 1) := de_96 by_304
theorem dL_law_305 : decode cL_law 305 = .ok (.iaload, 1) := de_46 by_305
theorem dL_law_306 : decode cL_law 306 = .ok (.aload_n 0, 1) := de_42 by_306
theorem dL_law_307 : decode cL_law 307 = .ok (.iload 4, 2) := de_21 by_307 by_308
theorem dL_law_309 : decode cL_law 309 = .ok (.iconst 2, 1) := de_5 by_309
theorem dL_law_310 : decode cL_law 310 = .ok (.iadd, 1) := de_96 by_310
theorem dL_law_311 : decode cL_law 311 = .ok (.iaload, 1) := de_46 by_311
theorem dL_law_312 : decode cL_law 312 = .ok (.aload_n 0, 1) := de_42 by_312
theorem dL_law_313 : decode cL_law 313 = .ok (.iload 4, 2) := de_21 by_313 by_314
theorem dL_law_315 : decode cL_law 315 = .ok (.iconst 3, 1) := de_6 by_315
theorem dL_law_316 : decode cL_law 316 = .ok (.iadd, 1) := de_96 by_316
theorem dL_law_317 : decode cL_law 317 = .ok (.iaload, 1) := de_46 by_317
theorem dL_law_318 : decode cL_law 318 = .ok (.aload_n 0, 1) := de_42 by_318
theorem dL_law_319 : decode cL_law 319 = .ok (.iload 4, 2) := de_21 by_319 by_320
theorem dL_law_321 : decode cL_law 321 = .ok (.iconst 4, 1) := de_7 by_321
theorem dL_law_322 : decode cL_law 322 = .ok (.iadd, 1) := de_96 by_322
theorem dL_law_323 : decode cL_law 323 = .ok (.iaload, 1) := de_46 by_323
theorem dL_law_324 : decode cL_law 324 = .ok (.invokevirtual 190, 3) := de_182 by_324 by_325 by_326
theorem dL_law_327 : decode cL_law 327 = .ok (.istore 6, 2) := de_54 by_327 by_328
theorem dL_law_329 : decode cL_law 329 = .ok (.goto 1920, 3) := de_167 by_329 by_330 by_331
theorem dL_law_332 : decode cL_law 332 = .ok (.aload_n 1, 1) := de_43 by_332
theorem dL_law_333 : decode cL_law 333 = .ok (.aload_n 0, 1) := de_42 by_333
theorem dL_law_334 : decode cL_law 334 = .ok (.iload 4, 2) := de_21 by_334 by_335
theorem dL_law_336 : decode cL_law 336 = .ok (.iconst 1, 1) := de_4 by_336
theorem dL_law_337 : decode cL_law 337 = .ok (.iadd, 1) := de_96 by_337
theorem dL_law_338 : decode cL_law 338 = .ok (.iaload, 1) := de_46 by_338
theorem dL_law_339 : decode cL_law 339 = .ok (.aload_n 0, 1) := de_42 by_339
theorem dL_law_340 : decode cL_law 340 = .ok (.iload 4, 2) := de_21 by_340 by_341
theorem dL_law_342 : decode cL_law 342 = .ok (.iconst 2, 1) := de_5 by_342
theorem dL_law_343 : decode cL_law 343 = .ok (.iadd, 1) := de_96 by_343
theorem dL_law_344 : decode cL_law 344 = .ok (.iaload, 1) := de_46 by_344
theorem dL_law_345 : decode cL_law 345 = .ok (.aload_n 3, 1) := de_45 by_345
theorem dL_law_346 : decode cL_law 346 = .ok (.invokestatic 191, 3) := de_184 by_346 by_347 by_348
theorem dL_law_349 : decode cL_law 349 = .ok (.istore 5, 2) := de_54 by_349 by_350
theorem dL_law_351 : decode cL_law 351 = .ok (.aload_n 2, 1) := de_44 by_351
theorem dL_law_352 : decode cL_law 352 = .ok (.aload_n 0, 1) := de_42 by_352
theorem dL_law_353 : decode cL_law 353 = .ok (.iload 4, 2) := de_21 by_353 by_354
theorem dL_law_355 : decode cL_law 355 = .ok (.iconst 1, 1) := de_4 by_355
theorem dL_law_356 : decode cL_law 356 = .ok (.iadd, 1) := de_96 by_356
theorem dL_law_357 : decode cL_law 357 = .ok (.iaload, 1) := de_46 by_357
theorem dL_law_358 : decode cL_law 358 = .ok (.aload_n 0, 1) := de_42 by_358
theorem dL_law_359 : decode cL_law 359 = .ok (.iload 4, 2) := de_21 by_359 by_360
theorem dL_law_361 : decode cL_law 361 = .ok (.iconst 2, 1) := de_5 by_361
theorem dL_law_362 : decode cL_law 362 = .ok (.iadd, 1) := de_96 by_362
theorem dL_law_363 : decode cL_law 363 = .ok (.iaload, 1) := de_46 by_363
theorem dL_law_364 : decode cL_law 364 = .ok (.invokevirtual 194, 3) := de_182 by_364 by_365 by_366
theorem dL_law_367 : decode cL_law 367 = .ok (.istore 6, 2) := de_54 by_367 by_368
theorem dL_law_369 : decode cL_law 369 = .ok (.goto 1880, 3) := de_167 by_369 by_370 by_371
theorem dL_law_372 : decode cL_law 372 = .ok (.aload_n 1, 1) := de_43 by_372
theorem dL_law_373 : decode cL_law 373 = .ok (.aload_n 0, 1) := de_42 by_373
theorem dL_law_374 : decode cL_law 374 = .ok (.iload 4, 2) := de_21 by_374 by_375
theorem dL_law_376 : decode cL_law 376 = .ok (.iconst 1, 1) := de_4 by_376
theorem dL_law_377 : decode cL_law 377 = .ok (.iadd, 1) := de_96 by_377
theorem dL_law_378 : decode cL_law 378 = .ok (.iaload, 1) := de_46 by_378
theorem dL_law_379 : decode cL_law 379 = .ok (.aload_n 0, 1) := de_42 by_379
theorem dL_law_380 : decode cL_law 380 = .ok (.iload 4, 2) := de_21 by_380 by_381
theorem dL_law_382 : decode cL_law 382 = .ok (.iconst 2, 1) := de_5 by_382
theorem dL_law_383 : decode cL_law 383 = .ok (.iadd, 1) := de_96 by_383
theorem dL_law_384 : decode cL_law 384 = .ok (.iaload, 1) := de_46 by_384
theorem dL_law_385 : decode cL_law 385 = .ok (.aload_n 0, 1) := de_42 by_385
theorem dL_law_386 : decode cL_law 386 = .ok (.iload 4, 2) := de_21 by_386 by_387
theorem dL_law_388 : decode cL_law 388 = .ok (.iconst 3, 1) := de_6 by_388
theorem dL_law_389 : decode cL_law 389 = .ok (.iadd, 1) := de_96 by_389
theorem dL_law_390 : decode cL_law 390 = .ok (.iaload, 1) := de_46 by_390
theorem dL_law_391 : decode cL_law 391 = .ok (.aload_n 3, 1) := de_45 by_391
theorem dL_law_392 : decode cL_law 392 = .ok (.invokestatic 195, 3) := de_184 by_392 by_393 by_394
theorem dL_law_395 : decode cL_law 395 = .ok (.istore 5, 2) := de_54 by_395 by_396
theorem dL_law_397 : decode cL_law 397 = .ok (.aload_n 2, 1) := de_44 by_397
theorem dL_law_398 : decode cL_law 398 = .ok (.aload_n 0, 1) := de_42 by_398
theorem dL_law_399 : decode cL_law 399 = .ok (.iload 4, 2) := de_21 by_399 by_400
theorem dL_law_401 : decode cL_law 401 = .ok (.iconst 1, 1) := de_4 by_401
theorem dL_law_402 : decode cL_law 402 = .ok (.iadd, 1) := de_96 by_402
theorem dL_law_403 : decode cL_law 403 = .ok (.iaload, 1) := de_46 by_403
theorem dL_law_404 : decode cL_law 404 = .ok (.aload_n 0, 1) := de_42 by_404
theorem dL_law_405 : decode cL_law 405 = .ok (.iload 4, 2) := de_21 by_405 by_406
theorem dL_law_407 : decode cL_law 407 = .ok (.iconst 2, 1) := de_5 by_407
theorem dL_law_408 : decode cL_law 408 = .ok (.iadd, 1) := de_96 by_408
theorem dL_law_409 : decode cL_law 409 = .ok (.iaload, 1) := de_46 by_409
theorem dL_law_410 : decode cL_law 410 = .ok (.aload_n 0, 1) := de_42 by_410
theorem dL_law_411 : decode cL_law 411 = .ok (.iload 4, 2) := de_21 by_411 by_412
theorem dL_law_413 : decode cL_law 413 = .ok (.iconst 3, 1) := de_6 by_413
theorem dL_law_414 : decode cL_law 414 = .ok (.iadd, 1) := de_96 by_414
theorem dL_law_415 : decode cL_law 415 = .ok (.iaload, 1) := de_46 by_415
theorem dL_law_416 : decode cL_law 416 = .ok (.invokevirtual 198, 3) := de_182 by_416 by_417 by_418
theorem dL_law_419 : decode cL_law 419 = .ok (.istore 6, 2) := de_54 by_419 by_420
theorem dL_law_421 : decode cL_law 421 = .ok (.goto 1828, 3) := de_167 by_421 by_422 by_423
theorem dL_law_424 : decode cL_law 424 = .ok (.aload_n 1, 1) := de_43 by_424
theorem dL_law_425 : decode cL_law 425 = .ok (.aload_n 0, 1) := de_42 by_425
theorem dL_law_426 : decode cL_law 426 = .ok (.iload 4, 2) := de_21 by_426 by_427
theorem dL_law_428 : decode cL_law 428 = .ok (.iconst 1, 1) := de_4 by_428
theorem dL_law_429 : decode cL_law 429 = .ok (.iadd, 1) := de_96 by_429
theorem dL_law_430 : decode cL_law 430 = .ok (.iaload, 1) := de_46 by_430
theorem dL_law_431 : decode cL_law 431 = .ok (.aload_n 0, 1) := de_42 by_431
theorem dL_law_432 : decode cL_law 432 = .ok (.iload 4, 2) := de_21 by_432 by_433
theorem dL_law_434 : decode cL_law 434 = .ok (.iconst 2, 1) := de_5 by_434
theorem dL_law_435 : decode cL_law 435 = .ok (.iadd, 1) := de_96 by_435
theorem dL_law_436 : decode cL_law 436 = .ok (.iaload, 1) := de_46 by_436
theorem dL_law_437 : decode cL_law 437 = .ok (.aload_n 3, 1) := de_45 by_437
theorem dL_law_438 : decode cL_law 438 = .ok (.invokestatic 199, 3) := de_184 by_438 by_439 by_440
theorem dL_law_441 : decode cL_law 441 = .ok (.istore 5, 2) := de_54 by_441 by_442
theorem dL_law_443 : decode cL_law 443 = .ok (.aload_n 2, 1) := de_44 by_443
theorem dL_law_444 : decode cL_law 444 = .ok (.aload_n 0, 1) := de_42 by_444
theorem dL_law_445 : decode cL_law 445 = .ok (.iload 4, 2) := de_21 by_445 by_446
theorem dL_law_447 : decode cL_law 447 = .ok (.iconst 1, 1) := de_4 by_447
theorem dL_law_448 : decode cL_law 448 = .ok (.iadd, 1) := de_96 by_448
theorem dL_law_449 : decode cL_law 449 = .ok (.iaload, 1) := de_46 by_449
theorem dL_law_450 : decode cL_law 450 = .ok (.aload_n 0, 1) := de_42 by_450
theorem dL_law_451 : decode cL_law 451 = .ok (.iload 4, 2) := de_21 by_451 by_452
theorem dL_law_453 : decode cL_law 453 = .ok (.iconst 2, 1) := de_5 by_453
theorem dL_law_454 : decode cL_law 454 = .ok (.iadd, 1) := de_96 by_454
theorem dL_law_455 : decode cL_law 455 = .ok (.iaload, 1) := de_46 by_455
theorem dL_law_456 : decode cL_law 456 = .ok (.invokevirtual 201, 3) := de_182 by_456 by_457 by_458
theorem dL_law_459 : decode cL_law 459 = .ok (.istore 6, 2) := de_54 by_459 by_460
theorem dL_law_461 : decode cL_law 461 = .ok (.goto 1788, 3) := de_167 by_461 by_462 by_463
theorem dL_law_464 : decode cL_law 464 = .ok (.aload_n 1, 1) := de_43 by_464
theorem dL_law_465 : decode cL_law 465 = .ok (.aload_n 0, 1) := de_42 by_465
theorem dL_law_466 : decode cL_law 466 = .ok (.iload 4, 2) := de_21 by_466 by_467
theorem dL_law_468 : decode cL_law 468 = .ok (.iconst 1, 1) := de_4 by_468
theorem dL_law_469 : decode cL_law 469 = .ok (.iadd, 1) := de_96 by_469
theorem dL_law_470 : decode cL_law 470 = .ok (.iaload, 1) := de_46 by_470
theorem dL_law_471 : decode cL_law 471 = .ok (.aload_n 3, 1) := de_45 by_471
theorem dL_law_472 : decode cL_law 472 = .ok (.invokestatic 202, 3) := de_184 by_472 by_473 by_474
theorem dL_law_475 : decode cL_law 475 = .ok (.istore 5, 2) := de_54 by_475 by_476
theorem dL_law_477 : decode cL_law 477 = .ok (.aload_n 2, 1) := de_44 by_477
theorem dL_law_478 : decode cL_law 478 = .ok (.aload_n 0, 1) := de_42 by_478
theorem dL_law_479 : decode cL_law 479 = .ok (.iload 4, 2) := de_21 by_479 by_480
theorem dL_law_481 : decode cL_law 481 = .ok (.iconst 1, 1) := de_4 by_481
theorem dL_law_482 : decode cL_law 482 = .ok (.iadd, 1) := de_96 by_482
theorem dL_law_483 : decode cL_law 483 = .ok (.iaload, 1) := de_46 by_483
theorem dL_law_484 : decode cL_law 484 = .ok (.invokevirtual 205, 3) := de_182 by_484 by_485 by_486
theorem dL_law_487 : decode cL_law 487 = .ok (.istore 6, 2) := de_54 by_487 by_488
theorem dL_law_489 : decode cL_law 489 = .ok (.goto 1760, 3) := de_167 by_489 by_490 by_491
theorem dL_law_492 : decode cL_law 492 = .ok (.aload_n 1, 1) := de_43 by_492
theorem dL_law_493 : decode cL_law 493 = .ok (.aload_n 0, 1) := de_42 by_493
theorem dL_law_494 : decode cL_law 494 = .ok (.iload 4, 2) := de_21 by_494 by_495
theorem dL_law_496 : decode cL_law 496 = .ok (.iconst 1, 1) := de_4 by_496
theorem dL_law_497 : decode cL_law 497 = .ok (.iadd, 1) := de_96 by_497
theorem dL_law_498 : decode cL_law 498 = .ok (.iaload, 1) := de_46 by_498
theorem dL_law_499 : decode cL_law 499 = .ok (.aload_n 0, 1) := de_42 by_499
theorem dL_law_500 : decode cL_law 500 = .ok (.iload 4, 2) := de_21 by_500 by_501
theorem dL_law_502 : decode cL_law 502 = .ok (.iconst 2, 1) := de_5 by_502
theorem dL_law_503 : decode cL_law 503 = .ok (.iadd, 1) := de_96 by_503
theorem dL_law_504 : decode cL_law 504 = .ok (.iaload, 1) := de_46 by_504
theorem dL_law_505 : decode cL_law 505 = .ok (.aload_n 3, 1) := de_45 by_505
theorem dL_law_506 : decode cL_law 506 = .ok (.invokestatic 206, 3) := de_184 by_506 by_507 by_508
theorem dL_law_509 : decode cL_law 509 = .ok (.istore 5, 2) := de_54 by_509 by_510
theorem dL_law_511 : decode cL_law 511 = .ok (.aload_n 2, 1) := de_44 by_511
theorem dL_law_512 : decode cL_law 512 = .ok (.aload_n 0, 1) := de_42 by_512
theorem dL_law_513 : decode cL_law 513 = .ok (.iload 4, 2) := de_21 by_513 by_514
theorem dL_law_515 : decode cL_law 515 = .ok (.iconst 1, 1) := de_4 by_515
theorem dL_law_516 : decode cL_law 516 = .ok (.iadd, 1) := de_96 by_516
theorem dL_law_517 : decode cL_law 517 = .ok (.iaload, 1) := de_46 by_517
theorem dL_law_518 : decode cL_law 518 = .ok (.aload_n 0, 1) := de_42 by_518
theorem dL_law_519 : decode cL_law 519 = .ok (.iload 4, 2) := de_21 by_519 by_520
theorem dL_law_521 : decode cL_law 521 = .ok (.iconst 2, 1) := de_5 by_521
theorem dL_law_522 : decode cL_law 522 = .ok (.iadd, 1) := de_96 by_522
theorem dL_law_523 : decode cL_law 523 = .ok (.iaload, 1) := de_46 by_523
theorem dL_law_524 : decode cL_law 524 = .ok (.invokevirtual 208, 3) := de_182 by_524 by_525 by_526
theorem dL_law_527 : decode cL_law 527 = .ok (.istore 6, 2) := de_54 by_527 by_528
theorem dL_law_529 : decode cL_law 529 = .ok (.goto 1720, 3) := de_167 by_529 by_530 by_531
theorem dL_law_532 : decode cL_law 532 = .ok (.aload_n 1, 1) := de_43 by_532
theorem dL_law_533 : decode cL_law 533 = .ok (.aload_n 0, 1) := de_42 by_533
theorem dL_law_534 : decode cL_law 534 = .ok (.iload 4, 2) := de_21 by_534 by_535
theorem dL_law_536 : decode cL_law 536 = .ok (.iconst 1, 1) := de_4 by_536
theorem dL_law_537 : decode cL_law 537 = .ok (.iadd, 1) := de_96 by_537
theorem dL_law_538 : decode cL_law 538 = .ok (.iaload, 1) := de_46 by_538
theorem dL_law_539 : decode cL_law 539 = .ok (.aload_n 0, 1) := de_42 by_539
theorem dL_law_540 : decode cL_law 540 = .ok (.iload 4, 2) := de_21 by_540 by_541
theorem dL_law_542 : decode cL_law 542 = .ok (.iconst 2, 1) := de_5 by_542
theorem dL_law_543 : decode cL_law 543 = .ok (.iadd, 1) := de_96 by_543
theorem dL_law_544 : decode cL_law 544 = .ok (.iaload, 1) := de_46 by_544
theorem dL_law_545 : decode cL_law 545 = .ok (.aload_n 3, 1) := de_45 by_545
theorem dL_law_546 : decode cL_law 546 = .ok (.invokestatic 209, 3) := de_184 by_546 by_547 by_548
theorem dL_law_549 : decode cL_law 549 = .ok (.istore 5, 2) := de_54 by_549 by_550
theorem dL_law_551 : decode cL_law 551 = .ok (.aload_n 2, 1) := de_44 by_551
theorem dL_law_552 : decode cL_law 552 = .ok (.aload_n 0, 1) := de_42 by_552
theorem dL_law_553 : decode cL_law 553 = .ok (.iload 4, 2) := de_21 by_553 by_554
theorem dL_law_555 : decode cL_law 555 = .ok (.iconst 1, 1) := de_4 by_555
theorem dL_law_556 : decode cL_law 556 = .ok (.iadd, 1) := de_96 by_556
theorem dL_law_557 : decode cL_law 557 = .ok (.iaload, 1) := de_46 by_557
theorem dL_law_558 : decode cL_law 558 = .ok (.aload_n 0, 1) := de_42 by_558
theorem dL_law_559 : decode cL_law 559 = .ok (.iload 4, 2) := de_21 by_559 by_560
theorem dL_law_561 : decode cL_law 561 = .ok (.iconst 2, 1) := de_5 by_561
theorem dL_law_562 : decode cL_law 562 = .ok (.iadd, 1) := de_96 by_562
theorem dL_law_563 : decode cL_law 563 = .ok (.iaload, 1) := de_46 by_563
theorem dL_law_564 : decode cL_law 564 = .ok (.invokevirtual 211, 3) := de_182 by_564 by_565 by_566
theorem dL_law_567 : decode cL_law 567 = .ok (.istore 6, 2) := de_54 by_567 by_568
theorem dL_law_569 : decode cL_law 569 = .ok (.goto 1680, 3) := de_167 by_569 by_570 by_571
theorem dL_law_572 : decode cL_law 572 = .ok (.aload_n 1, 1) := de_43 by_572
theorem dL_law_573 : decode cL_law 573 = .ok (.aload_n 0, 1) := de_42 by_573
theorem dL_law_574 : decode cL_law 574 = .ok (.iload 4, 2) := de_21 by_574 by_575
theorem dL_law_576 : decode cL_law 576 = .ok (.iconst 1, 1) := de_4 by_576
theorem dL_law_577 : decode cL_law 577 = .ok (.iadd, 1) := de_96 by_577
theorem dL_law_578 : decode cL_law 578 = .ok (.iaload, 1) := de_46 by_578
theorem dL_law_579 : decode cL_law 579 = .ok (.aload_n 0, 1) := de_42 by_579
theorem dL_law_580 : decode cL_law 580 = .ok (.iload 4, 2) := de_21 by_580 by_581
theorem dL_law_582 : decode cL_law 582 = .ok (.iconst 2, 1) := de_5 by_582
theorem dL_law_583 : decode cL_law 583 = .ok (.iadd, 1) := de_96 by_583
theorem dL_law_584 : decode cL_law 584 = .ok (.iaload, 1) := de_46 by_584
theorem dL_law_585 : decode cL_law 585 = .ok (.aload_n 3, 1) := de_45 by_585
theorem dL_law_586 : decode cL_law 586 = .ok (.invokestatic 212, 3) := de_184 by_586 by_587 by_588
theorem dL_law_589 : decode cL_law 589 = .ok (.istore 5, 2) := de_54 by_589 by_590
theorem dL_law_591 : decode cL_law 591 = .ok (.aload_n 2, 1) := de_44 by_591
theorem dL_law_592 : decode cL_law 592 = .ok (.aload_n 0, 1) := de_42 by_592
theorem dL_law_593 : decode cL_law 593 = .ok (.iload 4, 2) := de_21 by_593 by_594
theorem dL_law_595 : decode cL_law 595 = .ok (.iconst 1, 1) := de_4 by_595
theorem dL_law_596 : decode cL_law 596 = .ok (.iadd, 1) := de_96 by_596
theorem dL_law_597 : decode cL_law 597 = .ok (.iaload, 1) := de_46 by_597
theorem dL_law_598 : decode cL_law 598 = .ok (.aload_n 0, 1) := de_42 by_598
theorem dL_law_599 : decode cL_law 599 = .ok (.iload 4, 2) := de_21 by_599 by_600
theorem dL_law_601 : decode cL_law 601 = .ok (.iconst 2, 1) := de_5 by_601
theorem dL_law_602 : decode cL_law 602 = .ok (.iadd, 1) := de_96 by_602
theorem dL_law_603 : decode cL_law 603 = .ok (.iaload, 1) := de_46 by_603
theorem dL_law_604 : decode cL_law 604 = .ok (.invokevirtual 214, 3) := de_182 by_604 by_605 by_606
theorem dL_law_607 : decode cL_law 607 = .ok (.istore 6, 2) := de_54 by_607 by_608
theorem dL_law_609 : decode cL_law 609 = .ok (.goto 1640, 3) := de_167 by_609 by_610 by_611
theorem dL_law_612 : decode cL_law 612 = .ok (.aload_n 1, 1) := de_43 by_612
theorem dL_law_613 : decode cL_law 613 = .ok (.aload_n 0, 1) := de_42 by_613
theorem dL_law_614 : decode cL_law 614 = .ok (.iload 4, 2) := de_21 by_614 by_615
theorem dL_law_616 : decode cL_law 616 = .ok (.iconst 1, 1) := de_4 by_616
theorem dL_law_617 : decode cL_law 617 = .ok (.iadd, 1) := de_96 by_617
theorem dL_law_618 : decode cL_law 618 = .ok (.iaload, 1) := de_46 by_618
theorem dL_law_619 : decode cL_law 619 = .ok (.aload_n 0, 1) := de_42 by_619
theorem dL_law_620 : decode cL_law 620 = .ok (.iload 4, 2) := de_21 by_620 by_621
theorem dL_law_622 : decode cL_law 622 = .ok (.iconst 2, 1) := de_5 by_622
theorem dL_law_623 : decode cL_law 623 = .ok (.iadd, 1) := de_96 by_623
theorem dL_law_624 : decode cL_law 624 = .ok (.iaload, 1) := de_46 by_624
theorem dL_law_625 : decode cL_law 625 = .ok (.aload_n 3, 1) := de_45 by_625
theorem dL_law_626 : decode cL_law 626 = .ok (.invokestatic 215, 3) := de_184 by_626 by_627 by_628
theorem dL_law_629 : decode cL_law 629 = .ok (.istore 5, 2) := de_54 by_629 by_630
theorem dL_law_631 : decode cL_law 631 = .ok (.aload_n 2, 1) := de_44 by_631
theorem dL_law_632 : decode cL_law 632 = .ok (.aload_n 0, 1) := de_42 by_632
theorem dL_law_633 : decode cL_law 633 = .ok (.iload 4, 2) := de_21 by_633 by_634
theorem dL_law_635 : decode cL_law 635 = .ok (.iconst 1, 1) := de_4 by_635
theorem dL_law_636 : decode cL_law 636 = .ok (.iadd, 1) := de_96 by_636
theorem dL_law_637 : decode cL_law 637 = .ok (.iaload, 1) := de_46 by_637
theorem dL_law_638 : decode cL_law 638 = .ok (.aload_n 0, 1) := de_42 by_638
theorem dL_law_639 : decode cL_law 639 = .ok (.iload 4, 2) := de_21 by_639 by_640
theorem dL_law_641 : decode cL_law 641 = .ok (.iconst 2, 1) := de_5 by_641
theorem dL_law_642 : decode cL_law 642 = .ok (.iadd, 1) := de_96 by_642
theorem dL_law_643 : decode cL_law 643 = .ok (.iaload, 1) := de_46 by_643
theorem dL_law_644 : decode cL_law 644 = .ok (.invokevirtual 217, 3) := de_182 by_644 by_645 by_646
theorem dL_law_647 : decode cL_law 647 = .ok (.istore 6, 2) := de_54 by_647 by_648
theorem dL_law_649 : decode cL_law 649 = .ok (.goto 1600, 3) := de_167 by_649 by_650 by_651
theorem dL_law_652 : decode cL_law 652 = .ok (.aload_n 1, 1) := de_43 by_652
theorem dL_law_653 : decode cL_law 653 = .ok (.aload_n 0, 1) := de_42 by_653
theorem dL_law_654 : decode cL_law 654 = .ok (.iload 4, 2) := de_21 by_654 by_655
theorem dL_law_656 : decode cL_law 656 = .ok (.iconst 1, 1) := de_4 by_656
theorem dL_law_657 : decode cL_law 657 = .ok (.iadd, 1) := de_96 by_657
theorem dL_law_658 : decode cL_law 658 = .ok (.iaload, 1) := de_46 by_658
theorem dL_law_659 : decode cL_law 659 = .ok (.aload_n 0, 1) := de_42 by_659
theorem dL_law_660 : decode cL_law 660 = .ok (.iload 4, 2) := de_21 by_660 by_661
theorem dL_law_662 : decode cL_law 662 = .ok (.iconst 2, 1) := de_5 by_662
theorem dL_law_663 : decode cL_law 663 = .ok (.iadd, 1) := de_96 by_663
theorem dL_law_664 : decode cL_law 664 = .ok (.iaload, 1) := de_46 by_664
theorem dL_law_665 : decode cL_law 665 = .ok (.aload_n 3, 1) := de_45 by_665
theorem dL_law_666 : decode cL_law 666 = .ok (.invokestatic 218, 3) := de_184 by_666 by_667 by_668
theorem dL_law_669 : decode cL_law 669 = .ok (.istore 5, 2) := de_54 by_669 by_670
theorem dL_law_671 : decode cL_law 671 = .ok (.aload_n 2, 1) := de_44 by_671
theorem dL_law_672 : decode cL_law 672 = .ok (.aload_n 0, 1) := de_42 by_672
theorem dL_law_673 : decode cL_law 673 = .ok (.iload 4, 2) := de_21 by_673 by_674
theorem dL_law_675 : decode cL_law 675 = .ok (.iconst 1, 1) := de_4 by_675
theorem dL_law_676 : decode cL_law 676 = .ok (.iadd, 1) := de_96 by_676
theorem dL_law_677 : decode cL_law 677 = .ok (.iaload, 1) := de_46 by_677
theorem dL_law_678 : decode cL_law 678 = .ok (.aload_n 0, 1) := de_42 by_678
theorem dL_law_679 : decode cL_law 679 = .ok (.iload 4, 2) := de_21 by_679 by_680
theorem dL_law_681 : decode cL_law 681 = .ok (.iconst 2, 1) := de_5 by_681
theorem dL_law_682 : decode cL_law 682 = .ok (.iadd, 1) := de_96 by_682
theorem dL_law_683 : decode cL_law 683 = .ok (.iaload, 1) := de_46 by_683
theorem dL_law_684 : decode cL_law 684 = .ok (.invokevirtual 220, 3) := de_182 by_684 by_685 by_686
theorem dL_law_687 : decode cL_law 687 = .ok (.istore 6, 2) := de_54 by_687 by_688
theorem dL_law_689 : decode cL_law 689 = .ok (.goto 1560, 3) := de_167 by_689 by_690 by_691
theorem dL_law_692 : decode cL_law 692 = .ok (.aload_n 1, 1) := de_43 by_692
theorem dL_law_693 : decode cL_law 693 = .ok (.aload_n 0, 1) := de_42 by_693
theorem dL_law_694 : decode cL_law 694 = .ok (.iload 4, 2) := de_21 by_694 by_695
theorem dL_law_696 : decode cL_law 696 = .ok (.iconst 1, 1) := de_4 by_696
theorem dL_law_697 : decode cL_law 697 = .ok (.iadd, 1) := de_96 by_697
theorem dL_law_698 : decode cL_law 698 = .ok (.iaload, 1) := de_46 by_698
theorem dL_law_699 : decode cL_law 699 = .ok (.aload_n 3, 1) := de_45 by_699
theorem dL_law_700 : decode cL_law 700 = .ok (.invokestatic 221, 3) := de_184 by_700 by_701 by_702
theorem dL_law_703 : decode cL_law 703 = .ok (.istore 5, 2) := de_54 by_703 by_704
theorem dL_law_705 : decode cL_law 705 = .ok (.aload_n 2, 1) := de_44 by_705
theorem dL_law_706 : decode cL_law 706 = .ok (.aload_n 0, 1) := de_42 by_706
theorem dL_law_707 : decode cL_law 707 = .ok (.iload 4, 2) := de_21 by_707 by_708
theorem dL_law_709 : decode cL_law 709 = .ok (.iconst 1, 1) := de_4 by_709
theorem dL_law_710 : decode cL_law 710 = .ok (.iadd, 1) := de_96 by_710
theorem dL_law_711 : decode cL_law 711 = .ok (.iaload, 1) := de_46 by_711
theorem dL_law_712 : decode cL_law 712 = .ok (.invokevirtual 223, 3) := de_182 by_712 by_713 by_714
theorem dL_law_715 : decode cL_law 715 = .ok (.istore 6, 2) := de_54 by_715 by_716
theorem dL_law_717 : decode cL_law 717 = .ok (.goto 1532, 3) := de_167 by_717 by_718 by_719
theorem dL_law_720 : decode cL_law 720 = .ok (.aload_n 1, 1) := de_43 by_720
theorem dL_law_721 : decode cL_law 721 = .ok (.aload_n 0, 1) := de_42 by_721
theorem dL_law_722 : decode cL_law 722 = .ok (.iload 4, 2) := de_21 by_722 by_723
theorem dL_law_724 : decode cL_law 724 = .ok (.iconst 1, 1) := de_4 by_724
theorem dL_law_725 : decode cL_law 725 = .ok (.iadd, 1) := de_96 by_725
theorem dL_law_726 : decode cL_law 726 = .ok (.iaload, 1) := de_46 by_726
theorem dL_law_727 : decode cL_law 727 = .ok (.aload_n 3, 1) := de_45 by_727
theorem dL_law_728 : decode cL_law 728 = .ok (.invokestatic 224, 3) := de_184 by_728 by_729 by_730
theorem dL_law_731 : decode cL_law 731 = .ok (.istore 5, 2) := de_54 by_731 by_732
theorem dL_law_733 : decode cL_law 733 = .ok (.aload_n 2, 1) := de_44 by_733
theorem dL_law_734 : decode cL_law 734 = .ok (.aload_n 0, 1) := de_42 by_734
theorem dL_law_735 : decode cL_law 735 = .ok (.iload 4, 2) := de_21 by_735 by_736
theorem dL_law_737 : decode cL_law 737 = .ok (.iconst 1, 1) := de_4 by_737
theorem dL_law_738 : decode cL_law 738 = .ok (.iadd, 1) := de_96 by_738
theorem dL_law_739 : decode cL_law 739 = .ok (.iaload, 1) := de_46 by_739
theorem dL_law_740 : decode cL_law 740 = .ok (.invokevirtual 226, 3) := de_182 by_740 by_741 by_742
theorem dL_law_743 : decode cL_law 743 = .ok (.istore 6, 2) := de_54 by_743 by_744
theorem dL_law_745 : decode cL_law 745 = .ok (.goto 1504, 3) := de_167 by_745 by_746 by_747
theorem dL_law_748 : decode cL_law 748 = .ok (.aload_n 1, 1) := de_43 by_748
theorem dL_law_749 : decode cL_law 749 = .ok (.aload_n 0, 1) := de_42 by_749
theorem dL_law_750 : decode cL_law 750 = .ok (.iload 4, 2) := de_21 by_750 by_751
theorem dL_law_752 : decode cL_law 752 = .ok (.iconst 1, 1) := de_4 by_752
theorem dL_law_753 : decode cL_law 753 = .ok (.iadd, 1) := de_96 by_753
theorem dL_law_754 : decode cL_law 754 = .ok (.iaload, 1) := de_46 by_754
theorem dL_law_755 : decode cL_law 755 = .ok (.aload_n 0, 1) := de_42 by_755
theorem dL_law_756 : decode cL_law 756 = .ok (.iload 4, 2) := de_21 by_756 by_757
theorem dL_law_758 : decode cL_law 758 = .ok (.iconst 2, 1) := de_5 by_758
theorem dL_law_759 : decode cL_law 759 = .ok (.iadd, 1) := de_96 by_759
theorem dL_law_760 : decode cL_law 760 = .ok (.iaload, 1) := de_46 by_760
theorem dL_law_761 : decode cL_law 761 = .ok (.aload_n 3, 1) := de_45 by_761
theorem dL_law_762 : decode cL_law 762 = .ok (.invokestatic 227, 3) := de_184 by_762 by_763 by_764
theorem dL_law_765 : decode cL_law 765 = .ok (.istore 5, 2) := de_54 by_765 by_766
theorem dL_law_767 : decode cL_law 767 = .ok (.aload_n 2, 1) := de_44 by_767
theorem dL_law_768 : decode cL_law 768 = .ok (.aload_n 0, 1) := de_42 by_768
theorem dL_law_769 : decode cL_law 769 = .ok (.iload 4, 2) := de_21 by_769 by_770
theorem dL_law_771 : decode cL_law 771 = .ok (.iconst 1, 1) := de_4 by_771
theorem dL_law_772 : decode cL_law 772 = .ok (.iadd, 1) := de_96 by_772
theorem dL_law_773 : decode cL_law 773 = .ok (.iaload, 1) := de_46 by_773
theorem dL_law_774 : decode cL_law 774 = .ok (.aload_n 0, 1) := de_42 by_774
theorem dL_law_775 : decode cL_law 775 = .ok (.iload 4, 2) := de_21 by_775 by_776
theorem dL_law_777 : decode cL_law 777 = .ok (.iconst 2, 1) := de_5 by_777
theorem dL_law_778 : decode cL_law 778 = .ok (.iadd, 1) := de_96 by_778
theorem dL_law_779 : decode cL_law 779 = .ok (.iaload, 1) := de_46 by_779
theorem dL_law_780 : decode cL_law 780 = .ok (.invokevirtual 229, 3) := de_182 by_780 by_781 by_782
theorem dL_law_783 : decode cL_law 783 = .ok (.istore 6, 2) := de_54 by_783 by_784
theorem dL_law_785 : decode cL_law 785 = .ok (.goto 1464, 3) := de_167 by_785 by_786 by_787
theorem dL_law_788 : decode cL_law 788 = .ok (.aload_n 1, 1) := de_43 by_788
theorem dL_law_789 : decode cL_law 789 = .ok (.aload_n 0, 1) := de_42 by_789
theorem dL_law_790 : decode cL_law 790 = .ok (.iload 4, 2) := de_21 by_790 by_791
theorem dL_law_792 : decode cL_law 792 = .ok (.iconst 1, 1) := de_4 by_792
theorem dL_law_793 : decode cL_law 793 = .ok (.iadd, 1) := de_96 by_793
theorem dL_law_794 : decode cL_law 794 = .ok (.iaload, 1) := de_46 by_794
theorem dL_law_795 : decode cL_law 795 = .ok (.aload_n 0, 1) := de_42 by_795
theorem dL_law_796 : decode cL_law 796 = .ok (.iload 4, 2) := de_21 by_796 by_797
theorem dL_law_798 : decode cL_law 798 = .ok (.iconst 2, 1) := de_5 by_798
theorem dL_law_799 : decode cL_law 799 = .ok (.iadd, 1) := de_96 by_799
theorem dL_law_800 : decode cL_law 800 = .ok (.iaload, 1) := de_46 by_800
theorem dL_law_801 : decode cL_law 801 = .ok (.aload_n 3, 1) := de_45 by_801
theorem dL_law_802 : decode cL_law 802 = .ok (.invokestatic 230, 3) := de_184 by_802 by_803 by_804
theorem dL_law_805 : decode cL_law 805 = .ok (.istore 5, 2) := de_54 by_805 by_806
theorem dL_law_807 : decode cL_law 807 = .ok (.aload_n 2, 1) := de_44 by_807
theorem dL_law_808 : decode cL_law 808 = .ok (.aload_n 0, 1) := de_42 by_808
theorem dL_law_809 : decode cL_law 809 = .ok (.iload 4, 2) := de_21 by_809 by_810
theorem dL_law_811 : decode cL_law 811 = .ok (.iconst 1, 1) := de_4 by_811
theorem dL_law_812 : decode cL_law 812 = .ok (.iadd, 1) := de_96 by_812
theorem dL_law_813 : decode cL_law 813 = .ok (.iaload, 1) := de_46 by_813
theorem dL_law_814 : decode cL_law 814 = .ok (.aload_n 0, 1) := de_42 by_814
theorem dL_law_815 : decode cL_law 815 = .ok (.iload 4, 2) := de_21 by_815 by_816
theorem dL_law_817 : decode cL_law 817 = .ok (.iconst 2, 1) := de_5 by_817
theorem dL_law_818 : decode cL_law 818 = .ok (.iadd, 1) := de_96 by_818
theorem dL_law_819 : decode cL_law 819 = .ok (.iaload, 1) := de_46 by_819
theorem dL_law_820 : decode cL_law 820 = .ok (.invokevirtual 232, 3) := de_182 by_820 by_821 by_822
theorem dL_law_823 : decode cL_law 823 = .ok (.istore 6, 2) := de_54 by_823 by_824
theorem dL_law_825 : decode cL_law 825 = .ok (.goto 1424, 3) := de_167 by_825 by_826 by_827
theorem dL_law_828 : decode cL_law 828 = .ok (.aload_n 1, 1) := de_43 by_828
theorem dL_law_829 : decode cL_law 829 = .ok (.aload_n 0, 1) := de_42 by_829
theorem dL_law_830 : decode cL_law 830 = .ok (.iload 4, 2) := de_21 by_830 by_831
theorem dL_law_832 : decode cL_law 832 = .ok (.iconst 1, 1) := de_4 by_832
theorem dL_law_833 : decode cL_law 833 = .ok (.iadd, 1) := de_96 by_833
theorem dL_law_834 : decode cL_law 834 = .ok (.iaload, 1) := de_46 by_834
theorem dL_law_835 : decode cL_law 835 = .ok (.aload_n 0, 1) := de_42 by_835
theorem dL_law_836 : decode cL_law 836 = .ok (.iload 4, 2) := de_21 by_836 by_837
theorem dL_law_838 : decode cL_law 838 = .ok (.iconst 2, 1) := de_5 by_838
theorem dL_law_839 : decode cL_law 839 = .ok (.iadd, 1) := de_96 by_839
theorem dL_law_840 : decode cL_law 840 = .ok (.iaload, 1) := de_46 by_840
theorem dL_law_841 : decode cL_law 841 = .ok (.aload_n 3, 1) := de_45 by_841
theorem dL_law_842 : decode cL_law 842 = .ok (.invokestatic 233, 3) := de_184 by_842 by_843 by_844
theorem dL_law_845 : decode cL_law 845 = .ok (.istore 5, 2) := de_54 by_845 by_846
theorem dL_law_847 : decode cL_law 847 = .ok (.aload_n 2, 1) := de_44 by_847
theorem dL_law_848 : decode cL_law 848 = .ok (.aload_n 0, 1) := de_42 by_848
theorem dL_law_849 : decode cL_law 849 = .ok (.iload 4, 2) := de_21 by_849 by_850
theorem dL_law_851 : decode cL_law 851 = .ok (.iconst 1, 1) := de_4 by_851
theorem dL_law_852 : decode cL_law 852 = .ok (.iadd, 1) := de_96 by_852
theorem dL_law_853 : decode cL_law 853 = .ok (.iaload, 1) := de_46 by_853
theorem dL_law_854 : decode cL_law 854 = .ok (.aload_n 0, 1) := de_42 by_854
theorem dL_law_855 : decode cL_law 855 = .ok (.iload 4, 2) := de_21 by_855 by_856
theorem dL_law_857 : decode cL_law 857 = .ok (.iconst 2, 1) := de_5 by_857
theorem dL_law_858 : decode cL_law 858 = .ok (.iadd, 1) := de_96 by_858
theorem dL_law_859 : decode cL_law 859 = .ok (.iaload, 1) := de_46 by_859
theorem dL_law_860 : decode cL_law 860 = .ok (.invokevirtual 235, 3) := de_182 by_860 by_861 by_862
theorem dL_law_863 : decode cL_law 863 = .ok (.istore 6, 2) := de_54 by_863 by_864
theorem dL_law_865 : decode cL_law 865 = .ok (.goto 1384, 3) := de_167 by_865 by_866 by_867
theorem dL_law_868 : decode cL_law 868 = .ok (.aload_n 1, 1) := de_43 by_868
theorem dL_law_869 : decode cL_law 869 = .ok (.aload_n 0, 1) := de_42 by_869
theorem dL_law_870 : decode cL_law 870 = .ok (.iload 4, 2) := de_21 by_870 by_871
theorem dL_law_872 : decode cL_law 872 = .ok (.iconst 1, 1) := de_4 by_872
theorem dL_law_873 : decode cL_law 873 = .ok (.iadd, 1) := de_96 by_873
theorem dL_law_874 : decode cL_law 874 = .ok (.iaload, 1) := de_46 by_874
theorem dL_law_875 : decode cL_law 875 = .ok (.aload_n 0, 1) := de_42 by_875
theorem dL_law_876 : decode cL_law 876 = .ok (.iload 4, 2) := de_21 by_876 by_877
theorem dL_law_878 : decode cL_law 878 = .ok (.iconst 2, 1) := de_5 by_878
theorem dL_law_879 : decode cL_law 879 = .ok (.iadd, 1) := de_96 by_879
theorem dL_law_880 : decode cL_law 880 = .ok (.iaload, 1) := de_46 by_880
theorem dL_law_881 : decode cL_law 881 = .ok (.aload_n 3, 1) := de_45 by_881
theorem dL_law_882 : decode cL_law 882 = .ok (.invokestatic 236, 3) := de_184 by_882 by_883 by_884
theorem dL_law_885 : decode cL_law 885 = .ok (.istore 5, 2) := de_54 by_885 by_886
theorem dL_law_887 : decode cL_law 887 = .ok (.aload_n 2, 1) := de_44 by_887
theorem dL_law_888 : decode cL_law 888 = .ok (.aload_n 0, 1) := de_42 by_888
theorem dL_law_889 : decode cL_law 889 = .ok (.iload 4, 2) := de_21 by_889 by_890
theorem dL_law_891 : decode cL_law 891 = .ok (.iconst 1, 1) := de_4 by_891
theorem dL_law_892 : decode cL_law 892 = .ok (.iadd, 1) := de_96 by_892
theorem dL_law_893 : decode cL_law 893 = .ok (.iaload, 1) := de_46 by_893
theorem dL_law_894 : decode cL_law 894 = .ok (.aload_n 0, 1) := de_42 by_894
theorem dL_law_895 : decode cL_law 895 = .ok (.iload 4, 2) := de_21 by_895 by_896
theorem dL_law_897 : decode cL_law 897 = .ok (.iconst 2, 1) := de_5 by_897
theorem dL_law_898 : decode cL_law 898 = .ok (.iadd, 1) := de_96 by_898
theorem dL_law_899 : decode cL_law 899 = .ok (.iaload, 1) := de_46 by_899
theorem dL_law_900 : decode cL_law 900 = .ok (.invokevirtual 238, 3) := de_182 by_900 by_901 by_902
theorem dL_law_903 : decode cL_law 903 = .ok (.istore 6, 2) := de_54 by_903 by_904
theorem dL_law_905 : decode cL_law 905 = .ok (.goto 1344, 3) := de_167 by_905 by_906 by_907
theorem dL_law_908 : decode cL_law 908 = .ok (.aload_n 1, 1) := de_43 by_908
theorem dL_law_909 : decode cL_law 909 = .ok (.aload_n 0, 1) := de_42 by_909
theorem dL_law_910 : decode cL_law 910 = .ok (.iload 4, 2) := de_21 by_910 by_911
theorem dL_law_912 : decode cL_law 912 = .ok (.iconst 1, 1) := de_4 by_912
theorem dL_law_913 : decode cL_law 913 = .ok (.iadd, 1) := de_96 by_913
theorem dL_law_914 : decode cL_law 914 = .ok (.iaload, 1) := de_46 by_914
theorem dL_law_915 : decode cL_law 915 = .ok (.aload_n 0, 1) := de_42 by_915
theorem dL_law_916 : decode cL_law 916 = .ok (.iload 4, 2) := de_21 by_916 by_917
theorem dL_law_918 : decode cL_law 918 = .ok (.iconst 2, 1) := de_5 by_918
theorem dL_law_919 : decode cL_law 919 = .ok (.iadd, 1) := de_96 by_919
theorem dL_law_920 : decode cL_law 920 = .ok (.iaload, 1) := de_46 by_920
theorem dL_law_921 : decode cL_law 921 = .ok (.aload_n 3, 1) := de_45 by_921
theorem dL_law_922 : decode cL_law 922 = .ok (.invokestatic 239, 3) := de_184 by_922 by_923 by_924
theorem dL_law_925 : decode cL_law 925 = .ok (.istore 5, 2) := de_54 by_925 by_926
theorem dL_law_927 : decode cL_law 927 = .ok (.aload_n 2, 1) := de_44 by_927
theorem dL_law_928 : decode cL_law 928 = .ok (.aload_n 0, 1) := de_42 by_928
theorem dL_law_929 : decode cL_law 929 = .ok (.iload 4, 2) := de_21 by_929 by_930
theorem dL_law_931 : decode cL_law 931 = .ok (.iconst 1, 1) := de_4 by_931
theorem dL_law_932 : decode cL_law 932 = .ok (.iadd, 1) := de_96 by_932
theorem dL_law_933 : decode cL_law 933 = .ok (.iaload, 1) := de_46 by_933
theorem dL_law_934 : decode cL_law 934 = .ok (.aload_n 0, 1) := de_42 by_934
theorem dL_law_935 : decode cL_law 935 = .ok (.iload 4, 2) := de_21 by_935 by_936
theorem dL_law_937 : decode cL_law 937 = .ok (.iconst 2, 1) := de_5 by_937
theorem dL_law_938 : decode cL_law 938 = .ok (.iadd, 1) := de_96 by_938
theorem dL_law_939 : decode cL_law 939 = .ok (.iaload, 1) := de_46 by_939
theorem dL_law_940 : decode cL_law 940 = .ok (.invokevirtual 241, 3) := de_182 by_940 by_941 by_942
theorem dL_law_943 : decode cL_law 943 = .ok (.istore 6, 2) := de_54 by_943 by_944
theorem dL_law_945 : decode cL_law 945 = .ok (.goto 1304, 3) := de_167 by_945 by_946 by_947
theorem dL_law_948 : decode cL_law 948 = .ok (.aload_n 1, 1) := de_43 by_948
theorem dL_law_949 : decode cL_law 949 = .ok (.aload_n 0, 1) := de_42 by_949
theorem dL_law_950 : decode cL_law 950 = .ok (.iload 4, 2) := de_21 by_950 by_951
theorem dL_law_952 : decode cL_law 952 = .ok (.iconst 1, 1) := de_4 by_952
theorem dL_law_953 : decode cL_law 953 = .ok (.iadd, 1) := de_96 by_953
theorem dL_law_954 : decode cL_law 954 = .ok (.iaload, 1) := de_46 by_954
theorem dL_law_955 : decode cL_law 955 = .ok (.aload_n 0, 1) := de_42 by_955
theorem dL_law_956 : decode cL_law 956 = .ok (.iload 4, 2) := de_21 by_956 by_957
theorem dL_law_958 : decode cL_law 958 = .ok (.iconst 2, 1) := de_5 by_958
theorem dL_law_959 : decode cL_law 959 = .ok (.iadd, 1) := de_96 by_959
theorem dL_law_960 : decode cL_law 960 = .ok (.iaload, 1) := de_46 by_960
theorem dL_law_961 : decode cL_law 961 = .ok (.aload_n 3, 1) := de_45 by_961
theorem dL_law_962 : decode cL_law 962 = .ok (.invokestatic 242, 3) := de_184 by_962 by_963 by_964
theorem dL_law_965 : decode cL_law 965 = .ok (.istore 5, 2) := de_54 by_965 by_966
theorem dL_law_967 : decode cL_law 967 = .ok (.aload_n 2, 1) := de_44 by_967
theorem dL_law_968 : decode cL_law 968 = .ok (.aload_n 0, 1) := de_42 by_968
theorem dL_law_969 : decode cL_law 969 = .ok (.iload 4, 2) := de_21 by_969 by_970
theorem dL_law_971 : decode cL_law 971 = .ok (.iconst 1, 1) := de_4 by_971
theorem dL_law_972 : decode cL_law 972 = .ok (.iadd, 1) := de_96 by_972
theorem dL_law_973 : decode cL_law 973 = .ok (.iaload, 1) := de_46 by_973
theorem dL_law_974 : decode cL_law 974 = .ok (.aload_n 0, 1) := de_42 by_974
theorem dL_law_975 : decode cL_law 975 = .ok (.iload 4, 2) := de_21 by_975 by_976
theorem dL_law_977 : decode cL_law 977 = .ok (.iconst 2, 1) := de_5 by_977
theorem dL_law_978 : decode cL_law 978 = .ok (.iadd, 1) := de_96 by_978
theorem dL_law_979 : decode cL_law 979 = .ok (.iaload, 1) := de_46 by_979
theorem dL_law_980 : decode cL_law 980 = .ok (.invokevirtual 244, 3) := de_182 by_980 by_981 by_982
theorem dL_law_983 : decode cL_law 983 = .ok (.istore 6, 2) := de_54 by_983 by_984
theorem dL_law_985 : decode cL_law 985 = .ok (.goto 1264, 3) := de_167 by_985 by_986 by_987
theorem dL_law_988 : decode cL_law 988 = .ok (.aload_n 1, 1) := de_43 by_988
theorem dL_law_989 : decode cL_law 989 = .ok (.aload_n 0, 1) := de_42 by_989
theorem dL_law_990 : decode cL_law 990 = .ok (.iload 4, 2) := de_21 by_990 by_991
theorem dL_law_992 : decode cL_law 992 = .ok (.iconst 1, 1) := de_4 by_992
theorem dL_law_993 : decode cL_law 993 = .ok (.iadd, 1) := de_96 by_993
theorem dL_law_994 : decode cL_law 994 = .ok (.iaload, 1) := de_46 by_994
theorem dL_law_995 : decode cL_law 995 = .ok (.aload_n 0, 1) := de_42 by_995
theorem dL_law_996 : decode cL_law 996 = .ok (.iload 4, 2) := de_21 by_996 by_997
theorem dL_law_998 : decode cL_law 998 = .ok (.iconst 2, 1) := de_5 by_998
theorem dL_law_999 : decode cL_law 999 = .ok (.iadd, 1) := de_96 by_999
theorem dL_law_1000 : decode cL_law 1000 = .ok (.iaload, 1) := de_46 by_1000
theorem dL_law_1001 : decode cL_law 1001 = .ok (.aload_n 3, 1) := de_45 by_1001
theorem dL_law_1002 : decode cL_law 1002 = .ok (.invokestatic 245, 3) := de_184 by_1002 by_1003 by_1004
theorem dL_law_1005 : decode cL_law 1005 = .ok (.istore 5, 2) := de_54 by_1005 by_1006
theorem dL_law_1007 : decode cL_law 1007 = .ok (.aload_n 2, 1) := de_44 by_1007
theorem dL_law_1008 : decode cL_law 1008 = .ok (.aload_n 0, 1) := de_42 by_1008
theorem dL_law_1009 : decode cL_law 1009 = .ok (.iload 4, 2) := de_21 by_1009 by_1010
theorem dL_law_1011 : decode cL_law 1011 = .ok (.iconst 1, 1) := de_4 by_1011
theorem dL_law_1012 : decode cL_law 1012 = .ok (.iadd, 1) := de_96 by_1012
theorem dL_law_1013 : decode cL_law 1013 = .ok (.iaload, 1) := de_46 by_1013
theorem dL_law_1014 : decode cL_law 1014 = .ok (.aload_n 0, 1) := de_42 by_1014
theorem dL_law_1015 : decode cL_law 1015 = .ok (.iload 4, 2) := de_21 by_1015 by_1016
theorem dL_law_1017 : decode cL_law 1017 = .ok (.iconst 2, 1) := de_5 by_1017
theorem dL_law_1018 : decode cL_law 1018 = .ok (.iadd, 1) := de_96 by_1018
theorem dL_law_1019 : decode cL_law 1019 = .ok (.iaload, 1) := de_46 by_1019
theorem dL_law_1020 : decode cL_law 1020 = .ok (.invokevirtual 247, 3) := de_182 by_1020 by_1021 by_1022
theorem dL_law_1023 : decode cL_law 1023 = .ok (.istore 6, 2) := de_54 by_1023 by_1024
theorem dL_law_1025 : decode cL_law 1025 = .ok (.goto 1224, 3) := de_167 by_1025 by_1026 by_1027
theorem dL_law_1028 : decode cL_law 1028 = .ok (.aload_n 1, 1) := de_43 by_1028
theorem dL_law_1029 : decode cL_law 1029 = .ok (.aload_n 0, 1) := de_42 by_1029
theorem dL_law_1030 : decode cL_law 1030 = .ok (.iload 4, 2) := de_21 by_1030 by_1031
theorem dL_law_1032 : decode cL_law 1032 = .ok (.iconst 1, 1) := de_4 by_1032
theorem dL_law_1033 : decode cL_law 1033 = .ok (.iadd, 1) := de_96 by_1033
theorem dL_law_1034 : decode cL_law 1034 = .ok (.iaload, 1) := de_46 by_1034
theorem dL_law_1035 : decode cL_law 1035 = .ok (.aload_n 0, 1) := de_42 by_1035
theorem dL_law_1036 : decode cL_law 1036 = .ok (.iload 4, 2) := de_21 by_1036 by_1037
theorem dL_law_1038 : decode cL_law 1038 = .ok (.iconst 2, 1) := de_5 by_1038
theorem dL_law_1039 : decode cL_law 1039 = .ok (.iadd, 1) := de_96 by_1039
theorem dL_law_1040 : decode cL_law 1040 = .ok (.iaload, 1) := de_46 by_1040
theorem dL_law_1041 : decode cL_law 1041 = .ok (.aload_n 3, 1) := de_45 by_1041
theorem dL_law_1042 : decode cL_law 1042 = .ok (.invokestatic 248, 3) := de_184 by_1042 by_1043 by_1044
theorem dL_law_1045 : decode cL_law 1045 = .ok (.istore 5, 2) := de_54 by_1045 by_1046
theorem dL_law_1047 : decode cL_law 1047 = .ok (.aload_n 2, 1) := de_44 by_1047
theorem dL_law_1048 : decode cL_law 1048 = .ok (.aload_n 0, 1) := de_42 by_1048
theorem dL_law_1049 : decode cL_law 1049 = .ok (.iload 4, 2) := de_21 by_1049 by_1050
theorem dL_law_1051 : decode cL_law 1051 = .ok (.iconst 1, 1) := de_4 by_1051
theorem dL_law_1052 : decode cL_law 1052 = .ok (.iadd, 1) := de_96 by_1052
theorem dL_law_1053 : decode cL_law 1053 = .ok (.iaload, 1) := de_46 by_1053
theorem dL_law_1054 : decode cL_law 1054 = .ok (.aload_n 0, 1) := de_42 by_1054
theorem dL_law_1055 : decode cL_law 1055 = .ok (.iload 4, 2) := de_21 by_1055 by_1056
theorem dL_law_1057 : decode cL_law 1057 = .ok (.iconst 2, 1) := de_5 by_1057
theorem dL_law_1058 : decode cL_law 1058 = .ok (.iadd, 1) := de_96 by_1058
theorem dL_law_1059 : decode cL_law 1059 = .ok (.iaload, 1) := de_46 by_1059
theorem dL_law_1060 : decode cL_law 1060 = .ok (.invokevirtual 250, 3) := de_182 by_1060 by_1061 by_1062
theorem dL_law_1063 : decode cL_law 1063 = .ok (.istore 6, 2) := de_54 by_1063 by_1064
theorem dL_law_1065 : decode cL_law 1065 = .ok (.goto 1184, 3) := de_167 by_1065 by_1066 by_1067
theorem dL_law_1068 : decode cL_law 1068 = .ok (.aload_n 1, 1) := de_43 by_1068
theorem dL_law_1069 : decode cL_law 1069 = .ok (.aload_n 0, 1) := de_42 by_1069
theorem dL_law_1070 : decode cL_law 1070 = .ok (.iload 4, 2) := de_21 by_1070 by_1071
theorem dL_law_1072 : decode cL_law 1072 = .ok (.iconst 1, 1) := de_4 by_1072
theorem dL_law_1073 : decode cL_law 1073 = .ok (.iadd, 1) := de_96 by_1073
theorem dL_law_1074 : decode cL_law 1074 = .ok (.iaload, 1) := de_46 by_1074
theorem dL_law_1075 : decode cL_law 1075 = .ok (.aload_n 0, 1) := de_42 by_1075
theorem dL_law_1076 : decode cL_law 1076 = .ok (.iload 4, 2) := de_21 by_1076 by_1077
theorem dL_law_1078 : decode cL_law 1078 = .ok (.iconst 2, 1) := de_5 by_1078
theorem dL_law_1079 : decode cL_law 1079 = .ok (.iadd, 1) := de_96 by_1079
theorem dL_law_1080 : decode cL_law 1080 = .ok (.iaload, 1) := de_46 by_1080
theorem dL_law_1081 : decode cL_law 1081 = .ok (.aload_n 0, 1) := de_42 by_1081
theorem dL_law_1082 : decode cL_law 1082 = .ok (.iload 4, 2) := de_21 by_1082 by_1083
theorem dL_law_1084 : decode cL_law 1084 = .ok (.iconst 3, 1) := de_6 by_1084
theorem dL_law_1085 : decode cL_law 1085 = .ok (.iadd, 1) := de_96 by_1085
theorem dL_law_1086 : decode cL_law 1086 = .ok (.iaload, 1) := de_46 by_1086
theorem dL_law_1087 : decode cL_law 1087 = .ok (.aload_n 0, 1) := de_42 by_1087
theorem dL_law_1088 : decode cL_law 1088 = .ok (.iload 4, 2) := de_21 by_1088 by_1089
theorem dL_law_1090 : decode cL_law 1090 = .ok (.iconst 4, 1) := de_7 by_1090
theorem dL_law_1091 : decode cL_law 1091 = .ok (.iadd, 1) := de_96 by_1091
theorem dL_law_1092 : decode cL_law 1092 = .ok (.iaload, 1) := de_46 by_1092
theorem dL_law_1093 : decode cL_law 1093 = .ok (.aload_n 3, 1) := de_45 by_1093
theorem dL_law_1094 : decode cL_law 1094 = .ok (.invokestatic 251, 3) := de_184 by_1094 by_1095 by_1096
theorem dL_law_1097 : decode cL_law 1097 = .ok (.istore 5, 2) := de_54 by_1097 by_1098
theorem dL_law_1099 : decode cL_law 1099 = .ok (.aload_n 2, 1) := de_44 by_1099
theorem dL_law_1100 : decode cL_law 1100 = .ok (.aload_n 0, 1) := de_42 by_1100
theorem dL_law_1101 : decode cL_law 1101 = .ok (.iload 4, 2) := de_21 by_1101 by_1102
theorem dL_law_1103 : decode cL_law 1103 = .ok (.iconst 1, 1) := de_4 by_1103
theorem dL_law_1104 : decode cL_law 1104 = .ok (.iadd, 1) := de_96 by_1104
theorem dL_law_1105 : decode cL_law 1105 = .ok (.iaload, 1) := de_46 by_1105
theorem dL_law_1106 : decode cL_law 1106 = .ok (.aload_n 0, 1) := de_42 by_1106
theorem dL_law_1107 : decode cL_law 1107 = .ok (.iload 4, 2) := de_21 by_1107 by_1108
theorem dL_law_1109 : decode cL_law 1109 = .ok (.iconst 2, 1) := de_5 by_1109
theorem dL_law_1110 : decode cL_law 1110 = .ok (.iadd, 1) := de_96 by_1110
theorem dL_law_1111 : decode cL_law 1111 = .ok (.iaload, 1) := de_46 by_1111
theorem dL_law_1112 : decode cL_law 1112 = .ok (.aload_n 0, 1) := de_42 by_1112
theorem dL_law_1113 : decode cL_law 1113 = .ok (.iload 4, 2) := de_21 by_1113 by_1114
theorem dL_law_1115 : decode cL_law 1115 = .ok (.iconst 3, 1) := de_6 by_1115
theorem dL_law_1116 : decode cL_law 1116 = .ok (.iadd, 1) := de_96 by_1116
theorem dL_law_1117 : decode cL_law 1117 = .ok (.iaload, 1) := de_46 by_1117
theorem dL_law_1118 : decode cL_law 1118 = .ok (.aload_n 0, 1) := de_42 by_1118
theorem dL_law_1119 : decode cL_law 1119 = .ok (.iload 4, 2) := de_21 by_1119 by_1120
theorem dL_law_1121 : decode cL_law 1121 = .ok (.iconst 4, 1) := de_7 by_1121
theorem dL_law_1122 : decode cL_law 1122 = .ok (.iadd, 1) := de_96 by_1122
theorem dL_law_1123 : decode cL_law 1123 = .ok (.iaload, 1) := de_46 by_1123
theorem dL_law_1124 : decode cL_law 1124 = .ok (.invokevirtual 253, 3) := de_182 by_1124 by_1125 by_1126
theorem dL_law_1127 : decode cL_law 1127 = .ok (.istore 6, 2) := de_54 by_1127 by_1128
theorem dL_law_1129 : decode cL_law 1129 = .ok (.goto 1120, 3) := de_167 by_1129 by_1130 by_1131
theorem dL_law_1132 : decode cL_law 1132 = .ok (.aload_n 1, 1) := de_43 by_1132
theorem dL_law_1133 : decode cL_law 1133 = .ok (.aload_n 0, 1) := de_42 by_1133
theorem dL_law_1134 : decode cL_law 1134 = .ok (.iload 4, 2) := de_21 by_1134 by_1135
theorem dL_law_1136 : decode cL_law 1136 = .ok (.iconst 1, 1) := de_4 by_1136
theorem dL_law_1137 : decode cL_law 1137 = .ok (.iadd, 1) := de_96 by_1137
theorem dL_law_1138 : decode cL_law 1138 = .ok (.iaload, 1) := de_46 by_1138
theorem dL_law_1139 : decode cL_law 1139 = .ok (.aload_n 0, 1) := de_42 by_1139
theorem dL_law_1140 : decode cL_law 1140 = .ok (.iload 4, 2) := de_21 by_1140 by_1141
theorem dL_law_1142 : decode cL_law 1142 = .ok (.iconst 2, 1) := de_5 by_1142
theorem dL_law_1143 : decode cL_law 1143 = .ok (.iadd, 1) := de_96 by_1143
theorem dL_law_1144 : decode cL_law 1144 = .ok (.iaload, 1) := de_46 by_1144
theorem dL_law_1145 : decode cL_law 1145 = .ok (.aload_n 0, 1) := de_42 by_1145
theorem dL_law_1146 : decode cL_law 1146 = .ok (.iload 4, 2) := de_21 by_1146 by_1147
theorem dL_law_1148 : decode cL_law 1148 = .ok (.iconst 3, 1) := de_6 by_1148
theorem dL_law_1149 : decode cL_law 1149 = .ok (.iadd, 1) := de_96 by_1149
theorem dL_law_1150 : decode cL_law 1150 = .ok (.iaload, 1) := de_46 by_1150
theorem dL_law_1151 : decode cL_law 1151 = .ok (.aload_n 3, 1) := de_45 by_1151
theorem dL_law_1152 : decode cL_law 1152 = .ok (.invokestatic 254, 3) := de_184 by_1152 by_1153 by_1154
theorem dL_law_1155 : decode cL_law 1155 = .ok (.istore 5, 2) := de_54 by_1155 by_1156
theorem dL_law_1157 : decode cL_law 1157 = .ok (.aload_n 2, 1) := de_44 by_1157
theorem dL_law_1158 : decode cL_law 1158 = .ok (.aload_n 0, 1) := de_42 by_1158
theorem dL_law_1159 : decode cL_law 1159 = .ok (.iload 4, 2) := de_21 by_1159 by_1160
theorem dL_law_1161 : decode cL_law 1161 = .ok (.iconst 1, 1) := de_4 by_1161
theorem dL_law_1162 : decode cL_law 1162 = .ok (.iadd, 1) := de_96 by_1162
theorem dL_law_1163 : decode cL_law 1163 = .ok (.iaload, 1) := de_46 by_1163
theorem dL_law_1164 : decode cL_law 1164 = .ok (.aload_n 0, 1) := de_42 by_1164
theorem dL_law_1165 : decode cL_law 1165 = .ok (.iload 4, 2) := de_21 by_1165 by_1166
theorem dL_law_1167 : decode cL_law 1167 = .ok (.iconst 2, 1) := de_5 by_1167
theorem dL_law_1168 : decode cL_law 1168 = .ok (.iadd, 1) := de_96 by_1168
theorem dL_law_1169 : decode cL_law 1169 = .ok (.iaload, 1) := de_46 by_1169
theorem dL_law_1170 : decode cL_law 1170 = .ok (.aload_n 0, 1) := de_42 by_1170
theorem dL_law_1171 : decode cL_law 1171 = .ok (.iload 4, 2) := de_21 by_1171 by_1172
theorem dL_law_1173 : decode cL_law 1173 = .ok (.iconst 3, 1) := de_6 by_1173
theorem dL_law_1174 : decode cL_law 1174 = .ok (.iadd, 1) := de_96 by_1174
theorem dL_law_1175 : decode cL_law 1175 = .ok (.iaload, 1) := de_46 by_1175
theorem dL_law_1176 : decode cL_law 1176 = .ok (.invokevirtual 256, 3) := de_182 by_1176 by_1177 by_1178
theorem dL_law_1179 : decode cL_law 1179 = .ok (.istore 6, 2) := de_54 by_1179 by_1180
theorem dL_law_1181 : decode cL_law 1181 = .ok (.goto 1068, 3) := de_167 by_1181 by_1182 by_1183
theorem dL_law_1184 : decode cL_law 1184 = .ok (.aload_n 1, 1) := de_43 by_1184
theorem dL_law_1185 : decode cL_law 1185 = .ok (.aload_n 0, 1) := de_42 by_1185
theorem dL_law_1186 : decode cL_law 1186 = .ok (.iload 4, 2) := de_21 by_1186 by_1187
theorem dL_law_1188 : decode cL_law 1188 = .ok (.iconst 1, 1) := de_4 by_1188
theorem dL_law_1189 : decode cL_law 1189 = .ok (.iadd, 1) := de_96 by_1189
theorem dL_law_1190 : decode cL_law 1190 = .ok (.iaload, 1) := de_46 by_1190
theorem dL_law_1191 : decode cL_law 1191 = .ok (.aload_n 0, 1) := de_42 by_1191
theorem dL_law_1192 : decode cL_law 1192 = .ok (.iload 4, 2) := de_21 by_1192 by_1193
theorem dL_law_1194 : decode cL_law 1194 = .ok (.iconst 2, 1) := de_5 by_1194
theorem dL_law_1195 : decode cL_law 1195 = .ok (.iadd, 1) := de_96 by_1195
theorem dL_law_1196 : decode cL_law 1196 = .ok (.iaload, 1) := de_46 by_1196
theorem dL_law_1197 : decode cL_law 1197 = .ok (.aload_n 3, 1) := de_45 by_1197
theorem dL_law_1198 : decode cL_law 1198 = .ok (.invokestatic 257, 3) := de_184 by_1198 by_1199 by_1200
theorem dL_law_1201 : decode cL_law 1201 = .ok (.istore 5, 2) := de_54 by_1201 by_1202
theorem dL_law_1203 : decode cL_law 1203 = .ok (.aload_n 2, 1) := de_44 by_1203
theorem dL_law_1204 : decode cL_law 1204 = .ok (.aload_n 0, 1) := de_42 by_1204
theorem dL_law_1205 : decode cL_law 1205 = .ok (.iload 4, 2) := de_21 by_1205 by_1206
theorem dL_law_1207 : decode cL_law 1207 = .ok (.iconst 1, 1) := de_4 by_1207
theorem dL_law_1208 : decode cL_law 1208 = .ok (.iadd, 1) := de_96 by_1208
theorem dL_law_1209 : decode cL_law 1209 = .ok (.iaload, 1) := de_46 by_1209
theorem dL_law_1210 : decode cL_law 1210 = .ok (.aload_n 0, 1) := de_42 by_1210
theorem dL_law_1211 : decode cL_law 1211 = .ok (.iload 4, 2) := de_21 by_1211 by_1212
theorem dL_law_1213 : decode cL_law 1213 = .ok (.iconst 2, 1) := de_5 by_1213
theorem dL_law_1214 : decode cL_law 1214 = .ok (.iadd, 1) := de_96 by_1214
theorem dL_law_1215 : decode cL_law 1215 = .ok (.iaload, 1) := de_46 by_1215
theorem dL_law_1216 : decode cL_law 1216 = .ok (.invokevirtual 259, 3) := de_182 by_1216 by_1217 by_1218
theorem dL_law_1219 : decode cL_law 1219 = .ok (.istore 6, 2) := de_54 by_1219 by_1220
theorem dL_law_1221 : decode cL_law 1221 = .ok (.goto 1028, 3) := de_167 by_1221 by_1222 by_1223
theorem dL_law_1224 : decode cL_law 1224 = .ok (.aload_n 1, 1) := de_43 by_1224
theorem dL_law_1225 : decode cL_law 1225 = .ok (.aload_n 0, 1) := de_42 by_1225
theorem dL_law_1226 : decode cL_law 1226 = .ok (.iload 4, 2) := de_21 by_1226 by_1227
theorem dL_law_1228 : decode cL_law 1228 = .ok (.iconst 1, 1) := de_4 by_1228
theorem dL_law_1229 : decode cL_law 1229 = .ok (.iadd, 1) := de_96 by_1229
theorem dL_law_1230 : decode cL_law 1230 = .ok (.iaload, 1) := de_46 by_1230
theorem dL_law_1231 : decode cL_law 1231 = .ok (.aload_n 0, 1) := de_42 by_1231
theorem dL_law_1232 : decode cL_law 1232 = .ok (.iload 4, 2) := de_21 by_1232 by_1233
theorem dL_law_1234 : decode cL_law 1234 = .ok (.iconst 2, 1) := de_5 by_1234
theorem dL_law_1235 : decode cL_law 1235 = .ok (.iadd, 1) := de_96 by_1235
theorem dL_law_1236 : decode cL_law 1236 = .ok (.iaload, 1) := de_46 by_1236
theorem dL_law_1237 : decode cL_law 1237 = .ok (.aload_n 3, 1) := de_45 by_1237
theorem dL_law_1238 : decode cL_law 1238 = .ok (.invokestatic 260, 3) := de_184 by_1238 by_1239 by_1240
theorem dL_law_1241 : decode cL_law 1241 = .ok (.istore 5, 2) := de_54 by_1241 by_1242
theorem dL_law_1243 : decode cL_law 1243 = .ok (.aload_n 2, 1) := de_44 by_1243
theorem dL_law_1244 : decode cL_law 1244 = .ok (.aload_n 0, 1) := de_42 by_1244
theorem dL_law_1245 : decode cL_law 1245 = .ok (.iload 4, 2) := de_21 by_1245 by_1246
theorem dL_law_1247 : decode cL_law 1247 = .ok (.iconst 1, 1) := de_4 by_1247
theorem dL_law_1248 : decode cL_law 1248 = .ok (.iadd, 1) := de_96 by_1248
theorem dL_law_1249 : decode cL_law 1249 = .ok (.iaload, 1) := de_46 by_1249
theorem dL_law_1250 : decode cL_law 1250 = .ok (.aload_n 0, 1) := de_42 by_1250
theorem dL_law_1251 : decode cL_law 1251 = .ok (.iload 4, 2) := de_21 by_1251 by_1252
theorem dL_law_1253 : decode cL_law 1253 = .ok (.iconst 2, 1) := de_5 by_1253
theorem dL_law_1254 : decode cL_law 1254 = .ok (.iadd, 1) := de_96 by_1254
theorem dL_law_1255 : decode cL_law 1255 = .ok (.iaload, 1) := de_46 by_1255
theorem dL_law_1256 : decode cL_law 1256 = .ok (.invokevirtual 262, 3) := de_182 by_1256 by_1257 by_1258
theorem dL_law_1259 : decode cL_law 1259 = .ok (.istore 6, 2) := de_54 by_1259 by_1260
theorem dL_law_1261 : decode cL_law 1261 = .ok (.goto 988, 3) := de_167 by_1261 by_1262 by_1263
theorem dL_law_1264 : decode cL_law 1264 = .ok (.aload_n 1, 1) := de_43 by_1264
theorem dL_law_1265 : decode cL_law 1265 = .ok (.aload_n 0, 1) := de_42 by_1265
theorem dL_law_1266 : decode cL_law 1266 = .ok (.iload 4, 2) := de_21 by_1266 by_1267
theorem dL_law_1268 : decode cL_law 1268 = .ok (.iconst 1, 1) := de_4 by_1268
theorem dL_law_1269 : decode cL_law 1269 = .ok (.iadd, 1) := de_96 by_1269
theorem dL_law_1270 : decode cL_law 1270 = .ok (.iaload, 1) := de_46 by_1270
theorem dL_law_1271 : decode cL_law 1271 = .ok (.aload_n 0, 1) := de_42 by_1271
theorem dL_law_1272 : decode cL_law 1272 = .ok (.iload 4, 2) := de_21 by_1272 by_1273
theorem dL_law_1274 : decode cL_law 1274 = .ok (.iconst 2, 1) := de_5 by_1274
theorem dL_law_1275 : decode cL_law 1275 = .ok (.iadd, 1) := de_96 by_1275
theorem dL_law_1276 : decode cL_law 1276 = .ok (.iaload, 1) := de_46 by_1276
theorem dL_law_1277 : decode cL_law 1277 = .ok (.aload_n 3, 1) := de_45 by_1277
theorem dL_law_1278 : decode cL_law 1278 = .ok (.invokestatic 263, 3) := de_184 by_1278 by_1279 by_1280
theorem dL_law_1281 : decode cL_law 1281 = .ok (.istore 5, 2) := de_54 by_1281 by_1282
theorem dL_law_1283 : decode cL_law 1283 = .ok (.aload_n 2, 1) := de_44 by_1283
theorem dL_law_1284 : decode cL_law 1284 = .ok (.aload_n 0, 1) := de_42 by_1284
theorem dL_law_1285 : decode cL_law 1285 = .ok (.iload 4, 2) := de_21 by_1285 by_1286
theorem dL_law_1287 : decode cL_law 1287 = .ok (.iconst 1, 1) := de_4 by_1287
theorem dL_law_1288 : decode cL_law 1288 = .ok (.iadd, 1) := de_96 by_1288
theorem dL_law_1289 : decode cL_law 1289 = .ok (.iaload, 1) := de_46 by_1289
theorem dL_law_1290 : decode cL_law 1290 = .ok (.aload_n 0, 1) := de_42 by_1290
theorem dL_law_1291 : decode cL_law 1291 = .ok (.iload 4, 2) := de_21 by_1291 by_1292
theorem dL_law_1293 : decode cL_law 1293 = .ok (.iconst 2, 1) := de_5 by_1293
theorem dL_law_1294 : decode cL_law 1294 = .ok (.iadd, 1) := de_96 by_1294
theorem dL_law_1295 : decode cL_law 1295 = .ok (.iaload, 1) := de_46 by_1295
theorem dL_law_1296 : decode cL_law 1296 = .ok (.invokevirtual 265, 3) := de_182 by_1296 by_1297 by_1298
theorem dL_law_1299 : decode cL_law 1299 = .ok (.istore 6, 2) := de_54 by_1299 by_1300
theorem dL_law_1301 : decode cL_law 1301 = .ok (.goto 948, 3) := de_167 by_1301 by_1302 by_1303
theorem dL_law_1304 : decode cL_law 1304 = .ok (.aload_n 1, 1) := de_43 by_1304
theorem dL_law_1305 : decode cL_law 1305 = .ok (.aload_n 0, 1) := de_42 by_1305
theorem dL_law_1306 : decode cL_law 1306 = .ok (.iload 4, 2) := de_21 by_1306 by_1307
theorem dL_law_1308 : decode cL_law 1308 = .ok (.iconst 1, 1) := de_4 by_1308
theorem dL_law_1309 : decode cL_law 1309 = .ok (.iadd, 1) := de_96 by_1309
theorem dL_law_1310 : decode cL_law 1310 = .ok (.iaload, 1) := de_46 by_1310
theorem dL_law_1311 : decode cL_law 1311 = .ok (.aload_n 0, 1) := de_42 by_1311
theorem dL_law_1312 : decode cL_law 1312 = .ok (.iload 4, 2) := de_21 by_1312 by_1313
theorem dL_law_1314 : decode cL_law 1314 = .ok (.iconst 2, 1) := de_5 by_1314
theorem dL_law_1315 : decode cL_law 1315 = .ok (.iadd, 1) := de_96 by_1315
theorem dL_law_1316 : decode cL_law 1316 = .ok (.iaload, 1) := de_46 by_1316
theorem dL_law_1317 : decode cL_law 1317 = .ok (.aload_n 3, 1) := de_45 by_1317
theorem dL_law_1318 : decode cL_law 1318 = .ok (.invokestatic 266, 3) := de_184 by_1318 by_1319 by_1320
theorem dL_law_1321 : decode cL_law 1321 = .ok (.istore 5, 2) := de_54 by_1321 by_1322
theorem dL_law_1323 : decode cL_law 1323 = .ok (.aload_n 2, 1) := de_44 by_1323
theorem dL_law_1324 : decode cL_law 1324 = .ok (.aload_n 0, 1) := de_42 by_1324
theorem dL_law_1325 : decode cL_law 1325 = .ok (.iload 4, 2) := de_21 by_1325 by_1326
theorem dL_law_1327 : decode cL_law 1327 = .ok (.iconst 1, 1) := de_4 by_1327
theorem dL_law_1328 : decode cL_law 1328 = .ok (.iadd, 1) := de_96 by_1328
theorem dL_law_1329 : decode cL_law 1329 = .ok (.iaload, 1) := de_46 by_1329
theorem dL_law_1330 : decode cL_law 1330 = .ok (.aload_n 0, 1) := de_42 by_1330
theorem dL_law_1331 : decode cL_law 1331 = .ok (.iload 4, 2) := de_21 by_1331 by_1332
theorem dL_law_1333 : decode cL_law 1333 = .ok (.iconst 2, 1) := de_5 by_1333
theorem dL_law_1334 : decode cL_law 1334 = .ok (.iadd, 1) := de_96 by_1334
theorem dL_law_1335 : decode cL_law 1335 = .ok (.iaload, 1) := de_46 by_1335
theorem dL_law_1336 : decode cL_law 1336 = .ok (.invokevirtual 268, 3) := de_182 by_1336 by_1337 by_1338
theorem dL_law_1339 : decode cL_law 1339 = .ok (.istore 6, 2) := de_54 by_1339 by_1340
theorem dL_law_1341 : decode cL_law 1341 = .ok (.goto 908, 3) := de_167 by_1341 by_1342 by_1343
theorem dL_law_1344 : decode cL_law 1344 = .ok (.aload_n 1, 1) := de_43 by_1344
theorem dL_law_1345 : decode cL_law 1345 = .ok (.aload_n 0, 1) := de_42 by_1345
theorem dL_law_1346 : decode cL_law 1346 = .ok (.iload 4, 2) := de_21 by_1346 by_1347
theorem dL_law_1348 : decode cL_law 1348 = .ok (.iconst 1, 1) := de_4 by_1348
theorem dL_law_1349 : decode cL_law 1349 = .ok (.iadd, 1) := de_96 by_1349
theorem dL_law_1350 : decode cL_law 1350 = .ok (.iaload, 1) := de_46 by_1350
theorem dL_law_1351 : decode cL_law 1351 = .ok (.aload_n 3, 1) := de_45 by_1351
theorem dL_law_1352 : decode cL_law 1352 = .ok (.invokestatic 269, 3) := de_184 by_1352 by_1353 by_1354
theorem dL_law_1355 : decode cL_law 1355 = .ok (.istore 5, 2) := de_54 by_1355 by_1356
theorem dL_law_1357 : decode cL_law 1357 = .ok (.aload_n 2, 1) := de_44 by_1357
theorem dL_law_1358 : decode cL_law 1358 = .ok (.aload_n 0, 1) := de_42 by_1358
theorem dL_law_1359 : decode cL_law 1359 = .ok (.iload 4, 2) := de_21 by_1359 by_1360
theorem dL_law_1361 : decode cL_law 1361 = .ok (.iconst 1, 1) := de_4 by_1361
theorem dL_law_1362 : decode cL_law 1362 = .ok (.iadd, 1) := de_96 by_1362
theorem dL_law_1363 : decode cL_law 1363 = .ok (.iaload, 1) := de_46 by_1363
theorem dL_law_1364 : decode cL_law 1364 = .ok (.invokevirtual 271, 3) := de_182 by_1364 by_1365 by_1366
theorem dL_law_1367 : decode cL_law 1367 = .ok (.istore 6, 2) := de_54 by_1367 by_1368
theorem dL_law_1369 : decode cL_law 1369 = .ok (.goto 880, 3) := de_167 by_1369 by_1370 by_1371
theorem dL_law_1372 : decode cL_law 1372 = .ok (.aload_n 1, 1) := de_43 by_1372
theorem dL_law_1373 : decode cL_law 1373 = .ok (.aload_n 0, 1) := de_42 by_1373
theorem dL_law_1374 : decode cL_law 1374 = .ok (.iload 4, 2) := de_21 by_1374 by_1375
theorem dL_law_1376 : decode cL_law 1376 = .ok (.iconst 1, 1) := de_4 by_1376
theorem dL_law_1377 : decode cL_law 1377 = .ok (.iadd, 1) := de_96 by_1377
theorem dL_law_1378 : decode cL_law 1378 = .ok (.iaload, 1) := de_46 by_1378
theorem dL_law_1379 : decode cL_law 1379 = .ok (.aload_n 3, 1) := de_45 by_1379
theorem dL_law_1380 : decode cL_law 1380 = .ok (.invokestatic 272, 3) := de_184 by_1380 by_1381 by_1382
theorem dL_law_1383 : decode cL_law 1383 = .ok (.istore 5, 2) := de_54 by_1383 by_1384
theorem dL_law_1385 : decode cL_law 1385 = .ok (.aload_n 2, 1) := de_44 by_1385
theorem dL_law_1386 : decode cL_law 1386 = .ok (.aload_n 0, 1) := de_42 by_1386
theorem dL_law_1387 : decode cL_law 1387 = .ok (.iload 4, 2) := de_21 by_1387 by_1388
theorem dL_law_1389 : decode cL_law 1389 = .ok (.iconst 1, 1) := de_4 by_1389
theorem dL_law_1390 : decode cL_law 1390 = .ok (.iadd, 1) := de_96 by_1390
theorem dL_law_1391 : decode cL_law 1391 = .ok (.iaload, 1) := de_46 by_1391
theorem dL_law_1392 : decode cL_law 1392 = .ok (.invokevirtual 274, 3) := de_182 by_1392 by_1393 by_1394
theorem dL_law_1395 : decode cL_law 1395 = .ok (.istore 6, 2) := de_54 by_1395 by_1396
theorem dL_law_1397 : decode cL_law 1397 = .ok (.goto 852, 3) := de_167 by_1397 by_1398 by_1399
theorem dL_law_1400 : decode cL_law 1400 = .ok (.aload_n 1, 1) := de_43 by_1400
theorem dL_law_1401 : decode cL_law 1401 = .ok (.aload_n 0, 1) := de_42 by_1401
theorem dL_law_1402 : decode cL_law 1402 = .ok (.iload 4, 2) := de_21 by_1402 by_1403
theorem dL_law_1404 : decode cL_law 1404 = .ok (.iconst 1, 1) := de_4 by_1404
theorem dL_law_1405 : decode cL_law 1405 = .ok (.iadd, 1) := de_96 by_1405
theorem dL_law_1406 : decode cL_law 1406 = .ok (.iaload, 1) := de_46 by_1406
theorem dL_law_1407 : decode cL_law 1407 = .ok (.aload_n 3, 1) := de_45 by_1407
theorem dL_law_1408 : decode cL_law 1408 = .ok (.invokestatic 275, 3) := de_184 by_1408 by_1409 by_1410
theorem dL_law_1411 : decode cL_law 1411 = .ok (.istore 5, 2) := de_54 by_1411 by_1412
theorem dL_law_1413 : decode cL_law 1413 = .ok (.aload_n 2, 1) := de_44 by_1413
theorem dL_law_1414 : decode cL_law 1414 = .ok (.aload_n 0, 1) := de_42 by_1414
theorem dL_law_1415 : decode cL_law 1415 = .ok (.iload 4, 2) := de_21 by_1415 by_1416
theorem dL_law_1417 : decode cL_law 1417 = .ok (.iconst 1, 1) := de_4 by_1417
theorem dL_law_1418 : decode cL_law 1418 = .ok (.iadd, 1) := de_96 by_1418
theorem dL_law_1419 : decode cL_law 1419 = .ok (.iaload, 1) := de_46 by_1419
theorem dL_law_1420 : decode cL_law 1420 = .ok (.invokevirtual 277, 3) := de_182 by_1420 by_1421 by_1422
theorem dL_law_1423 : decode cL_law 1423 = .ok (.istore 6, 2) := de_54 by_1423 by_1424
theorem dL_law_1425 : decode cL_law 1425 = .ok (.goto 824, 3) := de_167 by_1425 by_1426 by_1427
theorem dL_law_1428 : decode cL_law 1428 = .ok (.aload_n 1, 1) := de_43 by_1428
theorem dL_law_1429 : decode cL_law 1429 = .ok (.aload_n 0, 1) := de_42 by_1429
theorem dL_law_1430 : decode cL_law 1430 = .ok (.iload 4, 2) := de_21 by_1430 by_1431
theorem dL_law_1432 : decode cL_law 1432 = .ok (.iconst 1, 1) := de_4 by_1432
theorem dL_law_1433 : decode cL_law 1433 = .ok (.iadd, 1) := de_96 by_1433
theorem dL_law_1434 : decode cL_law 1434 = .ok (.iaload, 1) := de_46 by_1434
theorem dL_law_1435 : decode cL_law 1435 = .ok (.aload_n 3, 1) := de_45 by_1435
theorem dL_law_1436 : decode cL_law 1436 = .ok (.invokestatic 278, 3) := de_184 by_1436 by_1437 by_1438
theorem dL_law_1439 : decode cL_law 1439 = .ok (.istore 5, 2) := de_54 by_1439 by_1440
theorem dL_law_1441 : decode cL_law 1441 = .ok (.aload_n 2, 1) := de_44 by_1441
theorem dL_law_1442 : decode cL_law 1442 = .ok (.aload_n 0, 1) := de_42 by_1442
theorem dL_law_1443 : decode cL_law 1443 = .ok (.iload 4, 2) := de_21 by_1443 by_1444
theorem dL_law_1445 : decode cL_law 1445 = .ok (.iconst 1, 1) := de_4 by_1445
theorem dL_law_1446 : decode cL_law 1446 = .ok (.iadd, 1) := de_96 by_1446
theorem dL_law_1447 : decode cL_law 1447 = .ok (.iaload, 1) := de_46 by_1447
theorem dL_law_1448 : decode cL_law 1448 = .ok (.invokevirtual 280, 3) := de_182 by_1448 by_1449 by_1450
theorem dL_law_1451 : decode cL_law 1451 = .ok (.istore 6, 2) := de_54 by_1451 by_1452
theorem dL_law_1453 : decode cL_law 1453 = .ok (.goto 796, 3) := de_167 by_1453 by_1454 by_1455
theorem dL_law_1456 : decode cL_law 1456 = .ok (.aload_n 1, 1) := de_43 by_1456
theorem dL_law_1457 : decode cL_law 1457 = .ok (.aload_n 0, 1) := de_42 by_1457
theorem dL_law_1458 : decode cL_law 1458 = .ok (.iload 4, 2) := de_21 by_1458 by_1459
theorem dL_law_1460 : decode cL_law 1460 = .ok (.iconst 1, 1) := de_4 by_1460
theorem dL_law_1461 : decode cL_law 1461 = .ok (.iadd, 1) := de_96 by_1461
theorem dL_law_1462 : decode cL_law 1462 = .ok (.iaload, 1) := de_46 by_1462
theorem dL_law_1463 : decode cL_law 1463 = .ok (.aload_n 3, 1) := de_45 by_1463
theorem dL_law_1464 : decode cL_law 1464 = .ok (.invokestatic 281, 3) := de_184 by_1464 by_1465 by_1466
theorem dL_law_1467 : decode cL_law 1467 = .ok (.istore 5, 2) := de_54 by_1467 by_1468
theorem dL_law_1469 : decode cL_law 1469 = .ok (.aload_n 2, 1) := de_44 by_1469
theorem dL_law_1470 : decode cL_law 1470 = .ok (.aload_n 0, 1) := de_42 by_1470
theorem dL_law_1471 : decode cL_law 1471 = .ok (.iload 4, 2) := de_21 by_1471 by_1472
theorem dL_law_1473 : decode cL_law 1473 = .ok (.iconst 1, 1) := de_4 by_1473
theorem dL_law_1474 : decode cL_law 1474 = .ok (.iadd, 1) := de_96 by_1474
theorem dL_law_1475 : decode cL_law 1475 = .ok (.iaload, 1) := de_46 by_1475
theorem dL_law_1476 : decode cL_law 1476 = .ok (.invokevirtual 283, 3) := de_182 by_1476 by_1477 by_1478
theorem dL_law_1479 : decode cL_law 1479 = .ok (.istore 6, 2) := de_54 by_1479 by_1480
theorem dL_law_1481 : decode cL_law 1481 = .ok (.goto 768, 3) := de_167 by_1481 by_1482 by_1483
theorem dL_law_1484 : decode cL_law 1484 = .ok (.aload_n 1, 1) := de_43 by_1484
theorem dL_law_1485 : decode cL_law 1485 = .ok (.aload_n 0, 1) := de_42 by_1485
theorem dL_law_1486 : decode cL_law 1486 = .ok (.iload 4, 2) := de_21 by_1486 by_1487
theorem dL_law_1488 : decode cL_law 1488 = .ok (.iconst 1, 1) := de_4 by_1488
theorem dL_law_1489 : decode cL_law 1489 = .ok (.iadd, 1) := de_96 by_1489
theorem dL_law_1490 : decode cL_law 1490 = .ok (.iaload, 1) := de_46 by_1490
theorem dL_law_1491 : decode cL_law 1491 = .ok (.aload_n 0, 1) := de_42 by_1491
theorem dL_law_1492 : decode cL_law 1492 = .ok (.iload 4, 2) := de_21 by_1492 by_1493
theorem dL_law_1494 : decode cL_law 1494 = .ok (.iconst 2, 1) := de_5 by_1494
theorem dL_law_1495 : decode cL_law 1495 = .ok (.iadd, 1) := de_96 by_1495
theorem dL_law_1496 : decode cL_law 1496 = .ok (.iaload, 1) := de_46 by_1496
theorem dL_law_1497 : decode cL_law 1497 = .ok (.aload_n 3, 1) := de_45 by_1497
theorem dL_law_1498 : decode cL_law 1498 = .ok (.invokestatic 284, 3) := de_184 by_1498 by_1499 by_1500
theorem dL_law_1501 : decode cL_law 1501 = .ok (.istore 5, 2) := de_54 by_1501 by_1502
theorem dL_law_1503 : decode cL_law 1503 = .ok (.aload_n 2, 1) := de_44 by_1503
theorem dL_law_1504 : decode cL_law 1504 = .ok (.aload_n 0, 1) := de_42 by_1504
theorem dL_law_1505 : decode cL_law 1505 = .ok (.iload 4, 2) := de_21 by_1505 by_1506
theorem dL_law_1507 : decode cL_law 1507 = .ok (.iconst 1, 1) := de_4 by_1507
theorem dL_law_1508 : decode cL_law 1508 = .ok (.iadd, 1) := de_96 by_1508
theorem dL_law_1509 : decode cL_law 1509 = .ok (.iaload, 1) := de_46 by_1509
theorem dL_law_1510 : decode cL_law 1510 = .ok (.aload_n 0, 1) := de_42 by_1510
theorem dL_law_1511 : decode cL_law 1511 = .ok (.iload 4, 2) := de_21 by_1511 by_1512
theorem dL_law_1513 : decode cL_law 1513 = .ok (.iconst 2, 1) := de_5 by_1513
theorem dL_law_1514 : decode cL_law 1514 = .ok (.iadd, 1) := de_96 by_1514
theorem dL_law_1515 : decode cL_law 1515 = .ok (.iaload, 1) := de_46 by_1515
theorem dL_law_1516 : decode cL_law 1516 = .ok (.invokevirtual 286, 3) := de_182 by_1516 by_1517 by_1518
theorem dL_law_1519 : decode cL_law 1519 = .ok (.istore 6, 2) := de_54 by_1519 by_1520
theorem dL_law_1521 : decode cL_law 1521 = .ok (.goto 728, 3) := de_167 by_1521 by_1522 by_1523
theorem dL_law_1524 : decode cL_law 1524 = .ok (.aload_n 1, 1) := de_43 by_1524
theorem dL_law_1525 : decode cL_law 1525 = .ok (.aload_n 0, 1) := de_42 by_1525
theorem dL_law_1526 : decode cL_law 1526 = .ok (.iload 4, 2) := de_21 by_1526 by_1527
theorem dL_law_1528 : decode cL_law 1528 = .ok (.iconst 1, 1) := de_4 by_1528
theorem dL_law_1529 : decode cL_law 1529 = .ok (.iadd, 1) := de_96 by_1529
theorem dL_law_1530 : decode cL_law 1530 = .ok (.iaload, 1) := de_46 by_1530
theorem dL_law_1531 : decode cL_law 1531 = .ok (.aload_n 3, 1) := de_45 by_1531
theorem dL_law_1532 : decode cL_law 1532 = .ok (.invokestatic 287, 3) := de_184 by_1532 by_1533 by_1534
theorem dL_law_1535 : decode cL_law 1535 = .ok (.istore 5, 2) := de_54 by_1535 by_1536
theorem dL_law_1537 : decode cL_law 1537 = .ok (.aload_n 2, 1) := de_44 by_1537
theorem dL_law_1538 : decode cL_law 1538 = .ok (.aload_n 0, 1) := de_42 by_1538
theorem dL_law_1539 : decode cL_law 1539 = .ok (.iload 4, 2) := de_21 by_1539 by_1540
theorem dL_law_1541 : decode cL_law 1541 = .ok (.iconst 1, 1) := de_4 by_1541
theorem dL_law_1542 : decode cL_law 1542 = .ok (.iadd, 1) := de_96 by_1542
theorem dL_law_1543 : decode cL_law 1543 = .ok (.iaload, 1) := de_46 by_1543
theorem dL_law_1544 : decode cL_law 1544 = .ok (.invokevirtual 289, 3) := de_182 by_1544 by_1545 by_1546
theorem dL_law_1547 : decode cL_law 1547 = .ok (.istore 6, 2) := de_54 by_1547 by_1548
theorem dL_law_1549 : decode cL_law 1549 = .ok (.goto 700, 3) := de_167 by_1549 by_1550 by_1551
theorem dL_law_1552 : decode cL_law 1552 = .ok (.aload_n 1, 1) := de_43 by_1552
theorem dL_law_1553 : decode cL_law 1553 = .ok (.aload_n 0, 1) := de_42 by_1553
theorem dL_law_1554 : decode cL_law 1554 = .ok (.iload 4, 2) := de_21 by_1554 by_1555
theorem dL_law_1556 : decode cL_law 1556 = .ok (.iconst 1, 1) := de_4 by_1556
theorem dL_law_1557 : decode cL_law 1557 = .ok (.iadd, 1) := de_96 by_1557
theorem dL_law_1558 : decode cL_law 1558 = .ok (.iaload, 1) := de_46 by_1558
theorem dL_law_1559 : decode cL_law 1559 = .ok (.aload_n 3, 1) := de_45 by_1559
theorem dL_law_1560 : decode cL_law 1560 = .ok (.invokestatic 290, 3) := de_184 by_1560 by_1561 by_1562
theorem dL_law_1563 : decode cL_law 1563 = .ok (.istore 5, 2) := de_54 by_1563 by_1564
theorem dL_law_1565 : decode cL_law 1565 = .ok (.aload_n 2, 1) := de_44 by_1565
theorem dL_law_1566 : decode cL_law 1566 = .ok (.aload_n 0, 1) := de_42 by_1566
theorem dL_law_1567 : decode cL_law 1567 = .ok (.iload 4, 2) := de_21 by_1567 by_1568
theorem dL_law_1569 : decode cL_law 1569 = .ok (.iconst 1, 1) := de_4 by_1569
theorem dL_law_1570 : decode cL_law 1570 = .ok (.iadd, 1) := de_96 by_1570
theorem dL_law_1571 : decode cL_law 1571 = .ok (.iaload, 1) := de_46 by_1571
theorem dL_law_1572 : decode cL_law 1572 = .ok (.invokevirtual 292, 3) := de_182 by_1572 by_1573 by_1574
theorem dL_law_1575 : decode cL_law 1575 = .ok (.istore 6, 2) := de_54 by_1575 by_1576
theorem dL_law_1577 : decode cL_law 1577 = .ok (.goto 672, 3) := de_167 by_1577 by_1578 by_1579
theorem dL_law_1580 : decode cL_law 1580 = .ok (.aload_n 1, 1) := de_43 by_1580
theorem dL_law_1581 : decode cL_law 1581 = .ok (.aload_n 0, 1) := de_42 by_1581
theorem dL_law_1582 : decode cL_law 1582 = .ok (.iload 4, 2) := de_21 by_1582 by_1583
theorem dL_law_1584 : decode cL_law 1584 = .ok (.iconst 1, 1) := de_4 by_1584
theorem dL_law_1585 : decode cL_law 1585 = .ok (.iadd, 1) := de_96 by_1585
theorem dL_law_1586 : decode cL_law 1586 = .ok (.iaload, 1) := de_46 by_1586
theorem dL_law_1587 : decode cL_law 1587 = .ok (.aload_n 3, 1) := de_45 by_1587
theorem dL_law_1588 : decode cL_law 1588 = .ok (.invokestatic 293, 3) := de_184 by_1588 by_1589 by_1590
theorem dL_law_1591 : decode cL_law 1591 = .ok (.istore 5, 2) := de_54 by_1591 by_1592
theorem dL_law_1593 : decode cL_law 1593 = .ok (.aload_n 2, 1) := de_44 by_1593
theorem dL_law_1594 : decode cL_law 1594 = .ok (.aload_n 0, 1) := de_42 by_1594
theorem dL_law_1595 : decode cL_law 1595 = .ok (.iload 4, 2) := de_21 by_1595 by_1596
theorem dL_law_1597 : decode cL_law 1597 = .ok (.iconst 1, 1) := de_4 by_1597
theorem dL_law_1598 : decode cL_law 1598 = .ok (.iadd, 1) := de_96 by_1598
theorem dL_law_1599 : decode cL_law 1599 = .ok (.iaload, 1) := de_46 by_1599
theorem dL_law_1600 : decode cL_law 1600 = .ok (.invokevirtual 295, 3) := de_182 by_1600 by_1601 by_1602
theorem dL_law_1603 : decode cL_law 1603 = .ok (.istore 6, 2) := de_54 by_1603 by_1604
theorem dL_law_1605 : decode cL_law 1605 = .ok (.goto 644, 3) := de_167 by_1605 by_1606 by_1607
theorem dL_law_1608 : decode cL_law 1608 = .ok (.aload_n 1, 1) := de_43 by_1608
theorem dL_law_1609 : decode cL_law 1609 = .ok (.aload_n 0, 1) := de_42 by_1609
theorem dL_law_1610 : decode cL_law 1610 = .ok (.iload 4, 2) := de_21 by_1610 by_1611
theorem dL_law_1612 : decode cL_law 1612 = .ok (.iconst 1, 1) := de_4 by_1612
theorem dL_law_1613 : decode cL_law 1613 = .ok (.iadd, 1) := de_96 by_1613
theorem dL_law_1614 : decode cL_law 1614 = .ok (.iaload, 1) := de_46 by_1614
theorem dL_law_1615 : decode cL_law 1615 = .ok (.aload_n 0, 1) := de_42 by_1615
theorem dL_law_1616 : decode cL_law 1616 = .ok (.iload 4, 2) := de_21 by_1616 by_1617
theorem dL_law_1618 : decode cL_law 1618 = .ok (.iconst 2, 1) := de_5 by_1618
theorem dL_law_1619 : decode cL_law 1619 = .ok (.iadd, 1) := de_96 by_1619
theorem dL_law_1620 : decode cL_law 1620 = .ok (.iaload, 1) := de_46 by_1620
theorem dL_law_1621 : decode cL_law 1621 = .ok (.aload_n 3, 1) := de_45 by_1621
theorem dL_law_1622 : decode cL_law 1622 = .ok (.invokestatic 296, 3) := de_184 by_1622 by_1623 by_1624
theorem dL_law_1625 : decode cL_law 1625 = .ok (.istore 5, 2) := de_54 by_1625 by_1626
theorem dL_law_1627 : decode cL_law 1627 = .ok (.aload_n 2, 1) := de_44 by_1627
theorem dL_law_1628 : decode cL_law 1628 = .ok (.aload_n 0, 1) := de_42 by_1628
theorem dL_law_1629 : decode cL_law 1629 = .ok (.iload 4, 2) := de_21 by_1629 by_1630
theorem dL_law_1631 : decode cL_law 1631 = .ok (.iconst 1, 1) := de_4 by_1631
theorem dL_law_1632 : decode cL_law 1632 = .ok (.iadd, 1) := de_96 by_1632
theorem dL_law_1633 : decode cL_law 1633 = .ok (.iaload, 1) := de_46 by_1633
theorem dL_law_1634 : decode cL_law 1634 = .ok (.aload_n 0, 1) := de_42 by_1634
theorem dL_law_1635 : decode cL_law 1635 = .ok (.iload 4, 2) := de_21 by_1635 by_1636
theorem dL_law_1637 : decode cL_law 1637 = .ok (.iconst 2, 1) := de_5 by_1637
theorem dL_law_1638 : decode cL_law 1638 = .ok (.iadd, 1) := de_96 by_1638
theorem dL_law_1639 : decode cL_law 1639 = .ok (.iaload, 1) := de_46 by_1639
theorem dL_law_1640 : decode cL_law 1640 = .ok (.invokevirtual 298, 3) := de_182 by_1640 by_1641 by_1642
theorem dL_law_1643 : decode cL_law 1643 = .ok (.istore 6, 2) := de_54 by_1643 by_1644
theorem dL_law_1645 : decode cL_law 1645 = .ok (.goto 604, 3) := de_167 by_1645 by_1646 by_1647
theorem dL_law_1648 : decode cL_law 1648 = .ok (.aload_n 1, 1) := de_43 by_1648
theorem dL_law_1649 : decode cL_law 1649 = .ok (.aload_n 0, 1) := de_42 by_1649
theorem dL_law_1650 : decode cL_law 1650 = .ok (.iload 4, 2) := de_21 by_1650 by_1651
theorem dL_law_1652 : decode cL_law 1652 = .ok (.iconst 1, 1) := de_4 by_1652
theorem dL_law_1653 : decode cL_law 1653 = .ok (.iadd, 1) := de_96 by_1653
theorem dL_law_1654 : decode cL_law 1654 = .ok (.iaload, 1) := de_46 by_1654
theorem dL_law_1655 : decode cL_law 1655 = .ok (.aload_n 3, 1) := de_45 by_1655
theorem dL_law_1656 : decode cL_law 1656 = .ok (.invokestatic 299, 3) := de_184 by_1656 by_1657 by_1658
theorem dL_law_1659 : decode cL_law 1659 = .ok (.istore 5, 2) := de_54 by_1659 by_1660
theorem dL_law_1661 : decode cL_law 1661 = .ok (.aload_n 2, 1) := de_44 by_1661
theorem dL_law_1662 : decode cL_law 1662 = .ok (.aload_n 0, 1) := de_42 by_1662
theorem dL_law_1663 : decode cL_law 1663 = .ok (.iload 4, 2) := de_21 by_1663 by_1664
theorem dL_law_1665 : decode cL_law 1665 = .ok (.iconst 1, 1) := de_4 by_1665
theorem dL_law_1666 : decode cL_law 1666 = .ok (.iadd, 1) := de_96 by_1666
theorem dL_law_1667 : decode cL_law 1667 = .ok (.iaload, 1) := de_46 by_1667
theorem dL_law_1668 : decode cL_law 1668 = .ok (.invokevirtual 301, 3) := de_182 by_1668 by_1669 by_1670
theorem dL_law_1671 : decode cL_law 1671 = .ok (.istore 6, 2) := de_54 by_1671 by_1672
theorem dL_law_1673 : decode cL_law 1673 = .ok (.goto 576, 3) := de_167 by_1673 by_1674 by_1675
theorem dL_law_1676 : decode cL_law 1676 = .ok (.aload_n 1, 1) := de_43 by_1676
theorem dL_law_1677 : decode cL_law 1677 = .ok (.aload_n 0, 1) := de_42 by_1677
theorem dL_law_1678 : decode cL_law 1678 = .ok (.iload 4, 2) := de_21 by_1678 by_1679
theorem dL_law_1680 : decode cL_law 1680 = .ok (.iconst 1, 1) := de_4 by_1680
theorem dL_law_1681 : decode cL_law 1681 = .ok (.iadd, 1) := de_96 by_1681
theorem dL_law_1682 : decode cL_law 1682 = .ok (.iaload, 1) := de_46 by_1682
theorem dL_law_1683 : decode cL_law 1683 = .ok (.aload_n 3, 1) := de_45 by_1683
theorem dL_law_1684 : decode cL_law 1684 = .ok (.invokestatic 302, 3) := de_184 by_1684 by_1685 by_1686
theorem dL_law_1687 : decode cL_law 1687 = .ok (.istore 5, 2) := de_54 by_1687 by_1688
theorem dL_law_1689 : decode cL_law 1689 = .ok (.aload_n 2, 1) := de_44 by_1689
theorem dL_law_1690 : decode cL_law 1690 = .ok (.aload_n 0, 1) := de_42 by_1690
theorem dL_law_1691 : decode cL_law 1691 = .ok (.iload 4, 2) := de_21 by_1691 by_1692
theorem dL_law_1693 : decode cL_law 1693 = .ok (.iconst 1, 1) := de_4 by_1693
theorem dL_law_1694 : decode cL_law 1694 = .ok (.iadd, 1) := de_96 by_1694
theorem dL_law_1695 : decode cL_law 1695 = .ok (.iaload, 1) := de_46 by_1695
theorem dL_law_1696 : decode cL_law 1696 = .ok (.invokevirtual 304, 3) := de_182 by_1696 by_1697 by_1698
theorem dL_law_1699 : decode cL_law 1699 = .ok (.astore 6, 2) := de_58 by_1699 by_1700
theorem dL_law_1701 : decode cL_law 1701 = .ok (.goto 548, 3) := de_167 by_1701 by_1702 by_1703
theorem dL_law_1704 : decode cL_law 1704 = .ok (.aload_n 1, 1) := de_43 by_1704
theorem dL_law_1705 : decode cL_law 1705 = .ok (.aload_n 0, 1) := de_42 by_1705
theorem dL_law_1706 : decode cL_law 1706 = .ok (.iload 4, 2) := de_21 by_1706 by_1707
theorem dL_law_1708 : decode cL_law 1708 = .ok (.iconst 1, 1) := de_4 by_1708
theorem dL_law_1709 : decode cL_law 1709 = .ok (.iadd, 1) := de_96 by_1709
theorem dL_law_1710 : decode cL_law 1710 = .ok (.iaload, 1) := de_46 by_1710
theorem dL_law_1711 : decode cL_law 1711 = .ok (.aload_n 0, 1) := de_42 by_1711
theorem dL_law_1712 : decode cL_law 1712 = .ok (.iload 4, 2) := de_21 by_1712 by_1713
theorem dL_law_1714 : decode cL_law 1714 = .ok (.iconst 2, 1) := de_5 by_1714
theorem dL_law_1715 : decode cL_law 1715 = .ok (.iadd, 1) := de_96 by_1715
theorem dL_law_1716 : decode cL_law 1716 = .ok (.iaload, 1) := de_46 by_1716
theorem dL_law_1717 : decode cL_law 1717 = .ok (.aload_n 0, 1) := de_42 by_1717
theorem dL_law_1718 : decode cL_law 1718 = .ok (.iload 4, 2) := de_21 by_1718 by_1719
theorem dL_law_1720 : decode cL_law 1720 = .ok (.iconst 3, 1) := de_6 by_1720
theorem dL_law_1721 : decode cL_law 1721 = .ok (.iadd, 1) := de_96 by_1721
theorem dL_law_1722 : decode cL_law 1722 = .ok (.iaload, 1) := de_46 by_1722
theorem dL_law_1723 : decode cL_law 1723 = .ok (.aload_n 3, 1) := de_45 by_1723
theorem dL_law_1724 : decode cL_law 1724 = .ok (.invokestatic 305, 3) := de_184 by_1724 by_1725 by_1726
theorem dL_law_1727 : decode cL_law 1727 = .ok (.istore 5, 2) := de_54 by_1727 by_1728
theorem dL_law_1729 : decode cL_law 1729 = .ok (.aload_n 2, 1) := de_44 by_1729
theorem dL_law_1730 : decode cL_law 1730 = .ok (.aload_n 0, 1) := de_42 by_1730
theorem dL_law_1731 : decode cL_law 1731 = .ok (.iload 4, 2) := de_21 by_1731 by_1732
theorem dL_law_1733 : decode cL_law 1733 = .ok (.iconst 1, 1) := de_4 by_1733
theorem dL_law_1734 : decode cL_law 1734 = .ok (.iadd, 1) := de_96 by_1734
theorem dL_law_1735 : decode cL_law 1735 = .ok (.iaload, 1) := de_46 by_1735
theorem dL_law_1736 : decode cL_law 1736 = .ok (.aload_n 0, 1) := de_42 by_1736
theorem dL_law_1737 : decode cL_law 1737 = .ok (.iload 4, 2) := de_21 by_1737 by_1738
theorem dL_law_1739 : decode cL_law 1739 = .ok (.iconst 2, 1) := de_5 by_1739
theorem dL_law_1740 : decode cL_law 1740 = .ok (.iadd, 1) := de_96 by_1740
theorem dL_law_1741 : decode cL_law 1741 = .ok (.iaload, 1) := de_46 by_1741
theorem dL_law_1742 : decode cL_law 1742 = .ok (.aload_n 0, 1) := de_42 by_1742
theorem dL_law_1743 : decode cL_law 1743 = .ok (.iload 4, 2) := de_21 by_1743 by_1744
theorem dL_law_1745 : decode cL_law 1745 = .ok (.iconst 3, 1) := de_6 by_1745
theorem dL_law_1746 : decode cL_law 1746 = .ok (.iadd, 1) := de_96 by_1746
theorem dL_law_1747 : decode cL_law 1747 = .ok (.iaload, 1) := de_46 by_1747
theorem dL_law_1748 : decode cL_law 1748 = .ok (.invokevirtual 307, 3) := de_182 by_1748 by_1749 by_1750
theorem dL_law_1751 : decode cL_law 1751 = .ok (.istore 6, 2) := de_54 by_1751 by_1752
theorem dL_law_1753 : decode cL_law 1753 = .ok (.goto 496, 3) := de_167 by_1753 by_1754 by_1755
theorem dL_law_1756 : decode cL_law 1756 = .ok (.aload_n 1, 1) := de_43 by_1756
theorem dL_law_1757 : decode cL_law 1757 = .ok (.aload_n 0, 1) := de_42 by_1757
theorem dL_law_1758 : decode cL_law 1758 = .ok (.iload 4, 2) := de_21 by_1758 by_1759
theorem dL_law_1760 : decode cL_law 1760 = .ok (.iconst 1, 1) := de_4 by_1760
theorem dL_law_1761 : decode cL_law 1761 = .ok (.iadd, 1) := de_96 by_1761
theorem dL_law_1762 : decode cL_law 1762 = .ok (.iaload, 1) := de_46 by_1762
theorem dL_law_1763 : decode cL_law 1763 = .ok (.aload_n 0, 1) := de_42 by_1763
theorem dL_law_1764 : decode cL_law 1764 = .ok (.iload 4, 2) := de_21 by_1764 by_1765
theorem dL_law_1766 : decode cL_law 1766 = .ok (.iconst 2, 1) := de_5 by_1766
theorem dL_law_1767 : decode cL_law 1767 = .ok (.iadd, 1) := de_96 by_1767
theorem dL_law_1768 : decode cL_law 1768 = .ok (.iaload, 1) := de_46 by_1768
theorem dL_law_1769 : decode cL_law 1769 = .ok (.aload_n 0, 1) := de_42 by_1769
theorem dL_law_1770 : decode cL_law 1770 = .ok (.iload 4, 2) := de_21 by_1770 by_1771
theorem dL_law_1772 : decode cL_law 1772 = .ok (.iconst 3, 1) := de_6 by_1772
theorem dL_law_1773 : decode cL_law 1773 = .ok (.iadd, 1) := de_96 by_1773
theorem dL_law_1774 : decode cL_law 1774 = .ok (.iaload, 1) := de_46 by_1774
theorem dL_law_1775 : decode cL_law 1775 = .ok (.aload_n 3, 1) := de_45 by_1775
theorem dL_law_1776 : decode cL_law 1776 = .ok (.invokestatic 308, 3) := de_184 by_1776 by_1777 by_1778
theorem dL_law_1779 : decode cL_law 1779 = .ok (.istore 5, 2) := de_54 by_1779 by_1780
theorem dL_law_1781 : decode cL_law 1781 = .ok (.aload_n 2, 1) := de_44 by_1781
theorem dL_law_1782 : decode cL_law 1782 = .ok (.aload_n 0, 1) := de_42 by_1782
theorem dL_law_1783 : decode cL_law 1783 = .ok (.iload 4, 2) := de_21 by_1783 by_1784
theorem dL_law_1785 : decode cL_law 1785 = .ok (.iconst 1, 1) := de_4 by_1785
theorem dL_law_1786 : decode cL_law 1786 = .ok (.iadd, 1) := de_96 by_1786
theorem dL_law_1787 : decode cL_law 1787 = .ok (.iaload, 1) := de_46 by_1787
theorem dL_law_1788 : decode cL_law 1788 = .ok (.aload_n 0, 1) := de_42 by_1788
theorem dL_law_1789 : decode cL_law 1789 = .ok (.iload 4, 2) := de_21 by_1789 by_1790
theorem dL_law_1791 : decode cL_law 1791 = .ok (.iconst 2, 1) := de_5 by_1791
theorem dL_law_1792 : decode cL_law 1792 = .ok (.iadd, 1) := de_96 by_1792
theorem dL_law_1793 : decode cL_law 1793 = .ok (.iaload, 1) := de_46 by_1793
theorem dL_law_1794 : decode cL_law 1794 = .ok (.aload_n 0, 1) := de_42 by_1794
theorem dL_law_1795 : decode cL_law 1795 = .ok (.iload 4, 2) := de_21 by_1795 by_1796
theorem dL_law_1797 : decode cL_law 1797 = .ok (.iconst 3, 1) := de_6 by_1797
theorem dL_law_1798 : decode cL_law 1798 = .ok (.iadd, 1) := de_96 by_1798
theorem dL_law_1799 : decode cL_law 1799 = .ok (.iaload, 1) := de_46 by_1799
theorem dL_law_1800 : decode cL_law 1800 = .ok (.invokevirtual 310, 3) := de_182 by_1800 by_1801 by_1802
theorem dL_law_1803 : decode cL_law 1803 = .ok (.istore 6, 2) := de_54 by_1803 by_1804
theorem dL_law_1805 : decode cL_law 1805 = .ok (.goto 444, 3) := de_167 by_1805 by_1806 by_1807
theorem dL_law_1808 : decode cL_law 1808 = .ok (.aload_n 1, 1) := de_43 by_1808
theorem dL_law_1809 : decode cL_law 1809 = .ok (.aload_n 0, 1) := de_42 by_1809
theorem dL_law_1810 : decode cL_law 1810 = .ok (.iload 4, 2) := de_21 by_1810 by_1811
theorem dL_law_1812 : decode cL_law 1812 = .ok (.iconst 1, 1) := de_4 by_1812
theorem dL_law_1813 : decode cL_law 1813 = .ok (.iadd, 1) := de_96 by_1813
theorem dL_law_1814 : decode cL_law 1814 = .ok (.iaload, 1) := de_46 by_1814
theorem dL_law_1815 : decode cL_law 1815 = .ok (.aload_n 0, 1) := de_42 by_1815
theorem dL_law_1816 : decode cL_law 1816 = .ok (.iload 4, 2) := de_21 by_1816 by_1817
theorem dL_law_1818 : decode cL_law 1818 = .ok (.iconst 2, 1) := de_5 by_1818
theorem dL_law_1819 : decode cL_law 1819 = .ok (.iadd, 1) := de_96 by_1819
theorem dL_law_1820 : decode cL_law 1820 = .ok (.iaload, 1) := de_46 by_1820
theorem dL_law_1821 : decode cL_law 1821 = .ok (.aload_n 3, 1) := de_45 by_1821
theorem dL_law_1822 : decode cL_law 1822 = .ok (.invokestatic 311, 3) := de_184 by_1822 by_1823 by_1824
theorem dL_law_1825 : decode cL_law 1825 = .ok (.istore 5, 2) := de_54 by_1825 by_1826
theorem dL_law_1827 : decode cL_law 1827 = .ok (.aload_n 2, 1) := de_44 by_1827
theorem dL_law_1828 : decode cL_law 1828 = .ok (.aload_n 0, 1) := de_42 by_1828
theorem dL_law_1829 : decode cL_law 1829 = .ok (.iload 4, 2) := de_21 by_1829 by_1830
theorem dL_law_1831 : decode cL_law 1831 = .ok (.iconst 1, 1) := de_4 by_1831
theorem dL_law_1832 : decode cL_law 1832 = .ok (.iadd, 1) := de_96 by_1832
theorem dL_law_1833 : decode cL_law 1833 = .ok (.iaload, 1) := de_46 by_1833
theorem dL_law_1834 : decode cL_law 1834 = .ok (.aload_n 0, 1) := de_42 by_1834
theorem dL_law_1835 : decode cL_law 1835 = .ok (.iload 4, 2) := de_21 by_1835 by_1836
theorem dL_law_1837 : decode cL_law 1837 = .ok (.iconst 2, 1) := de_5 by_1837
theorem dL_law_1838 : decode cL_law 1838 = .ok (.iadd, 1) := de_96 by_1838
theorem dL_law_1839 : decode cL_law 1839 = .ok (.iaload, 1) := de_46 by_1839
theorem dL_law_1840 : decode cL_law 1840 = .ok (.invokevirtual 313, 3) := de_182 by_1840 by_1841 by_1842
theorem dL_law_1843 : decode cL_law 1843 = .ok (.istore 6, 2) := de_54 by_1843 by_1844
theorem dL_law_1845 : decode cL_law 1845 = .ok (.goto 404, 3) := de_167 by_1845 by_1846 by_1847
theorem dL_law_1848 : decode cL_law 1848 = .ok (.aload_n 1, 1) := de_43 by_1848
theorem dL_law_1849 : decode cL_law 1849 = .ok (.aload_n 0, 1) := de_42 by_1849
theorem dL_law_1850 : decode cL_law 1850 = .ok (.iload 4, 2) := de_21 by_1850 by_1851
theorem dL_law_1852 : decode cL_law 1852 = .ok (.iconst 1, 1) := de_4 by_1852
theorem dL_law_1853 : decode cL_law 1853 = .ok (.iadd, 1) := de_96 by_1853
theorem dL_law_1854 : decode cL_law 1854 = .ok (.iaload, 1) := de_46 by_1854
theorem dL_law_1855 : decode cL_law 1855 = .ok (.aload_n 0, 1) := de_42 by_1855
theorem dL_law_1856 : decode cL_law 1856 = .ok (.iload 4, 2) := de_21 by_1856 by_1857
theorem dL_law_1858 : decode cL_law 1858 = .ok (.iconst 2, 1) := de_5 by_1858
theorem dL_law_1859 : decode cL_law 1859 = .ok (.iadd, 1) := de_96 by_1859
theorem dL_law_1860 : decode cL_law 1860 = .ok (.iaload, 1) := de_46 by_1860
theorem dL_law_1861 : decode cL_law 1861 = .ok (.aload_n 3, 1) := de_45 by_1861
theorem dL_law_1862 : decode cL_law 1862 = .ok (.invokestatic 314, 3) := de_184 by_1862 by_1863 by_1864
theorem dL_law_1865 : decode cL_law 1865 = .ok (.istore 5, 2) := de_54 by_1865 by_1866
theorem dL_law_1867 : decode cL_law 1867 = .ok (.aload_n 2, 1) := de_44 by_1867
theorem dL_law_1868 : decode cL_law 1868 = .ok (.aload_n 0, 1) := de_42 by_1868
theorem dL_law_1869 : decode cL_law 1869 = .ok (.iload 4, 2) := de_21 by_1869 by_1870
theorem dL_law_1871 : decode cL_law 1871 = .ok (.iconst 1, 1) := de_4 by_1871
theorem dL_law_1872 : decode cL_law 1872 = .ok (.iadd, 1) := de_96 by_1872
theorem dL_law_1873 : decode cL_law 1873 = .ok (.iaload, 1) := de_46 by_1873
theorem dL_law_1874 : decode cL_law 1874 = .ok (.aload_n 0, 1) := de_42 by_1874
theorem dL_law_1875 : decode cL_law 1875 = .ok (.iload 4, 2) := de_21 by_1875 by_1876
theorem dL_law_1877 : decode cL_law 1877 = .ok (.iconst 2, 1) := de_5 by_1877
theorem dL_law_1878 : decode cL_law 1878 = .ok (.iadd, 1) := de_96 by_1878
theorem dL_law_1879 : decode cL_law 1879 = .ok (.iaload, 1) := de_46 by_1879
theorem dL_law_1880 : decode cL_law 1880 = .ok (.invokevirtual 316, 3) := de_182 by_1880 by_1881 by_1882
theorem dL_law_1883 : decode cL_law 1883 = .ok (.istore 6, 2) := de_54 by_1883 by_1884
theorem dL_law_1885 : decode cL_law 1885 = .ok (.goto 364, 3) := de_167 by_1885 by_1886 by_1887
theorem dL_law_1888 : decode cL_law 1888 = .ok (.aload_n 1, 1) := de_43 by_1888
theorem dL_law_1889 : decode cL_law 1889 = .ok (.aload_n 0, 1) := de_42 by_1889
theorem dL_law_1890 : decode cL_law 1890 = .ok (.iload 4, 2) := de_21 by_1890 by_1891
theorem dL_law_1892 : decode cL_law 1892 = .ok (.iconst 1, 1) := de_4 by_1892
theorem dL_law_1893 : decode cL_law 1893 = .ok (.iadd, 1) := de_96 by_1893
theorem dL_law_1894 : decode cL_law 1894 = .ok (.iaload, 1) := de_46 by_1894
theorem dL_law_1895 : decode cL_law 1895 = .ok (.aload_n 0, 1) := de_42 by_1895
theorem dL_law_1896 : decode cL_law 1896 = .ok (.iload 4, 2) := de_21 by_1896 by_1897
theorem dL_law_1898 : decode cL_law 1898 = .ok (.iconst 2, 1) := de_5 by_1898
theorem dL_law_1899 : decode cL_law 1899 = .ok (.iadd, 1) := de_96 by_1899
theorem dL_law_1900 : decode cL_law 1900 = .ok (.iaload, 1) := de_46 by_1900
theorem dL_law_1901 : decode cL_law 1901 = .ok (.aload_n 3, 1) := de_45 by_1901
theorem dL_law_1902 : decode cL_law 1902 = .ok (.invokestatic 317, 3) := de_184 by_1902 by_1903 by_1904
theorem dL_law_1905 : decode cL_law 1905 = .ok (.istore 5, 2) := de_54 by_1905 by_1906
theorem dL_law_1907 : decode cL_law 1907 = .ok (.aload_n 2, 1) := de_44 by_1907
theorem dL_law_1908 : decode cL_law 1908 = .ok (.aload_n 0, 1) := de_42 by_1908
theorem dL_law_1909 : decode cL_law 1909 = .ok (.iload 4, 2) := de_21 by_1909 by_1910
theorem dL_law_1911 : decode cL_law 1911 = .ok (.iconst 1, 1) := de_4 by_1911
theorem dL_law_1912 : decode cL_law 1912 = .ok (.iadd, 1) := de_96 by_1912
theorem dL_law_1913 : decode cL_law 1913 = .ok (.iaload, 1) := de_46 by_1913
theorem dL_law_1914 : decode cL_law 1914 = .ok (.aload_n 0, 1) := de_42 by_1914
theorem dL_law_1915 : decode cL_law 1915 = .ok (.iload 4, 2) := de_21 by_1915 by_1916
theorem dL_law_1917 : decode cL_law 1917 = .ok (.iconst 2, 1) := de_5 by_1917
theorem dL_law_1918 : decode cL_law 1918 = .ok (.iadd, 1) := de_96 by_1918
theorem dL_law_1919 : decode cL_law 1919 = .ok (.iaload, 1) := de_46 by_1919
theorem dL_law_1920 : decode cL_law 1920 = .ok (.invokevirtual 319, 3) := de_182 by_1920 by_1921 by_1922
theorem dL_law_1923 : decode cL_law 1923 = .ok (.istore 6, 2) := de_54 by_1923 by_1924
theorem dL_law_1925 : decode cL_law 1925 = .ok (.goto 324, 3) := de_167 by_1925 by_1926 by_1927
theorem dL_law_1928 : decode cL_law 1928 = .ok (.aload_n 1, 1) := de_43 by_1928
theorem dL_law_1929 : decode cL_law 1929 = .ok (.aload_n 0, 1) := de_42 by_1929
theorem dL_law_1930 : decode cL_law 1930 = .ok (.iload 4, 2) := de_21 by_1930 by_1931
theorem dL_law_1932 : decode cL_law 1932 = .ok (.iconst 1, 1) := de_4 by_1932
theorem dL_law_1933 : decode cL_law 1933 = .ok (.iadd, 1) := de_96 by_1933
theorem dL_law_1934 : decode cL_law 1934 = .ok (.iaload, 1) := de_46 by_1934
theorem dL_law_1935 : decode cL_law 1935 = .ok (.aload_n 0, 1) := de_42 by_1935
theorem dL_law_1936 : decode cL_law 1936 = .ok (.iload 4, 2) := de_21 by_1936 by_1937
theorem dL_law_1938 : decode cL_law 1938 = .ok (.iconst 2, 1) := de_5 by_1938
theorem dL_law_1939 : decode cL_law 1939 = .ok (.iadd, 1) := de_96 by_1939
theorem dL_law_1940 : decode cL_law 1940 = .ok (.iaload, 1) := de_46 by_1940
theorem dL_law_1941 : decode cL_law 1941 = .ok (.aload_n 3, 1) := de_45 by_1941
theorem dL_law_1942 : decode cL_law 1942 = .ok (.invokestatic 320, 3) := de_184 by_1942 by_1943 by_1944
theorem dL_law_1945 : decode cL_law 1945 = .ok (.istore 5, 2) := de_54 by_1945 by_1946
theorem dL_law_1947 : decode cL_law 1947 = .ok (.aload_n 2, 1) := de_44 by_1947
theorem dL_law_1948 : decode cL_law 1948 = .ok (.aload_n 0, 1) := de_42 by_1948
theorem dL_law_1949 : decode cL_law 1949 = .ok (.iload 4, 2) := de_21 by_1949 by_1950
theorem dL_law_1951 : decode cL_law 1951 = .ok (.iconst 1, 1) := de_4 by_1951
theorem dL_law_1952 : decode cL_law 1952 = .ok (.iadd, 1) := de_96 by_1952
theorem dL_law_1953 : decode cL_law 1953 = .ok (.iaload, 1) := de_46 by_1953
theorem dL_law_1954 : decode cL_law 1954 = .ok (.aload_n 0, 1) := de_42 by_1954
theorem dL_law_1955 : decode cL_law 1955 = .ok (.iload 4, 2) := de_21 by_1955 by_1956
theorem dL_law_1957 : decode cL_law 1957 = .ok (.iconst 2, 1) := de_5 by_1957
theorem dL_law_1958 : decode cL_law 1958 = .ok (.iadd, 1) := de_96 by_1958
theorem dL_law_1959 : decode cL_law 1959 = .ok (.iaload, 1) := de_46 by_1959
theorem dL_law_1960 : decode cL_law 1960 = .ok (.invokevirtual 322, 3) := de_182 by_1960 by_1961 by_1962
theorem dL_law_1963 : decode cL_law 1963 = .ok (.istore 6, 2) := de_54 by_1963 by_1964
theorem dL_law_1965 : decode cL_law 1965 = .ok (.goto 284, 3) := de_167 by_1965 by_1966 by_1967
theorem dL_law_1968 : decode cL_law 1968 = .ok (.aload_n 1, 1) := de_43 by_1968
theorem dL_law_1969 : decode cL_law 1969 = .ok (.aload_n 0, 1) := de_42 by_1969
theorem dL_law_1970 : decode cL_law 1970 = .ok (.iload 4, 2) := de_21 by_1970 by_1971
theorem dL_law_1972 : decode cL_law 1972 = .ok (.iconst 1, 1) := de_4 by_1972
theorem dL_law_1973 : decode cL_law 1973 = .ok (.iadd, 1) := de_96 by_1973
theorem dL_law_1974 : decode cL_law 1974 = .ok (.iaload, 1) := de_46 by_1974
theorem dL_law_1975 : decode cL_law 1975 = .ok (.aload_n 0, 1) := de_42 by_1975
theorem dL_law_1976 : decode cL_law 1976 = .ok (.iload 4, 2) := de_21 by_1976 by_1977
theorem dL_law_1978 : decode cL_law 1978 = .ok (.iconst 2, 1) := de_5 by_1978
theorem dL_law_1979 : decode cL_law 1979 = .ok (.iadd, 1) := de_96 by_1979
theorem dL_law_1980 : decode cL_law 1980 = .ok (.iaload, 1) := de_46 by_1980
theorem dL_law_1981 : decode cL_law 1981 = .ok (.aload_n 0, 1) := de_42 by_1981
theorem dL_law_1982 : decode cL_law 1982 = .ok (.iload 4, 2) := de_21 by_1982 by_1983
theorem dL_law_1984 : decode cL_law 1984 = .ok (.iconst 3, 1) := de_6 by_1984
theorem dL_law_1985 : decode cL_law 1985 = .ok (.iadd, 1) := de_96 by_1985
theorem dL_law_1986 : decode cL_law 1986 = .ok (.iaload, 1) := de_46 by_1986
theorem dL_law_1987 : decode cL_law 1987 = .ok (.aload_n 3, 1) := de_45 by_1987
theorem dL_law_1988 : decode cL_law 1988 = .ok (.invokestatic 323, 3) := de_184 by_1988 by_1989 by_1990
theorem dL_law_1991 : decode cL_law 1991 = .ok (.istore 5, 2) := de_54 by_1991 by_1992
theorem dL_law_1993 : decode cL_law 1993 = .ok (.aload_n 2, 1) := de_44 by_1993
theorem dL_law_1994 : decode cL_law 1994 = .ok (.aload_n 0, 1) := de_42 by_1994
theorem dL_law_1995 : decode cL_law 1995 = .ok (.iload 4, 2) := de_21 by_1995 by_1996
theorem dL_law_1997 : decode cL_law 1997 = .ok (.iconst 1, 1) := de_4 by_1997
theorem dL_law_1998 : decode cL_law 1998 = .ok (.iadd, 1) := de_96 by_1998
theorem dL_law_1999 : decode cL_law 1999 = .ok (.iaload, 1) := de_46 by_1999
theorem dL_law_2000 : decode cL_law 2000 = .ok (.aload_n 0, 1) := de_42 by_2000
theorem dL_law_2001 : decode cL_law 2001 = .ok (.iload 4, 2) := de_21 by_2001 by_2002
theorem dL_law_2003 : decode cL_law 2003 = .ok (.iconst 2, 1) := de_5 by_2003
theorem dL_law_2004 : decode cL_law 2004 = .ok (.iadd, 1) := de_96 by_2004
theorem dL_law_2005 : decode cL_law 2005 = .ok (.iaload, 1) := de_46 by_2005
theorem dL_law_2006 : decode cL_law 2006 = .ok (.aload_n 0, 1) := de_42 by_2006
theorem dL_law_2007 : decode cL_law 2007 = .ok (.iload 4, 2) := de_21 by_2007 by_2008
theorem dL_law_2009 : decode cL_law 2009 = .ok (.iconst 3, 1) := de_6 by_2009
theorem dL_law_2010 : decode cL_law 2010 = .ok (.iadd, 1) := de_96 by_2010
theorem dL_law_2011 : decode cL_law 2011 = .ok (.iaload, 1) := de_46 by_2011
theorem dL_law_2012 : decode cL_law 2012 = .ok (.invokevirtual 325, 3) := de_182 by_2012 by_2013 by_2014
theorem dL_law_2015 : decode cL_law 2015 = .ok (.istore 6, 2) := de_54 by_2015 by_2016
theorem dL_law_2017 : decode cL_law 2017 = .ok (.goto 232, 3) := de_167 by_2017 by_2018 by_2019
theorem dL_law_2020 : decode cL_law 2020 = .ok (.aload_n 1, 1) := de_43 by_2020
theorem dL_law_2021 : decode cL_law 2021 = .ok (.aload_n 0, 1) := de_42 by_2021
theorem dL_law_2022 : decode cL_law 2022 = .ok (.iload 4, 2) := de_21 by_2022 by_2023
theorem dL_law_2024 : decode cL_law 2024 = .ok (.iconst 1, 1) := de_4 by_2024
theorem dL_law_2025 : decode cL_law 2025 = .ok (.iadd, 1) := de_96 by_2025
theorem dL_law_2026 : decode cL_law 2026 = .ok (.iaload, 1) := de_46 by_2026
theorem dL_law_2027 : decode cL_law 2027 = .ok (.aload_n 0, 1) := de_42 by_2027
theorem dL_law_2028 : decode cL_law 2028 = .ok (.iload 4, 2) := de_21 by_2028 by_2029
theorem dL_law_2030 : decode cL_law 2030 = .ok (.iconst 2, 1) := de_5 by_2030
theorem dL_law_2031 : decode cL_law 2031 = .ok (.iadd, 1) := de_96 by_2031
theorem dL_law_2032 : decode cL_law 2032 = .ok (.iaload, 1) := de_46 by_2032
theorem dL_law_2033 : decode cL_law 2033 = .ok (.aload_n 0, 1) := de_42 by_2033
theorem dL_law_2034 : decode cL_law 2034 = .ok (.iload 4, 2) := de_21 by_2034 by_2035
theorem dL_law_2036 : decode cL_law 2036 = .ok (.iconst 3, 1) := de_6 by_2036
theorem dL_law_2037 : decode cL_law 2037 = .ok (.iadd, 1) := de_96 by_2037
theorem dL_law_2038 : decode cL_law 2038 = .ok (.iaload, 1) := de_46 by_2038
theorem dL_law_2039 : decode cL_law 2039 = .ok (.aload_n 3, 1) := de_45 by_2039
theorem dL_law_2040 : decode cL_law 2040 = .ok (.invokestatic 326, 3) := de_184 by_2040 by_2041 by_2042
theorem dL_law_2043 : decode cL_law 2043 = .ok (.istore 5, 2) := de_54 by_2043 by_2044
theorem dL_law_2045 : decode cL_law 2045 = .ok (.aload_n 2, 1) := de_44 by_2045
theorem dL_law_2046 : decode cL_law 2046 = .ok (.aload_n 0, 1) := de_42 by_2046
theorem dL_law_2047 : decode cL_law 2047 = .ok (.iload 4, 2) := de_21 by_2047 by_2048
theorem dL_law_2049 : decode cL_law 2049 = .ok (.iconst 1, 1) := de_4 by_2049
theorem dL_law_2050 : decode cL_law 2050 = .ok (.iadd, 1) := de_96 by_2050
theorem dL_law_2051 : decode cL_law 2051 = .ok (.iaload, 1) := de_46 by_2051
theorem dL_law_2052 : decode cL_law 2052 = .ok (.aload_n 0, 1) := de_42 by_2052
theorem dL_law_2053 : decode cL_law 2053 = .ok (.iload 4, 2) := de_21 by_2053 by_2054
theorem dL_law_2055 : decode cL_law 2055 = .ok (.iconst 2, 1) := de_5 by_2055
theorem dL_law_2056 : decode cL_law 2056 = .ok (.iadd, 1) := de_96 by_2056
theorem dL_law_2057 : decode cL_law 2057 = .ok (.iaload, 1) := de_46 by_2057
theorem dL_law_2058 : decode cL_law 2058 = .ok (.aload_n 0, 1) := de_42 by_2058
theorem dL_law_2059 : decode cL_law 2059 = .ok (.iload 4, 2) := de_21 by_2059 by_2060
theorem dL_law_2061 : decode cL_law 2061 = .ok (.iconst 3, 1) := de_6 by_2061
theorem dL_law_2062 : decode cL_law 2062 = .ok (.iadd, 1) := de_96 by_2062
theorem dL_law_2063 : decode cL_law 2063 = .ok (.iaload, 1) := de_46 by_2063
theorem dL_law_2064 : decode cL_law 2064 = .ok (.invokevirtual 328, 3) := de_182 by_2064 by_2065 by_2066
theorem dL_law_2067 : decode cL_law 2067 = .ok (.istore 6, 2) := de_54 by_2067 by_2068
theorem dL_law_2069 : decode cL_law 2069 = .ok (.goto 180, 3) := de_167 by_2069 by_2070 by_2071
theorem dL_law_2072 : decode cL_law 2072 = .ok (.aload_n 1, 1) := de_43 by_2072
theorem dL_law_2073 : decode cL_law 2073 = .ok (.aload_n 0, 1) := de_42 by_2073
theorem dL_law_2074 : decode cL_law 2074 = .ok (.iload 4, 2) := de_21 by_2074 by_2075
theorem dL_law_2076 : decode cL_law 2076 = .ok (.iconst 1, 1) := de_4 by_2076
theorem dL_law_2077 : decode cL_law 2077 = .ok (.iadd, 1) := de_96 by_2077
theorem dL_law_2078 : decode cL_law 2078 = .ok (.iaload, 1) := de_46 by_2078
theorem dL_law_2079 : decode cL_law 2079 = .ok (.aload_n 3, 1) := de_45 by_2079
theorem dL_law_2080 : decode cL_law 2080 = .ok (.invokestatic 329, 3) := de_184 by_2080 by_2081 by_2082
theorem dL_law_2083 : decode cL_law 2083 = .ok (.istore 5, 2) := de_54 by_2083 by_2084
theorem dL_law_2085 : decode cL_law 2085 = .ok (.aload_n 2, 1) := de_44 by_2085
theorem dL_law_2086 : decode cL_law 2086 = .ok (.aload_n 0, 1) := de_42 by_2086
theorem dL_law_2087 : decode cL_law 2087 = .ok (.iload 4, 2) := de_21 by_2087 by_2088
theorem dL_law_2089 : decode cL_law 2089 = .ok (.iconst 1, 1) := de_4 by_2089
theorem dL_law_2090 : decode cL_law 2090 = .ok (.iadd, 1) := de_96 by_2090
theorem dL_law_2091 : decode cL_law 2091 = .ok (.iaload, 1) := de_46 by_2091
theorem dL_law_2092 : decode cL_law 2092 = .ok (.invokevirtual 331, 3) := de_182 by_2092 by_2093 by_2094
theorem dL_law_2095 : decode cL_law 2095 = .ok (.istore 6, 2) := de_54 by_2095 by_2096
theorem dL_law_2097 : decode cL_law 2097 = .ok (.goto 152, 3) := de_167 by_2097 by_2098 by_2099
theorem dL_law_2100 : decode cL_law 2100 = .ok (.aload_n 1, 1) := de_43 by_2100
theorem dL_law_2101 : decode cL_law 2101 = .ok (.aload_n 0, 1) := de_42 by_2101
theorem dL_law_2102 : decode cL_law 2102 = .ok (.iload 4, 2) := de_21 by_2102 by_2103
theorem dL_law_2104 : decode cL_law 2104 = .ok (.iconst 1, 1) := de_4 by_2104
theorem dL_law_2105 : decode cL_law 2105 = .ok (.iadd, 1) := de_96 by_2105
theorem dL_law_2106 : decode cL_law 2106 = .ok (.iaload, 1) := de_46 by_2106
theorem dL_law_2107 : decode cL_law 2107 = .ok (.aload_n 0, 1) := de_42 by_2107
theorem dL_law_2108 : decode cL_law 2108 = .ok (.iload 4, 2) := de_21 by_2108 by_2109
theorem dL_law_2110 : decode cL_law 2110 = .ok (.iconst 2, 1) := de_5 by_2110
theorem dL_law_2111 : decode cL_law 2111 = .ok (.iadd, 1) := de_96 by_2111
theorem dL_law_2112 : decode cL_law 2112 = .ok (.iaload, 1) := de_46 by_2112
theorem dL_law_2113 : decode cL_law 2113 = .ok (.aload_n 3, 1) := de_45 by_2113
theorem dL_law_2114 : decode cL_law 2114 = .ok (.invokestatic 332, 3) := de_184 by_2114 by_2115 by_2116
theorem dL_law_2117 : decode cL_law 2117 = .ok (.istore 5, 2) := de_54 by_2117 by_2118
theorem dL_law_2119 : decode cL_law 2119 = .ok (.aload_n 2, 1) := de_44 by_2119
theorem dL_law_2120 : decode cL_law 2120 = .ok (.aload_n 0, 1) := de_42 by_2120
theorem dL_law_2121 : decode cL_law 2121 = .ok (.iload 4, 2) := de_21 by_2121 by_2122
theorem dL_law_2123 : decode cL_law 2123 = .ok (.iconst 1, 1) := de_4 by_2123
theorem dL_law_2124 : decode cL_law 2124 = .ok (.iadd, 1) := de_96 by_2124
theorem dL_law_2125 : decode cL_law 2125 = .ok (.iaload, 1) := de_46 by_2125
theorem dL_law_2126 : decode cL_law 2126 = .ok (.aload_n 0, 1) := de_42 by_2126
theorem dL_law_2127 : decode cL_law 2127 = .ok (.iload 4, 2) := de_21 by_2127 by_2128
theorem dL_law_2129 : decode cL_law 2129 = .ok (.iconst 2, 1) := de_5 by_2129
theorem dL_law_2130 : decode cL_law 2130 = .ok (.iadd, 1) := de_96 by_2130
theorem dL_law_2131 : decode cL_law 2131 = .ok (.iaload, 1) := de_46 by_2131
theorem dL_law_2132 : decode cL_law 2132 = .ok (.invokevirtual 334, 3) := de_182 by_2132 by_2133 by_2134
theorem dL_law_2135 : decode cL_law 2135 = .ok (.istore 6, 2) := de_54 by_2135 by_2136
theorem dL_law_2137 : decode cL_law 2137 = .ok (.aload_n 2, 1) := de_44 by_2137
theorem dL_law_2138 : decode cL_law 2138 = .ok (.invokevirtual 335, 3) := de_182 by_2138 by_2139 by_2140
theorem dL_law_2141 : decode cL_law 2141 = .ok (.iload 5, 2) := de_21 by_2141 by_2142
theorem dL_law_2143 : decode cL_law 2143 = .ok (.if_icmp .eq 5, 3) := de_159 by_2143 by_2144 by_2145
theorem dL_law_2146 : decode cL_law 2146 = .ok (.iconst 0, 1) := de_3 by_2146
theorem dL_law_2147 : decode cL_law 2147 = .ok (.ireturn, 1) := de_172 by_2147
theorem dL_law_2148 : decode cL_law 2148 = .ok (.iload 5, 2) := de_21 by_2148 by_2149
theorem dL_law_2150 : decode cL_law 2150 = .ok (.ifCond .ne 16, 3) := de_154 by_2150 by_2151 by_2152
theorem dL_law_2153 : decode cL_law 2153 = .ok (.aload_n 3, 1) := de_45 by_2153
theorem dL_law_2154 : decode cL_law 2154 = .ok (.getfield 13, 3) := de_180 by_2154 by_2155 by_2156
theorem dL_law_2157 : decode cL_law 2157 = .ok (.iload 6, 2) := de_21 by_2157 by_2158
theorem dL_law_2159 : decode cL_law 2159 = .ok (.i2l, 1) := de_133 by_2159
theorem dL_law_2160 : decode cL_law 2160 = .ok (.lcmp, 1) := de_148 by_2160
theorem dL_law_2161 : decode cL_law 2161 = .ok (.ifCond .eq 5, 3) := de_153 by_2161 by_2162 by_2163
theorem dL_law_2164 : decode cL_law 2164 = .ok (.iconst 0, 1) := de_3 by_2164
theorem dL_law_2165 : decode cL_law 2165 = .ok (.ireturn, 1) := de_172 by_2165
theorem dL_law_2166 : decode cL_law 2166 = .ok (.goto 83, 3) := de_167 by_2166 by_2167 by_2168
theorem dL_law_2169 : decode cL_law 2169 = .ok (.aload_n 1, 1) := de_43 by_2169
theorem dL_law_2170 : decode cL_law 2170 = .ok (.invokevirtual 339, 3) := de_182 by_2170 by_2171 by_2172
theorem dL_law_2173 : decode cL_law 2173 = .ok (.pop, 1) := de_87 by_2173
theorem dL_law_2174 : decode cL_law 2174 = .ok (.aload_n 2, 1) := de_44 by_2174
theorem dL_law_2175 : decode cL_law 2175 = .ok (.invokevirtual 342, 3) := de_182 by_2175 by_2176 by_2177
theorem dL_law_2178 : decode cL_law 2178 = .ok (.pop, 1) := de_87 by_2178
theorem dL_law_2179 : decode cL_law 2179 = .ok (.goto 70, 3) := de_167 by_2179 by_2180 by_2181
theorem dL_law_2182 : decode cL_law 2182 = .ok (.aload_n 1, 1) := de_43 by_2182
theorem dL_law_2183 : decode cL_law 2183 = .ok (.aload_n 0, 1) := de_42 by_2183
theorem dL_law_2184 : decode cL_law 2184 = .ok (.iload 4, 2) := de_21 by_2184 by_2185
theorem dL_law_2186 : decode cL_law 2186 = .ok (.iconst 1, 1) := de_4 by_2186
theorem dL_law_2187 : decode cL_law 2187 = .ok (.iadd, 1) := de_96 by_2187
theorem dL_law_2188 : decode cL_law 2188 = .ok (.iaload, 1) := de_46 by_2188
theorem dL_law_2189 : decode cL_law 2189 = .ok (.aload_n 3, 1) := de_45 by_2189
theorem dL_law_2190 : decode cL_law 2190 = .ok (.invokestatic 343, 3) := de_184 by_2190 by_2191 by_2192
theorem dL_law_2193 : decode cL_law 2193 = .ok (.istore 5, 2) := de_54 by_2193 by_2194
theorem dL_law_2195 : decode cL_law 2195 = .ok (.aload_n 2, 1) := de_44 by_2195
theorem dL_law_2196 : decode cL_law 2196 = .ok (.aload_n 0, 1) := de_42 by_2196
theorem dL_law_2197 : decode cL_law 2197 = .ok (.iload 4, 2) := de_21 by_2197 by_2198
theorem dL_law_2199 : decode cL_law 2199 = .ok (.iconst 1, 1) := de_4 by_2199
theorem dL_law_2200 : decode cL_law 2200 = .ok (.iadd, 1) := de_96 by_2200
theorem dL_law_2201 : decode cL_law 2201 = .ok (.iaload, 1) := de_46 by_2201
theorem dL_law_2202 : decode cL_law 2202 = .ok (.invokevirtual 345, 3) := de_182 by_2202 by_2203 by_2204
theorem dL_law_2205 : decode cL_law 2205 = .ok (.istore 6, 2) := de_54 by_2205 by_2206
theorem dL_law_2207 : decode cL_law 2207 = .ok (.goto 42, 3) := de_167 by_2207 by_2208 by_2209
theorem dL_law_2210 : decode cL_law 2210 = .ok (.aload_n 1, 1) := de_43 by_2210
theorem dL_law_2211 : decode cL_law 2211 = .ok (.invokevirtual 346, 3) := de_182 by_2211 by_2212 by_2213
theorem dL_law_2214 : decode cL_law 2214 = .ok (.pop, 1) := de_87 by_2214
theorem dL_law_2215 : decode cL_law 2215 = .ok (.aload_n 2, 1) := de_44 by_2215
theorem dL_law_2216 : decode cL_law 2216 = .ok (.invokevirtual 349, 3) := de_182 by_2216 by_2217 by_2218
theorem dL_law_2219 : decode cL_law 2219 = .ok (.pop, 1) := de_87 by_2219
theorem dL_law_2220 : decode cL_law 2220 = .ok (.goto 29, 3) := de_167 by_2220 by_2221 by_2222
theorem dL_law_2223 : decode cL_law 2223 = .ok (.aload_n 1, 1) := de_43 by_2223
theorem dL_law_2224 : decode cL_law 2224 = .ok (.invokevirtual 350, 3) := de_182 by_2224 by_2225 by_2226
theorem dL_law_2227 : decode cL_law 2227 = .ok (.pop, 1) := de_87 by_2227
theorem dL_law_2228 : decode cL_law 2228 = .ok (.aload_n 2, 1) := de_44 by_2228
theorem dL_law_2229 : decode cL_law 2229 = .ok (.invokevirtual 354, 3) := de_182 by_2229 by_2230 by_2231
theorem dL_law_2232 : decode cL_law 2232 = .ok (.pop, 1) := de_87 by_2232
theorem dL_law_2233 : decode cL_law 2233 = .ok (.goto 16, 3) := de_167 by_2233 by_2234 by_2235
theorem dL_law_2236 : decode cL_law 2236 = .ok (.aload_n 1, 1) := de_43 by_2236
theorem dL_law_2237 : decode cL_law 2237 = .ok (.invokevirtual 355, 3) := de_182 by_2237 by_2238 by_2239
theorem dL_law_2240 : decode cL_law 2240 = .ok (.pop2, 1) := de_88 by_2240
theorem dL_law_2241 : decode cL_law 2241 = .ok (.aload_n 2, 1) := de_44 by_2241
theorem dL_law_2242 : decode cL_law 2242 = .ok (.invokevirtual 359, 3) := de_182 by_2242 by_2243 by_2244
theorem dL_law_2245 : decode cL_law 2245 = .ok (.pop2, 1) := de_88 by_2245
theorem dL_law_2246 : decode cL_law 2246 = .ok (.goto 3, 3) := de_167 by_2246 by_2247 by_2248
theorem dL_law_2249 : decode cL_law 2249 = .ok (.iinc 4 5, 3) := de_132 by_2249 by_2250 by_2251
theorem dL_law_2252 : decode cL_law 2252 = .ok (.goto (-2225), 3) := de_167 by_2252 by_2253 by_2254
theorem dL_law_2255 : decode cL_law 2255 = .ok (.iconst 1, 1) := de_4 by_2255
theorem dL_law_2256 : decode cL_law 2256 = .ok (.ireturn, 1) := de_172 by_2256
