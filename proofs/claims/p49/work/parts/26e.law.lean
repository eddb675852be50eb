def SI (r : CS × Int64 × MS) : Prop := sR r.1 r.2.2
theorem wk_0 {c1 c2 r : Nat} (h : wk c1 c2 r = 0) : r = 0 := by
  unfold wk at h
  by_cases e : r = 0
  · exact e
  · rw [if_neg e] at h
    by_cases e1 : r = c1
    · rw [if_pos e1] at h; exact absurd h (by decide)
    · rw [if_neg e1] at h
      by_cases e2 : r = c2
      · rw [if_pos e2] at h; exact absurd h (by decide)
      · rw [if_neg e2] at h; exact absurd h (by decide)
theorem sc_w {r : Nat} {a : Int32} {z2 : CS} {y : Option (Int32 × MS)} (ho : r = 0 ∨ r = 1) (hs : T (fun u => sQ (1, 2) r a z2 u) y) : T (fun u => sQ (1, 1) r a z2 u) y := by
  obtain ⟨u, e, h1, h2, h3⟩ := hs
  refine ⟨u, e, h1, ?_, h3⟩
  rcases ho with rfl | rfl <;> exact h2
theorem sc_I {c1 c2 r : Nat} {a : Int32} {z2 : CS} {v : Int64} {y : Option (Int32 × MS)} (hs : T (fun u => sQ (c1, c2) r a z2 u) y) : T SI (y.bind fun x_1 => ((o_X3_thrown x_1.2).bind fun x_2 => (if x_2.1 = wk c1 c2 r then (if wk c1 c2 r = 0 then (if lg_cmp (if r = 0 then a.toInt64 else v) x_1.1.toInt64 = 0 then some (z2, (if r = 0 then a.toInt64 else v), x_2.2) else none) else some (z2, (if r = 0 then a.toInt64 else v), x_2.2)) else none))) := by
  refine T_b hs (fun x hx => T_b (Q := fun t => t = (x.2.1, x.2)) ⟨_, rfl, rfl⟩ (fun t ht => ?_))
  subst ht
  obtain ⟨h1, h2, h3⟩ := hx
  refine T_ip h2 (T_i (fun e => T_ip ?_ (T_s h1)) (fun _ => T_s h1))
  have e0 : r = 0 := wk_0 e
  rw [if_pos e0, h3 e0]; exact (lg_cmp_eq _ _).mpr rfl
theorem sc_Z {c1 c2 r : Nat} {a : Int32} {z2 : CS} {v : Int64} {y : Option (Int32 × MS)} (hs : T (fun u => sQ (c1, c2) r a z2 u) y) : T SI (y.bind fun x_1 => ((o_X3_thrown x_1.2).bind fun x_2 => (if x_2.1 = wk c1 c2 r then (if wk c1 c2 r = 0 then (if x_1.1 = 0 then (if lg_cmp (if r = 0 then (if a = 0 then (0 : Int64) else 1) else v) (0 : Int64) = 0 then some (z2, (if r = 0 then (if a = 0 then (0 : Int64) else 1) else v), x_2.2) else none) else (if lg_cmp (if r = 0 then (if a = 0 then (0 : Int64) else 1) else v) (1 : Int64) = 0 then some (z2, (if r = 0 then (if a = 0 then (0 : Int64) else 1) else v), x_2.2) else none)) else some (z2, (if r = 0 then (if a = 0 then (0 : Int64) else 1) else v), x_2.2)) else none))) := by
  refine T_b hs (fun x hx => T_b (Q := fun t => t = (x.2.1, x.2)) ⟨_, rfl, rfl⟩ (fun t ht => ?_))
  subst ht
  obtain ⟨h1, h2, h3⟩ := hx
  refine T_ip h2 (T_i (fun e => T_i (fun g => T_ip ?_ (T_s h1)) (fun g => T_ip ?_ (T_s h1))) (fun _ => T_s h1))
  · have e0 : r = 0 := wk_0 e
    rw [if_pos e0, if_pos ((h3 e0).trans g)]; exact (lg_cmp_eq _ _).mpr rfl
  · have e0 : r = 0 := wk_0 e
    rw [if_pos e0, if_neg (fun q => g ((h3 e0).symm.trans q))]; exact (lg_cmp_eq _ _).mpr rfl
theorem st_0 (q1 q2 q3 q4 : Int32) (z : CS) (v : Int64) (zm : MS) (h : sR z zm) : T SI (o_lc_0 q1 q2 q3 q4 z v zm) := by
  unfold o_lc_0
  have ho := oc_of q1 q2 q3 q4 z
  refine T_in (fun g => g ?_) (T_b (sm_of q1 q2 q3 q4 h) (fun x hx => T_s hx.1))
  first | exact ho | omega
theorem st_1 (q1 q2 q3 q4 : Int32) (z : CS) (v : Int64) (zm : MS) (h : sR z zm) : T SI (o_lc_1 q1 q2 q3 q4 z v zm) := by
  unfold o_lc_1
  have ho := oc_ofDay q1 q2 z
  refine T_in (fun g => g ?_) (T_b (sm_ofDay q1 q2 h) (fun x hx => T_s hx.1))
  first | exact ho | omega
theorem st_2 (q1 q2 q3 q4 : Int32) (z : CS) (v : Int64) (zm : MS) (h : sR z zm) : T SI (o_lc_2 q1 q2 q3 q4 z v zm) := by
  unfold o_lc_2
  have ho := oc_ofYearDay q1 q2 q3 z
  refine T_in (fun g => g ?_) (T_b (sm_ofYearDay q1 q2 q3 h) (fun x hx => T_s hx.1))
  first | exact ho | omega
theorem st_3 (q1 q2 q3 q4 : Int32) (z : CS) (v : Int64) (zm : MS) (h : sR z zm) : T SI (o_lc_3 q1 q2 q3 q4 z v zm) := by
  unfold o_lc_3
  have ho := oc_copy q1 q2 z (cI_R h)
  refine T_in (fun g => g ?_) (T_b (sm_copy q1 q2 h) (fun x hx => T_s hx.1))
  first | exact ho | omega
theorem st_4 (q1 q2 q3 q4 : Int32) (z : CS) (v : Int64) (zm : MS) (h : sR z zm) : T SI (o_lc_4 q1 q2 q3 q4 z v zm) := by
  unfold o_lc_4
  have ho := oc_epoch q1 z (cI_R h)
  refine T_in (fun g => g ?_) (T_b (sm_epoch q1 h) (fun x hx => T_s hx.1))
  first | exact ho | omega
theorem st_5 (q1 q2 q3 q4 : Int32) (z : CS) (v : Int64) (zm : MS) (h : sR z zm) : T SI (o_lc_5 q1 q2 q3 q4 z v zm) := by
  unfold o_lc_5
  have ho := oc_swap q1 q2 z (cI_R h)
  refine T_in (fun g => g ?_) (T_b (sm_swap q1 q2 h) (fun x hx => T_s hx.1))
  first | exact ho | omega
theorem st_6 (q1 q2 q3 q4 : Int32) (z : CS) (v : Int64) (zm : MS) (h : sR z zm) : T SI (o_lc_6 q1 q2 q3 q4 z v zm) := by
  unfold o_lc_6
  have ho := oc_withYear q1 q2 z (cI_R h)
  refine T_in (fun g => g ?_) (T_b (sm_withYear q1 q2 h) (fun x hx => T_s hx.1))
  first | exact ho | omega
theorem st_7 (q1 q2 q3 q4 : Int32) (z : CS) (v : Int64) (zm : MS) (h : sR z zm) : T SI (o_lc_7 q1 q2 q3 q4 z v zm) := by
  unfold o_lc_7
  have ho := oc_withMonth q1 q2 z (cI_R h)
  refine T_in (fun g => g ?_) (T_b (sm_withMonth q1 q2 h) (fun x hx => T_s hx.1))
  first | exact ho | omega
theorem st_8 (q1 q2 q3 q4 : Int32) (z : CS) (v : Int64) (zm : MS) (h : sR z zm) : T SI (o_lc_8 q1 q2 q3 q4 z v zm) := by
  unfold o_lc_8
  have ho := oc_withDay q1 q2 z
  refine T_in (fun g => g ?_) (T_b (sm_withDay q1 q2 h) (fun x hx => T_s hx.1))
  first | exact ho | omega
theorem st_9 (q1 q2 q3 q4 : Int32) (z : CS) (v : Int64) (zm : MS) (h : sR z zm) : T SI (o_lc_9 q1 q2 q3 q4 z v zm) := by
  unfold o_lc_9
  have ho := oc_withDayOfYear q1 q2 z
  refine T_in (fun g => g ?_) (T_b (sm_withDayOfYear q1 q2 h) (fun x hx => T_s hx.1))
  first | exact ho | omega
theorem st_10 (q1 q2 q3 q4 : Int32) (z : CS) (v : Int64) (zm : MS) (h : sR z zm) : T SI (o_lc_10 q1 q2 q3 q4 z v zm) := by
  unfold o_lc_10
  have ho := oc_toFirst q1 z (cI_R h)
  refine T_in (fun g => g ?_) (T_b (sm_toFirst q1 h) (fun x hx => T_s hx.1))
  first | exact ho | omega
theorem st_11 (q1 q2 q3 q4 : Int32) (z : CS) (v : Int64) (zm : MS) (h : sR z zm) : T SI (o_lc_11 q1 q2 q3 q4 z v zm) := by
  unfold o_lc_11
  have ho := oc_toLast q1 z (cI_R h)
  refine T_in (fun g => g ?_) (T_b (sm_toLast q1 h) (fun x hx => T_s hx.1))
  first | exact ho | omega
theorem st_12 (q1 q2 q3 q4 : Int32) (z : CS) (v : Int64) (zm : MS) (h : sR z zm) : T SI (o_lc_12 q1 q2 q3 q4 z v zm) := by
  unfold o_lc_12
  have ho := oc_plusDays q1 q2 z
  refine T_in (fun g => g ?_) (T_b (sm_plusDays q1 q2 h) (fun x hx => T_s hx.1))
  first | exact ho | omega
theorem st_13 (q1 q2 q3 q4 : Int32) (z : CS) (v : Int64) (zm : MS) (h : sR z zm) : T SI (o_lc_13 q1 q2 q3 q4 z v zm) := by
  unfold o_lc_13
  have ho := oc_plusWeeks q1 q2 z
  refine T_in (fun g => g ?_) (T_b (sm_plusWeeks q1 q2 h) (fun x hx => T_s hx.1))
  first | exact ho | omega
theorem st_14 (q1 q2 q3 q4 : Int32) (z : CS) (v : Int64) (zm : MS) (h : sR z zm) : T SI (o_lc_14 q1 q2 q3 q4 z v zm) := by
  unfold o_lc_14
  have ho := oc_plusMonths q1 q2 z
  refine T_in (fun g => g ?_) (T_b (sm_plusMonths q1 q2 h) (fun x hx => T_s hx.1))
  first | exact ho | omega
theorem st_15 (q1 q2 q3 q4 : Int32) (z : CS) (v : Int64) (zm : MS) (h : sR z zm) : T SI (o_lc_15 q1 q2 q3 q4 z v zm) := by
  unfold o_lc_15
  have ho := oc_plusYears q1 q2 z
  refine T_in (fun g => g ?_) (T_b (sm_plusYears q1 q2 h) (fun x hx => T_s hx.1))
  first | exact ho | omega
theorem st_16 (q1 q2 q3 q4 : Int32) (z : CS) (v : Int64) (zm : MS) (h : sR z zm) : T SI (o_lc_16 q1 q2 q3 q4 z v zm) := by
  unfold o_lc_16
  have ho := oc_minusDays q1 q2 z
  refine T_in (fun g => g ?_) (T_b (sm_minusDays q1 q2 h) (fun x hx => T_s hx.1))
  first | exact ho | omega
theorem st_17 (q1 q2 q3 q4 : Int32) (z : CS) (v : Int64) (zm : MS) (h : sR z zm) : T SI (o_lc_17 q1 q2 q3 q4 z v zm) := by
  unfold o_lc_17
  have ho := oc_minusWeeks q1 q2 z
  refine T_in (fun g => g ?_) (T_b (sm_minusWeeks q1 q2 h) (fun x hx => T_s hx.1))
  first | exact ho | omega
theorem st_18 (q1 q2 q3 q4 : Int32) (z : CS) (v : Int64) (zm : MS) (h : sR z zm) : T SI (o_lc_18 q1 q2 q3 q4 z v zm) := by
  unfold o_lc_18
  have ho := oc_minusMonths q1 q2 z
  refine T_in (fun g => g ?_) (T_b (sm_minusMonths q1 q2 h) (fun x hx => T_s hx.1))
  first | exact ho | omega
theorem st_19 (q1 q2 q3 q4 : Int32) (z : CS) (v : Int64) (zm : MS) (h : sR z zm) : T SI (o_lc_19 q1 q2 q3 q4 z v zm) := by
  unfold o_lc_19
  have ho := oc_minusYears q1 q2 z
  refine T_in (fun g => g ?_) (T_b (sm_minusYears q1 q2 h) (fun x hx => T_s hx.1))
  first | exact ho | omega
theorem st_20 (q1 q2 q3 q4 : Int32) (z : CS) (v : Int64) (zm : MS) (h : sR z zm) : T SI (o_lc_20 q1 q2 q3 q4 z v zm) := by
  unfold o_lc_20
  have ho := oc_span q1 q2 q3 q4 z
  refine T_in (fun g => g ?_) (T_b (sm_span q1 q2 q3 q4 h) (fun x hx => T_s hx.1))
  first | exact ho | omega
theorem st_21 (q1 q2 q3 q4 : Int32) (z : CS) (v : Int64) (zm : MS) (h : sR z zm) : T SI (o_lc_21 q1 q2 q3 q4 z v zm) := by
  unfold o_lc_21
  have ho := oc_until q1 q2 q3 z
  refine T_in (fun g => g ?_) (T_b (sm_until q1 q2 q3 h) (fun x hx => T_s hx.1))
  first | exact ho | omega
theorem st_22 (q1 q2 q3 q4 : Int32) (z : CS) (v : Int64) (zm : MS) (h : sR z zm) : T SI (o_lc_22 q1 q2 q3 q4 z v zm) := by
  unfold o_lc_22
  have ho := oc_addSpan q1 q2 z
  refine T_in (fun g => g ?_) (T_b (sm_addSpan q1 q2 h) (fun x hx => T_s hx.1))
  first | exact ho | omega
theorem st_23 (q1 q2 q3 q4 : Int32) (z : CS) (v : Int64) (zm : MS) (h : sR z zm) : T SI (o_lc_23 q1 q2 q3 q4 z v zm) := by
  unfold o_lc_23
  have ho := oc_ofSpan q1 q2 z
  refine T_in (fun g => g ?_) (T_b (sm_ofSpan q1 q2 h) (fun x hx => T_s hx.1))
  first | exact ho | omega
theorem st_24 (q1 q2 q3 q4 : Int32) (z : CS) (v : Int64) (zm : MS) (h : sR z zm) : T SI (o_lc_24 q1 q2 q3 q4 z v zm) := by
  unfold o_lc_24
  have ho := oc_plusSpan q1 q2 z
  refine T_in (fun g => g ?_) (T_b (sm_plusSpan q1 q2 h) (fun x hx => T_s hx.1))
  first | exact ho | omega
theorem st_25 (q1 q2 q3 q4 : Int32) (z : CS) (v : Int64) (zm : MS) (h : sR z zm) : T SI (o_lc_25 q1 q2 q3 q4 z v zm) := by
  unfold o_lc_25
  have ho := oc_minusSpan q1 q2 z
  refine T_in (fun g => g ?_) (T_b (sm_minusSpan q1 q2 h) (fun x hx => T_s hx.1))
  first | exact ho | omega
theorem st_26 (q1 q2 q3 q4 : Int32) (z : CS) (v : Int64) (zm : MS) (h : sR z zm) : T SI (o_lc_26 q1 q2 q3 q4 z v zm) := by
  unfold o_lc_26
  have ho := oc_year q1 z
  refine T_in (fun g => g ?_) (T_b (sm_year q1 h) (fun x hx => T_s hx.1))
  first | exact ho | omega
theorem st_27 (q1 q2 q3 q4 : Int32) (z : CS) (v : Int64) (zm : MS) (h : sR z zm) : T SI (o_lc_27 q1 q2 q3 q4 z v zm) := by
  unfold o_lc_27
  have ho := oc_month q1 z
  refine T_in (fun g => g ?_) (T_b (sm_month q1 h) (fun x hx => T_s hx.1))
  first | exact ho | omega
theorem st_28 (q1 q2 q3 q4 : Int32) (z : CS) (v : Int64) (zm : MS) (h : sR z zm) : T SI (o_lc_28 q1 q2 q3 q4 z v zm) := by
  unfold o_lc_28
  have ho := oc_day q1 z
  refine T_in (fun g => g ?_) (T_b (sm_day q1 h) (fun x hx => T_s hx.1))
  first | exact ho | omega
theorem st_29 (q1 q2 q3 q4 : Int32) (z : CS) (v : Int64) (zm : MS) (h : sR z zm) : T SI (o_lc_29 q1 q2 q3 q4 z v zm) := by
  unfold o_lc_29
  have ho := oc_dayOfYear q1 z
  refine T_in (fun g => g ?_) (T_b (sm_dayOfYear q1 h) (fun x hx => T_s hx.1))
  first | exact ho | omega
theorem st_30 (q1 q2 q3 q4 : Int32) (z : CS) (v : Int64) (zm : MS) (h : sR z zm) : T SI (o_lc_30 q1 q2 q3 q4 z v zm) := by
  unfold o_lc_30
  have ho := oc_dayOfWeek q1 z
  refine T_in (fun g => g ?_) (T_b (sm_dayOfWeek q1 h) (fun x hx => T_s hx.1))
  first | exact ho | omega
theorem st_31 (q1 q2 q3 q4 : Int32) (z : CS) (v : Int64) (zm : MS) (h : sR z zm) : T SI (o_lc_31 q1 q2 q3 q4 z v zm) := by
  unfold o_lc_31
  have ho := oc_laterDayOfWeek q1 q2 z
  refine T_in (fun g => g ?_) (T_b (sm_laterDayOfWeek q1 q2 h) (fun x hx => T_s hx.1))
  first | exact ho | omega
theorem st_32 (q1 q2 q3 q4 : Int32) (z : CS) (v : Int64) (zm : MS) (h : sR z zm) : T SI (o_lc_32 q1 q2 q3 q4 z v zm) := by
  unfold o_lc_32
  have ho := oc_lengthOfMonth q1 z
  refine T_in (fun g => g ?_) (T_b (sm_lengthOfMonth q1 h) (fun x hx => T_s hx.1))
  first | exact ho | omega
theorem st_33 (q1 q2 q3 q4 : Int32) (z : CS) (v : Int64) (zm : MS) (h : sR z zm) : T SI (o_lc_33 q1 q2 q3 q4 z v zm) := by
  unfold o_lc_33
  have ho := oc_lengthOfYear q1 z
  refine T_in (fun g => g ?_) (T_b (sm_lengthOfYear q1 h) (fun x hx => T_s hx.1))
  first | exact ho | omega
theorem st_34 (q1 q2 q3 q4 : Int32) (z : CS) (v : Int64) (zm : MS) (h : sR z zm) : T SI (o_lc_34 q1 q2 q3 q4 z v zm) := by
  unfold o_lc_34
  have ho := oc_isLeapYear q1 z
  refine T_in (fun g => g ?_) (T_b (sm_isLeapYear q1 h) (fun x hx => T_s hx.1))
  first | exact ho | omega
theorem st_35 (q1 q2 q3 q4 : Int32) (z : CS) (v : Int64) (zm : MS) (h : sR z zm) : T SI (o_lc_35 q1 q2 q3 q4 z v zm) := by
  unfold o_lc_35
  have ho := oc_field q1 q2 z
  refine T_in (fun g => g ?_) (T_b (sm_field q1 q2 h) (fun x hx => T_s hx.1))
  first | exact ho | omega
theorem st_36 (q1 q2 q3 q4 : Int32) (z : CS) (v : Int64) (zm : MS) (h : sR z zm) : T SI (o_lc_36 q1 q2 q3 q4 z v zm) := by
  unfold o_lc_36
  have ho := oc_toDay q1 z
  refine T_in (fun g => g ?_) (T_b (sm_toDay q1 h) (fun x hx => T_s hx.1))
  first | exact ho | omega
theorem st_37 (q1 q2 q3 q4 : Int32) (z : CS) (v : Int64) (zm : MS) (h : sR z zm) : T SI (o_lc_37 q1 q2 q3 q4 z v zm) := by
  unfold o_lc_37
  obtain ⟨r, k, e, g⟩ := tx_any (p0 := q1) (cI_R h)
  exact T_b (Q := fun x => x.1 = 0 ∨ x.1 = 1) ⟨_, e, g⟩ (fun x hx => T_in (fun g => g hx) (T_b (sm_text q1 h) (fun y hy => T_s hy)))
theorem st_38 (q1 q2 q3 q4 : Int32) (z : CS) (v : Int64) (zm : MS) (h : sR z zm) : T SI (o_lc_38 q1 q2 q3 q4 z v zm) := by
  unfold o_lc_38
  have ho := oc_isDate q1 q2 q3 z
  refine T_in (fun g => g ?_) (T_b (sm_isDate q1 q2 q3 h) (fun x hx => T_s hx.1))
  first | exact ho | omega
theorem st_39 (q1 q2 q3 q4 : Int32) (z : CS) (v : Int64) (zm : MS) (h : sR z zm) : T SI (o_lc_39 q1 q2 q3 q4 z v zm) := by
  unfold o_lc_39
  have ho := oc_wouldBe q1 q2 q3 z
  refine T_in (fun g => g ?_) (T_b (sm_wouldBe q1 q2 q3 h) (fun x hx => T_s hx.1))
  first | exact ho | omega
theorem st_40 (q1 q2 q3 q4 : Int32) (z : CS) (v : Int64) (zm : MS) (h : sR z zm) : T SI (o_lc_40 q1 q2 q3 q4 z v zm) := by
  unfold o_lc_40
  have ho := oc_compare q1 q2 z
  refine T_in (fun g => g ?_) (T_b (sm_compare q1 q2 h) (fun x hx => T_s hx.1))
  first | exact ho | omega
theorem st_41 (q1 q2 q3 q4 : Int32) (z : CS) (v : Int64) (zm : MS) (h : sR z zm) : T SI (o_lc_41 q1 q2 q3 q4 z v zm) := by
  unfold o_lc_41
  have ho := oc_isBefore q1 q2 z
  refine T_in (fun g => g ?_) (T_b (sm_isBefore q1 q2 h) (fun x hx => T_s hx.1))
  first | exact ho | omega
theorem st_42 (q1 q2 q3 q4 : Int32) (z : CS) (v : Int64) (zm : MS) (h : sR z zm) : T SI (o_lc_42 q1 q2 q3 q4 z v zm) := by
  unfold o_lc_42
  have ho := oc_isAfter q1 q2 z
  refine T_in (fun g => g ?_) (T_b (sm_isAfter q1 q2 h) (fun x hx => T_s hx.1))
  first | exact ho | omega
theorem st_43 (q1 q2 q3 q4 : Int32) (z : CS) (v : Int64) (zm : MS) (h : sR z zm) : T SI (o_lc_43 q1 q2 q3 q4 z v zm) := by
  unfold o_lc_43
  have ho := oc_isSame q1 q2 z
  refine T_in (fun g => g ?_) (T_b (sm_isSame q1 q2 h) (fun x hx => T_s hx.1))
  first | exact ho | omega
theorem st_44 (q1 q2 q3 q4 : Int32) (z : CS) (v : Int64) (zm : MS) (h : sR z zm) : T SI (o_lc_44 q1 q2 q3 q4 z v zm) := by
  unfold o_lc_44
  have ho := oc_between q1 q2 q3 z
  refine T_in (fun g => g ?_) (T_b (sm_between q1 q2 q3 h) (fun x hx => T_s hx.1))
  first | exact ho | omega
theorem st_45 (q1 q2 q3 q4 : Int32) (z : CS) (v : Int64) (zm : MS) (h : sR z zm) : T SI (o_lc_45 q1 q2 q3 q4 z v zm) := by
  unfold o_lc_45
  have ho := oc_apart q1 q2 q3 z
  refine T_in (fun g => g ?_) (T_b (sm_apart q1 q2 q3 h) (fun x hx => T_s hx.1))
  first | exact ho | omega
theorem st_46 (q1 q2 q3 q4 : Int32) (z : CS) (v : Int64) (zm : MS) (h : sR z zm) : T SI (o_lc_46 q1 q2 q3 q4 z v zm) := by
  unfold o_lc_46
  have ho := oc_daysToYearEnd q1 z
  refine T_in (fun g => g ?_) (T_b (sm_daysToYearEnd q1 h) (fun x hx => T_s hx.1))
  first | exact ho | omega
theorem st_47 (q1 q2 q3 q4 : Int32) (z : CS) (v : Int64) (zm : MS) (h : sR z zm) : T SI (o_lc_47 q1 q2 q3 q4 z v zm) := by
  unfold o_lc_47
  have ho := oc_sameDay q1 q2 z
  refine T_in (fun g => g ?_) (sc_I (sm_sameDay q1 q2 h))
  first | exact ho | omega
theorem st_48 (q1 q2 q3 q4 : Int32) (z : CS) (v : Int64) (zm : MS) (h : sR z zm) : T SI (o_lc_48 q1 q2 q3 q4 z v zm) := by
  unfold o_lc_48
  have ho := (rs_reset (cI_R h)).1
  refine T_in (fun g => g ?_) (T_b (sm_reset h) (fun x hx => T_s hx.1))
  first | exact ho | omega
theorem st_49 (q1 q2 q3 q4 : Int32) (z : CS) (v : Int64) (zm : MS) (h : sR z zm) : T SI (o_lc_49 q1 q2 q3 q4 z v zm) := by
  unfold o_lc_49
  have ho := oc_house q1 z
  refine T_in (fun g => g ?_) (T_b (sm_house q1 h) (fun x hx => T_s hx.1))
  first | exact ho | omega
theorem st_50 (q1 q2 q3 q4 : Int32) (z : CS) (v : Int64) (zm : MS) (h : sR z zm) : T SI (o_lc_50 q1 q2 q3 q4 z v zm) := by
  unfold o_lc_50
  have ho := oc_knock z
  refine T_in (fun g => g ?_) (T_b (sm_knock h) (fun x hx => T_s hx.1))
  first | exact ho | omega
theorem st_51 (q1 q2 q3 q4 : Int32) (z : CS) (v : Int64) (zm : MS) (h : sR z zm) : T SI (o_lc_51 q1 q2 q3 q4 z v zm) := by
  unfold o_lc_51
  exact T_in (fun g => g (oc_isSound z)) (T_b (sm_isSound0 h) (fun x hx => T_s hx.1))
theorem st_52 (q1 q2 q3 q4 : Int32) (z : CS) (v : Int64) (zm : MS) (h : sR z zm) : T SI (o_lc_52 q1 q2 q3 q4 z v zm) := by
  unfold o_lc_52
  obtain ⟨r, e, g⟩ := dg_X0 (cI_R h)
  exact T_b (Q := fun x => x.1 = 0) ⟨r, e, g⟩ (fun x hx => T_in (fun g => g hx) (T_b (sm_digest0 h) (fun y hy => T_s hy)))
theorem st_all (t q1 q2 q3 q4 : Int32) (z : CS) (v : Int64) (zm : MS) (h : sR z zm) : T SI (o_step t q1 q2 q3 q4 z v zm) := by
  unfold o_step
  refine T_i (fun _ => st_0 q1 q2 q3 q4 z v zm h) (fun _ => ?_)
  refine T_i (fun _ => st_1 q1 q2 q3 q4 z v zm h) (fun _ => ?_)
  refine T_i (fun _ => st_2 q1 q2 q3 q4 z v zm h) (fun _ => ?_)
  refine T_i (fun _ => st_3 q1 q2 q3 q4 z v zm h) (fun _ => ?_)
  refine T_i (fun _ => st_4 q1 q2 q3 q4 z v zm h) (fun _ => ?_)
  refine T_i (fun _ => st_5 q1 q2 q3 q4 z v zm h) (fun _ => ?_)
  refine T_i (fun _ => st_6 q1 q2 q3 q4 z v zm h) (fun _ => ?_)
  refine T_i (fun _ => st_7 q1 q2 q3 q4 z v zm h) (fun _ => ?_)
  refine T_i (fun _ => st_8 q1 q2 q3 q4 z v zm h) (fun _ => ?_)
  refine T_i (fun _ => st_9 q1 q2 q3 q4 z v zm h) (fun _ => ?_)
  refine T_i (fun _ => st_10 q1 q2 q3 q4 z v zm h) (fun _ => ?_)
  refine T_i (fun _ => st_11 q1 q2 q3 q4 z v zm h) (fun _ => ?_)
  refine T_i (fun _ => st_12 q1 q2 q3 q4 z v zm h) (fun _ => ?_)
  refine T_i (fun _ => st_13 q1 q2 q3 q4 z v zm h) (fun _ => ?_)
  refine T_i (fun _ => st_14 q1 q2 q3 q4 z v zm h) (fun _ => ?_)
  refine T_i (fun _ => st_15 q1 q2 q3 q4 z v zm h) (fun _ => ?_)
  refine T_i (fun _ => st_16 q1 q2 q3 q4 z v zm h) (fun _ => ?_)
  refine T_i (fun _ => st_17 q1 q2 q3 q4 z v zm h) (fun _ => ?_)
  refine T_i (fun _ => st_18 q1 q2 q3 q4 z v zm h) (fun _ => ?_)
  refine T_i (fun _ => st_19 q1 q2 q3 q4 z v zm h) (fun _ => ?_)
  refine T_i (fun _ => st_20 q1 q2 q3 q4 z v zm h) (fun _ => ?_)
  refine T_i (fun _ => st_21 q1 q2 q3 q4 z v zm h) (fun _ => ?_)
  refine T_i (fun _ => st_22 q1 q2 q3 q4 z v zm h) (fun _ => ?_)
  refine T_i (fun _ => st_23 q1 q2 q3 q4 z v zm h) (fun _ => ?_)
  refine T_i (fun _ => st_24 q1 q2 q3 q4 z v zm h) (fun _ => ?_)
  refine T_i (fun _ => st_25 q1 q2 q3 q4 z v zm h) (fun _ => ?_)
  refine T_i (fun _ => st_26 q1 q2 q3 q4 z v zm h) (fun _ => ?_)
  refine T_i (fun _ => st_27 q1 q2 q3 q4 z v zm h) (fun _ => ?_)
  refine T_i (fun _ => st_28 q1 q2 q3 q4 z v zm h) (fun _ => ?_)
  refine T_i (fun _ => st_29 q1 q2 q3 q4 z v zm h) (fun _ => ?_)
  refine T_i (fun _ => st_30 q1 q2 q3 q4 z v zm h) (fun _ => ?_)
  refine T_i (fun _ => st_31 q1 q2 q3 q4 z v zm h) (fun _ => ?_)
  refine T_i (fun _ => st_32 q1 q2 q3 q4 z v zm h) (fun _ => ?_)
  refine T_i (fun _ => st_33 q1 q2 q3 q4 z v zm h) (fun _ => ?_)
  refine T_i (fun _ => st_34 q1 q2 q3 q4 z v zm h) (fun _ => ?_)
  refine T_i (fun _ => st_35 q1 q2 q3 q4 z v zm h) (fun _ => ?_)
  refine T_i (fun _ => st_36 q1 q2 q3 q4 z v zm h) (fun _ => ?_)
  refine T_i (fun _ => st_37 q1 q2 q3 q4 z v zm h) (fun _ => ?_)
  refine T_i (fun _ => st_38 q1 q2 q3 q4 z v zm h) (fun _ => ?_)
  refine T_i (fun _ => st_39 q1 q2 q3 q4 z v zm h) (fun _ => ?_)
  refine T_i (fun _ => st_40 q1 q2 q3 q4 z v zm h) (fun _ => ?_)
  refine T_i (fun _ => st_41 q1 q2 q3 q4 z v zm h) (fun _ => ?_)
  refine T_i (fun _ => st_42 q1 q2 q3 q4 z v zm h) (fun _ => ?_)
  refine T_i (fun _ => st_43 q1 q2 q3 q4 z v zm h) (fun _ => ?_)
  refine T_i (fun _ => st_44 q1 q2 q3 q4 z v zm h) (fun _ => ?_)
  refine T_i (fun _ => st_45 q1 q2 q3 q4 z v zm h) (fun _ => ?_)
  refine T_i (fun _ => st_46 q1 q2 q3 q4 z v zm h) (fun _ => ?_)
  refine T_i (fun _ => st_47 q1 q2 q3 q4 z v zm h) (fun _ => ?_)
  refine T_i (fun _ => st_48 q1 q2 q3 q4 z v zm h) (fun _ => ?_)
  refine T_i (fun _ => st_49 q1 q2 q3 q4 z v zm h) (fun _ => ?_)
  refine T_i (fun _ => st_50 q1 q2 q3 q4 z v zm h) (fun _ => ?_)
  refine T_i (fun _ => st_51 q1 q2 q3 q4 z v zm h) (fun _ => ?_)
  refine T_i (fun _ => st_52 q1 q2 q3 q4 z v zm h) (fun _ => ?_)
  exact T_s h
theorem law_all (xs : Nat → Int32) : ∀ (n j : Nat) (z : CS) (v : Int64) (zm : MS), sR z zm → o_law xs n j z v zm = some ()
  | 0, _, _, _, _, _ => rfl
  | n + 1, j, z, v, zm, h => by
    obtain ⟨r, e, h⟩ := st_all (xs j &&& 63) (xs (j + 1)) (xs (j + 2)) (xs (j + 3)) (xs (j + 4)) z v zm h
    exact bs e (law_all xs n (j + 5) r.1 r.2.1 r.2.2 h)
theorem z0_R : sR z0C z0M := by
  unfold z0C z0M
  refine ⟨fun i hi => ?_, fun s hs => ?_, rfl, rfl⟩
  · rcases (show i = 0 ∨ i = 1 ∨ i = 2 ∨ i = 3 ∨ i = 4 ∨ i = 5 by omega) with rfl | rfl | rfl | rfl | rfl | rfl <;> exact ⟨pk_ep, dR_ep⟩
  · have s0 : spB 0 := ⟨by decide, by decide⟩
    rcases (show s = 0 ∨ s = 1 by omega) with rfl | rfl <;> exact ⟨⟨rfl, rfl, rfl⟩, s0, s0, s0⟩
theorem law_total (xs : Nat → Int32) (n : Nat) : o_law xs n 0 z0C 0 z0M = some () := law_all xs n 0 _ _ _ z0_R
