-- values of the class and of the reference
theorem vv_ye {w : Int64} {d : DT} (h : pkD w d) (hd : dR d) : (m_X0_yearIn w).toInt32 = d.1 := by
  have b := hd.2
  exact Int32.toInt_inj.mp (ma_i (pk_yr h hd.1) (by omega) (by omega))
theorem vv_dy {w : Int64} {d : DT} {v : Int32} (h : pkD w d) (hd : dV d) (hv : v.toInt = dY d) : m_X0_dayInYear w = v := Int32.toInt_inj.mp (by rw [pk_dy h hd, hv])
theorem vv_lm {w : Int64} {d : DT} {v : Int32} (h : pkD w d) (hd : dV d) (hv : v.toInt = ml d.1.toInt d.2.1.toInt) : m_X0_monthLength (m_X0_monthIn w) (m_X0_isLeap (m_X0_yearIn w)) = v := by
  apply Int32.toInt_inj.mp
  rw [mo_F (pk_yr h hd) (show (m_X0_monthIn w).toInt = d.2.1.toInt by rw [pk_mo h hd]), hv]
theorem vv_ly {w : Int64} {d : DT} (h : pkD w d) (hd : dV d) : m_X0_yearLength (m_X0_yearIn w) = m_X3_lengthOf d.1 := Int32.toInt_inj.mp (by rw [yl_F (pk_yr h hd), lw_F rfl])
theorem vv_lp {w : Int64} {d : DT} (h : pkD w d) (hd : dV d) : m_X0_isLeap (m_X0_yearIn w) = m_X3_isLeap d.1 := by rw [lp_F (pk_yr h hd), lr_F rfl]
theorem vv_le {w : Int64} {d : DT} {v : Int32} (h : pkD w d) (hd : dV d) (hv : v.toInt = dY d) : m_X0_yearLength (m_X0_yearIn w) - m_X0_dayInYear w = m_X3_lengthOf d.1 - v := by rw [vv_ly h hd, vv_dy h hd hv]
theorem ia_fmod {p c : Int32} {x y : Int} (hp : p.toInt = x) (hc : c.toInt = y) (h0 : 1 < y) (h1 : -1000000000 ≤ x) (h2 : x ≤ 1000000000) (h3 : y ≤ 1000000) (h4 : 0 ≤ (p ^^^ c) ↔ 0 ≤ x) : (m_J9_floorMod_7cf53 p c).toInt = x % y := by
  have hr := ia_rem hp hc h0
  have hm1 := Int.emod_nonneg x (show y ≠ 0 by omega)
  have hm2 := Int.emod_lt_of_pos x (show 0 < y by omega)
  unfold m_J9_floorMod_7cf53
  by_cases hx : 0 ≤ x
  · rw [if_pos (h4.mpr hx), hr]
    exact Int.tmod_eq_emod_of_nonneg hx
  · rw [if_neg (fun h => hx (h4.mp h))]
    have h9 := Int.tmod_eq_emod (a := x) (b := y)
    by_cases hz : p - p / c * c = 0
    · rw [if_pos hz, hr]
      have := Int.dvd_of_emod_eq_zero ((ia_rem0 hp hc h0).mp hz)
      rw [Int.tmod_eq_zero_of_dvd this, (ia_rem0 hp hc h0).mp hz]
    · rw [if_neg hz]
      have hne : ¬ x % y = 0 := fun g => hz ((ia_rem0 hp hc h0).mpr g)
      have t1 : x.tmod y = x % y - y := by
        rw [h9, if_neg (fun g => g.elim hx (fun q => hne (Int.emod_eq_zero_of_dvd q)))]
        have : (y.natAbs : Int) = y := by omega
        rw [this]
      rw [ia_add hr hc (by omega) (by omega), t1]; omega
theorem ia_xor (p c : Int32) (hc : 0 ≤ c.toInt) : (0 ≤ p ^^^ c) ↔ 0 ≤ p.toInt := by
  have e : (p ^^^ c).toInt < 0 ↔ p.toInt < 0 := by
    show (p ^^^ c).toBitVec.toInt < 0 ↔ p.toBitVec.toInt < 0
    rw [Int32.toBitVec_xor]
    have h1 := BitVec.msb_eq_toInt (x := p.toBitVec ^^^ c.toBitVec)
    have h2 := BitVec.msb_eq_toInt (x := p.toBitVec)
    have h3 := BitVec.msb_eq_toInt (x := c.toBitVec)
    rw [BitVec.msb_xor, h2, h3] at h1
    have h4 : ¬ c.toBitVec.toInt < 0 := Int.not_lt.mpr hc
    rw [decide_eq_false h4, Bool.xor_false] at h1
    exact (decide_eq_decide.mp h1).symm
  rw [Int32.le_iff_toInt_le]
  show 0 ≤ (p ^^^ c).toInt ↔ _
  omega
theorem vv_dw {a : Int32} {p : Int64} {x : Int} (ha : a.toInt = x) (hp : p.toInt = x) (h1 : -900000000 ≤ x) (h2 : x ≤ 900000000) : m_X0_dayInWeek a = m_X3_weekDay p := by
  have e1 := ia_add ha (show (3 : Int32).toInt = 3 from rfl) (by omega) (by omega)
  have e2 := ia_fmod e1 (show (7 : Int32).toInt = 7 from rfl) (by decide) (by omega) (by omega) (by decide) (by rw [ia_xor _ _ (by decide), e1])
  have e3 := re_F (ma_add hp (show (3 : Int64).toInt = 3 from rfl) (by omega) (by omega)) (show (7 : Int64).toInt = 7 from rfl) (by decide) (by omega) (by omega) (by decide)
  have b1 := Int.emod_nonneg (x + 3) (show (7 : Int) ≠ 0 by decide)
  have b2 := Int.emod_lt_of_pos (x + 3) (show (0 : Int) < 7 by decide)
  apply Int32.toInt_inj.mp
  unfold m_X0_dayInWeek m_X3_weekDay
  rw [ia_add e2 (show (1 : Int32).toInt = 1 from rfl) (by omega) (by omega), ia_add (ma_i e3 (by omega) (by omega)) (show (1 : Int32).toInt = 1 from rfl) (by omega) (by omega)]
theorem dN_r {d : DT} (hd : dR d) : -4371587 ≤ dN d ∧ dN d ≤ 2932896 := by
  have b := dN_b hd.1
  have l := nF_lo; have u := nF_hi
  have b1 : nF (-9999) ≤ nF d.1.toInt := by
    by_cases e : d.1.toInt = -9999
    · rw [e]; exact Int.le_refl _
    · exact Int.le_of_lt (nF_lt (by have := hd.2; omega))
  have b2 : nF (d.1.toInt + 1) ≤ nF 10000 := by
    by_cases e : d.1.toInt + 1 = 10000
    · rw [e]; exact Int.le_refl _
    · exact Int.le_of_lt (nF_lt (by have := hd.2; omega))
  omega
theorem td_e {p : Int32} {z : CS} (hp : m_X3_isNo p = 0) : m_X0_toDay p z = (0, (m_X0_numberOf (m_X0_dateAt p z).2).toInt32) := by unfold m_X0_toDay; rw [if_pos (at_no.mpr hp)]
theorem td_1 {p : Int32} {z : CS} (hp : ¬ m_X3_isNo p = 0) : m_X0_toDay p z = (1, 0) := by unfold m_X0_toDay; rw [if_neg (fun g => hp (at_no.mp g)), at_c1 hp]
-- the methods that only tell
theorem sm_year (p0 : Int32) {z : CS} {w : MS} (h : sR z w) : sO (1, 2) z (m_X0_year p0 z) (o_X3_year p0 w) := by
  unfold m_X0_year o_X3_year
  refine O_at (fun hp => ?_) (fun hp => fx_1 hp (T_in one_ne (s_code h (by decide) rfl)))
  obtain ⟨hD, hd⟩ := at_R h hp
  exact fx_0 hp rfl rfl (T_ip rfl (T_g6 hp (s_val h (vv_ye hD hd))))
theorem sm_month (p0 : Int32) {z : CS} {w : MS} (h : sR z w) : sO (1, 2) z (m_X0_month p0 z) (o_X3_month p0 w) := by
  unfold m_X0_month o_X3_month
  refine O_at (fun hp => ?_) (fun hp => fx_1 hp (T_in one_ne (s_code h (by decide) rfl)))
  obtain ⟨hD, hd⟩ := at_R h hp
  exact fx_0 hp rfl rfl (T_ip rfl (T_g6 hp (s_val h (pk_mo hD hd.1))))
theorem sm_day (p0 : Int32) {z : CS} {w : MS} (h : sR z w) : sO (1, 2) z (m_X0_day p0 z) (o_X3_day p0 w) := by
  unfold m_X0_day o_X3_day
  refine O_at (fun hp => ?_) (fun hp => fx_1 hp (T_in one_ne (s_code h (by decide) rfl)))
  obtain ⟨hD, hd⟩ := at_R h hp
  exact fx_0 hp rfl rfl (T_ip rfl (T_g6 hp (s_val h (pk_da hD hd.1))))
theorem sm_dayOfYear (p0 : Int32) {z : CS} {w : MS} (h : sR z w) : sO (1, 2) z (m_X0_dayOfYear p0 z) (o_X3_dayOfYear p0 w) := by
  unfold m_X0_dayOfYear o_X3_dayOfYear
  refine O_at (fun hp => ?_) (fun hp => fx_1 hp (T_in one_ne (s_code h (by decide) rfl)))
  obtain ⟨hD, hd⟩ := at_R h hp
  exact fx_0 hp rfl rfl (T_ip rfl (T_g6 hp (v_iy hd.1 (fun v hv => s_val h (vv_dy hD hd.1 hv)))))
theorem sm_toDay (p0 : Int32) {z : CS} {w : MS} (h : sR z w) : sO (1, 2) z (m_X0_toDay p0 z) (o_X3_toDay p0 w) := by
  unfold m_X0_toDay o_X3_toDay
  refine O_at (fun hp => ?_) (fun hp => fx_1 hp (T_in one_ne (s_code h (by decide) rfl)))
  obtain ⟨hD, hd⟩ := at_R h hp
  exact fx_0 hp rfl rfl (T_ip rfl (T_g6 hp (v_nu hd.1 (fun v hv => s_val h (pk_nuI hD hd.1 hv)))))
theorem sm_lengthOfMonth (p0 : Int32) {z : CS} {w : MS} (h : sR z w) : sO (1, 2) z (m_X0_lengthOfMonth p0 z) (o_X3_lengthOfMonth p0 w) := by
  unfold m_X0_lengthOfMonth o_X3_lengthOfMonth
  refine O_at (fun hp => ?_) (fun hp => fx_1 hp (T_in one_ne (s_code h (by decide) rfl)))
  obtain ⟨hD, hd⟩ := at_R h hp
  exact fx_0 hp rfl rfl (T_ip rfl (T_g6 hp (T_g6 hp (T_lo hd.1 (fun v hv => s_val h (vv_lm hD hd.1 hv))))))
theorem sm_lengthOfYear (p0 : Int32) {z : CS} {w : MS} (h : sR z w) : sO (1, 2) z (m_X0_lengthOfYear p0 z) (o_X3_lengthOfYear p0 w) := by
  unfold m_X0_lengthOfYear o_X3_lengthOfYear
  refine O_at (fun hp => ?_) (fun hp => fx_1 hp (T_in one_ne (s_code h (by decide) rfl)))
  obtain ⟨hD, hd⟩ := at_R h hp
  have e := vv_ly hD hd.1
  refine fx_0 hp rfl rfl (T_ip rfl (T_g6 hp ?_))
  with_reducible exact s_val h e
theorem sm_daysToYearEnd (p0 : Int32) {z : CS} {w : MS} (h : sR z w) : sO (1, 2) z (m_X0_daysToYearEnd p0 z) (o_X3_daysToYearEnd p0 w) := by
  unfold m_X0_daysToYearEnd o_X3_daysToYearEnd
  refine O_at (fun hp => ?_) (fun hp => fx_1 hp (T_in one_ne (s_code h (by decide) rfl)))
  obtain ⟨hD, hd⟩ := at_R h hp
  exact fx_0 hp rfl rfl (T_ip rfl (T_g6 hp (T_g6 hp (v_iy hd.1 (fun v hv => s_val h (vv_le hD hd.1 hv))))))
theorem sm_isLeapYear (p0 : Int32) {z : CS} {w : MS} (h : sR z w) : sO (1, 2) z (m_X0_isLeapYear p0 z) (o_X3_isLeapYear p0 w) := by
  unfold m_X0_isLeapYear o_X3_isLeapYear
  refine O_at (fun hp => ?_) (fun hp => fx_1 hp (T_in one_ne (s_code h (by decide) rfl)))
  obtain ⟨hD, hd⟩ := at_R h hp
  have e := vv_lp hD hd.1
  refine fx_0 hp rfl rfl (T_ip rfl (T_g6 hp (T_i (fun g => s_val h (e.trans g)) (fun g => s_val h ?_))))
  rw [e]
  have e2 := lr_F (p := (w.2.1 p0.toNatClampNeg).1) rfl
  by_cases q : leap (w.2.1 p0.toNatClampNeg).1.toInt
  · rw [e2, if_pos q]
  · exact absurd ((lr_0 rfl).mpr q) g
theorem sm_dayOfWeek (p0 : Int32) {z : CS} {w : MS} (h : sR z w) : sO (1, 2) z (m_X0_dayOfWeek p0 z) (o_X3_dayOfWeek p0 w) := by
  unfold m_X0_dayOfWeek o_X3_dayOfWeek
  by_cases hp : m_X3_isNo p0 = 0
  · obtain ⟨hD, hd⟩ := at_R h hp
    have b := dN_r hd
    rw [td_e hp, if_pos rfl]
    refine fx_0 hp rfl rfl (T_ip rfl (T_g6 hp (v_nu hd.1 (fun v hv => s_val h ?_))))
    have hv2 : v.toInt = dN (w.2.1 p0.toNatClampNeg) := hv
    exact vv_dw (by rw [pk_nuI hD hd.1 hv2]; exact hv2) (ma_l hv2) (by omega) (by omega)
  · rw [td_1 hp, if_neg (by decide)]
    exact fx_1 hp (T_in one_ne (s_code h (by decide) rfl))
theorem am_e (p : Int32) : m_X0_requireAmount p = m_X0_requireWithin p (-200000) 200000 := by
  unfold m_X0_requireAmount
  by_cases h : m_X0_requireWithin p (-200000) 200000 = 0
  · rw [if_pos h, h]
  · rw [if_neg h]
theorem un_e (p : Int32) : m_X0_requireUnit p = m_X0_requireWithin p 0 6 := by
  unfold m_X0_requireUnit
  by_cases h : m_X0_requireWithin p 0 6 = 0
  · rw [if_pos h, h]
  · rw [if_neg h]
theorem sm_laterDayOfWeek (p0 p1 : Int32) {z : CS} {w : MS} (h : sR z w) : sO (1, 2) z (m_X0_laterDayOfWeek p0 p1 z) (o_X3_laterDayOfWeek p0 p1 w) := by
  unfold m_X0_laterDayOfWeek o_X3_laterDayOfWeek
  rw [am_e]
  refine O_pl (fun hp => O_rw (A := -200000) (B := 200000) (by decide) (by decide) (fun hw => ?_) (fun hw => ?_)) (fun hp => ?_)
  · obtain ⟨hD, hd⟩ := at_R h hp
    have b := dN_r hd
    have b2 := i2_m hw
    rw [td_e hp, if_pos rfl]
    refine T_in hw (fx_0 hp rfl rfl (T_ip rfl (T_g6 hp (v_nu hd.1 (fun v hv => s_val h ?_)))))
    have hv2 : v.toInt = dN (w.2.1 p0.toNatClampNeg) := hv
    refine vv_dw (x := dN (w.2.1 p0.toNatClampNeg) + p1.toInt) ?_ (ma_add (ma_l hv2) (ma_l rfl) (by omega) (by omega)) (by omega) (by omega)
    show ((m_X0_numberOf (m_X0_dateAt p0 z).2).toInt32 + p1).toInt = _
    rw [pk_nuI hD hd.1 hv2]
    exact ia_add hv2 rfl (by omega) (by omega)
  · exact T_ip hw (fx_2 hp (by decide) (T_in one_ne (s_code h (by decide) rfl)))
  · exact T_i (fun _ => fx_1 hp (T_in one_ne (s_code h (by decide) rfl))) (fun _ => fx_1 hp (T_in one_ne (s_code h (by decide) rfl)))
theorem cp_E {D E : Int64} {d e : DT} (hD : pkD D d) (hE : pkD E e) (hd : dV d) (he : dV e) : o_X3_compared d e = some (m_J13_compare_74951 D E) := by
  have l1 := pd_le hD hE hd he
  have t1 := pd_lt hD hE hd he
  have t2 := pd_lt hE hD he hd
  have q : lg_cmp D E = 0 ↔ D.toInt = E.toInt := by rw [lg_cmp_eq, Int64.toInt_inj]
  unfold o_X3_compared m_J13_compare_74951
  by_cases h : dL d e
  · refine bs (ah_F d e) ?_
    rw [if_pos h, if_neg (by decide), if_neg (fun g => (l1.mp g) h)]
  · refine bs (ah_F d e) ?_
    rw [if_neg h, if_pos rfl, if_pos (l1.mpr h)]
    refine bs (ah_F e d) ?_
    by_cases g : dL e d
    · have n1 := t2.mpr g
      rw [if_pos g, if_neg (fun k => by have := q.mp k; omega)]; rfl
    · have n1 : ¬ E.toInt < D.toInt := fun k => g (t2.mp k)
      have n2 : ¬ D.toInt < E.toInt := fun k => h (t1.mp k)
      rw [if_neg g, if_pos (q.mpr (by omega))]; rfl
theorem sm_compare (p0 p1 : Int32) {z : CS} {w : MS} (h : sR z w) : sO (1, 2) z (m_X0_compare p0 p1 z) (o_X3_compare p0 p1 w) := by
  unfold m_X0_compare o_X3_compare
  refine O_at (fun hp => O_at (fun hq => ?_) (fun hq => an_2 hp hq (T_in one_ne (s_code h (by decide) rfl)))) (fun hp => an_1 hp (T_in one_ne (s_code h (by decide) rfl)))
  obtain ⟨hD, hd⟩ := at_R h hp
  obtain ⟨hE, he⟩ := at_R h hq
  have e := cp_E hD hE hd.1 he.1
  exact an_0 hp hq (T_ip rfl (T_g6 hp (T_g6 hq (T_b (Q := fun v => m_J13_compare_74951 (m_X0_dateAt p0 z).2 (m_X0_dateAt p1 z).2 = v) ⟨_, e, rfl⟩ (fun v hv => s_val h hv)))))
theorem O_v {k : Nat × Nat} {z : CS} {c : Prop} [Decidable c] {A B : Int32} {y : Option (Int32 × MS)} (h : sO k z (0, if c then A else B) y) : sO k z (if c then (0, A) else (0, B)) y := by
  by_cases g : c
  · rw [if_pos g] at h ⊢; exact h
  · rw [if_neg g] at h ⊢; exact h
theorem sm_isBefore (p0 p1 : Int32) {z : CS} {w : MS} (h : sR z w) : sO (1, 2) z (m_X0_isBefore p0 p1 z) (o_X3_isBefore p0 p1 w) := by
  unfold m_X0_isBefore o_X3_isBefore
  refine O_at (fun hp => O_at (fun hq => O_v ?_) (fun hq => an_2 hp hq (T_in one_ne (s_code h (by decide) rfl)))) (fun hp => an_1 hp (T_in one_ne (s_code h (by decide) rfl)))
  obtain ⟨hD, hd⟩ := at_R h hp
  obtain ⟨hE, he⟩ := at_R h hq
  have l := pd_le hD hE hd.1 he.1
  exact an_0 hp hq (T_ip rfl (T_g6 hp (T_g6 hq (v_ah (fun g => T_in one_ne (s_val h (if_neg (fun k => l.mp k g)))) (fun g => T_ip rfl (s_val h (if_pos (l.mpr g))))))))
theorem sm_isAfter (p0 p1 : Int32) {z : CS} {w : MS} (h : sR z w) : sO (1, 2) z (m_X0_isAfter p0 p1 z) (o_X3_isAfter p0 p1 w) := by
  unfold m_X0_isAfter o_X3_isAfter
  refine O_at (fun hp => O_at (fun hq => O_v ?_) (fun hq => an_2 hp hq (T_in one_ne (s_code h (by decide) rfl)))) (fun hp => an_1 hp (T_in one_ne (s_code h (by decide) rfl)))
  obtain ⟨hD, hd⟩ := at_R h hp
  obtain ⟨hE, he⟩ := at_R h hq
  have t := pd_lt hE hD he.1 hd.1
  have l : lg_cmp (m_X0_dateAt p0 z).2 (m_X0_dateAt p1 z).2 ≤ 0 ↔ ¬ dL (w.2.1 p1.toNatClampNeg) (w.2.1 p0.toNatClampNeg) := by
    rw [lg_cmp_le, Int64.le_iff_toInt_le, ← t]; omega
  exact an_0 hp hq (T_ip rfl (T_g6 hq (T_g6 hp (v_ah (fun g => T_in one_ne (s_val h (if_neg (fun k => l.mp k g)))) (fun g => T_ip rfl (s_val h (if_pos (l.mpr g))))))))
theorem lk_E (d e : DT) : o_X2_isLike d e = some (if d = e then 1 else 0) := by
  unfold o_X2_isLike
  by_cases h : d = e
  · subst h; rw [if_pos rfl, if_pos rfl, if_pos rfl, if_pos rfl]
  · rw [if_neg h]
    by_cases h1 : d.1 = e.1
    · rw [if_pos h1]
      by_cases h2 : d.2.1 = e.2.1
      · rw [if_pos h2]
        by_cases h3 : d.2.2 = e.2.2
        · exact absurd (Prod.ext h1 (Prod.ext h2 h3)) h
        · rw [if_neg h3]
      · rw [if_neg h2]
    · rw [if_neg h1]
theorem sm_isSame (p0 p1 : Int32) {z : CS} {w : MS} (h : sR z w) : sO (1, 2) z (m_X0_isSame p0 p1 z) (o_X3_isSame p0 p1 w) := by
  unfold m_X0_isSame o_X3_isSame
  refine O_at (fun hp => O_at (fun hq => O_v ?_) (fun hq => an_2 hp hq (T_in one_ne (s_code h (by decide) rfl)))) (fun hp => an_1 hp (T_in one_ne (s_code h (by decide) rfl)))
  obtain ⟨hD, hd⟩ := at_R h hp
  obtain ⟨hE, he⟩ := at_R h hq
  have q := pd_eq hD hE hd.1 he.1
  refine an_0 hp hq (T_ip rfl (T_g6 hp (T_g6 hq (T_b (Q := fun v => v = if w.2.1 p0.toNatClampNeg = w.2.1 p1.toNatClampNeg then 1 else 0) ⟨_, lk_E _ _, rfl⟩ (fun v hv => ?_)))))
  by_cases g : w.2.1 p0.toNatClampNeg = w.2.1 p1.toNatClampNeg
  · rw [if_pos g] at hv; subst hv
    exact T_in one_ne (s_val h (if_pos (q.mpr g)))
  · rw [if_neg g] at hv; subst hv
    exact T_ip rfl (s_val h (if_neg (fun k => g (q.mp k))))
theorem sm_ofSpan (p0 p1 : Int32) {z : CS} {w : MS} (h : sR z w) : sO (1, 2) z (m_X0_ofSpan p0 p1 z) (o_X3_ofSpan p0 p1 w) := by
  unfold m_X0_ofSpan o_X3_ofSpan
  refine O_sp (fun hp => O_rw (A := 0) (B := 2) (by decide) (by decide) (fun hw => ?_) (fun hw => ?_)) (fun hp => ?_)
  · refine T_in hw (fx_0 hp rfl rfl (T_ip rfl (T_g2 hp (T_g3 hw ?_))))
    have hb := ps_F.mp hp
    have e0 : p0.toNatClampNeg = p0.toInt.toNat := rfl
    have hs := (h.2.1 p0.toNatClampNeg (by omega)).1
    have hk : 0 ≤ p1.toInt ∧ p1.toInt ≤ 2 := i2_F hw
    have e1 := i32_eq (p := p1) rfl 0
    have e2 := i32_eq (p := p1) rfl 1
    have e3 := i32_eq (p := p1) rfl 2
    rcases (show p1 = 0 ∨ p1 = 1 ∨ p1 = 2 by rw [e1, e2, e3]; show p1.toInt = 0 ∨ p1.toInt = 1 ∨ p1.toInt = 2; omega) with rfl | rfl | rfl
    · rw [if_pos rfl]; exact s_val h hs.1
    · rw [if_neg (by decide), if_pos rfl]; exact s_val h hs.2.1
    · rw [if_neg (by decide), if_neg (by decide)]; exact s_val h hs.2.2
  · exact T_ip hw (fx_2 hp (by decide) (T_in one_ne (s_code h (by decide) rfl)))
  · exact T_i (fun _ => fx_1 hp (T_in one_ne (s_code h (by decide) rfl))) (fun _ => fx_1 hp (T_in one_ne (s_code h (by decide) rfl)))
theorem fo_E {D : Int64} {d : DT} (h : pkD D d) (hd : dR d) {i : Int32} (hi : ¬ m_X3_isIn i.toInt64 0 5 = 0) :
    o_X3_fieldOf d i = some (if i = 0 then m_X0_placeInRound (m_X0_dayIn D) else if i = 1 then m_X0_roundOf (m_X0_dayIn D) else if i = 2 then m_X0_placeInRound (m_X0_dayInYear D) else if i = 3 then m_X0_roundOf (m_X0_dayInYear D) else if i = 4 then m_X0_yearOfEra (m_X0_yearIn D).toInt32 else if lg_cmp (m_X0_yearIn D) 1 < 0 then 0 else 1) := by
  obtain ⟨v, e, ev⟩ := iy_F hd.1
  have e1 := vv_dy h hd.1 ev
  have e2 := pk_da h hd.1
  have e3 := vv_ye h hd
  have e4 := pk_yr h hd.1
  have hk : 0 ≤ i.toInt ∧ i.toInt ≤ 5 := i2_F hi
  have q0 := i32_eq (p := i) rfl 0
  have q1 := i32_eq (p := i) rfl 1
  have q2 := i32_eq (p := i) rfl 2
  have q3 := i32_eq (p := i) rfl 3
  have q4 := i32_eq (p := i) rfl 4
  have q5 := i32_eq (p := i) rfl 5
  have c1 : d.1 < 1 ↔ d.1.toInt < 1 := ia_lt rfl rfl
  have c2 : d.1 ≤ 0 ↔ d.1.toInt ≤ 0 := ia_le rfl rfl
  have c3 : lg_cmp (m_X0_yearIn D) 1 < 0 ↔ d.1.toInt < 1 := by rw [lg_cmp_lt, Int64.lt_iff_toInt_lt, e4]; exact Iff.rfl
  unfold o_X3_fieldOf
  rw [e1, e2, e3]
  rcases (show i = 0 ∨ i = 1 ∨ i = 2 ∨ i = 3 ∨ i = 4 ∨ i = 5 by rw [q0, q1, q2, q3, q4, q5]; show i.toInt = 0 ∨ i.toInt = 1 ∨ i.toInt = 2 ∨ i.toInt = 3 ∨ i.toInt = 4 ∨ i.toInt = 5; omega) with rfl | rfl | rfl | rfl | rfl | rfl
  · rw [if_neg (by decide), if_neg (by decide), if_pos (by decide), if_pos rfl]; rfl
  · rw [if_neg (by decide), if_neg (by decide), if_neg (by decide), if_neg (by decide), if_pos rfl]; rfl
  · rw [if_pos (by decide)]; refine bs e ?_
    rw [if_neg (by decide), if_pos (by decide), if_neg (by decide), if_neg (by decide), if_pos rfl]; rfl
  · rw [if_pos (by decide)]; refine bs e ?_
    rw [if_neg (by decide), if_neg (by decide), if_neg (by decide), if_neg (by decide), if_neg (by decide), if_pos rfl]; rfl
  · rw [if_pos (by decide)]; refine bs e ?_
    rw [if_pos (by decide), if_neg (show ¬ (4 : Int32) = 0 by decide), if_neg (show ¬ (4 : Int32) = 1 by decide), if_neg (show ¬ (4 : Int32) = 2 by decide), if_neg (show ¬ (4 : Int32) = 3 by decide), if_pos (show (4 : Int32) = 4 from rfl)]
    unfold m_X0_yearOfEra
    by_cases g : d.1.toInt ≤ 0
    · rw [if_pos (c2.mpr g), if_neg (by decide), if_pos (c1.mpr (by omega))]
    · rw [if_neg (fun k => g (c2.mp k)), if_neg (by decide), if_neg (fun k => g (by have := c1.mp k; omega))]
  · rw [if_pos (by decide)]; refine bs e ?_
    rw [if_pos (by decide), if_neg (show ¬ (5 : Int32) = 0 by decide), if_neg (show ¬ (5 : Int32) = 1 by decide), if_neg (show ¬ (5 : Int32) = 2 by decide), if_neg (show ¬ (5 : Int32) = 3 by decide), if_neg (show ¬ (5 : Int32) = 4 by decide)]
    by_cases g : d.1.toInt ≤ 0
    · rw [if_pos (c2.mpr g), if_pos rfl, if_pos (c3.mpr (by omega))]; rfl
    · rw [if_neg (fun k => g (c2.mp k)), if_pos rfl, if_neg (fun k => g (by have := c3.mp k; omega))]; rfl
theorem O_6 {c0 c1 c2 c3 c4 c5 : Prop} [Decidable c0] [Decidable c1] [Decidable c2] [Decidable c3] [Decidable c4] [Decidable c5] {a0 a1 a2 a3 a4 a5 a6 : Int32} : (if c0 then ((0 : Nat), a0) else (if c1 then (0, a1) else (if c2 then (0, a2) else (if c3 then (0, a3) else (if c4 then (0, a4) else (if c5 then (0, a5) else (0, a6))))))) = (0, if c0 then a0 else if c1 then a1 else if c2 then a2 else if c3 then a3 else if c4 then a4 else if c5 then a5 else a6) := by
  repeat' split
  all_goals rfl
theorem sm_field (p0 p1 : Int32) {z : CS} {w : MS} (h : sR z w) : sO (1, 2) z (m_X0_field p0 p1 z) (o_X3_field p0 p1 w) := by
  unfold m_X0_field o_X3_field
  refine O_at (fun hp => O_rw (A := 0) (B := 5) (by decide) (by decide) (fun hw => ?_) (fun hw => ?_)) (fun hp => ?_)
  · obtain ⟨hD, hd⟩ := at_R h hp
    have e := fo_E hD hd hw
    rw [O_6]
    exact T_in hw (fx_0 hp rfl rfl (T_ip rfl (T_g6 hp (T_b (Q := fun v => _ = v) ⟨_, e, rfl⟩ (fun v hv => s_val h hv)))))
  · exact T_ip hw (fx_2 hp (by decide) (T_in one_ne (s_code h (by decide) rfl)))
  · exact T_i (fun _ => fx_1 hp (T_in one_ne (s_code h (by decide) rfl))) (fun _ => fx_1 hp (T_in one_ne (s_code h (by decide) rfl)))
theorem sm_sameDay (p0 p1 : Int32) {z : CS} {w : MS} (h : sR z w) : sO (1, 2) z (m_X0_sameDay p0 p1 z) (o_X3_sameDay p0 p1 w) := by
  unfold m_X0_sameDay o_X3_sameDay
  refine O_at (fun hp => O_ny (fun hy => ?_) (fun hy => fx_2 hp hy (T_in one_ne (s_code h (by decide) rfl)))) (fun hp => fx_1 hp (T_in one_ne (s_code h (by decide) rfl)))
  obtain ⟨hD, hd⟩ := at_R h hp
  have b := ny_F hy
  obtain ⟨e, g1, g2, g3, g4, g5⟩ := nr_F (p0 := p1) rfl (p1 := (w.2.1 p0.toNatClampNeg).2.1) rfl hd.1.1 hd.1.2.1 (p2 := (w.2.1 p0.toNatClampNeg).2.2) hd.1.2.2.1 (by omega) (by omega)
  have hf : pkD (m_X0_fittedDate p1.toInt64 (m_X0_monthIn (m_X0_dateAt p0 z).2) (m_X0_dayIn (m_X0_dateAt p0 z).2)) e := by
    refine pk_fi (by rw [ma_l rfl, g3]) (by rw [pk_mo hD hd.1, g4]) g2 ?_
    rw [pk_da hD hd.1, g5, g3, g4]
  refine fx_0 hp hy rfl (T_ip rfl (T_g6 hp (T_g6 hp (T_b (Q := fun x => x = e) ⟨_, g1, rfl⟩ (fun x hx => ?_)))))
  subst hx
  exact v_nu g2 (fun v hv => s_val h (pk_nuI hf g2 hv))
