theorem am_e (p : Int32) : m_X0_requireAmount p = m_X0_requireWithin p (-200000) 200000 := by
  unfold m_X0_requireAmount
  by_cases h : m_X0_requireWithin p (-200000) 200000 = 0
  · rw [if_pos h, h]
  · rw [if_neg h]
theorem un_e (p : Int32) : m_X0_requireUnit p = m_X0_requireWithin p 0 6 := by
  unfold m_X0_requireUnit
  by_cases h : m_X0_requireWithin p 0 6 = 0
  · rw [if_pos h, h]
  · rw [if_neg h]
theorem sm_laterDayOfWeek (p0 p1 : Int32) {z : CS} {w : MS} (h : sR z w) : sO (1, 2) z (m_X0_laterDayOfWeek p0 p1 z) (o_X3_laterDayOfWeek p0 p1 w) := by
  unfold m_X0_laterDayOfWeek o_X3_laterDayOfWeek
  rw [am_e]
  refine O_pl (fun hp => O_rw (A := -200000) (B := 200000) (by decide) (by decide) (fun hw => ?_) (fun hw => ?_)) (fun hp => ?_)
  · obtain ⟨hD, hd⟩ := at_R h hp
    have b := dN_r hd
    have b2 := i2_m hw
    rw [td_e hp, if_pos rfl]
    refine T_in hw (fx_0 hp rfl rfl (T_ip rfl (T_g6 hp (v_nu hd.1 (fun v hv => s_val h ?_)))))
    have hv2 : v.toInt = dN (w.2.1 p0.toNatClampNeg) := hv
    refine vv_dw (x := dN (w.2.1 p0.toNatClampNeg) + p1.toInt) ?_ (ma_add (ma_l hv2) (ma_l rfl) (by omega) (by omega)) (by omega) (by omega)
    show ((m_X0_numberOf (m_X0_dateAt p0 z).2).toInt32 + p1).toInt = _
    rw [pk_nuI hD hd.1 hv2]
    exact ia_add hv2 rfl (by omega) (by omega)
  · exact T_ip hw (fx_2 hp (by decide) (T_in one_ne (s_code h (by decide) rfl)))
  · exact T_i (fun _ => fx_1 hp (T_in one_ne (s_code h (by decide) rfl))) (fun _ => fx_1 hp (T_in one_ne (s_code h (by decide) rfl)))
theorem cp_E {D E : Int64} {d e : DT} (hD : pkD D d) (hE : pkD E e) (hd : dV d) (he : dV e) : o_X3_compared d e = some (m_J13_compare_74951 D E) := by
  have l1 := pd_le hD hE hd he
  have t1 := pd_lt hD hE hd he
  have t2 := pd_lt hE hD he hd
  have q : lg_cmp D E = 0 ↔ D.toInt = E.toInt := by rw [lg_cmp_eq, Int64.toInt_inj]
  unfold o_X3_compared m_J13_compare_74951
  by_cases h : dL d e
  · refine bs (ah_F d e) ?_
    rw [if_pos h, if_neg (by decide), if_neg (fun g => (l1.mp g) h)]
  · refine bs (ah_F d e) ?_
    rw [if_neg h, if_pos rfl, if_pos (l1.mpr h)]
    refine bs (ah_F e d) ?_
    by_cases g : dL e d
    · have n1 := t2.mpr g
      rw [if_pos g, if_neg (fun k => by have := q.mp k; omega)]; rfl
    · have n1 : ¬ E.toInt < D.toInt := fun k => g (t2.mp k)
      have n2 : ¬ D.toInt < E.toInt := fun k => h (t1.mp k)
      rw [if_neg g, if_pos (q.mpr (by omega))]; rfl
theorem sm_compare (p0 p1 : Int32) {z : CS} {w : MS} (h : sR z w) : sO (1, 2) z (m_X0_compare p0 p1 z) (o_X3_compare p0 p1 w) := by
  unfold m_X0_compare o_X3_compare
  refine O_at (fun hp => O_at (fun hq => ?_) (fun hq => an_2 hp hq (T_in one_ne (s_code h (by decide) rfl)))) (fun hp => an_1 hp (T_in one_ne (s_code h (by decide) rfl)))
  obtain ⟨hD, hd⟩ := at_R h hp
  obtain ⟨hE, he⟩ := at_R h hq
  have e := cp_E hD hE hd.1 he.1
  exact an_0 hp hq (T_ip rfl (T_g6 hp (T_g6 hq (T_b (Q := fun v => m_J13_compare_74951 (m_X0_dateAt p0 z).2 (m_X0_dateAt p1 z).2 = v) ⟨_, e, rfl⟩ (fun v hv => s_val h hv)))))
theorem O_v {k : Nat × Nat} {z : CS} {c : Prop} [Decidable c] {A B : Int32} {y : Option (Int32 × MS)} (h : sO k z (0, if c then A else B) y) : sO k z (if c then (0, A) else (0, B)) y := by
  by_cases g : c
  · rw [if_pos g] at h ⊢; exact h
  · rw [if_neg g] at h ⊢; exact h
theorem sm_isBefore (p0 p1 : Int32) {z : CS} {w : MS} (h : sR z w) : sO (1, 2) z (m_X0_isBefore p0 p1 z) (o_X3_isBefore p0 p1 w) := by
  unfold m_X0_isBefore o_X3_isBefore
  refine O_at (fun hp => O_at (fun hq => O_v ?_) (fun hq => an_2 hp hq (T_in one_ne (s_code h (by decide) rfl)))) (fun hp => an_1 hp (T_in one_ne (s_code h (by decide) rfl)))
  obtain ⟨hD, hd⟩ := at_R h hp
  obtain ⟨hE, he⟩ := at_R h hq
  have l := pd_le hD hE hd.1 he.1
  exact an_0 hp hq (T_ip rfl (T_g6 hp (T_g6 hq (v_ah (fun g => T_in one_ne (s_val h (if_neg (fun k => l.mp k g)))) (fun g => T_ip rfl (s_val h (if_pos (l.mpr g))))))))
theorem sm_isAfter (p0 p1 : Int32) {z : CS} {w : MS} (h : sR z w) : sO (1, 2) z (m_X0_isAfter p0 p1 z) (o_X3_isAfter p0 p1 w) := by
  unfold m_X0_isAfter o_X3_isAfter
  refine O_at (fun hp => O_at (fun hq => O_v ?_) (fun hq => an_2 hp hq (T_in one_ne (s_code h (by decide) rfl)))) (fun hp => an_1 hp (T_in one_ne (s_code h (by decide) rfl)))
  obtain ⟨hD, hd⟩ := at_R h hp
  obtain ⟨hE, he⟩ := at_R h hq
  have t := pd_lt hE hD he.1 hd.1
  have l : lg_cmp (m_X0_dateAt p0 z).2 (m_X0_dateAt p1 z).2 ≤ 0 ↔ ¬ dL (w.2.1 p1.toNatClampNeg) (w.2.1 p0.toNatClampNeg) := by
    rw [lg_cmp_le, Int64.le_iff_toInt_le, ← t]; omega
  exact an_0 hp hq (T_ip rfl (T_g6 hq (T_g6 hp (v_ah (fun g => T_in one_ne (s_val h (if_neg (fun k => l.mp k g)))) (fun g => T_ip rfl (s_val h (if_pos (l.mpr g))))))))
theorem lk_E (d e : DT) : o_X2_isLike d e = some (if d = e then 1 else 0) := by
  unfold o_X2_isLike
  by_cases h : d = e
  · subst h; rw [if_pos rfl, if_pos rfl, if_pos rfl, if_pos rfl]
  · rw [if_neg h]
    by_cases h1 : d.1 = e.1
    · rw [if_pos h1]
      by_cases h2 : d.2.1 = e.2.1
      · rw [if_pos h2]
        by_cases h3 : d.2.2 = e.2.2
        · exact absurd (Prod.ext h1 (Prod.ext h2 h3)) h
        · rw [if_neg h3]
      · rw [if_neg h2]
    · rw [if_neg h1]
theorem sm_isSame (p0 p1 : Int32) {z : CS} {w : MS} (h : sR z w) : sO (1, 2) z (m_X0_isSame p0 p1 z) (o_X3_isSame p0 p1 w) := by
  unfold m_X0_isSame o_X3_isSame
  refine O_at (fun hp => O_at (fun hq => O_v ?_) (fun hq => an_2 hp hq (T_in one_ne (s_code h (by decide) rfl)))) (fun hp => an_1 hp (T_in one_ne (s_code h (by decide) rfl)))
  obtain ⟨hD, hd⟩ := at_R h hp
  obtain ⟨hE, he⟩ := at_R h hq
  have q := pd_eq hD hE hd.1 he.1
  refine an_0 hp hq (T_ip rfl (T_g6 hp (T_g6 hq (T_b (Q := fun v => v = if w.2.1 p0.toNatClampNeg = w.2.1 p1.toNatClampNeg then 1 else 0) ⟨_, lk_E _ _, rfl⟩ (fun v hv => ?_)))))
  by_cases g : w.2.1 p0.toNatClampNeg = w.2.1 p1.toNatClampNeg
  · rw [if_pos g] at hv; subst hv
    exact T_in one_ne (s_val h (if_pos (q.mpr g)))
  · rw [if_neg g] at hv; subst hv
    exact T_ip rfl (s_val h (if_neg (fun k => g (q.mp k))))
theorem sm_ofSpan (p0 p1 : Int32) {z : CS} {w : MS} (h : sR z w) : sO (1, 2) z (m_X0_ofSpan p0 p1 z) (o_X3_ofSpan p0 p1 w) := by
  unfold m_X0_ofSpan o_X3_ofSpan
  refine O_sp (fun hp => O_rw (A := 0) (B := 2) (by decide) (by decide) (fun hw => ?_) (fun hw => ?_)) (fun hp => ?_)
  · refine T_in hw (fx_0 hp rfl rfl (T_ip rfl (T_g2 hp (T_g3 hw ?_))))
    have hb := ps_F.mp hp
    have e0 : p0.toNatClampNeg = p0.toInt.toNat := rfl
    have hs := (h.2.1 p0.toNatClampNeg (by omega)).1
    have hk : 0 ≤ p1.toInt ∧ p1.toInt ≤ 2 := i2_F hw
    have e1 := i32_eq (p := p1) rfl 0
    have e2 := i32_eq (p := p1) rfl 1
    have e3 := i32_eq (p := p1) rfl 2
    rcases (show p1 = 0 ∨ p1 = 1 ∨ p1 = 2 by rw [e1, e2, e3]; show p1.toInt = 0 ∨ p1.toInt = 1 ∨ p1.toInt = 2; omega) with rfl | rfl | rfl
    · rw [if_pos rfl]; exact s_val h hs.1
    · rw [if_neg (by decide), if_pos rfl]; exact s_val h hs.2.1
    · rw [if_neg (by decide), if_neg (by decide)]; exact s_val h hs.2.2
  · exact T_ip hw (fx_2 hp (by decide) (T_in one_ne (s_code h (by decide) rfl)))
  · exact T_i (fun _ => fx_1 hp (T_in one_ne (s_code h (by decide) rfl))) (fun _ => fx_1 hp (T_in one_ne (s_code h (by decide) rfl)))
