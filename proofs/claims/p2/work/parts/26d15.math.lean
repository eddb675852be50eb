-- moves, order, months: class against reference
theorem pk_fi {y : Int64} {m a : Int32} {d : DT} (hy : y.toInt = d.1.toInt) (hm : m = d.2.1) (hd : dV d) (ha : d.2.2.toInt = if a.toInt ≤ ml d.1.toInt d.2.1.toInt then a.toInt else ml d.1.toInt d.2.1.toInt) : pkD (m_X0_fittedDate y m a) d := by
  have em := mo_F hy (show m.toInt = d.2.1.toInt by rw [hm])
  unfold m_X0_fittedDate
  refine pk_of hd hy hm ?_
  apply Int32.toInt_inj.mp
  rw [ha]
  by_cases hc : a.toInt ≤ ml d.1.toInt d.2.1.toInt
  · rw [if_pos hc, if_neg (fun g => by have := (ia_lt em rfl).mp g; omega)]
  · rw [if_neg hc, if_pos ((ia_lt em rfl).mpr (by omega)), em]
theorem pk_ml {w : Int64} {d : DT} (h : pkD w d) (hd : dV d) {p : Int64} {x : Int} (hp : p.toInt = x) (h1 : -100000000000 ≤ x) (h2 : x ≤ 100000000000) :
    (∃ e, o_X3_later d p = some (some e) ∧ dV e ∧ pkD (m_X0_monthsLater w p) e) ∨ (o_X3_later d p = some none ∧ (-3000000000 ≤ x → x ≤ 3000000000 → m_X0_requireDate (m_X0_monthsLater w p) ≠ 0)) := by
  have ey := pk_yr h hd
  have em := pk_mo h hd
  have ea := pk_da h hd
  obtain ⟨v1, v2, v3, v4, v5, v6⟩ := id hd
  have e0 := ma_add (ma_sub (ma_add (ma_mul (show (12 : Int64).toInt = 12 from rfl) ey (by omega) (by omega)) (ma_l (a := m_X0_monthIn w) (show _ = d.2.1.toInt by rw [em])) (by omega) (by omega)) (show (1 : Int64).toInt = 1 from rfl) (by omega) (by omega)) hp (by omega) (by omega)
  have ef := ma_fdiv e0 (show (12 : Int64).toInt = 12 from rfl) (by decide)
  have eg := ma_fmod e0 (show (12 : Int64).toInt = 12 from rfl) (by decide)
  rcases la_F hd hp h1 h2 with ⟨hc, e1⟩ | ⟨hc, e, e1, e2, e3, e4, e5⟩
  · refine Or.inr ⟨e1, fun k1 k2 g => ?_⟩
    generalize hY : (12 * d.1.toInt + d.2.1.toInt - 1 + x) / 12 = Y at *
    generalize hM : (12 * d.1.toInt + d.2.1.toInt - 1 + x) % 12 = M at *
    have g2 := yOK_iff.mp g
    unfold m_X0_monthsLater m_X0_fittedDate at g2
    have ed : ∃ c : Int32, (if m_X0_monthLength (((m_J9_floorMod_f86c9 (((((12 : Int64) * (m_X0_yearIn w)) + ((m_X0_monthIn w).toInt64)) - (1 : Int64)) + p) (12 : Int64)).toInt32) + (1 : Int32)) (m_X0_isLeap (m_J9_floorDiv_f86c9 (((((12 : Int64) * (m_X0_yearIn w)) + ((m_X0_monthIn w).toInt64)) - (1 : Int64)) + p) (12 : Int64))) < m_X0_dayIn w then m_X0_monthLength (((m_J9_floorMod_f86c9 (((((12 : Int64) * (m_X0_yearIn w)) + ((m_X0_monthIn w).toInt64)) - (1 : Int64)) + p) (12 : Int64)).toInt32) + (1 : Int32)) (m_X0_isLeap (m_J9_floorDiv_f86c9 (((((12 : Int64) * (m_X0_yearIn w)) + ((m_X0_monthIn w).toInt64)) - (1 : Int64)) + p) (12 : Int64))) else m_X0_dayIn w) = c ∧ 0 ≤ c.toInt ∧ c.toInt ≤ 31 := by
      refine ⟨_, rfl, ?_⟩
      split
      · have := ma_mLen (((m_J9_floorMod_f86c9 (((((12 : Int64) * (m_X0_yearIn w)) + ((m_X0_monthIn w).toInt64)) - (1 : Int64)) + p) (12 : Int64)).toInt32) + (1 : Int32)) (m_X0_isLeap (m_J9_floorDiv_f86c9 (((((12 : Int64) * (m_X0_yearIn w)) + ((m_X0_monthIn w).toInt64)) - (1 : Int64)) + p) (12 : Int64)))
        omega
      · have := ml_b d.1.toInt d.2.1.toInt
        rw [ea]; omega
    obtain ⟨c, ec, c1, c2⟩ := ed
    rw [ec, ma_dateOf ef (ia_add (ma_i eg (by omega) (by omega)) (show (1 : Int32).toInt = 1 from rfl) (by omega) (by omega)) rfl (by omega) (by omega)] at g2
    exact hc (by omega)
  · refine Or.inl ⟨e, e1, e2, ?_⟩
    unfold m_X0_monthsLater
    refine pk_fi (by rw [ef, e3]) ?_ e2 (by rw [ea, e3, e4]; exact e5)
    apply Int32.toInt_inj.mp
    rw [e4, ia_add (ma_i eg (by omega) (by omega)) (show (1 : Int32).toInt = 1 from rfl) (by omega) (by omega)]
theorem pk_dl {w : Int64} {d : DT} (h : pkD w d) (hd : dV d) {p : Int64} {x : Int} (hp : p.toInt = x) (h1 : -100000000000 ≤ x) (h2 : x ≤ 100000000000) :
    (∃ e, o_X3_laterByDays d p = some (some e) ∧ dV e ∧ pkD (m_X0_daysLater w p) e) ∨ (o_X3_laterByDays d p = some none ∧ (-800000000 ≤ x → x ≤ 800000000 → m_X0_requireDate (m_X0_daysLater w p) ≠ 0)) := by
  have hr := nF_r hd.2.2.2.2.1 (Int.le_trans hd.2.2.2.2.2 (by decide))
  have hb := dY_b hd
  have hyl := yl_b d.1.toInt
  have hN : dN d = nF d.1.toInt + dY d - 1 := rfl
  have en := ma_add (pk_nu h hd) hp (by omega) (by omega)
  rcases ld_F hd hp h1 h2 with ⟨hc, e1⟩ | ⟨hc, e, e1, e2, e3⟩
  · refine Or.inr ⟨e1, fun k1 k2 => ?_⟩
    unfold m_X0_daysLater
    exact pk_dnO en (by omega) (by omega) hc
  · refine Or.inl ⟨e, e1, e2, ?_⟩
    unfold m_X0_daysLater
    exact pk_dn en hc.1 hc.2 e2 e3
-- order
theorem pd_lt {w u : Int64} {d e : DT} (h : pkD w d) (g : pkD u e) (hd : dV d) (he : dV e) : w.toInt < u.toInt ↔ dL d e := by
  have m1 := ml_b d.1.toInt d.2.1.toInt
  have m2 := ml_b e.1.toInt e.2.1.toInt
  obtain ⟨h1, h2, h3, h4, _, _⟩ := hd
  obtain ⟨g1, g2, g3, g4, _, _⟩ := he
  rw [h, g]
  unfold dL
  omega
theorem pd_le {w u : Int64} {d e : DT} (h : pkD w d) (g : pkD u e) (hd : dV d) (he : dV e) : 0 ≤ lg_cmp w u ↔ ¬ dL d e := by
  rw [lg_cmp_ge, Int64.le_iff_toInt_le, ← pd_lt h g hd he]
  omega
theorem pd_eq {w u : Int64} {d e : DT} (h : pkD w d) (g : pkD u e) (hd : dV d) (he : dV e) : lg_cmp w u = 0 ↔ d = e := by
  have m1 := ml_b d.1.toInt d.2.1.toInt
  have m2 := ml_b e.1.toInt e.2.1.toInt
  obtain ⟨h1, h2, h3, h4, _, _⟩ := id hd
  obtain ⟨g1, g2, g3, g4, _, _⟩ := id he
  rw [lg_cmp_eq, ← Int64.toInt_inj, h, g]
  constructor
  · intro q
    exact Prod.ext (Int32.toInt_inj.mp (by omega)) (Prod.ext (Int32.toInt_inj.mp (by omega)) (Int32.toInt_inj.mp (by omega)))
  · intro q; subst q; rfl
theorem pd_mu {w u : Int64} {d e : DT} (h : pkD w d) (g : pkD u e) (hd : dR d) (he : dR e) : o_X3_monthsOf d e = some (m_X0_monthsUpTo w u) := by
  have e1 := pk_da h hd.1
  have e2 := pk_da g he.1
  have e3 := pk_mo h hd.1
  have e4 := pk_mo g he.1
  have b1 := hd.2; have b2 := he.2
  have e5 : ((m_X0_yearIn u) - (m_X0_yearIn w)).toInt32 = e.1 - d.1 := by
    apply Int32.toInt_inj.mp
    rw [ma_i (ma_sub (pk_yr g he.1) (pk_yr h hd.1) (by omega) (by omega)) (by omega) (by omega), ia_sub rfl rfl (by omega) (by omega)]
  unfold o_X3_monthsOf m_X0_monthsUpTo
  rw [e1, e2, e3, e4, e5]
  split
  · rw [show m_X3_one 0 = 0 from rfl, Int32.sub_zero]
  · rw [show m_X3_one 1 = 1 from rfl]
