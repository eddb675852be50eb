theorem d1_e (x : Int32) : x / 1 = x := by
  apply Int32.toInt_inj.mp
  rw [Int32.toInt_div]
  show (x.toInt.tdiv 1).bmod (2 ^ 32) = x.toInt
  have h1 := Int32.le_toInt x
  have h2 := Int32.toInt_lt x
  rw [Int.tdiv_one]
  exact ia_b h1 h2
theorem nn_e {D E : Int64} {d e : DT} {v u : Int32} (hD : pkD D d) (hE : pkD E e) (hd : dR d) (he : dR e) (hv : v.toInt = dN d) (hu : u.toInt = dN e) : (m_X0_numberOf E - m_X0_numberOf D).toInt32 = u - v := by
  have b1 := dN_r hd
  have b2 := dN_r he
  apply Int32.toInt_inj.mp
  rw [ma_i (ma_sub (pk_nu hE he.1) (pk_nu hD hd.1) (by omega) (by omega)) (by omega) (by omega), ia_sub hu hv (by omega) (by omega)]
theorem uu_E {D E : Int64} {d e : DT} (hD : pkD D d) (hE : pkD E e) (hd : dR d) (he : dR e) {u : Int32} (hu : u = 0 ∨ u = 1 ∨ u = 2 ∨ u = 3 ∨ u = 4 ∨ u = 5 ∨ u = 6) :
    (if (2 : Int32) ≤ u then (o_X3_monthsOf d e).bind fun x => some (x / muF u) else ((o_X2_number e).bind fun x_4 => ((o_X2_number d).bind fun x_5 => (if u = 0 then some ((x_4 - x_5) / (1 : Int32)) else some ((x_4 - x_5) / (7 : Int32)))))) = some (m_X0_unitsUpTo D E u) := by
  obtain ⟨v, a1, a2⟩ := nu_F hd.1
  obtain ⟨x, b1, b2⟩ := nu_F he.1
  have n := nn_e hD hE hd he a2 b2
  have m := pd_mu hD hE hd he
  unfold m_X0_unitsUpTo
  rcases hu with rfl | rfl | rfl | rfl | rfl | rfl | rfl
  · rw [if_neg (by decide), if_pos rfl, n]; refine bs b1 (bs a1 ?_); rw [if_pos rfl, d1_e]
  · rw [if_neg (by decide), if_neg (by decide), if_pos rfl, n]; refine bs b1 (bs a1 ?_); rw [if_neg (by decide)]
  · rw [if_pos (by decide), if_neg (by decide), if_neg (by decide), if_pos rfl]; refine bs m ?_; rw [show muF 2 = 1 from rfl, d1_e]
  · rw [if_pos (by decide), if_neg (by decide), if_neg (by decide), if_neg (by decide), if_pos rfl]; exact bs m rfl
  · rw [if_pos (by decide), if_neg (by decide), if_neg (by decide), if_neg (by decide), if_neg (by decide), if_pos rfl]; exact bs m rfl
  · rw [if_pos (by decide), if_neg (by decide), if_neg (by decide), if_neg (by decide), if_neg (by decide), if_neg (by decide), if_pos rfl]; exact bs m rfl
  · rw [if_pos (by decide), if_neg (by decide), if_neg (by decide), if_neg (by decide), if_neg (by decide), if_neg (by decide), if_neg (by decide)]; exact bs m rfl
theorem w0_E {D E : Int64} {d e : DT} (hD : pkD D d) (hE : pkD E e) (hd : dR d) (he : dR e) {u : Int32} (hu : u = 0 ∨ u = 1 ∨ u = 2 ∨ u = 3 ∨ u = 4 ∨ u = 5 ∨ u = 6) (ho : ¬ dL e d) : o_X3_whole0 d e u = some (m_X0_unitsUpTo D E u) := by
  have ha := ah_F e d
  rw [if_neg ho] at ha
  have k := uu_E hD hE hd he hu
  unfold o_X3_whole0
  refine bs ha ?_
  rw [if_pos rfl, ← k]
  by_cases hc : (2 : Int32) ≤ u
  · rw [if_pos hc, if_pos hc, w570 d e (u_26 hu hc)]
  · rw [if_neg hc, if_neg hc]
theorem w_E {D E : Int64} {d e : DT} (hD : pkD D d) (hE : pkD E e) (hd : dR d) (he : dR e) {u : Int32} (hu : u = 0 ∨ u = 1 ∨ u = 2 ∨ u = 3 ∨ u = 4 ∨ u = 5 ∨ u = 6) : o_X3_whole d e u = some (if 0 ≤ lg_cmp E D then m_X0_unitsUpTo D E u else -(m_X0_unitsUpTo E D u)) := by
  have l := pd_le hE hD he.1 hd.1
  have ha := ah_F e d
  unfold o_X3_whole
  by_cases ho : dL e d
  · rw [if_pos ho] at ha
    rw [if_neg (fun g => l.mp g ho)]
    refine bs ha ?_
    rw [if_neg (by decide)]
    exact bs (w0_E hE hD he hd hu (dL_asym ho)) rfl
  · rw [if_neg ho] at ha
    rw [if_pos (l.mpr ho)]
    have k := uu_E hD hE hd he hu
    refine bs ha ?_
    rw [if_pos rfl, ← k]
    by_cases hc : (2 : Int32) ≤ u
    · rw [if_pos hc, if_pos hc, w57 d e (u_26 hu hc)]
    · rw [if_neg hc, if_neg hc]
theorem sm_between (p0 p1 p2 : Int32) {z : CS} {w : MS} (h : sR z w) : sO (1, 2) z (m_X0_between p0 p1 p2 z) (o_X3_between p0 p1 p2 w) := by
  unfold m_X0_between o_X3_between
  rw [un_e]
  refine O_at (fun hp => O_at (fun hq => O_rw (A := 0) (B := 6) (by decide) (by decide) (fun hw => O_v ?_) (fun hw => ?_)) (fun hq => ?_)) (fun hp => ?_)
  · obtain ⟨hD, hd⟩ := at_R h hp
    obtain ⟨hE, he⟩ := at_R h hq
    have e := w_E hD hE hd he (u_06 hw)
    exact T_ip hp (T_ip hq (T_in hw (fx_0 rfl rfl rfl (T_ip rfl (T_g6 hp (T_g6 hq (T_b (Q := fun v => _ = v) ⟨_, e, rfl⟩ (fun v hv => s_val h hv))))))))
  · exact T_ip hp (T_ip hq (T_ip hw (fx_2 rfl (by decide) (T_in one_ne (s_code h (by decide) rfl)))))
  · exact T_ip hp (T_in hq (T_i (fun _ => fx_1 (by decide) (T_in one_ne (s_code h (by decide) rfl))) (fun _ => fx_1 (by decide) (T_in one_ne (s_code h (by decide) rfl)))))
  · exact T_in hp (T_i (fun _ => fx_1 (by decide) (T_in one_ne (s_code h (by decide) rfl))) (fun _ => fx_1 (by decide) (T_in one_ne (s_code h (by decide) rfl))))
theorem na_e {D E : Int64} {d e : DT} (hD : pkD D d) (hE : pkD E e) (hd : dV d) (he : dV e) : m_X0_requireNotAhead D E = if dL d e then 3 else 0 := by
  have l := pd_le hD hE hd he
  unfold m_X0_requireNotAhead
  by_cases g : dL d e
  · rw [if_pos g, if_neg (fun k => l.mp k g)]
  · rw [if_neg g, if_pos (l.mpr g)]
theorem dO_E {D E : Int64} {d e : DT} (hD : pkD D d) (hE : pkD E e) (hd : dR d) (he : dR e) : o_X3_daysOf d e = some (m_X0_daysBehindMonths D E) := by
  obtain ⟨v1, a1, b1⟩ := nu_F he.1
  obtain ⟨m, a2, b2⟩ := mo_R hd he
  have a3 := pd_mu hD hE hd he
  obtain ⟨⟨h1, h2, h3, h4, _, _⟩, h5, h6⟩ := id hd
  obtain ⟨⟨g1, g2, g3, g4, _, _⟩, g5, g6⟩ := id he
  have em : m_X0_monthsUpTo D E = m := Option.some.inj (a3.symm.trans a2)
  have hq : -1 ≤ -(if d.2.2.toInt ≤ e.2.2.toInt then (0 : Int) else 1) ∧ -(if d.2.2.toInt ≤ e.2.2.toInt then (0 : Int) else 1) ≤ 0 := by split <;> omega
  generalize (if d.2.2.toInt ≤ e.2.2.toInt then (0 : Int) else 1) = k at *
  unfold o_X3_daysOf m_X0_daysBehindMonths
  rw [em]
  refine bs a1 (bs a2 ?_)
  rcases pk_ml hD hd.1 (ma_l b2) (by omega) (by omega) with ⟨f, e1, f1, f2⟩ | ⟨e1, _⟩
  · obtain ⟨v2, a4, b4⟩ := nu_F f1
    have r1 := dN_r he
    have r2 := nF_r f1.2.2.2.2.1 (Int.le_trans f1.2.2.2.2.2 (by decide))
    have r3 := dY_b f1
    have r4 := yl_b f.1.toInt
    have r5 : dN f = nF f.1.toInt + dY f - 1 := rfl
    refine bs e1 ?_
    show (o_X2_number f).bind _ = _
    refine bs a4 ?_
    refine congrArg some (Int32.toInt_inj.mp ?_)
    rw [ma_i (ma_sub (pk_nu hE he.1) (pk_nu f2 f1) (by omega) (by omega)) (by omega) (by omega), ia_sub b1 b4 (by omega) (by omega)]
  · rcases la_F hd.1 (ma_l b2) (by omega) (by omega) with ⟨c, _⟩ | ⟨_, f, e2, _⟩
    · exact absurd ⟨by omega, by omega⟩ c
    · rw [e1] at e2; cases e2
