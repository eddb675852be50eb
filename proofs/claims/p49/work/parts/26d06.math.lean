theorem d1_e (x : Int32) : x / 1 = x := by
  apply Int32.toInt_inj.mp
  rw [Int32.toInt_div]
  show (x.toInt.tdiv 1).bmod (2 ^ 32) = x.toInt
  have h1 := Int32.le_toInt x
  have h2 := Int32.toInt_lt x
  rw [Int.tdiv_one]
  exact ia_b h1 h2
theorem nn_e {D E : Int64} {d e : DT} {v u : Int32} (hD : pkD D d) (hE : pkD E e) (hd : dR d) (he : dR e) (hv : v.toInt = dN d) (hu : u.toInt = dN e) : (m_X0_numberOf E - m_X0_numberOf D).toInt32 = u - v := by
  have b1 := dN_r hd
  have b2 := dN_r he
  apply Int32.toInt_inj.mp
  rw [ma_i (ma_sub (pk_nu hE he.1) (pk_nu hD hd.1) (by omega) (by omega)) (by omega) (by omega), ia_sub hu hv (by omega) (by omega)]
theorem uu_E {D E : Int64} {d e : DT} (hD : pkD D d) (hE : pkD E e) (hd : dR d) (he : dR e) {u : Int32} (hu : u = 0 ∨ u = 1 ∨ u = 2 ∨ u = 3 ∨ u = 4 ∨ u = 5 ∨ u = 6) :
    (if (2 : Int32) ≤ u then (o_X3_monthsOf d e).bind fun x => some (x / muF u) else ((o_X2_number e).bind fun x_4 => ((o_X2_number d).bind fun x_5 => (if u = 0 then some ((x_4 - x_5) / (1 : Int32)) else some ((x_4 - x_5) / (7 : Int32)))))) = some (m_X0_unitsUpTo D E u) := by
  obtain ⟨v, a1, a2⟩ := nu_F hd.1
  obtain ⟨x, b1, b2⟩ := nu_F he.1
  have n := nn_e hD hE hd he a2 b2
  have m := pd_mu hD hE hd he
  unfold m_X0_unitsUpTo
  rcases hu with rfl | rfl | rfl | rfl | rfl | rfl | rfl
  · rw [if_neg (by decide), if_pos rfl, n]; refine bs b1 (bs a1 ?_); rw [if_pos rfl, d1_e]
  · rw [if_neg (by decide), if_neg (by decide), if_pos rfl, n]; refine bs b1 (bs a1 ?_); rw [if_neg (by decide)]
  · rw [if_pos (by decide), if_neg (by decide), if_neg (by decide), if_pos rfl]; refine bs m ?_; rw [show muF 2 = 1 from rfl, d1_e]
  · rw [if_pos (by decide), if_neg (by decide), if_neg (by decide), if_neg (by decide), if_pos rfl]; exact bs m rfl
  · rw [if_pos (by decide), if_neg (by decide), if_neg (by decide), if_neg (by decide), if_neg (by decide), if_pos rfl]; exact bs m rfl
  · rw [if_pos (by decide), if_neg (by decide), if_neg (by decide), if_neg (by decide), if_neg (by decide), if_neg (by decide), if_pos rfl]; exact bs m rfl
  · rw [if_pos (by decide), if_neg (by decide), if_neg (by decide), if_neg (by decide), if_neg (by decide), if_neg (by decide), if_neg (by decide)]; exact bs m rfl
theorem w0_E {D E : Int64} {d e : DT} (hD : pkD D d) (hE : pkD E e) (hd : dR d) (he : dR e) {u : Int32} (hu : u = 0 ∨ u = 1 ∨ u = 2 ∨ u = 3 ∨ u = 4 ∨ u = 5 ∨ u = 6) (ho : ¬ dL e d) : o_X3_whole0 d e u = some (m_X0_unitsUpTo D E u) := by
  have ha := ah_F e d
  rw [if_neg ho] at ha
  have k := uu_E hD hE hd he hu
  unfold o_X3_whole0
  refine bs ha ?_
  rw [if_pos rfl, ← k]
  by_cases hc : (2 : Int32) ≤ u
  · rw [if_pos hc, if_pos hc, w570 d e (u_26 hu hc)]
  · rw [if_neg hc, if_neg hc]
theorem w_E {D E : Int64} {d e : DT} (hD : pkD D d) (hE : pkD E e) (hd : dR d) (he : dR e) {u : Int32} (hu : u = 0 ∨ u = 1 ∨ u = 2 ∨ u = 3 ∨ u = 4 ∨ u = 5 ∨ u = 6) : o_X3_whole d e u = some (if 0 ≤ lg_cmp E D then m_X0_unitsUpTo D E u else -(m_X0_unitsUpTo E D u)) := by
  have l := pd_le hE hD he.1 hd.1
  have ha := ah_F e d
  unfold o_X3_whole
  by_cases ho : dL e d
  · rw [if_pos ho] at ha
    rw [if_neg (fun g => l.mp g ho)]
    refine bs ha ?_
    rw [if_neg (by decide)]
    exact bs (w0_E hE hD he hd hu (dL_asym ho)) rfl
  · rw [if_neg ho] at ha
    rw [if_pos (l.mpr ho)]
    have k := uu_E hD hE hd he hu
    refine bs ha ?_
    rw [if_pos rfl, ← k]
    by_cases hc : (2 : Int32) ≤ u
    · rw [if_pos hc, if_pos hc, w57 d e (u_26 hu hc)]
    · rw [if_neg hc, if_neg hc]
theorem sm_between (p0 p1 p2 : Int32) {z : CS} {w : MS} (h : sR z w) : sO (1, 2) z (m_X0_between p0 p1 p2 z) (o_X3_between p0 p1 p2 w) := by
  unfold m_X0_between o_X3_between
  rw [un_e]
  refine O_at (fun hp => O_at (fun hq => O_rw (A := 0) (B := 6) (by decide) (by decide) (fun hw => O_v ?_) (fun hw => ?_)) (fun hq => ?_)) (fun hp => ?_)
  · obtain ⟨hD, hd⟩ := at_R h hp
    obtain ⟨hE, he⟩ := at_R h hq
    have e := w_E hD hE hd he (u_06 hw)
    exact T_ip hp (T_ip hq (T_in hw (fx_0 rfl rfl rfl (T_ip rfl (T_g6 hp (T_g6 hq (T_b (Q := fun v => _ = v) ⟨_, e, rfl⟩ (fun v hv => s_val h hv))))))))
  · exact T_ip hp (T_ip hq (T_ip hw (fx_2 rfl (by decide) (T_in one_ne (s_code h (by decide) rfl)))))
  · exact T_ip hp (T_in hq (T_i (fun _ => fx_1 (by decide) (T_in one_ne (s_code h (by decide) rfl))) (fun _ => fx_1 (by decide) (T_in one_ne (s_code h (by decide) rfl)))))
  · exact T_in hp (T_i (fun _ => fx_1 (by decide) (T_in one_ne (s_code h (by decide) rfl))) (fun _ => fx_1 (by decide) (T_in one_ne (s_code h (by decide) rfl))))
theorem na_e {D E : Int64} {d e : DT} (hD : pkD D d) (hE : pkD E e) (hd : dV d) (he : dV e) : m_X0_requireNotAhead D E = if dL d e then 3 else 0 := by
  have l := pd_le hD hE hd he
  unfold m_X0_requireNotAhead
  by_cases g : dL d e
  · rw [if_pos g, if_neg (fun k => l.mp k g)]
  · rw [if_neg g, if_pos (l.mpr g)]
theorem dO_E {D E : Int64} {d e : DT} (hD : pkD D d) (hE : pkD E e) (hd : dR d) (he : dR e) : o_X3_daysOf d e = some (m_X0_daysBehindMonths D E) := by
  obtain ⟨v1, a1, b1⟩ := nu_F he.1
  obtain ⟨m, a2, b2⟩ := mo_R hd he
  have a3 := pd_mu hD hE hd he
  obtain ⟨⟨h1, h2, h3, h4, _, _⟩, h5, h6⟩ := id hd
  obtain ⟨⟨g1, g2, g3, g4, _, _⟩, g5, g6⟩ := id he
  have em : m_X0_monthsUpTo D E = m := Option.some.inj (a3.symm.trans a2)
  have hq : -1 ≤ -(if d.2.2.toInt ≤ e.2.2.toInt then (0 : Int) else 1) ∧ -(if d.2.2.toInt ≤ e.2.2.toInt then (0 : Int) else 1) ≤ 0 := by split <;> omega
  generalize (if d.2.2.toInt ≤ e.2.2.toInt then (0 : Int) else 1) = k at *
  unfold o_X3_daysOf m_X0_daysBehindMonths
  rw [em]
  refine bs a1 (bs a2 ?_)
  rcases pk_ml hD hd.1 (ma_l b2) (by omega) (by omega) with ⟨f, e1, f1, f2⟩ | ⟨e1, _⟩
  · obtain ⟨v2, a4, b4⟩ := nu_F f1
    have r1 := dN_r he
    have r2 := nF_r f1.2.2.2.2.1 (Int.le_trans f1.2.2.2.2.2 (by decide))
    have r3 := dY_b f1
    have r4 := yl_b f.1.toInt
    have r5 : dN f = nF f.1.toInt + dY f - 1 := rfl
    refine bs e1 ?_
    show (o_X2_number f).bind _ = _
    refine bs a4 ?_
    refine congrArg some (Int32.toInt_inj.mp ?_)
    rw [ma_i (ma_sub (pk_nu hE he.1) (pk_nu f2 f1) (by omega) (by omega)) (by omega) (by omega), ia_sub b1 b4 (by omega) (by omega)]
  · rcases la_F hd.1 (ma_l b2) (by omega) (by omega) with ⟨c, _⟩ | ⟨_, f, e2, _⟩
    · exact absurd ⟨by omega, by omega⟩ c
    · rw [e1] at e2; cases e2
theorem sm_apart (p0 p1 p2 : Int32) {z : CS} {w : MS} (h : sR z w) : sO (1, 2) z (m_X0_apart p0 p1 p2 z) (o_X3_apart p0 p1 p2 w) := by
  unfold m_X0_apart o_X3_apart
  refine O_at (fun hp => O_at (fun hq => O_rw (A := 0) (B := 2) (by decide) (by decide) (fun hw => ?_) (fun hw => ?_)) (fun hq => ?_)) (fun hp => ?_)
  · obtain ⟨hD, hd⟩ := at_R h hp
    obtain ⟨hE, he⟩ := at_R h hq
    have m := pd_mu hD hE hd he
    have dd := dO_E hD hE hd he
    rw [na_e hE hD he.1 hd.1]
    refine T_ip hp (T_ip hq (T_in hw (fx_0 rfl rfl rfl (T_ip rfl (T_g6 hp (T_g6 hq (v_ah (fun g => ?_) (fun g => ?_))))))))
    · rw [if_pos g, if_neg (by decide)]
      exact fx_3 rfl rfl one_ne (T_in one_ne (s_code h (by decide) rfl))
    · rw [if_neg g, if_pos rfl]
      have hk : 0 ≤ p2.toInt ∧ p2.toInt ≤ 2 := i2_F hw
      have e1 := i32_eq (p := p2) rfl 0
      have e2 := i32_eq (p := p2) rfl 1
      have e3 := i32_eq (p := p2) rfl 2
      refine fx_0 rfl rfl rfl (T_ip rfl ?_)
      rcases (show p2 = 0 ∨ p2 = 1 ∨ p2 = 2 by rw [e1, e2, e3]; show p2.toInt = 0 ∨ p2.toInt = 1 ∨ p2.toInt = 2; omega) with rfl | rfl | rfl
      · rw [if_pos rfl]
        exact T_in (by decide) (T_in (by decide) (T_b (Q := fun v => m_X0_monthsUpTo (m_X0_dateAt p0 z).2 (m_X0_dateAt p1 z).2 = v) ⟨_, m, rfl⟩ (fun v hv => s_val h (by rw [hv]))))
      · rw [if_neg (by decide), if_pos rfl]
        exact T_in (by decide) (T_ip rfl (T_b (Q := fun v => m_X0_monthsUpTo (m_X0_dateAt p0 z).2 (m_X0_dateAt p1 z).2 = v) ⟨_, m, rfl⟩ (fun v hv => s_val h (by rw [hv]))))
      · rw [if_neg (by decide), if_neg (by decide)]
        exact T_ip rfl (T_b (Q := fun v => m_X0_daysBehindMonths (m_X0_dateAt p0 z).2 (m_X0_dateAt p1 z).2 = v) ⟨_, dd, rfl⟩ (fun v hv => s_val h hv))
  · exact T_ip hp (T_ip hq (T_ip hw (fx_2 rfl (by decide) (T_in one_ne (s_code h (by decide) rfl)))))
  · exact T_ip hp (T_in hq (T_i (fun _ => fx_1 (by decide) (T_in one_ne (s_code h (by decide) rfl))) (fun _ => fx_1 (by decide) (T_in one_ne (s_code h (by decide) rfl)))))
  · exact T_in hp (T_i (fun _ => fx_1 (by decide) (T_in one_ne (s_code h (by decide) rfl))) (fun _ => fx_1 (by decide) (T_in one_ne (s_code h (by decide) rfl))))
-- the year, month and day that are told
theorem ymd_2 {y m d : Int32} (hy : ¬ m_X3_isNoYear y = 0) : m_X0_requireYearMonthDay y m d = 2 := by
  have : ¬ m_X0_requireWithin y (-9999) 9999 = 0 := fun g => hy (ny_is.mp g)
  unfold m_X0_requireYearMonthDay; rw [if_neg this]; exact rw_c this
theorem ymd_m {y m d : Int32} (hy : m_X3_isNoYear y = 0) (hm : m_X3_isIn m.toInt64 1 12 = 0) : m_X0_requireYearMonthDay y m d = 2 := by
  have : ¬ m_X0_requireWithin m 1 12 = 0 := fun g => (rw_is (A := 1) (B := 12) (by decide) (by decide)).mp g hm
  unfold m_X0_requireYearMonthDay; rw [if_pos (ny_is.mpr hy), if_neg this]; exact rw_c this
theorem ymd_d {y m d : Int32} (hy : m_X3_isNoYear y = 0) (hm : ¬ m_X3_isIn m.toInt64 1 12 = 0) (hd : m_X3_isIn d.toInt64 1 31 = 0) : m_X0_requireYearMonthDay y m d = 2 := by
  have : ¬ m_X0_requireWithin d 1 31 = 0 := fun g => (rw_is (A := 1) (B := 31) (by decide) (by decide)).mp g hd
  unfold m_X0_requireYearMonthDay; rw [if_pos (ny_is.mpr hy), if_pos ((rw_is (A := 1) (B := 12) (by decide) (by decide)).mpr hm), if_neg this]; exact rw_c this
theorem ymd_0 {y m d : Int32} (hy : m_X3_isNoYear y = 0) (hm : ¬ m_X3_isIn m.toInt64 1 12 = 0) (hd : ¬ m_X3_isIn d.toInt64 1 31 = 0) : m_X0_requireYearMonthDay y m d = 0 := by
  unfold m_X0_requireYearMonthDay; rw [if_pos (ny_is.mpr hy), if_pos ((rw_is (A := 1) (B := 12) (by decide) (by decide)).mpr hm), if_pos ((rw_is (A := 1) (B := 31) (by decide) (by decide)).mpr hd)]
theorem sm_isDate (p0 p1 p2 : Int32) {z : CS} {w : MS} (h : sR z w) : sO (2, 2) z (m_X0_isDate p0 p1 p2 z) (o_X3_isDate_ p0 p1 p2 w) := by
  unfold m_X0_isDate o_X3_isDate_
  by_cases hy : m_X3_isNoYear p0 = 0
  · by_cases hm : m_X3_isIn p1.toInt64 1 12 = 0
    · rw [ymd_m hy hm, if_neg (by decide)]
      exact T_ip hy (T_ip hm (fx_1 (by decide) (T_in one_ne (s_code h (by decide) rfl))))
    · by_cases hd : m_X3_isIn p2.toInt64 1 31 = 0
      · rw [ymd_d hy hm hd, if_neg (by decide)]
        exact T_ip hy (T_in hm (T_ip hd (fx_1 (by decide) (T_in one_ne (s_code h (by decide) rfl)))))
      · rw [ymd_0 hy hm hd, if_pos rfl]
        have em := mo_F (y := p0.toInt64) (ma_l (a := p0) rfl) (show p1.toInt = p1.toInt from rfl)
        refine O_v (T_ip hy (T_in hm (T_in hd (fx_0 rfl rfl rfl (T_ip rfl (T_lm hm (fun v hv => ?_)))))))
        have q : m_X0_monthLength p1 (m_X0_isLeap p0.toInt64) = v := Int32.toInt_inj.mp (by rw [em, hv])
        rw [q]
        exact T_i (fun g => s_val h (if_pos g)) (fun g => s_val h (if_neg g))
  · rw [ymd_2 hy, if_neg (by decide)]
    exact T_in hy (fx_1 (by decide) (T_in one_ne (s_code h (by decide) rfl)))
theorem hn_E (p : Int32) {z : CS} {w : MS} (h : sR z w) {t : Int32} : o_X3_houseNow p (t, w.2) = some (if p = 0 then z.2.2.2.2.1 else if p = 1 then z.2.2.2.2.2 else (m_X0_sumOfNumbers z).2, (t, w.2)) := by
  have k : ∀ c : Int32, m_X3_isNo c = 0 → ∃ v, o_X2_number (w.2.1 c.toNatClampNeg) = some v ∧ (m_X0_toDay c z).2 = v := fun c hc => by
    obtain ⟨hD, hd⟩ := at_R h hc
    obtain ⟨v, e, ev⟩ := nu_F hd.1
    refine ⟨v, e, ?_⟩
    rw [td_e hc]; exact pk_nuI hD hd.1 ev
  obtain ⟨v0, a0, b0⟩ := k 0 (by decide)
  obtain ⟨v1, a1, b1⟩ := k 1 (by decide)
  obtain ⟨v2, a2, b2⟩ := k 2 (by decide)
  obtain ⟨v3, a3, b3⟩ := k 3 (by decide)
  obtain ⟨v4, a4, b4⟩ := k 4 (by decide)
  obtain ⟨v5, a5, b5⟩ := k 5 (by decide)
  have es : (m_X0_sumOfNumbers z).2 = ((((((0 : Int32) + v0) + v1) + v2) + v3) + v4) + v5 := by
    unfold m_X0_sumOfNumbers
    rw [if_pos (td_c pc0 z), if_pos (td_c pc1 z), if_pos (td_c pc2 z), if_pos (td_c pc3 z), if_pos (td_c pc4 z), if_pos (td_c pc5 z), b0, b1, b2, b3, b4, b5]
  unfold o_X3_houseNow
  refine bs a0 (bs a1 (bs a2 (bs a3 (bs a4 (bs a5 ?_)))))
  rw [es, h.2.2.1, h.2.2.2]
  by_cases g0 : p = 0
  · rw [if_pos g0, if_pos g0]
  · rw [if_neg g0, if_neg g0]
    by_cases g1 : p = 1
    · rw [if_pos g1, if_pos g1]
    · rw [if_neg g1, if_neg g1]
theorem sm_house (p0 : Int32) {z : CS} {w : MS} (h : sR z w) : sO (2, 2) z (m_X0_house p0 z) (o_X3_house p0 w) := by
  unfold m_X0_house o_X3_house
  refine O_rw (A := 0) (B := 2) (by decide) (by decide) (fun hw => ?_) (fun hw => T_ip hw (fx_1 (by decide) (T_in one_ne (s_code h (by decide) rfl))))
  have e := hn_E p0 (t := 0) h
  rw [if_pos (oc_sumOfNumbers z)]
  have o3 : (if p0 = 0 then ((0 : Nat), z.2.2.2.2.1) else if p0 = 1 then (0, z.2.2.2.2.2) else (0, (m_X0_sumOfNumbers z).2)) = (0, if p0 = 0 then z.2.2.2.2.1 else if p0 = 1 then z.2.2.2.2.2 else (m_X0_sumOfNumbers z).2) := by
    repeat' split
    all_goals rfl
  rw [o3]
  exact T_in hw (fx_0 rfl rfl rfl (T_ip rfl (T_b (Q := fun x => x = (if p0 = 0 then z.2.2.2.2.1 else if p0 = 1 then z.2.2.2.2.2 else (m_X0_sumOfNumbers z).2, ((0 : Int32), w.2))) ⟨_, e, rfl⟩ (fun x hx => by subst hx; exact s_val h rfl))))
theorem nz1 : ¬ (1 : Nat) = 0 := by decide
theorem nz2 : ¬ (2 : Nat) = 0 := by decide
theorem nz3 : ¬ (3 : Nat) = 0 := by decide
theorem s_none {k : Nat × Nat} {z : CS} {w : MS} {c : Nat} {a : Int32} {t : Int32} (h : sR z w) (hc : ¬ c = 0) (ht : t = wk k.1 k.2 c) : sX k (c, 0, z) (some (a, (t, w.2))) := s_code h hc ht
theorem gT_3 {p : Int32} {D : Int64} {z : CS} (hd : ¬ m_X0_requireDate D = 0) : (if (m_X0_give p D z).1 = 0 then (0, (m_X0_give p D z).2.1, (m_X0_give p D z).2.2) else ((m_X0_give p D z).1, 0, (m_X0_give p D z).2.2) : Nat × Int32 × CS) = (3, 0, z) := by
  rw [give_e3 hd]; rfl
theorem sm_copy (p0 p1 : Int32) {z : CS} {w : MS} (h : sR z w) : sX (1, 2) (m_X0_copy p0 p1 z) (o_X3_copy p0 p1 w) := by
  unfold m_X0_copy o_X3_copy
  refine X_pl (fun hp => X_at (fun hq => ?_) (fun hq => T_ip hp (T_in hq (fx_1 (by decide) (T_in one_ne (s_code h nz1 rfl)))))) (fun hp => ?_)
  · obtain ⟨hD, hd⟩ := at_R h hq
    refine T_ip hp (T_ip hq (fx_0 rfl rfl rfl (T_ip rfl (T_g6 hq ?_))))
    exact s_give h hp hD hd rfl
  · exact T_in hp (fx_1 (by decide) (T_in one_ne (s_code h nz1 rfl)))
theorem pk_ep : pkD (1008673 : Int64) ((1970 : Int32), (1 : Int32), (1 : Int32)) := by unfold pkD; decide
theorem sm_epoch (p0 : Int32) {z : CS} {w : MS} (h : sR z w) : sX (1, 2) (m_X0_epoch p0 z) (o_X3_epoch p0 w) := by
  unfold m_X0_epoch o_X3_epoch
  by_cases hp : m_X3_isNo p0 = 0
  · obtain ⟨hD, hd⟩ := at_R h hp
    rw [td_e hp, if_pos rfl, give_e0 hp ep_y, if_pos rfl]
    refine fx_0 hp rfl rfl (T_ip rfl (T_g6 hp (v_nu hd.1 (fun v hv => ?_))))
    obtain ⟨x, e1, e2⟩ := gives_e (w := ((0 : Int32), w.2)) hp dR_ep.1
    exact T_b (Q := fun y => y = (x, _)) ⟨_, e2, rfl⟩ (fun y hy => by subst hy; exact ⟨_, rfl, sR_put (w := ((0 : Int32), w.2)) h pk_ep dR_ep, rfl, fun _ => pk_nuI hD hd.1 hv⟩)
  · rw [td_1 hp, if_neg (by decide)]
    exact fx_1 hp (T_in one_ne (s_code h nz1 rfl))
theorem sm_ofDay (p0 p1 : Int32) {z : CS} {w : MS} (h : sR z w) : sX (1, 2) (m_X0_ofDay p0 p1 z) (o_X3_ofDay p0 p1 w) := by
  unfold m_X0_ofDay o_X3_ofDay
  refine X_pl (fun hp => X_rw (A := -4371587) (B := 2932896) (by decide) (by decide) (fun hw => ?_) (fun hw => T_ip hw (fx_2 hp (by decide) (T_in one_ne (s_code h nz2 rfl))))) (fun hp => ?_)
  · have := isin_F (ma_l (a := p1) rfl) (show (-4371587 : Int64).toInt = -4371587 from rfl) (show (2932896 : Int64).toInt = 2932896 from rfl)
    have h2 : -4371587 ≤ p1.toInt ∧ p1.toInt ≤ 2932896 := Classical.byContradiction fun g => hw (this.mpr g)
    obtain ⟨d, e, d1, d2⟩ := on_F (p := p1) rfl (by omega) (by omega)
    have hb := dN_b d1
    rw [d2] at hb
    have hD := pk_dn (p := p1.toInt64) (ma_l rfl) (by omega) (by omega) d1 d2
    refine T_in hw (fx_0 hp rfl rfl (T_ip rfl (T_b (Q := fun y => y = d) ⟨_, e, rfl⟩ (fun y hy => ?_))))
    subst hy
    exact s_give h hp hD ⟨d1, yr_in hb.1 hb.2 h2.1 h2.2⟩ rfl
  · exact T_i (fun _ => fx_1 hp (T_in one_ne (s_code h nz1 rfl))) (fun _ => fx_1 hp (T_in one_ne (s_code h nz1 rfl)))
theorem sm_withYear (p0 p1 : Int32) {z : CS} {w : MS} (h : sR z w) : sX (1, 2) (m_X0_withYear p0 p1 z) (o_X3_withYear p0 p1 w) := by
  unfold m_X0_withYear o_X3_withYear
  refine X_at (fun hp => X_ny (fun hy => ?_) (fun hy => fx_2 hp hy (T_in one_ne (s_code h nz2 rfl)))) (fun hp => fx_1 hp (T_in one_ne (s_code h nz1 rfl)))
  obtain ⟨hD, hd⟩ := at_R h hp
  have b := ny_F hy
  obtain ⟨e, g1, g2, g3, g4, g5⟩ := nr_F (p0 := p1) rfl (p1 := (w.2.1 p0.toNatClampNeg).2.1) rfl hd.1.1 hd.1.2.1 (p2 := (w.2.1 p0.toNatClampNeg).2.2) hd.1.2.2.1 (by omega) (by omega)
  have hf : pkD (m_X0_fittedDate p1.toInt64 (m_X0_monthIn (m_X0_dateAt p0 z).2) (m_X0_dayIn (m_X0_dateAt p0 z).2)) e := by
    refine pk_fi (by rw [ma_l rfl, g3]) (by rw [pk_mo hD hd.1, g4]) g2 ?_
    rw [pk_da hD hd.1, g5, g3, g4]
  refine fx_0 hp hy rfl (T_ip rfl (T_g6 hp (T_g6 hp (T_b (Q := fun x => x = e) ⟨_, g1, rfl⟩ (fun x hx => ?_)))))
  subst hx
  exact s_give h hp hf ⟨g2, by rw [g3]; exact b⟩ rfl
theorem sm_withMonth (p0 p1 : Int32) {z : CS} {w : MS} (h : sR z w) : sX (1, 2) (m_X0_withMonth p0 p1 z) (o_X3_withMonth p0 p1 w) := by
  unfold m_X0_withMonth o_X3_withMonth
  refine X_at (fun hp => X_rw (A := 1) (B := 12) (by decide) (by decide) (fun hm => ?_) (fun hm => T_ip hm (fx_2 hp (by decide) (T_in one_ne (s_code h nz2 rfl))))) (fun hp => ?_)
  · obtain ⟨hD, hd⟩ := at_R h hp
    have b := i2_12 hm
    obtain ⟨e, g1, g2, g3, g4, g5⟩ := nr_F (p0 := (w.2.1 p0.toNatClampNeg).1) rfl (p1 := p1) rfl b.1 b.2 (p2 := (w.2.1 p0.toNatClampNeg).2.2) hd.1.2.2.1 hd.1.2.2.2.2.1 hd.1.2.2.2.2.2
    have hf : pkD (m_X0_fittedDate (m_X0_yearIn (m_X0_dateAt p0 z).2) p1 (m_X0_dayIn (m_X0_dateAt p0 z).2)) e := by
      refine pk_fi (by rw [pk_yr hD hd.1, g3]) g4.symm g2 ?_
      rw [pk_da hD hd.1, g5, g3, g4]
    refine T_in hm (fx_0 hp rfl rfl (T_ip rfl (T_g6 hp (T_g6 hp (T_b (Q := fun x => x = e) ⟨_, g1, rfl⟩ (fun x hx => ?_))))))
    subst hx
    exact s_give h hp hf ⟨g2, by rw [g3]; exact hd.2⟩ rfl
  · exact T_i (fun _ => fx_1 hp (T_in one_ne (s_code h nz1 rfl))) (fun _ => fx_1 hp (T_in one_ne (s_code h nz1 rfl)))
theorem sm_toFirst (p0 : Int32) {z : CS} {w : MS} (h : sR z w) : sX (1, 2) (m_X0_toFirst p0 z) (o_X3_toFirst p0 w) := by
  unfold m_X0_toFirst o_X3_toFirst
  refine X_at (fun hp => ?_) (fun hp => fx_1 hp (T_in one_ne (s_code h nz1 rfl)))
  obtain ⟨hD, hd⟩ := at_R h hp
  have hy := pk_yr hD hd.1
  have hm := pk_mo hD hd.1
  have hf : pkD (m_X0_dateOf (m_X0_yearIn (m_X0_dateAt p0 z).2) (m_X0_monthIn (m_X0_dateAt p0 z).2) 1) ((w.2.1 p0.toNatClampNeg).1, (w.2.1 p0.toNatClampNeg).2.1, (1 : Int32)) := pk_of (d := ((w.2.1 p0.toNatClampNeg).1, (w.2.1 p0.toNatClampNeg).2.1, (1 : Int32))) (dR_fi hd).1 hy hm rfl
  refine fx_0 hp rfl rfl (T_ip rfl (T_g6 hp (T_g6 hp ?_)))
  exact s_give h hp hf (dR_fi hd) rfl
theorem sm_toLast (p0 : Int32) {z : CS} {w : MS} (h : sR z w) : sX (1, 2) (m_X0_toLast p0 z) (o_X3_toLast p0 w) := by
  unfold m_X0_toLast o_X3_toLast
  refine X_at (fun hp => ?_) (fun hp => fx_1 hp (T_in one_ne (s_code h nz1 rfl)))
  obtain ⟨hD, hd⟩ := at_R h hp
  obtain ⟨e, g1, g2, g3, g4, g5⟩ := nr_F (p0 := (w.2.1 p0.toNatClampNeg).1) rfl (p1 := (w.2.1 p0.toNatClampNeg).2.1) rfl hd.1.1 hd.1.2.1 (p2 := 31) (by decide) hd.1.2.2.2.2.1 hd.1.2.2.2.2.2
  have hf : pkD (m_X0_fittedDate (m_X0_yearIn (m_X0_dateAt p0 z).2) (m_X0_monthIn (m_X0_dateAt p0 z).2) 31) e := by
    refine pk_fi (by rw [pk_yr hD hd.1, g3]) (by rw [pk_mo hD hd.1, g4]) g2 ?_
    rw [g5, g3, g4]
  refine fx_0 hp rfl rfl (T_ip rfl (T_g6 hp (T_g6 hp (T_b (Q := fun x => x = e) ⟨_, g1, rfl⟩ (fun x hx => ?_)))))
  subst hx
  exact s_give h hp hf ⟨g2, by rw [g3]; exact hd.2⟩ rfl
theorem pk_yd {p0 : Int64} {p1 : Int32} {a k : Int} (hy : p0.toInt = a) (hk : p1.toInt = k) (h1 : 1 ≤ k) (h2 : k ≤ yl a) {d : DT} (hd : dV d) (ha : d.1.toInt = a) (hn : dN d = nF a + k - 1) : pkD (m_X0_dateOfYearDay p0 p1) d := by
  subst ha
  obtain ⟨i, q1, q2, q3, q4⟩ := dd_F hy hk h1 h2
  have eY : dY d = k := by unfold dN at hn; omega
  have hmb := ml_b d.1.toInt d.2.1.toInt
  obtain ⟨g1, g2, g3, g4, g5, g6⟩ := id hd
  have r1 : db d.1.toInt (d.2.1.toInt.toNat - 1 + 1) = db d.1.toInt (d.2.1.toInt.toNat - 1) + ml d.1.toInt ((d.2.1.toInt.toNat - 1 : Nat) + 1 : Int) := rfl
  rw [show ((d.2.1.toInt.toNat - 1 : Nat) + 1 : Int) = d.2.1.toInt by omega] at r1
  have ei : i = d.2.1.toInt.toNat - 1 := db_uniq (y := d.1.toInt) (k := k) q2 q3 (by unfold dY at eY; omega) (by unfold dY at eY; omega)
  have e9 : k - db d.1.toInt (d.2.1.toInt.toNat - 1) = d.2.2.toInt := by unfold dY at eY; omega
  rw [q4]
  refine pk_of hd hy ?_ ?_
  · exact Int32.toInt_inj.mp (by rw [nI_t (by omega)]; omega)
  · rw [ei, e9]
    exact Int32.toInt_inj.mp (by rw [nI_t (by omega)]; omega)
theorem yd_E {p0 : Int64} {y p1 : Int32} (hy : p0.toInt = y.toInt) (hb : -9999 ≤ y.toInt ∧ y.toInt ≤ 9999) (h1 : 1 ≤ p1.toInt) (hl : p1.toInt ≤ yl y.toInt) : ∃ d, o_X3_ofYearAndDay y p1 = some d ∧ dR d ∧ pkD (m_X0_dateOfYearDay p0 p1) d := by
  have hs := nF_succ y.toInt
  obtain ⟨d, e, d1, d2, d3⟩ := od_F (p0 := y) (p1 := p1) rfl rfl h1 rfl (y := y.toInt) (by omega) (by omega) (by omega) (by omega) (by omega) (by omega) (by omega)
  exact ⟨d, e, ⟨d1, by rw [d3]; exact hb⟩, pk_yd hy rfl h1 hl d1 d3 d2⟩
-- the class's giveYearDay
theorem gy_2 {p0 : Int32} {p1 : Int64} {p2 : Int32} {z : CS} (hw : m_X3_isIn p2.toInt64 1 366 = 0) : m_X0_giveYearDay p0 p1 p2 z = (2, 0, z) := by
  have : ¬ m_X0_requireWithin p2 1 366 = 0 := fun g => (rw_is (A := 1) (B := 366) (by decide) (by decide)).mp g hw
  unfold m_X0_giveYearDay; rw [if_neg this, rw_c this]
theorem gy_3 {p0 : Int32} {p1 : Int64} {p2 : Int32} {z : CS} (hw : ¬ m_X3_isIn p2.toInt64 1 366 = 0) (hl : ¬ p2 ≤ m_X0_yearLength p1) : m_X0_giveYearDay p0 p1 p2 z = (3, 0, z) := by
  unfold m_X0_giveYearDay; rw [if_pos ((rw_is (A := 1) (B := 366) (by decide) (by decide)).mpr hw), if_neg hl]
theorem gy_0 {p0 : Int32} {p1 : Int64} {p2 : Int32} {z : CS} (hp : m_X3_isNo p0 = 0) (hw : ¬ m_X3_isIn p2.toInt64 1 366 = 0) (hl : p2 ≤ m_X0_yearLength p1) (hd : m_X0_requireDate (m_X0_dateOfYearDay p1 p2) = 0) : m_X0_giveYearDay p0 p1 p2 z = m_X0_give p0 (m_X0_dateOfYearDay p1 p2) z := by
  unfold m_X0_giveYearDay
  rw [if_pos ((rw_is (A := 1) (B := 366) (by decide) (by decide)).mpr hw), if_pos hl, give_e0 hp hd, if_pos rfl]
theorem sm_ofYearDay (p0 p1 p2 : Int32) {z : CS} {w : MS} (h : sR z w) : sX (1, 2) (m_X0_ofYearDay p0 p1 p2 z) (o_X3_ofYearDay p0 p1 p2 w) := by
  unfold m_X0_ofYearDay o_X3_ofYearDay
  have ey : (m_X0_yearLength p1.toInt64).toInt = yl p1.toInt := yl_F (ma_l rfl)
  have el : p2 ≤ m_X0_yearLength p1.toInt64 ↔ p2 ≤ m_X3_lengthOf p1 := by rw [ia_le rfl ey, ia_le rfl (lw_F rfl)]
  refine X_pl (fun hp => X_ny (fun hy => ?_) (fun hy => T_in hy (fx_2 hp (by decide) (T_in one_ne (s_code h nz2 rfl))))) (fun hp => ?_)
  · by_cases hw : m_X3_isIn p2.toInt64 1 366 = 0
    · rw [gy_2 hw, if_neg (show ¬ ((2 : Nat), (0 : Int32), z).1 = 0 from nz2)]
      exact T_ip hy (T_ip hw (fx_2 hp (by decide) (T_in one_ne (s_code h nz2 rfl))))
    · by_cases hl : p2 ≤ m_X3_lengthOf p1
      · have b := ny_F hy
        have hl2 := (ia_le rfl (lw_F (p := p1) rfl)).mp hl
        have h1 : 1 ≤ p2.toInt ∧ p2.toInt ≤ 366 := i2_F hw
        obtain ⟨d, e, d1, d2⟩ := yd_E (p0 := p1.toInt64) (y := p1) (ma_l rfl) b h1.1 hl2
        rw [gy_0 hp hw (el.mpr hl) ((pk_rq d2 d1.1).mpr d1.2)]
        refine T_ip hy (T_in hw (T_ip hl (fx_0 hp rfl rfl (T_ip rfl (T_b (Q := fun y => y = d) ⟨_, e, rfl⟩ (fun y hy => ?_))))))
        subst hy
        exact s_give h hp d2 d1 rfl
      · rw [gy_3 hw (fun g => hl (el.mp g)), if_neg (show ¬ ((3 : Nat), (0 : Int32), z).1 = 0 from nz3)]
        exact T_ip hy (T_in hw (T_in hl (fx_3 hp rfl one_ne (T_in one_ne (s_code h nz3 rfl)))))
  · refine T_i (fun _ => T_i (fun _ => fx_1 hp (T_in one_ne (s_code h nz1 rfl))) (fun _ => T_i (fun _ => fx_1 hp (T_in one_ne (s_code h nz1 rfl))) (fun _ => fx_1 hp (T_in one_ne (s_code h nz1 rfl))))) (fun _ => fx_1 hp (T_in one_ne (s_code h nz1 rfl)))
theorem sm_withDayOfYear (p0 p1 : Int32) {z : CS} {w : MS} (h : sR z w) : sX (1, 2) (m_X0_withDayOfYear p0 p1 z) (o_X3_withDayOfYear p0 p1 w) := by
  unfold m_X0_withDayOfYear o_X3_withDayOfYear
  refine X_at (fun hp => ?_) (fun hp => ?_)
  · obtain ⟨hD, hd⟩ := at_R h hp
    have hy := pk_yr hD hd.1
    have el : p1 ≤ m_X0_yearLength (m_X0_yearIn (m_X0_dateAt p0 z).2) ↔ p1 ≤ m_X3_lengthOf (w.2.1 p0.toNatClampNeg).1 := by rw [vv_ly hD hd.1]
    by_cases hw : m_X3_isIn p1.toInt64 1 366 = 0
    · rw [gy_2 hw, if_neg (show ¬ ((2 : Nat), (0 : Int32), z).1 = 0 from nz2)]
      exact T_ip hw (fx_2 hp (by decide) (T_in one_ne (s_code h nz2 rfl)))
    · by_cases hl : p1 ≤ m_X3_lengthOf (w.2.1 p0.toNatClampNeg).1
      · have hl2 := (ia_le rfl (lw_F (p := (w.2.1 p0.toNatClampNeg).1) rfl)).mp hl
        have h1 : 1 ≤ p1.toInt ∧ p1.toInt ≤ 366 := i2_F hw
        obtain ⟨d, e, d1, d2⟩ := yd_E hy hd.2 h1.1 hl2
        rw [gy_0 hp hw (el.mpr hl) ((pk_rq d2 d1.1).mpr d1.2)]
        refine T_in hw (fx_0 hp rfl rfl (T_ip rfl (T_g6 hp (T_ip hl (fx_0 rfl rfl rfl (T_ip rfl (T_b (Q := fun y => y = d) ⟨_, e, rfl⟩ (fun y hy => ?_))))))))
        subst hy
        exact s_give h hp d2 d1 rfl
      · rw [gy_3 hw (fun g => hl (el.mp g)), if_neg (show ¬ ((3 : Nat), (0 : Int32), z).1 = 0 from nz3)]
        exact T_in hw (fx_0 hp rfl rfl (T_ip rfl (T_g6 hp (T_in hl (fx_3 rfl rfl one_ne (T_in one_ne (s_code h nz3 rfl)))))))
  · exact T_i (fun _ => fx_1 hp (T_in one_ne (s_code h nz1 rfl))) (fun _ => fx_1 hp (T_in one_ne (s_code h nz1 rfl)))
