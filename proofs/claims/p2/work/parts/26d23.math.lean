theorem nz1 : ¬ (1 : Nat) = 0 := by decide
theorem nz2 : ¬ (2 : Nat) = 0 := by decide
theorem nz3 : ¬ (3 : Nat) = 0 := by decide
theorem s_none {k : Nat × Nat} {z : CS} {w : MS} {c : Nat} {a : Int32} {t : Int32} (h : sR z w) (hc : ¬ c = 0) (ht : t = wk k.1 k.2 c) : sX k (c, 0, z) (some (a, (t, w.2))) := s_code h hc ht
theorem gT_3 {p : Int32} {D : Int64} {z : CS} (hd : ¬ m_X0_requireDate D = 0) : (if (m_X0_give p D z).1 = 0 then (0, (m_X0_give p D z).2.1, (m_X0_give p D z).2.2) else ((m_X0_give p D z).1, 0, (m_X0_give p D z).2.2) : Nat × Int32 × CS) = (3, 0, z) := by
  rw [give_e3 hd]; rfl
theorem sm_copy (p0 p1 : Int32) {z : CS} {w : MS} (h : sR z w) : sX (1, 2) (m_X0_copy p0 p1 z) (o_X3_copy p0 p1 w) := by
  unfold m_X0_copy o_X3_copy
  refine X_pl (fun hp => X_at (fun hq => ?_) (fun hq => T_ip hp (T_in hq (fx_1 (by decide) (T_in one_ne (s_code h nz1 rfl)))))) (fun hp => ?_)
  · obtain ⟨hD, hd⟩ := at_R h hq
    refine T_ip hp (T_ip hq (fx_0 rfl rfl rfl (T_ip rfl (T_g6 hq ?_))))
    exact s_give h hp hD hd rfl
  · exact T_in hp (fx_1 (by decide) (T_in one_ne (s_code h nz1 rfl)))
theorem pk_ep : pkD (1008673 : Int64) ((1970 : Int32), (1 : Int32), (1 : Int32)) := by unfold pkD; decide
theorem sm_epoch (p0 : Int32) {z : CS} {w : MS} (h : sR z w) : sX (1, 2) (m_X0_epoch p0 z) (o_X3_epoch p0 w) := by
  unfold m_X0_epoch o_X3_epoch
  by_cases hp : m_X3_isNo p0 = 0
  · obtain ⟨hD, hd⟩ := at_R h hp
    rw [td_e hp, if_pos rfl, give_e0 hp ep_y, if_pos rfl]
    refine fx_0 hp rfl rfl (T_ip rfl (T_g6 hp (v_nu hd.1 (fun v hv => ?_))))
    obtain ⟨x, e1, e2⟩ := gives_e (w := ((0 : Int32), w.2)) hp dR_ep.1
    exact T_b (Q := fun y => y = (x, _)) ⟨_, e2, rfl⟩ (fun y hy => by subst hy; exact ⟨_, rfl, sR_put (w := ((0 : Int32), w.2)) h pk_ep dR_ep, rfl, fun _ => pk_nuI hD hd.1 hv⟩)
  · rw [td_1 hp, if_neg (by decide)]
    exact fx_1 hp (T_in one_ne (s_code h nz1 rfl))
theorem sm_ofDay (p0 p1 : Int32) {z : CS} {w : MS} (h : sR z w) : sX (1, 2) (m_X0_ofDay p0 p1 z) (o_X3_ofDay p0 p1 w) := by
  unfold m_X0_ofDay o_X3_ofDay
  refine X_pl (fun hp => X_rw (A := -4371587) (B := 2932896) (by decide) (by decide) (fun hw => ?_) (fun hw => T_ip hw (fx_2 hp (by decide) (T_in one_ne (s_code h nz2 rfl))))) (fun hp => ?_)
  · have := isin_F (ma_l (a := p1) rfl) (show (-4371587 : Int64).toInt = -4371587 from rfl) (show (2932896 : Int64).toInt = 2932896 from rfl)
    have h2 : -4371587 ≤ p1.toInt ∧ p1.toInt ≤ 2932896 := Classical.byContradiction fun g => hw (this.mpr g)
    obtain ⟨d, e, d1, d2⟩ := on_F (p := p1) rfl (by omega) (by omega)
    have hb := dN_b d1
    rw [d2] at hb
    have hD := pk_dn (p := p1.toInt64) (ma_l rfl) (by omega) (by omega) d1 d2
    refine T_in hw (fx_0 hp rfl rfl (T_ip rfl (T_b (Q := fun y => y = d) ⟨_, e, rfl⟩ (fun y hy => ?_))))
    subst hy
    exact s_give h hp hD ⟨d1, yr_in hb.1 hb.2 h2.1 h2.2⟩ rfl
  · exact T_i (fun _ => fx_1 hp (T_in one_ne (s_code h nz1 rfl))) (fun _ => fx_1 hp (T_in one_ne (s_code h nz1 rfl)))
theorem sm_withYear (p0 p1 : Int32) {z : CS} {w : MS} (h : sR z w) : sX (1, 2) (m_X0_withYear p0 p1 z) (o_X3_withYear p0 p1 w) := by
  unfold m_X0_withYear o_X3_withYear
  refine X_at (fun hp => X_ny (fun hy => ?_) (fun hy => fx_2 hp hy (T_in one_ne (s_code h nz2 rfl)))) (fun hp => fx_1 hp (T_in one_ne (s_code h nz1 rfl)))
  obtain ⟨hD, hd⟩ := at_R h hp
  have b := ny_F hy
  obtain ⟨e, g1, g2, g3, g4, g5⟩ := nr_F (p0 := p1) rfl (p1 := (w.2.1 p0.toNatClampNeg).2.1) rfl hd.1.1 hd.1.2.1 (p2 := (w.2.1 p0.toNatClampNeg).2.2) hd.1.2.2.1 (by omega) (by omega)
  have hf : pkD (m_X0_fittedDate p1.toInt64 (m_X0_monthIn (m_X0_dateAt p0 z).2) (m_X0_dayIn (m_X0_dateAt p0 z).2)) e := by
    refine pk_fi (by rw [ma_l rfl, g3]) (by rw [pk_mo hD hd.1, g4]) g2 ?_
    rw [pk_da hD hd.1, g5, g3, g4]
  refine fx_0 hp hy rfl (T_ip rfl (T_g6 hp (T_g6 hp (T_b (Q := fun x => x = e) ⟨_, g1, rfl⟩ (fun x hx => ?_)))))
  subst hx
  exact s_give h hp hf ⟨g2, by rw [g3]; exact b⟩ rfl
theorem sm_withMonth (p0 p1 : Int32) {z : CS} {w : MS} (h : sR z w) : sX (1, 2) (m_X0_withMonth p0 p1 z) (o_X3_withMonth p0 p1 w) := by
  unfold m_X0_withMonth o_X3_withMonth
  refine X_at (fun hp => X_rw (A := 1) (B := 12) (by decide) (by decide) (fun hm => ?_) (fun hm => T_ip hm (fx_2 hp (by decide) (T_in one_ne (s_code h nz2 rfl))))) (fun hp => ?_)
  · obtain ⟨hD, hd⟩ := at_R h hp
    have b := i2_12 hm
    obtain ⟨e, g1, g2, g3, g4, g5⟩ := nr_F (p0 := (w.2.1 p0.toNatClampNeg).1) rfl (p1 := p1) rfl b.1 b.2 (p2 := (w.2.1 p0.toNatClampNeg).2.2) hd.1.2.2.1 hd.1.2.2.2.2.1 hd.1.2.2.2.2.2
    have hf : pkD (m_X0_fittedDate (m_X0_yearIn (m_X0_dateAt p0 z).2) p1 (m_X0_dayIn (m_X0_dateAt p0 z).2)) e := by
      refine pk_fi (by rw [pk_yr hD hd.1, g3]) g4.symm g2 ?_
      rw [pk_da hD hd.1, g5, g3, g4]
    refine T_in hm (fx_0 hp rfl rfl (T_ip rfl (T_g6 hp (T_g6 hp (T_b (Q := fun x => x = e) ⟨_, g1, rfl⟩ (fun x hx => ?_))))))
    subst hx
    exact s_give h hp hf ⟨g2, by rw [g3]; exact hd.2⟩ rfl
  · exact T_i (fun _ => fx_1 hp (T_in one_ne (s_code h nz1 rfl))) (fun _ => fx_1 hp (T_in one_ne (s_code h nz1 rfl)))
theorem sm_toFirst (p0 : Int32) {z : CS} {w : MS} (h : sR z w) : sX (1, 2) (m_X0_toFirst p0 z) (o_X3_toFirst p0 w) := by
  unfold m_X0_toFirst o_X3_toFirst
  refine X_at (fun hp => ?_) (fun hp => fx_1 hp (T_in one_ne (s_code h nz1 rfl)))
  obtain ⟨hD, hd⟩ := at_R h hp
  have hy := pk_yr hD hd.1
  have hm := pk_mo hD hd.1
  have hf : pkD (m_X0_dateOf (m_X0_yearIn (m_X0_dateAt p0 z).2) (m_X0_monthIn (m_X0_dateAt p0 z).2) 1) ((w.2.1 p0.toNatClampNeg).1, (w.2.1 p0.toNatClampNeg).2.1, (1 : Int32)) := pk_of (d := ((w.2.1 p0.toNatClampNeg).1, (w.2.1 p0.toNatClampNeg).2.1, (1 : Int32))) (dR_fi hd).1 hy hm rfl
  refine fx_0 hp rfl rfl (T_ip rfl (T_g6 hp (T_g6 hp ?_)))
  exact s_give h hp hf (dR_fi hd) rfl
theorem sm_toLast (p0 : Int32) {z : CS} {w : MS} (h : sR z w) : sX (1, 2) (m_X0_toLast p0 z) (o_X3_toLast p0 w) := by
  unfold m_X0_toLast o_X3_toLast
  refine X_at (fun hp => ?_) (fun hp => fx_1 hp (T_in one_ne (s_code h nz1 rfl)))
  obtain ⟨hD, hd⟩ := at_R h hp
  obtain ⟨e, g1, g2, g3, g4, g5⟩ := nr_F (p0 := (w.2.1 p0.toNatClampNeg).1) rfl (p1 := (w.2.1 p0.toNatClampNeg).2.1) rfl hd.1.1 hd.1.2.1 (p2 := 31) (by decide) hd.1.2.2.2.2.1 hd.1.2.2.2.2.2
  have hf : pkD (m_X0_fittedDate (m_X0_yearIn (m_X0_dateAt p0 z).2) (m_X0_monthIn (m_X0_dateAt p0 z).2) 31) e := by
    refine pk_fi (by rw [pk_yr hD hd.1, g3]) (by rw [pk_mo hD hd.1, g4]) g2 ?_
    rw [g5, g3, g4]
  refine fx_0 hp rfl rfl (T_ip rfl (T_g6 hp (T_g6 hp (T_b (Q := fun x => x = e) ⟨_, g1, rfl⟩ (fun x hx => ?_)))))
  subst hx
  exact s_give h hp hf ⟨g2, by rw [g3]; exact hd.2⟩ rfl
