theorem dR_v {d : DT} (h : dR d) : dV d := h.1
theorem dR_y {d : DT} (h : dR d) : -9999 ≤ d.1.toInt ∧ d.1.toInt ≤ 9999 := h.2
theorem dR_i {d : DT} (h : dV d) (h2 : -9999 ≤ d.1.toInt ∧ d.1.toInt ≤ 9999) : dR d := ⟨h, h2⟩
theorem dV_m {d : DT} (h : dV d) : 1 ≤ d.2.1.toInt ∧ d.2.1.toInt ≤ 12 := ⟨h.1, h.2.1⟩
theorem dV_d {d : DT} (h : dV d) : 1 ≤ d.2.2.toInt := h.2.2.1
theorem i2_12 {m : Int32} (h : ¬ m_X3_isIn m.toInt64 1 12 = 0) : 1 ≤ m.toInt ∧ m.toInt ≤ 12 := i2_F h
theorem one_ne : ¬ (1 : Int32) = 0 := by decide
theorem i2_m {p : Int32} (h : ¬ m_X3_isIn p.toInt64 (-200000) 200000 = 0) : -200000 ≤ p.toInt ∧ p.toInt ≤ 200000 := by
  have := isin_F (ma_l (a := p) rfl) (show (-200000 : Int64).toInt = -200000 from rfl) (show (200000 : Int64).toInt = 200000 from rfl)
  exact Classical.byContradiction fun g => h (this.mpr g)
theorem rK_rc {kn : Int32} {z : MS} (h : rK kn z) (i : Nat) (hi : i < 6) : dR (z.2.1 i) := h.1 i hi
theorem u_c {u : Int32} (h : (u == 0 || u == 1 || u == 2 || u == 3 || u == 4 || u == 5 || u == 6) = true) : u = 0 ∨ u = 1 ∨ u = 2 ∨ u = 3 ∨ u = 4 ∨ u = 5 ∨ u = 6 := by
  simpa [or_assoc] using h
theorem dR_mk {y m d v : Int32} (h1 : m_X3_isNoYear y = 0) (h2 : ¬ m_X3_isIn m.toInt64 1 12 = 0) (h3 : ¬ m_X3_isIn d.toInt64 1 31 = 0) (hv : v.toInt = ml y.toInt m.toInt) (hl : d ≤ v) : dR (y, m, d) := by
  have a := ny_F h1
  have b : 1 ≤ m.toInt ∧ m.toInt ≤ 12 := i2_F h2
  have c : 1 ≤ d.toInt ∧ d.toInt ≤ 31 := i2_F h3
  have l := (ia_le rfl hv).mp hl
  exact ⟨⟨b.1, b.2, c.1, l, by show -300000 ≤ y.toInt; omega, by show y.toInt ≤ 300000; omega⟩, a⟩
theorem dR_wd {e : DT} {d v : Int32} (he : dR e) (h3 : ¬ m_X3_isIn d.toInt64 1 31 = 0) (hv : v.toInt = ml e.1.toInt e.2.1.toInt) (hl : d ≤ v) : dR (e.1, e.2.1, d) := by
  have c : 1 ≤ d.toInt ∧ d.toInt ≤ 31 := i2_F h3
  have l := (ia_le rfl hv).mp hl
  exact ⟨⟨he.1.1, he.1.2.1, c.1, l, he.1.2.2.2.2⟩, he.2⟩
theorem dR_fi {e : DT} (he : dR e) : dR (e.1, e.2.1, (1 : Int32)) := by
  have := ml_b e.1.toInt e.2.1.toInt
  exact ⟨⟨he.1.1, he.1.2.1, by show (1 : Int) ≤ 1; omega, by show (1 : Int) ≤ ml e.1.toInt e.2.1.toInt; omega, he.1.2.2.2.2⟩, he.2⟩
set_option maxHeartbeats 4000000 in
theorem t_of {kn : Int32} (p0 : Int32) (p1 : Int32) (p2 : Int32) (p3 : Int32) (z : MS) (hz : rK kn z) : T (fun r => rK kn r.2) (o_X3_of p0 p1 p2 p3 z) := by
  unfold o_X3_of
  with_reducible repeat' (first
    | exact T_s (by assumption)
    | (refine T_fl (by assumption) (fun ha hb hc w hw _ => ?_) (fun w hw => T_in one_ne (T_s hw)); first | exact absurd ha (by decide) | exact absurd hb (by decide) | exact absurd hc (by decide) | refine T_ip rfl ?_)
    | (refine T_an (by assumption) (fun ha hb w hw => T_ip rfl ?_) (fun w hw => T_in one_ne (T_s hw)))
    | refine T_g6 (by assumption) ?_
    | refine T_g2 (by assumption) ?_
    | refine T_g3 (by assumption) ?_
    | refine T_gi (by assumption) (by assumption) (by first | assumption | exact rK_dr (by assumption) (by assumption) | exact rK_rc (by assumption) _ (by decide) | exact dR_ep | exact dR_i (by assumption) (by assumption) | exact dR_mk (by assumption) (by assumption) (by assumption) (by assumption) (by assumption) | exact dR_wd (rK_dr (by assumption) (by assumption)) (by assumption) (by assumption) (by assumption) | exact dR_fi (rK_dr (by assumption) (by assumption))) (fun v w hw => T_s hw)
    | refine T_te (by assumption) (by assumption) (fun v w hw => T_s hw)
    | refine T_nu (by first | assumption | exact rK_dv (by assumption) (by assumption) | exact rK_dc (by assumption) _ (by decide) | exact dR_v (by assumption)) (fun v => ?_)
    | refine T_iy (by first | assumption | exact rK_dv (by assumption) (by assumption) | exact rK_dc (by assumption) _ (by decide) | exact dR_v (by assumption)) (fun v => ?_)
    | refine T_lm (by assumption) (fun v hv => ?_)
    | refine T_lo (by first | assumption | exact rK_dv (by assumption) (by assumption) | exact rK_dc (by assumption) _ (by decide) | exact dR_v (by assumption)) (fun v hv => ?_)
    | refine T_id (fun h => T_in one_ne ?_) (T_ip rfl ?_)
    | refine T_dn (T_ip rfl ?_)
    | refine T_en ?_
    | refine T_es ?_
    | refine T_nr (by first | exact ny_F (by assumption) | exact dR_y (rK_dr (by assumption) (by assumption))) (by first | exact i2_12 (by assumption) | exact dV_m (rK_dv (by assumption) (by assumption))) (by first | decide | exact dV_d (rK_dv (by assumption) (by assumption))) (fun e he => ?_)
    | refine T_la (by first | assumption | exact rK_dv (by assumption) (by assumption) | exact rK_dc (by assumption) _ (by decide) | exact dR_v (by assumption)) (sp_b _ _ (by first | assumption | exact Or.inl rfl | exact Or.inr rfl)) ?_ (fun e he => ?_)
    | refine T_ld (by first | assumption | exact rK_dv (by assumption) (by assumption) | exact rK_dc (by assumption) _ (by decide) | exact dR_v (by assumption)) (sd_b _ (by first | assumption | exact Or.inl rfl | exact Or.inr rfl)) ?_ (fun e he => ?_)
    | refine T_mv (by first | assumption | exact u_06 (by assumption) | exact u_c (by decide) | simp) (by first | assumption | exact rK_dv (by assumption) (by assumption) | exact rK_dc (by assumption) _ (by decide) | exact dR_v (by assumption)) (by first | exact pos_b (i2_m (by assumption)) | exact neg_b (i2_m (by assumption))) ?_ (fun e he => ?_)
    | refine T_ah (fun v => ?_)
    | refine T_mo (by first | assumption | exact rK_dr (by assumption) (by assumption) | exact rK_rc (by assumption) _ (by decide) | exact dR_ep | exact dR_i (by assumption) (by assumption) | exact dR_mk (by assumption) (by assumption) (by assumption) (by assumption) (by assumption) | exact dR_wd (rK_dr (by assumption) (by assumption)) (by assumption) (by assumption) (by assumption) | exact dR_fi (rK_dr (by assumption) (by assumption))) (by first | assumption | exact rK_dr (by assumption) (by assumption) | exact rK_rc (by assumption) _ (by decide) | exact dR_ep | exact dR_i (by assumption) (by assumption) | exact dR_mk (by assumption) (by assumption) (by assumption) (by assumption) (by assumption) | exact dR_wd (rK_dr (by assumption) (by assumption)) (by assumption) (by assumption) (by assumption) | exact dR_fi (rK_dr (by assumption) (by assumption))) (fun v => ?_)
    | refine T_do (by first | assumption | exact rK_dr (by assumption) (by assumption) | exact rK_rc (by assumption) _ (by decide) | exact dR_ep | exact dR_i (by assumption) (by assumption) | exact dR_mk (by assumption) (by assumption) (by assumption) (by assumption) (by assumption) | exact dR_wd (rK_dr (by assumption) (by assumption)) (by assumption) (by assumption) (by assumption) | exact dR_fi (rK_dr (by assumption) (by assumption))) (by first | assumption | exact rK_dr (by assumption) (by assumption) | exact rK_rc (by assumption) _ (by decide) | exact dR_ep | exact dR_i (by assumption) (by assumption) | exact dR_mk (by assumption) (by assumption) (by assumption) (by assumption) (by assumption) | exact dR_wd (rK_dr (by assumption) (by assumption)) (by assumption) (by assumption) (by assumption) | exact dR_fi (rK_dr (by assumption) (by assumption))) (fun v => ?_)
    | refine T_wh (by first | assumption | exact rK_dr (by assumption) (by assumption) | exact rK_rc (by assumption) _ (by decide) | exact dR_ep | exact dR_i (by assumption) (by assumption) | exact dR_mk (by assumption) (by assumption) (by assumption) (by assumption) (by assumption) | exact dR_wd (rK_dr (by assumption) (by assumption)) (by assumption) (by assumption) (by assumption) | exact dR_fi (rK_dr (by assumption) (by assumption))) (by first | assumption | exact rK_dr (by assumption) (by assumption) | exact rK_rc (by assumption) _ (by decide) | exact dR_ep | exact dR_i (by assumption) (by assumption) | exact dR_mk (by assumption) (by assumption) (by assumption) (by assumption) (by assumption) | exact dR_wd (rK_dr (by assumption) (by assumption)) (by assumption) (by assumption) (by assumption) | exact dR_fi (rK_dr (by assumption) (by assumption))) (by first | assumption | exact u_06 (by assumption) | exact u_c (by decide) | simp) (fun v => ?_)
    | refine T_cp (fun v => ?_)
    | refine T_lk (fun v => ?_)
    | refine T_fo (by first | assumption | exact rK_dv (by assumption) (by assumption) | exact rK_dc (by assumption) _ (by decide) | exact dR_v (by assumption)) (fun v => ?_)
    | refine T_tx (by first | assumption | exact rK_dr (by assumption) (by assumption) | exact rK_rc (by assumption) _ (by decide) | exact dR_ep | exact dR_i (by assumption) (by assumption) | exact dR_mk (by assumption) (by assumption) (by assumption) (by assumption) (by assumption) | exact dR_wd (rK_dr (by assumption) (by assumption)) (by assumption) (by assumption) (by assumption) | exact dR_fi (rK_dr (by assumption) (by assumption))) (fun v => ?_)
    | refine T_ad (by first | assumption | exact rK_dr (by assumption) (by assumption) | exact rK_rc (by assumption) _ (by decide) | exact dR_ep | exact dR_i (by assumption) (by assumption) | exact dR_mk (by assumption) (by assumption) (by assumption) (by assumption) (by assumption) | exact dR_wd (rK_dr (by assumption) (by assumption)) (by assumption) (by assumption) (by assumption) | exact dR_fi (rK_dr (by assumption) (by assumption))) (fun v => ?_)
    | refine T_on (by assumption) (fun e he => ?_)
    | refine T_oy (by first | exact ny_F (by assumption) | exact dR_y (rK_dr (by assumption) (by assumption))) (by assumption) (by assumption) (fun e he => ?_)
    | refine T_i (fun h => ?_) (fun h => ?_))
set_option maxHeartbeats 4000000 in
theorem t_ofDay {kn : Int32} (p0 : Int32) (p1 : Int32) (z : MS) (hz : rK kn z) : T (fun r => rK kn r.2) (o_X3_ofDay p0 p1 z) := by
  unfold o_X3_ofDay
  with_reducible repeat' (first
    | exact T_s (by assumption)
    | (refine T_fl (by assumption) (fun ha hb hc w hw _ => ?_) (fun w hw => T_in one_ne (T_s hw)); first | exact absurd ha (by decide) | exact absurd hb (by decide) | exact absurd hc (by decide) | refine T_ip rfl ?_)
    | (refine T_an (by assumption) (fun ha hb w hw => T_ip rfl ?_) (fun w hw => T_in one_ne (T_s hw)))
    | refine T_g6 (by assumption) ?_
    | refine T_g2 (by assumption) ?_
    | refine T_g3 (by assumption) ?_
    | refine T_gi (by assumption) (by assumption) (by first | assumption | exact rK_dr (by assumption) (by assumption) | exact rK_rc (by assumption) _ (by decide) | exact dR_ep | exact dR_i (by assumption) (by assumption) | exact dR_mk (by assumption) (by assumption) (by assumption) (by assumption) (by assumption) | exact dR_wd (rK_dr (by assumption) (by assumption)) (by assumption) (by assumption) (by assumption) | exact dR_fi (rK_dr (by assumption) (by assumption))) (fun v w hw => T_s hw)
    | refine T_te (by assumption) (by assumption) (fun v w hw => T_s hw)
    | refine T_nu (by first | assumption | exact rK_dv (by assumption) (by assumption) | exact rK_dc (by assumption) _ (by decide) | exact dR_v (by assumption)) (fun v => ?_)
    | refine T_iy (by first | assumption | exact rK_dv (by assumption) (by assumption) | exact rK_dc (by assumption) _ (by decide) | exact dR_v (by assumption)) (fun v => ?_)
    | refine T_lm (by assumption) (fun v hv => ?_)
    | refine T_lo (by first | assumption | exact rK_dv (by assumption) (by assumption) | exact rK_dc (by assumption) _ (by decide) | exact dR_v (by assumption)) (fun v hv => ?_)
    | refine T_id (fun h => T_in one_ne ?_) (T_ip rfl ?_)
    | refine T_dn (T_ip rfl ?_)
    | refine T_en ?_
    | refine T_es ?_
    | refine T_nr (by first | exact ny_F (by assumption) | exact dR_y (rK_dr (by assumption) (by assumption))) (by first | exact i2_12 (by assumption) | exact dV_m (rK_dv (by assumption) (by assumption))) (by first | decide | exact dV_d (rK_dv (by assumption) (by assumption))) (fun e he => ?_)
    | refine T_la (by first | assumption | exact rK_dv (by assumption) (by assumption) | exact rK_dc (by assumption) _ (by decide) | exact dR_v (by assumption)) (sp_b _ _ (by first | assumption | exact Or.inl rfl | exact Or.inr rfl)) ?_ (fun e he => ?_)
    | refine T_ld (by first | assumption | exact rK_dv (by assumption) (by assumption) | exact rK_dc (by assumption) _ (by decide) | exact dR_v (by assumption)) (sd_b _ (by first | assumption | exact Or.inl rfl | exact Or.inr rfl)) ?_ (fun e he => ?_)
    | refine T_mv (by first | assumption | exact u_06 (by assumption) | exact u_c (by decide) | simp) (by first | assumption | exact rK_dv (by assumption) (by assumption) | exact rK_dc (by assumption) _ (by decide) | exact dR_v (by assumption)) (by first | exact pos_b (i2_m (by assumption)) | exact neg_b (i2_m (by assumption))) ?_ (fun e he => ?_)
    | refine T_ah (fun v => ?_)
    | refine T_mo (by first | assumption | exact rK_dr (by assumption) (by assumption) | exact rK_rc (by assumption) _ (by decide) | exact dR_ep | exact dR_i (by assumption) (by assumption) | exact dR_mk (by assumption) (by assumption) (by assumption) (by assumption) (by assumption) | exact dR_wd (rK_dr (by assumption) (by assumption)) (by assumption) (by assumption) (by assumption) | exact dR_fi (rK_dr (by assumption) (by assumption))) (by first | assumption | exact rK_dr (by assumption) (by assumption) | exact rK_rc (by assumption) _ (by decide) | exact dR_ep | exact dR_i (by assumption) (by assumption) | exact dR_mk (by assumption) (by assumption) (by assumption) (by assumption) (by assumption) | exact dR_wd (rK_dr (by assumption) (by assumption)) (by assumption) (by assumption) (by assumption) | exact dR_fi (rK_dr (by assumption) (by assumption))) (fun v => ?_)
    | refine T_do (by first | assumption | exact rK_dr (by assumption) (by assumption) | exact rK_rc (by assumption) _ (by decide) | exact dR_ep | exact dR_i (by assumption) (by assumption) | exact dR_mk (by assumption) (by assumption) (by assumption) (by assumption) (by assumption) | exact dR_wd (rK_dr (by assumption) (by assumption)) (by assumption) (by assumption) (by assumption) | exact dR_fi (rK_dr (by assumption) (by assumption))) (by first | assumption | exact rK_dr (by assumption) (by assumption) | exact rK_rc (by assumption) _ (by decide) | exact dR_ep | exact dR_i (by assumption) (by assumption) | exact dR_mk (by assumption) (by assumption) (by assumption) (by assumption) (by assumption) | exact dR_wd (rK_dr (by assumption) (by assumption)) (by assumption) (by assumption) (by assumption) | exact dR_fi (rK_dr (by assumption) (by assumption))) (fun v => ?_)
    | refine T_wh (by first | assumption | exact rK_dr (by assumption) (by assumption) | exact rK_rc (by assumption) _ (by decide) | exact dR_ep | exact dR_i (by assumption) (by assumption) | exact dR_mk (by assumption) (by assumption) (by assumption) (by assumption) (by assumption) | exact dR_wd (rK_dr (by assumption) (by assumption)) (by assumption) (by assumption) (by assumption) | exact dR_fi (rK_dr (by assumption) (by assumption))) (by first | assumption | exact rK_dr (by assumption) (by assumption) | exact rK_rc (by assumption) _ (by decide) | exact dR_ep | exact dR_i (by assumption) (by assumption) | exact dR_mk (by assumption) (by assumption) (by assumption) (by assumption) (by assumption) | exact dR_wd (rK_dr (by assumption) (by assumption)) (by assumption) (by assumption) (by assumption) | exact dR_fi (rK_dr (by assumption) (by assumption))) (by first | assumption | exact u_06 (by assumption) | exact u_c (by decide) | simp) (fun v => ?_)
    | refine T_cp (fun v => ?_)
    | refine T_lk (fun v => ?_)
    | refine T_fo (by first | assumption | exact rK_dv (by assumption) (by assumption) | exact rK_dc (by assumption) _ (by decide) | exact dR_v (by assumption)) (fun v => ?_)
    | refine T_tx (by first | assumption | exact rK_dr (by assumption) (by assumption) | exact rK_rc (by assumption) _ (by decide) | exact dR_ep | exact dR_i (by assumption) (by assumption) | exact dR_mk (by assumption) (by assumption) (by assumption) (by assumption) (by assumption) | exact dR_wd (rK_dr (by assumption) (by assumption)) (by assumption) (by assumption) (by assumption) | exact dR_fi (rK_dr (by assumption) (by assumption))) (fun v => ?_)
    | refine T_ad (by first | assumption | exact rK_dr (by assumption) (by assumption) | exact rK_rc (by assumption) _ (by decide) | exact dR_ep | exact dR_i (by assumption) (by assumption) | exact dR_mk (by assumption) (by assumption) (by assumption) (by assumption) (by assumption) | exact dR_wd (rK_dr (by assumption) (by assumption)) (by assumption) (by assumption) (by assumption) | exact dR_fi (rK_dr (by assumption) (by assumption))) (fun v => ?_)
    | refine T_on (by assumption) (fun e he => ?_)
    | refine T_oy (by first | exact ny_F (by assumption) | exact dR_y (rK_dr (by assumption) (by assumption))) (by assumption) (by assumption) (fun e he => ?_)
    | refine T_i (fun h => ?_) (fun h => ?_))
set_option maxHeartbeats 4000000 in
theorem t_ofYearDay {kn : Int32} (p0 : Int32) (p1 : Int32) (p2 : Int32) (z : MS) (hz : rK kn z) : T (fun r => rK kn r.2) (o_X3_ofYearDay p0 p1 p2 z) := by
  unfold o_X3_ofYearDay
  with_reducible repeat' (first
    | exact T_s (by assumption)
    | (refine T_fl (by assumption) (fun ha hb hc w hw _ => ?_) (fun w hw => T_in one_ne (T_s hw)); first | exact absurd ha (by decide) | exact absurd hb (by decide) | exact absurd hc (by decide) | refine T_ip rfl ?_)
    | (refine T_an (by assumption) (fun ha hb w hw => T_ip rfl ?_) (fun w hw => T_in one_ne (T_s hw)))
    | refine T_g6 (by assumption) ?_
    | refine T_g2 (by assumption) ?_
    | refine T_g3 (by assumption) ?_
    | refine T_gi (by assumption) (by assumption) (by first | assumption | exact rK_dr (by assumption) (by assumption) | exact rK_rc (by assumption) _ (by decide) | exact dR_ep | exact dR_i (by assumption) (by assumption) | exact dR_mk (by assumption) (by assumption) (by assumption) (by assumption) (by assumption) | exact dR_wd (rK_dr (by assumption) (by assumption)) (by assumption) (by assumption) (by assumption) | exact dR_fi (rK_dr (by assumption) (by assumption))) (fun v w hw => T_s hw)
    | refine T_te (by assumption) (by assumption) (fun v w hw => T_s hw)
    | refine T_nu (by first | assumption | exact rK_dv (by assumption) (by assumption) | exact rK_dc (by assumption) _ (by decide) | exact dR_v (by assumption)) (fun v => ?_)
    | refine T_iy (by first | assumption | exact rK_dv (by assumption) (by assumption) | exact rK_dc (by assumption) _ (by decide) | exact dR_v (by assumption)) (fun v => ?_)
    | refine T_lm (by assumption) (fun v hv => ?_)
    | refine T_lo (by first | assumption | exact rK_dv (by assumption) (by assumption) | exact rK_dc (by assumption) _ (by decide) | exact dR_v (by assumption)) (fun v hv => ?_)
    | refine T_id (fun h => T_in one_ne ?_) (T_ip rfl ?_)
    | refine T_dn (T_ip rfl ?_)
    | refine T_en ?_
    | refine T_es ?_
    | refine T_nr (by first | exact ny_F (by assumption) | exact dR_y (rK_dr (by assumption) (by assumption))) (by first | exact i2_12 (by assumption) | exact dV_m (rK_dv (by assumption) (by assumption))) (by first | decide | exact dV_d (rK_dv (by assumption) (by assumption))) (fun e he => ?_)
    | refine T_la (by first | assumption | exact rK_dv (by assumption) (by assumption) | exact rK_dc (by assumption) _ (by decide) | exact dR_v (by assumption)) (sp_b _ _ (by first | assumption | exact Or.inl rfl | exact Or.inr rfl)) ?_ (fun e he => ?_)
    | refine T_ld (by first | assumption | exact rK_dv (by assumption) (by assumption) | exact rK_dc (by assumption) _ (by decide) | exact dR_v (by assumption)) (sd_b _ (by first | assumption | exact Or.inl rfl | exact Or.inr rfl)) ?_ (fun e he => ?_)
    | refine T_mv (by first | assumption | exact u_06 (by assumption) | exact u_c (by decide) | simp) (by first | assumption | exact rK_dv (by assumption) (by assumption) | exact rK_dc (by assumption) _ (by decide) | exact dR_v (by assumption)) (by first | exact pos_b (i2_m (by assumption)) | exact neg_b (i2_m (by assumption))) ?_ (fun e he => ?_)
    | refine T_ah (fun v => ?_)
    | refine T_mo (by first | assumption | exact rK_dr (by assumption) (by assumption) | exact rK_rc (by assumption) _ (by decide) | exact dR_ep | exact dR_i (by assumption) (by assumption) | exact dR_mk (by assumption) (by assumption) (by assumption) (by assumption) (by assumption) | exact dR_wd (rK_dr (by assumption) (by assumption)) (by assumption) (by assumption) (by assumption) | exact dR_fi (rK_dr (by assumption) (by assumption))) (by first | assumption | exact rK_dr (by assumption) (by assumption) | exact rK_rc (by assumption) _ (by decide) | exact dR_ep | exact dR_i (by assumption) (by assumption) | exact dR_mk (by assumption) (by assumption) (by assumption) (by assumption) (by assumption) | exact dR_wd (rK_dr (by assumption) (by assumption)) (by assumption) (by assumption) (by assumption) | exact dR_fi (rK_dr (by assumption) (by assumption))) (fun v => ?_)
    | refine T_do (by first | assumption | exact rK_dr (by assumption) (by assumption) | exact rK_rc (by assumption) _ (by decide) | exact dR_ep | exact dR_i (by assumption) (by assumption) | exact dR_mk (by assumption) (by assumption) (by assumption) (by assumption) (by assumption) | exact dR_wd (rK_dr (by assumption) (by assumption)) (by assumption) (by assumption) (by assumption) | exact dR_fi (rK_dr (by assumption) (by assumption))) (by first | assumption | exact rK_dr (by assumption) (by assumption) | exact rK_rc (by assumption) _ (by decide) | exact dR_ep | exact dR_i (by assumption) (by assumption) | exact dR_mk (by assumption) (by assumption) (by assumption) (by assumption) (by assumption) | exact dR_wd (rK_dr (by assumption) (by assumption)) (by assumption) (by assumption) (by assumption) | exact dR_fi (rK_dr (by assumption) (by assumption))) (fun v => ?_)
    | refine T_wh (by first | assumption | exact rK_dr (by assumption) (by assumption) | exact rK_rc (by assumption) _ (by decide) | exact dR_ep | exact dR_i (by assumption) (by assumption) | exact dR_mk (by assumption) (by assumption) (by assumption) (by assumption) (by assumption) | exact dR_wd (rK_dr (by assumption) (by assumption)) (by assumption) (by assumption) (by assumption) | exact dR_fi (rK_dr (by assumption) (by assumption))) (by first | assumption | exact rK_dr (by assumption) (by assumption) | exact rK_rc (by assumption) _ (by decide) | exact dR_ep | exact dR_i (by assumption) (by assumption) | exact dR_mk (by assumption) (by assumption) (by assumption) (by assumption) (by assumption) | exact dR_wd (rK_dr (by assumption) (by assumption)) (by assumption) (by assumption) (by assumption) | exact dR_fi (rK_dr (by assumption) (by assumption))) (by first | assumption | exact u_06 (by assumption) | exact u_c (by decide) | simp) (fun v => ?_)
    | refine T_cp (fun v => ?_)
    | refine T_lk (fun v => ?_)
    | refine T_fo (by first | assumption | exact rK_dv (by assumption) (by assumption) | exact rK_dc (by assumption) _ (by decide) | exact dR_v (by assumption)) (fun v => ?_)
    | refine T_tx (by first | assumption | exact rK_dr (by assumption) (by assumption) | exact rK_rc (by assumption) _ (by decide) | exact dR_ep | exact dR_i (by assumption) (by assumption) | exact dR_mk (by assumption) (by assumption) (by assumption) (by assumption) (by assumption) | exact dR_wd (rK_dr (by assumption) (by assumption)) (by assumption) (by assumption) (by assumption) | exact dR_fi (rK_dr (by assumption) (by assumption))) (fun v => ?_)
    | refine T_ad (by first | assumption | exact rK_dr (by assumption) (by assumption) | exact rK_rc (by assumption) _ (by decide) | exact dR_ep | exact dR_i (by assumption) (by assumption) | exact dR_mk (by assumption) (by assumption) (by assumption) (by assumption) (by assumption) | exact dR_wd (rK_dr (by assumption) (by assumption)) (by assumption) (by assumption) (by assumption) | exact dR_fi (rK_dr (by assumption) (by assumption))) (fun v => ?_)
    | refine T_on (by assumption) (fun e he => ?_)
    | refine T_oy (by first | exact ny_F (by assumption) | exact dR_y (rK_dr (by assumption) (by assumption))) (by assumption) (by assumption) (fun e he => ?_)
    | refine T_i (fun h => ?_) (fun h => ?_))
set_option maxHeartbeats 4000000 in
theorem t_copy {kn : Int32} (p0 : Int32) (p1 : Int32) (z : MS) (hz : rK kn z) : T (fun r => rK kn r.2) (o_X3_copy p0 p1 z) := by
  unfold o_X3_copy
  with_reducible repeat' (first
    | exact T_s (by assumption)
    | (refine T_fl (by assumption) (fun ha hb hc w hw _ => ?_) (fun w hw => T_in one_ne (T_s hw)); first | exact absurd ha (by decide) | exact absurd hb (by decide) | exact absurd hc (by decide) | refine T_ip rfl ?_)
    | (refine T_an (by assumption) (fun ha hb w hw => T_ip rfl ?_) (fun w hw => T_in one_ne (T_s hw)))
    | refine T_g6 (by assumption) ?_
    | refine T_g2 (by assumption) ?_
    | refine T_g3 (by assumption) ?_
    | refine T_gi (by assumption) (by assumption) (by first | assumption | exact rK_dr (by assumption) (by assumption) | exact rK_rc (by assumption) _ (by decide) | exact dR_ep | exact dR_i (by assumption) (by assumption) | exact dR_mk (by assumption) (by assumption) (by assumption) (by assumption) (by assumption) | exact dR_wd (rK_dr (by assumption) (by assumption)) (by assumption) (by assumption) (by assumption) | exact dR_fi (rK_dr (by assumption) (by assumption))) (fun v w hw => T_s hw)
    | refine T_te (by assumption) (by assumption) (fun v w hw => T_s hw)
    | refine T_nu (by first | assumption | exact rK_dv (by assumption) (by assumption) | exact rK_dc (by assumption) _ (by decide) | exact dR_v (by assumption)) (fun v => ?_)
    | refine T_iy (by first | assumption | exact rK_dv (by assumption) (by assumption) | exact rK_dc (by assumption) _ (by decide) | exact dR_v (by assumption)) (fun v => ?_)
    | refine T_lm (by assumption) (fun v hv => ?_)
    | refine T_lo (by first | assumption | exact rK_dv (by assumption) (by assumption) | exact rK_dc (by assumption) _ (by decide) | exact dR_v (by assumption)) (fun v hv => ?_)
    | refine T_id (fun h => T_in one_ne ?_) (T_ip rfl ?_)
    | refine T_dn (T_ip rfl ?_)
    | refine T_en ?_
    | refine T_es ?_
    | refine T_nr (by first | exact ny_F (by assumption) | exact dR_y (rK_dr (by assumption) (by assumption))) (by first | exact i2_12 (by assumption) | exact dV_m (rK_dv (by assumption) (by assumption))) (by first | decide | exact dV_d (rK_dv (by assumption) (by assumption))) (fun e he => ?_)
    | refine T_la (by first | assumption | exact rK_dv (by assumption) (by assumption) | exact rK_dc (by assumption) _ (by decide) | exact dR_v (by assumption)) (sp_b _ _ (by first | assumption | exact Or.inl rfl | exact Or.inr rfl)) ?_ (fun e he => ?_)
    | refine T_ld (by first | assumption | exact rK_dv (by assumption) (by assumption) | exact rK_dc (by assumption) _ (by decide) | exact dR_v (by assumption)) (sd_b _ (by first | assumption | exact Or.inl rfl | exact Or.inr rfl)) ?_ (fun e he => ?_)
    | refine T_mv (by first | assumption | exact u_06 (by assumption) | exact u_c (by decide) | simp) (by first | assumption | exact rK_dv (by assumption) (by assumption) | exact rK_dc (by assumption) _ (by decide) | exact dR_v (by assumption)) (by first | exact pos_b (i2_m (by assumption)) | exact neg_b (i2_m (by assumption))) ?_ (fun e he => ?_)
    | refine T_ah (fun v => ?_)
    | refine T_mo (by first | assumption | exact rK_dr (by assumption) (by assumption) | exact rK_rc (by assumption) _ (by decide) | exact dR_ep | exact dR_i (by assumption) (by assumption) | exact dR_mk (by assumption) (by assumption) (by assumption) (by assumption) (by assumption) | exact dR_wd (rK_dr (by assumption) (by assumption)) (by assumption) (by assumption) (by assumption) | exact dR_fi (rK_dr (by assumption) (by assumption))) (by first | assumption | exact rK_dr (by assumption) (by assumption) | exact rK_rc (by assumption) _ (by decide) | exact dR_ep | exact dR_i (by assumption) (by assumption) | exact dR_mk (by assumption) (by assumption) (by assumption) (by assumption) (by assumption) | exact dR_wd (rK_dr (by assumption) (by assumption)) (by assumption) (by assumption) (by assumption) | exact dR_fi (rK_dr (by assumption) (by assumption))) (fun v => ?_)
    | refine T_do (by first | assumption | exact rK_dr (by assumption) (by assumption) | exact rK_rc (by assumption) _ (by decide) | exact dR_ep | exact dR_i (by assumption) (by assumption) | exact dR_mk (by assumption) (by assumption) (by assumption) (by assumption) (by assumption) | exact dR_wd (rK_dr (by assumption) (by assumption)) (by assumption) (by assumption) (by assumption) | exact dR_fi (rK_dr (by assumption) (by assumption))) (by first | assumption | exact rK_dr (by assumption) (by assumption) | exact rK_rc (by assumption) _ (by decide) | exact dR_ep | exact dR_i (by assumption) (by assumption) | exact dR_mk (by assumption) (by assumption) (by assumption) (by assumption) (by assumption) | exact dR_wd (rK_dr (by assumption) (by assumption)) (by assumption) (by assumption) (by assumption) | exact dR_fi (rK_dr (by assumption) (by assumption))) (fun v => ?_)
    | refine T_wh (by first | assumption | exact rK_dr (by assumption) (by assumption) | exact rK_rc (by assumption) _ (by decide) | exact dR_ep | exact dR_i (by assumption) (by assumption) | exact dR_mk (by assumption) (by assumption) (by assumption) (by assumption) (by assumption) | exact dR_wd (rK_dr (by assumption) (by assumption)) (by assumption) (by assumption) (by assumption) | exact dR_fi (rK_dr (by assumption) (by assumption))) (by first | assumption | exact rK_dr (by assumption) (by assumption) | exact rK_rc (by assumption) _ (by decide) | exact dR_ep | exact dR_i (by assumption) (by assumption) | exact dR_mk (by assumption) (by assumption) (by assumption) (by assumption) (by assumption) | exact dR_wd (rK_dr (by assumption) (by assumption)) (by assumption) (by assumption) (by assumption) | exact dR_fi (rK_dr (by assumption) (by assumption))) (by first | assumption | exact u_06 (by assumption) | exact u_c (by decide) | simp) (fun v => ?_)
    | refine T_cp (fun v => ?_)
    | refine T_lk (fun v => ?_)
    | refine T_fo (by first | assumption | exact rK_dv (by assumption) (by assumption) | exact rK_dc (by assumption) _ (by decide) | exact dR_v (by assumption)) (fun v => ?_)
    | refine T_tx (by first | assumption | exact rK_dr (by assumption) (by assumption) | exact rK_rc (by assumption) _ (by decide) | exact dR_ep | exact dR_i (by assumption) (by assumption) | exact dR_mk (by assumption) (by assumption) (by assumption) (by assumption) (by assumption) | exact dR_wd (rK_dr (by assumption) (by assumption)) (by assumption) (by assumption) (by assumption) | exact dR_fi (rK_dr (by assumption) (by assumption))) (fun v => ?_)
    | refine T_ad (by first | assumption | exact rK_dr (by assumption) (by assumption) | exact rK_rc (by assumption) _ (by decide) | exact dR_ep | exact dR_i (by assumption) (by assumption) | exact dR_mk (by assumption) (by assumption) (by assumption) (by assumption) (by assumption) | exact dR_wd (rK_dr (by assumption) (by assumption)) (by assumption) (by assumption) (by assumption) | exact dR_fi (rK_dr (by assumption) (by assumption))) (fun v => ?_)
    | refine T_on (by assumption) (fun e he => ?_)
    | refine T_oy (by first | exact ny_F (by assumption) | exact dR_y (rK_dr (by assumption) (by assumption))) (by assumption) (by assumption) (fun e he => ?_)
    | refine T_i (fun h => ?_) (fun h => ?_))
set_option maxHeartbeats 4000000 in
theorem t_epoch {kn : Int32} (p0 : Int32) (z : MS) (hz : rK kn z) : T (fun r => rK kn r.2) (o_X3_epoch p0 z) := by
  unfold o_X3_epoch
  with_reducible repeat' (first
    | exact T_s (by assumption)
    | (refine T_fl (by assumption) (fun ha hb hc w hw _ => ?_) (fun w hw => T_in one_ne (T_s hw)); first | exact absurd ha (by decide) | exact absurd hb (by decide) | exact absurd hc (by decide) | refine T_ip rfl ?_)
    | (refine T_an (by assumption) (fun ha hb w hw => T_ip rfl ?_) (fun w hw => T_in one_ne (T_s hw)))
    | refine T_g6 (by assumption) ?_
    | refine T_g2 (by assumption) ?_
    | refine T_g3 (by assumption) ?_
    | refine T_gi (by assumption) (by assumption) (by first | assumption | exact rK_dr (by assumption) (by assumption) | exact rK_rc (by assumption) _ (by decide) | exact dR_ep | exact dR_i (by assumption) (by assumption) | exact dR_mk (by assumption) (by assumption) (by assumption) (by assumption) (by assumption) | exact dR_wd (rK_dr (by assumption) (by assumption)) (by assumption) (by assumption) (by assumption) | exact dR_fi (rK_dr (by assumption) (by assumption))) (fun v w hw => T_s hw)
    | refine T_te (by assumption) (by assumption) (fun v w hw => T_s hw)
    | refine T_nu (by first | assumption | exact rK_dv (by assumption) (by assumption) | exact rK_dc (by assumption) _ (by decide) | exact dR_v (by assumption)) (fun v => ?_)
    | refine T_iy (by first | assumption | exact rK_dv (by assumption) (by assumption) | exact rK_dc (by assumption) _ (by decide) | exact dR_v (by assumption)) (fun v => ?_)
    | refine T_lm (by assumption) (fun v hv => ?_)
    | refine T_lo (by first | assumption | exact rK_dv (by assumption) (by assumption) | exact rK_dc (by assumption) _ (by decide) | exact dR_v (by assumption)) (fun v hv => ?_)
    | refine T_id (fun h => T_in one_ne ?_) (T_ip rfl ?_)
    | refine T_dn (T_ip rfl ?_)
    | refine T_en ?_
    | refine T_es ?_
    | refine T_nr (by first | exact ny_F (by assumption) | exact dR_y (rK_dr (by assumption) (by assumption))) (by first | exact i2_12 (by assumption) | exact dV_m (rK_dv (by assumption) (by assumption))) (by first | decide | exact dV_d (rK_dv (by assumption) (by assumption))) (fun e he => ?_)
    | refine T_la (by first | assumption | exact rK_dv (by assumption) (by assumption) | exact rK_dc (by assumption) _ (by decide) | exact dR_v (by assumption)) (sp_b _ _ (by first | assumption | exact Or.inl rfl | exact Or.inr rfl)) ?_ (fun e he => ?_)
    | refine T_ld (by first | assumption | exact rK_dv (by assumption) (by assumption) | exact rK_dc (by assumption) _ (by decide) | exact dR_v (by assumption)) (sd_b _ (by first | assumption | exact Or.inl rfl | exact Or.inr rfl)) ?_ (fun e he => ?_)
    | refine T_mv (by first | assumption | exact u_06 (by assumption) | exact u_c (by decide) | simp) (by first | assumption | exact rK_dv (by assumption) (by assumption) | exact rK_dc (by assumption) _ (by decide) | exact dR_v (by assumption)) (by first | exact pos_b (i2_m (by assumption)) | exact neg_b (i2_m (by assumption))) ?_ (fun e he => ?_)
    | refine T_ah (fun v => ?_)
    | refine T_mo (by first | assumption | exact rK_dr (by assumption) (by assumption) | exact rK_rc (by assumption) _ (by decide) | exact dR_ep | exact dR_i (by assumption) (by assumption) | exact dR_mk (by assumption) (by assumption) (by assumption) (by assumption) (by assumption) | exact dR_wd (rK_dr (by assumption) (by assumption)) (by assumption) (by assumption) (by assumption) | exact dR_fi (rK_dr (by assumption) (by assumption))) (by first | assumption | exact rK_dr (by assumption) (by assumption) | exact rK_rc (by assumption) _ (by decide) | exact dR_ep | exact dR_i (by assumption) (by assumption) | exact dR_mk (by assumption) (by assumption) (by assumption) (by assumption) (by assumption) | exact dR_wd (rK_dr (by assumption) (by assumption)) (by assumption) (by assumption) (by assumption) | exact dR_fi (rK_dr (by assumption) (by assumption))) (fun v => ?_)
    | refine T_do (by first | assumption | exact rK_dr (by assumption) (by assumption) | exact rK_rc (by assumption) _ (by decide) | exact dR_ep | exact dR_i (by assumption) (by assumption) | exact dR_mk (by assumption) (by assumption) (by assumption) (by assumption) (by assumption) | exact dR_wd (rK_dr (by assumption) (by assumption)) (by assumption) (by assumption) (by assumption) | exact dR_fi (rK_dr (by assumption) (by assumption))) (by first | assumption | exact rK_dr (by assumption) (by assumption) | exact rK_rc (by assumption) _ (by decide) | exact dR_ep | exact dR_i (by assumption) (by assumption) | exact dR_mk (by assumption) (by assumption) (by assumption) (by assumption) (by assumption) | exact dR_wd (rK_dr (by assumption) (by assumption)) (by assumption) (by assumption) (by assumption) | exact dR_fi (rK_dr (by assumption) (by assumption))) (fun v => ?_)
    | refine T_wh (by first | assumption | exact rK_dr (by assumption) (by assumption) | exact rK_rc (by assumption) _ (by decide) | exact dR_ep | exact dR_i (by assumption) (by assumption) | exact dR_mk (by assumption) (by assumption) (by assumption) (by assumption) (by assumption) | exact dR_wd (rK_dr (by assumption) (by assumption)) (by assumption) (by assumption) (by assumption) | exact dR_fi (rK_dr (by assumption) (by assumption))) (by first | assumption | exact rK_dr (by assumption) (by assumption) | exact rK_rc (by assumption) _ (by decide) | exact dR_ep | exact dR_i (by assumption) (by assumption) | exact dR_mk (by assumption) (by assumption) (by assumption) (by assumption) (by assumption) | exact dR_wd (rK_dr (by assumption) (by assumption)) (by assumption) (by assumption) (by assumption) | exact dR_fi (rK_dr (by assumption) (by assumption))) (by first | assumption | exact u_06 (by assumption) | exact u_c (by decide) | simp) (fun v => ?_)
    | refine T_cp (fun v => ?_)
    | refine T_lk (fun v => ?_)
    | refine T_fo (by first | assumption | exact rK_dv (by assumption) (by assumption) | exact rK_dc (by assumption) _ (by decide) | exact dR_v (by assumption)) (fun v => ?_)
    | refine T_tx (by first | assumption | exact rK_dr (by assumption) (by assumption) | exact rK_rc (by assumption) _ (by decide) | exact dR_ep | exact dR_i (by assumption) (by assumption) | exact dR_mk (by assumption) (by assumption) (by assumption) (by assumption) (by assumption) | exact dR_wd (rK_dr (by assumption) (by assumption)) (by assumption) (by assumption) (by assumption) | exact dR_fi (rK_dr (by assumption) (by assumption))) (fun v => ?_)
    | refine T_ad (by first | assumption | exact rK_dr (by assumption) (by assumption) | exact rK_rc (by assumption) _ (by decide) | exact dR_ep | exact dR_i (by assumption) (by assumption) | exact dR_mk (by assumption) (by assumption) (by assumption) (by assumption) (by assumption) | exact dR_wd (rK_dr (by assumption) (by assumption)) (by assumption) (by assumption) (by assumption) | exact dR_fi (rK_dr (by assumption) (by assumption))) (fun v => ?_)
    | refine T_on (by assumption) (fun e he => ?_)
    | refine T_oy (by first | exact ny_F (by assumption) | exact dR_y (rK_dr (by assumption) (by assumption))) (by assumption) (by assumption) (fun e he => ?_)
    | refine T_i (fun h => ?_) (fun h => ?_))
set_option maxHeartbeats 4000000 in
theorem t_withYear {kn : Int32} (p0 : Int32) (p1 : Int32) (z : MS) (hz : rK kn z) : T (fun r => rK kn r.2) (o_X3_withYear p0 p1 z) := by
  unfold o_X3_withYear
  with_reducible repeat' (first
    | exact T_s (by assumption)
    | (refine T_fl (by assumption) (fun ha hb hc w hw _ => ?_) (fun w hw => T_in one_ne (T_s hw)); first | exact absurd ha (by decide) | exact absurd hb (by decide) | exact absurd hc (by decide) | refine T_ip rfl ?_)
    | (refine T_an (by assumption) (fun ha hb w hw => T_ip rfl ?_) (fun w hw => T_in one_ne (T_s hw)))
    | refine T_g6 (by assumption) ?_
    | refine T_g2 (by assumption) ?_
    | refine T_g3 (by assumption) ?_
    | refine T_gi (by assumption) (by assumption) (by first | assumption | exact rK_dr (by assumption) (by assumption) | exact rK_rc (by assumption) _ (by decide) | exact dR_ep | exact dR_i (by assumption) (by assumption) | exact dR_mk (by assumption) (by assumption) (by assumption) (by assumption) (by assumption) | exact dR_wd (rK_dr (by assumption) (by assumption)) (by assumption) (by assumption) (by assumption) | exact dR_fi (rK_dr (by assumption) (by assumption))) (fun v w hw => T_s hw)
    | refine T_te (by assumption) (by assumption) (fun v w hw => T_s hw)
    | refine T_nu (by first | assumption | exact rK_dv (by assumption) (by assumption) | exact rK_dc (by assumption) _ (by decide) | exact dR_v (by assumption)) (fun v => ?_)
    | refine T_iy (by first | assumption | exact rK_dv (by assumption) (by assumption) | exact rK_dc (by assumption) _ (by decide) | exact dR_v (by assumption)) (fun v => ?_)
    | refine T_lm (by assumption) (fun v hv => ?_)
    | refine T_lo (by first | assumption | exact rK_dv (by assumption) (by assumption) | exact rK_dc (by assumption) _ (by decide) | exact dR_v (by assumption)) (fun v hv => ?_)
    | refine T_id (fun h => T_in one_ne ?_) (T_ip rfl ?_)
    | refine T_dn (T_ip rfl ?_)
    | refine T_en ?_
    | refine T_es ?_
    | refine T_nr (by first | exact ny_F (by assumption) | exact dR_y (rK_dr (by assumption) (by assumption))) (by first | exact i2_12 (by assumption) | exact dV_m (rK_dv (by assumption) (by assumption))) (by first | decide | exact dV_d (rK_dv (by assumption) (by assumption))) (fun e he => ?_)
    | refine T_la (by first | assumption | exact rK_dv (by assumption) (by assumption) | exact rK_dc (by assumption) _ (by decide) | exact dR_v (by assumption)) (sp_b _ _ (by first | assumption | exact Or.inl rfl | exact Or.inr rfl)) ?_ (fun e he => ?_)
    | refine T_ld (by first | assumption | exact rK_dv (by assumption) (by assumption) | exact rK_dc (by assumption) _ (by decide) | exact dR_v (by assumption)) (sd_b _ (by first | assumption | exact Or.inl rfl | exact Or.inr rfl)) ?_ (fun e he => ?_)
    | refine T_mv (by first | assumption | exact u_06 (by assumption) | exact u_c (by decide) | simp) (by first | assumption | exact rK_dv (by assumption) (by assumption) | exact rK_dc (by assumption) _ (by decide) | exact dR_v (by assumption)) (by first | exact pos_b (i2_m (by assumption)) | exact neg_b (i2_m (by assumption))) ?_ (fun e he => ?_)
    | refine T_ah (fun v => ?_)
    | refine T_mo (by first | assumption | exact rK_dr (by assumption) (by assumption) | exact rK_rc (by assumption) _ (by decide) | exact dR_ep | exact dR_i (by assumption) (by assumption) | exact dR_mk (by assumption) (by assumption) (by assumption) (by assumption) (by assumption) | exact dR_wd (rK_dr (by assumption) (by assumption)) (by assumption) (by assumption) (by assumption) | exact dR_fi (rK_dr (by assumption) (by assumption))) (by first | assumption | exact rK_dr (by assumption) (by assumption) | exact rK_rc (by assumption) _ (by decide) | exact dR_ep | exact dR_i (by assumption) (by assumption) | exact dR_mk (by assumption) (by assumption) (by assumption) (by assumption) (by assumption) | exact dR_wd (rK_dr (by assumption) (by assumption)) (by assumption) (by assumption) (by assumption) | exact dR_fi (rK_dr (by assumption) (by assumption))) (fun v => ?_)
    | refine T_do (by first | assumption | exact rK_dr (by assumption) (by assumption) | exact rK_rc (by assumption) _ (by decide) | exact dR_ep | exact dR_i (by assumption) (by assumption) | exact dR_mk (by assumption) (by assumption) (by assumption) (by assumption) (by assumption) | exact dR_wd (rK_dr (by assumption) (by assumption)) (by assumption) (by assumption) (by assumption) | exact dR_fi (rK_dr (by assumption) (by assumption))) (by first | assumption | exact rK_dr (by assumption) (by assumption) | exact rK_rc (by assumption) _ (by decide) | exact dR_ep | exact dR_i (by assumption) (by assumption) | exact dR_mk (by assumption) (by assumption) (by assumption) (by assumption) (by assumption) | exact dR_wd (rK_dr (by assumption) (by assumption)) (by assumption) (by assumption) (by assumption) | exact dR_fi (rK_dr (by assumption) (by assumption))) (fun v => ?_)
    | refine T_wh (by first | assumption | exact rK_dr (by assumption) (by assumption) | exact rK_rc (by assumption) _ (by decide) | exact dR_ep | exact dR_i (by assumption) (by assumption) | exact dR_mk (by assumption) (by assumption) (by assumption) (by assumption) (by assumption) | exact dR_wd (rK_dr (by assumption) (by assumption)) (by assumption) (by assumption) (by assumption) | exact dR_fi (rK_dr (by assumption) (by assumption))) (by first | assumption | exact rK_dr (by assumption) (by assumption) | exact rK_rc (by assumption) _ (by decide) | exact dR_ep | exact dR_i (by assumption) (by assumption) | exact dR_mk (by assumption) (by assumption) (by assumption) (by assumption) (by assumption) | exact dR_wd (rK_dr (by assumption) (by assumption)) (by assumption) (by assumption) (by assumption) | exact dR_fi (rK_dr (by assumption) (by assumption))) (by first | assumption | exact u_06 (by assumption) | exact u_c (by decide) | simp) (fun v => ?_)
    | refine T_cp (fun v => ?_)
    | refine T_lk (fun v => ?_)
    | refine T_fo (by first | assumption | exact rK_dv (by assumption) (by assumption) | exact rK_dc (by assumption) _ (by decide) | exact dR_v (by assumption)) (fun v => ?_)
    | refine T_tx (by first | assumption | exact rK_dr (by assumption) (by assumption) | exact rK_rc (by assumption) _ (by decide) | exact dR_ep | exact dR_i (by assumption) (by assumption) | exact dR_mk (by assumption) (by assumption) (by assumption) (by assumption) (by assumption) | exact dR_wd (rK_dr (by assumption) (by assumption)) (by assumption) (by assumption) (by assumption) | exact dR_fi (rK_dr (by assumption) (by assumption))) (fun v => ?_)
    | refine T_ad (by first | assumption | exact rK_dr (by assumption) (by assumption) | exact rK_rc (by assumption) _ (by decide) | exact dR_ep | exact dR_i (by assumption) (by assumption) | exact dR_mk (by assumption) (by assumption) (by assumption) (by assumption) (by assumption) | exact dR_wd (rK_dr (by assumption) (by assumption)) (by assumption) (by assumption) (by assumption) | exact dR_fi (rK_dr (by assumption) (by assumption))) (fun v => ?_)
    | refine T_on (by assumption) (fun e he => ?_)
    | refine T_oy (by first | exact ny_F (by assumption) | exact dR_y (rK_dr (by assumption) (by assumption))) (by assumption) (by assumption) (fun e he => ?_)
    | refine T_i (fun h => ?_) (fun h => ?_))
set_option maxHeartbeats 4000000 in
theorem t_withMonth {kn : Int32} (p0 : Int32) (p1 : Int32) (z : MS) (hz : rK kn z) : T (fun r => rK kn r.2) (o_X3_withMonth p0 p1 z) := by
  unfold o_X3_withMonth
  with_reducible repeat' (first
    | exact T_s (by assumption)
    | (refine T_fl (by assumption) (fun ha hb hc w hw _ => ?_) (fun w hw => T_in one_ne (T_s hw)); first | exact absurd ha (by decide) | exact absurd hb (by decide) | exact absurd hc (by decide) | refine T_ip rfl ?_)
    | (refine T_an (by assumption) (fun ha hb w hw => T_ip rfl ?_) (fun w hw => T_in one_ne (T_s hw)))
    | refine T_g6 (by assumption) ?_
    | refine T_g2 (by assumption) ?_
    | refine T_g3 (by assumption) ?_
    | refine T_gi (by assumption) (by assumption) (by first | assumption | exact rK_dr (by assumption) (by assumption) | exact rK_rc (by assumption) _ (by decide) | exact dR_ep | exact dR_i (by assumption) (by assumption) | exact dR_mk (by assumption) (by assumption) (by assumption) (by assumption) (by assumption) | exact dR_wd (rK_dr (by assumption) (by assumption)) (by assumption) (by assumption) (by assumption) | exact dR_fi (rK_dr (by assumption) (by assumption))) (fun v w hw => T_s hw)
    | refine T_te (by assumption) (by assumption) (fun v w hw => T_s hw)
    | refine T_nu (by first | assumption | exact rK_dv (by assumption) (by assumption) | exact rK_dc (by assumption) _ (by decide) | exact dR_v (by assumption)) (fun v => ?_)
    | refine T_iy (by first | assumption | exact rK_dv (by assumption) (by assumption) | exact rK_dc (by assumption) _ (by decide) | exact dR_v (by assumption)) (fun v => ?_)
    | refine T_lm (by assumption) (fun v hv => ?_)
    | refine T_lo (by first | assumption | exact rK_dv (by assumption) (by assumption) | exact rK_dc (by assumption) _ (by decide) | exact dR_v (by assumption)) (fun v hv => ?_)
    | refine T_id (fun h => T_in one_ne ?_) (T_ip rfl ?_)
    | refine T_dn (T_ip rfl ?_)
    | refine T_en ?_
    | refine T_es ?_
    | refine T_nr (by first | exact ny_F (by assumption) | exact dR_y (rK_dr (by assumption) (by assumption))) (by first | exact i2_12 (by assumption) | exact dV_m (rK_dv (by assumption) (by assumption))) (by first | decide | exact dV_d (rK_dv (by assumption) (by assumption))) (fun e he => ?_)
    | refine T_la (by first | assumption | exact rK_dv (by assumption) (by assumption) | exact rK_dc (by assumption) _ (by decide) | exact dR_v (by assumption)) (sp_b _ _ (by first | assumption | exact Or.inl rfl | exact Or.inr rfl)) ?_ (fun e he => ?_)
    | refine T_ld (by first | assumption | exact rK_dv (by assumption) (by assumption) | exact rK_dc (by assumption) _ (by decide) | exact dR_v (by assumption)) (sd_b _ (by first | assumption | exact Or.inl rfl | exact Or.inr rfl)) ?_ (fun e he => ?_)
    | refine T_mv (by first | assumption | exact u_06 (by assumption) | exact u_c (by decide) | simp) (by first | assumption | exact rK_dv (by assumption) (by assumption) | exact rK_dc (by assumption) _ (by decide) | exact dR_v (by assumption)) (by first | exact pos_b (i2_m (by assumption)) | exact neg_b (i2_m (by assumption))) ?_ (fun e he => ?_)
    | refine T_ah (fun v => ?_)
    | refine T_mo (by first | assumption | exact rK_dr (by assumption) (by assumption) | exact rK_rc (by assumption) _ (by decide) | exact dR_ep | exact dR_i (by assumption) (by assumption) | exact dR_mk (by assumption) (by assumption) (by assumption) (by assumption) (by assumption) | exact dR_wd (rK_dr (by assumption) (by assumption)) (by assumption) (by assumption) (by assumption) | exact dR_fi (rK_dr (by assumption) (by assumption))) (by first | assumption | exact rK_dr (by assumption) (by assumption) | exact rK_rc (by assumption) _ (by decide) | exact dR_ep | exact dR_i (by assumption) (by assumption) | exact dR_mk (by assumption) (by assumption) (by assumption) (by assumption) (by assumption) | exact dR_wd (rK_dr (by assumption) (by assumption)) (by assumption) (by assumption) (by assumption) | exact dR_fi (rK_dr (by assumption) (by assumption))) (fun v => ?_)
    | refine T_do (by first | assumption | exact rK_dr (by assumption) (by assumption) | exact rK_rc (by assumption) _ (by decide) | exact dR_ep | exact dR_i (by assumption) (by assumption) | exact dR_mk (by assumption) (by assumption) (by assumption) (by assumption) (by assumption) | exact dR_wd (rK_dr (by assumption) (by assumption)) (by assumption) (by assumption) (by assumption) | exact dR_fi (rK_dr (by assumption) (by assumption))) (by first | assumption | exact rK_dr (by assumption) (by assumption) | exact rK_rc (by assumption) _ (by decide) | exact dR_ep | exact dR_i (by assumption) (by assumption) | exact dR_mk (by assumption) (by assumption) (by assumption) (by assumption) (by assumption) | exact dR_wd (rK_dr (by assumption) (by assumption)) (by assumption) (by assumption) (by assumption) | exact dR_fi (rK_dr (by assumption) (by assumption))) (fun v => ?_)
    | refine T_wh (by first | assumption | exact rK_dr (by assumption) (by assumption) | exact rK_rc (by assumption) _ (by decide) | exact dR_ep | exact dR_i (by assumption) (by assumption) | exact dR_mk (by assumption) (by assumption) (by assumption) (by assumption) (by assumption) | exact dR_wd (rK_dr (by assumption) (by assumption)) (by assumption) (by assumption) (by assumption) | exact dR_fi (rK_dr (by assumption) (by assumption))) (by first | assumption | exact rK_dr (by assumption) (by assumption) | exact rK_rc (by assumption) _ (by decide) | exact dR_ep | exact dR_i (by assumption) (by assumption) | exact dR_mk (by assumption) (by assumption) (by assumption) (by assumption) (by assumption) | exact dR_wd (rK_dr (by assumption) (by assumption)) (by assumption) (by assumption) (by assumption) | exact dR_fi (rK_dr (by assumption) (by assumption))) (by first | assumption | exact u_06 (by assumption) | exact u_c (by decide) | simp) (fun v => ?_)
    | refine T_cp (fun v => ?_)
    | refine T_lk (fun v => ?_)
    | refine T_fo (by first | assumption | exact rK_dv (by assumption) (by assumption) | exact rK_dc (by assumption) _ (by decide) | exact dR_v (by assumption)) (fun v => ?_)
    | refine T_tx (by first | assumption | exact rK_dr (by assumption) (by assumption) | exact rK_rc (by assumption) _ (by decide) | exact dR_ep | exact dR_i (by assumption) (by assumption) | exact dR_mk (by assumption) (by assumption) (by assumption) (by assumption) (by assumption) | exact dR_wd (rK_dr (by assumption) (by assumption)) (by assumption) (by assumption) (by assumption) | exact dR_fi (rK_dr (by assumption) (by assumption))) (fun v => ?_)
    | refine T_ad (by first | assumption | exact rK_dr (by assumption) (by assumption) | exact rK_rc (by assumption) _ (by decide) | exact dR_ep | exact dR_i (by assumption) (by assumption) | exact dR_mk (by assumption) (by assumption) (by assumption) (by assumption) (by assumption) | exact dR_wd (rK_dr (by assumption) (by assumption)) (by assumption) (by assumption) (by assumption) | exact dR_fi (rK_dr (by assumption) (by assumption))) (fun v => ?_)
    | refine T_on (by assumption) (fun e he => ?_)
    | refine T_oy (by first | exact ny_F (by assumption) | exact dR_y (rK_dr (by assumption) (by assumption))) (by assumption) (by assumption) (fun e he => ?_)
    | refine T_i (fun h => ?_) (fun h => ?_))
set_option maxHeartbeats 4000000 in
theorem t_withDay {kn : Int32} (p0 : Int32) (p1 : Int32) (z : MS) (hz : rK kn z) : T (fun r => rK kn r.2) (o_X3_withDay p0 p1 z) := by
  unfold o_X3_withDay
  with_reducible repeat' (first
    | exact T_s (by assumption)
    | (refine T_fl (by assumption) (fun ha hb hc w hw _ => ?_) (fun w hw => T_in one_ne (T_s hw)); first | exact absurd ha (by decide) | exact absurd hb (by decide) | exact absurd hc (by decide) | refine T_ip rfl ?_)
    | (refine T_an (by assumption) (fun ha hb w hw => T_ip rfl ?_) (fun w hw => T_in one_ne (T_s hw)))
    | refine T_g6 (by assumption) ?_
    | refine T_g2 (by assumption) ?_
    | refine T_g3 (by assumption) ?_
    | refine T_gi (by assumption) (by assumption) (by first | assumption | exact rK_dr (by assumption) (by assumption) | exact rK_rc (by assumption) _ (by decide) | exact dR_ep | exact dR_i (by assumption) (by assumption) | exact dR_mk (by assumption) (by assumption) (by assumption) (by assumption) (by assumption) | exact dR_wd (rK_dr (by assumption) (by assumption)) (by assumption) (by assumption) (by assumption) | exact dR_fi (rK_dr (by assumption) (by assumption))) (fun v w hw => T_s hw)
    | refine T_te (by assumption) (by assumption) (fun v w hw => T_s hw)
    | refine T_nu (by first | assumption | exact rK_dv (by assumption) (by assumption) | exact rK_dc (by assumption) _ (by decide) | exact dR_v (by assumption)) (fun v => ?_)
    | refine T_iy (by first | assumption | exact rK_dv (by assumption) (by assumption) | exact rK_dc (by assumption) _ (by decide) | exact dR_v (by assumption)) (fun v => ?_)
    | refine T_lm (by assumption) (fun v hv => ?_)
    | refine T_lo (by first | assumption | exact rK_dv (by assumption) (by assumption) | exact rK_dc (by assumption) _ (by decide) | exact dR_v (by assumption)) (fun v hv => ?_)
    | refine T_id (fun h => T_in one_ne ?_) (T_ip rfl ?_)
    | refine T_dn (T_ip rfl ?_)
    | refine T_en ?_
    | refine T_es ?_
    | refine T_nr (by first | exact ny_F (by assumption) | exact dR_y (rK_dr (by assumption) (by assumption))) (by first | exact i2_12 (by assumption) | exact dV_m (rK_dv (by assumption) (by assumption))) (by first | decide | exact dV_d (rK_dv (by assumption) (by assumption))) (fun e he => ?_)
    | refine T_la (by first | assumption | exact rK_dv (by assumption) (by assumption) | exact rK_dc (by assumption) _ (by decide) | exact dR_v (by assumption)) (sp_b _ _ (by first | assumption | exact Or.inl rfl | exact Or.inr rfl)) ?_ (fun e he => ?_)
    | refine T_ld (by first | assumption | exact rK_dv (by assumption) (by assumption) | exact rK_dc (by assumption) _ (by decide) | exact dR_v (by assumption)) (sd_b _ (by first | assumption | exact Or.inl rfl | exact Or.inr rfl)) ?_ (fun e he => ?_)
    | refine T_mv (by first | assumption | exact u_06 (by assumption) | exact u_c (by decide) | simp) (by first | assumption | exact rK_dv (by assumption) (by assumption) | exact rK_dc (by assumption) _ (by decide) | exact dR_v (by assumption)) (by first | exact pos_b (i2_m (by assumption)) | exact neg_b (i2_m (by assumption))) ?_ (fun e he => ?_)
    | refine T_ah (fun v => ?_)
    | refine T_mo (by first | assumption | exact rK_dr (by assumption) (by assumption) | exact rK_rc (by assumption) _ (by decide) | exact dR_ep | exact dR_i (by assumption) (by assumption) | exact dR_mk (by assumption) (by assumption) (by assumption) (by assumption) (by assumption) | exact dR_wd (rK_dr (by assumption) (by assumption)) (by assumption) (by assumption) (by assumption) | exact dR_fi (rK_dr (by assumption) (by assumption))) (by first | assumption | exact rK_dr (by assumption) (by assumption) | exact rK_rc (by assumption) _ (by decide) | exact dR_ep | exact dR_i (by assumption) (by assumption) | exact dR_mk (by assumption) (by assumption) (by assumption) (by assumption) (by assumption) | exact dR_wd (rK_dr (by assumption) (by assumption)) (by assumption) (by assumption) (by assumption) | exact dR_fi (rK_dr (by assumption) (by assumption))) (fun v => ?_)
    | refine T_do (by first | assumption | exact rK_dr (by assumption) (by assumption) | exact rK_rc (by assumption) _ (by decide) | exact dR_ep | exact dR_i (by assumption) (by assumption) | exact dR_mk (by assumption) (by assumption) (by assumption) (by assumption) (by assumption) | exact dR_wd (rK_dr (by assumption) (by assumption)) (by assumption) (by assumption) (by assumption) | exact dR_fi (rK_dr (by assumption) (by assumption))) (by first | assumption | exact rK_dr (by assumption) (by assumption) | exact rK_rc (by assumption) _ (by decide) | exact dR_ep | exact dR_i (by assumption) (by assumption) | exact dR_mk (by assumption) (by assumption) (by assumption) (by assumption) (by assumption) | exact dR_wd (rK_dr (by assumption) (by assumption)) (by assumption) (by assumption) (by assumption) | exact dR_fi (rK_dr (by assumption) (by assumption))) (fun v => ?_)
    | refine T_wh (by first | assumption | exact rK_dr (by assumption) (by assumption) | exact rK_rc (by assumption) _ (by decide) | exact dR_ep | exact dR_i (by assumption) (by assumption) | exact dR_mk (by assumption) (by assumption) (by assumption) (by assumption) (by assumption) | exact dR_wd (rK_dr (by assumption) (by assumption)) (by assumption) (by assumption) (by assumption) | exact dR_fi (rK_dr (by assumption) (by assumption))) (by first | assumption | exact rK_dr (by assumption) (by assumption) | exact rK_rc (by assumption) _ (by decide) | exact dR_ep | exact dR_i (by assumption) (by assumption) | exact dR_mk (by assumption) (by assumption) (by assumption) (by assumption) (by assumption) | exact dR_wd (rK_dr (by assumption) (by assumption)) (by assumption) (by assumption) (by assumption) | exact dR_fi (rK_dr (by assumption) (by assumption))) (by first | assumption | exact u_06 (by assumption) | exact u_c (by decide) | simp) (fun v => ?_)
    | refine T_cp (fun v => ?_)
    | refine T_lk (fun v => ?_)
    | refine T_fo (by first | assumption | exact rK_dv (by assumption) (by assumption) | exact rK_dc (by assumption) _ (by decide) | exact dR_v (by assumption)) (fun v => ?_)
    | refine T_tx (by first | assumption | exact rK_dr (by assumption) (by assumption) | exact rK_rc (by assumption) _ (by decide) | exact dR_ep | exact dR_i (by assumption) (by assumption) | exact dR_mk (by assumption) (by assumption) (by assumption) (by assumption) (by assumption) | exact dR_wd (rK_dr (by assumption) (by assumption)) (by assumption) (by assumption) (by assumption) | exact dR_fi (rK_dr (by assumption) (by assumption))) (fun v => ?_)
    | refine T_ad (by first | assumption | exact rK_dr (by assumption) (by assumption) | exact rK_rc (by assumption) _ (by decide) | exact dR_ep | exact dR_i (by assumption) (by assumption) | exact dR_mk (by assumption) (by assumption) (by assumption) (by assumption) (by assumption) | exact dR_wd (rK_dr (by assumption) (by assumption)) (by assumption) (by assumption) (by assumption) | exact dR_fi (rK_dr (by assumption) (by assumption))) (fun v => ?_)
    | refine T_on (by assumption) (fun e he => ?_)
    | refine T_oy (by first | exact ny_F (by assumption) | exact dR_y (rK_dr (by assumption) (by assumption))) (by assumption) (by assumption) (fun e he => ?_)
    | refine T_i (fun h => ?_) (fun h => ?_))
set_option maxHeartbeats 4000000 in
theorem t_withDayOfYear {kn : Int32} (p0 : Int32) (p1 : Int32) (z : MS) (hz : rK kn z) : T (fun r => rK kn r.2) (o_X3_withDayOfYear p0 p1 z) := by
  unfold o_X3_withDayOfYear
  with_reducible repeat' (first
    | exact T_s (by assumption)
    | (refine T_fl (by assumption) (fun ha hb hc w hw _ => ?_) (fun w hw => T_in one_ne (T_s hw)); first | exact absurd ha (by decide) | exact absurd hb (by decide) | exact absurd hc (by decide) | refine T_ip rfl ?_)
    | (refine T_an (by assumption) (fun ha hb w hw => T_ip rfl ?_) (fun w hw => T_in one_ne (T_s hw)))
    | refine T_g6 (by assumption) ?_
    | refine T_g2 (by assumption) ?_
    | refine T_g3 (by assumption) ?_
    | refine T_gi (by assumption) (by assumption) (by first | assumption | exact rK_dr (by assumption) (by assumption) | exact rK_rc (by assumption) _ (by decide) | exact dR_ep | exact dR_i (by assumption) (by assumption) | exact dR_mk (by assumption) (by assumption) (by assumption) (by assumption) (by assumption) | exact dR_wd (rK_dr (by assumption) (by assumption)) (by assumption) (by assumption) (by assumption) | exact dR_fi (rK_dr (by assumption) (by assumption))) (fun v w hw => T_s hw)
    | refine T_te (by assumption) (by assumption) (fun v w hw => T_s hw)
    | refine T_nu (by first | assumption | exact rK_dv (by assumption) (by assumption) | exact rK_dc (by assumption) _ (by decide) | exact dR_v (by assumption)) (fun v => ?_)
    | refine T_iy (by first | assumption | exact rK_dv (by assumption) (by assumption) | exact rK_dc (by assumption) _ (by decide) | exact dR_v (by assumption)) (fun v => ?_)
    | refine T_lm (by assumption) (fun v hv => ?_)
    | refine T_lo (by first | assumption | exact rK_dv (by assumption) (by assumption) | exact rK_dc (by assumption) _ (by decide) | exact dR_v (by assumption)) (fun v hv => ?_)
    | refine T_id (fun h => T_in one_ne ?_) (T_ip rfl ?_)
    | refine T_dn (T_ip rfl ?_)
    | refine T_en ?_
    | refine T_es ?_
    | refine T_nr (by first | exact ny_F (by assumption) | exact dR_y (rK_dr (by assumption) (by assumption))) (by first | exact i2_12 (by assumption) | exact dV_m (rK_dv (by assumption) (by assumption))) (by first | decide | exact dV_d (rK_dv (by assumption) (by assumption))) (fun e he => ?_)
    | refine T_la (by first | assumption | exact rK_dv (by assumption) (by assumption) | exact rK_dc (by assumption) _ (by decide) | exact dR_v (by assumption)) (sp_b _ _ (by first | assumption | exact Or.inl rfl | exact Or.inr rfl)) ?_ (fun e he => ?_)
    | refine T_ld (by first | assumption | exact rK_dv (by assumption) (by assumption) | exact rK_dc (by assumption) _ (by decide) | exact dR_v (by assumption)) (sd_b _ (by first | assumption | exact Or.inl rfl | exact Or.inr rfl)) ?_ (fun e he => ?_)
    | refine T_mv (by first | assumption | exact u_06 (by assumption) | exact u_c (by decide) | simp) (by first | assumption | exact rK_dv (by assumption) (by assumption) | exact rK_dc (by assumption) _ (by decide) | exact dR_v (by assumption)) (by first | exact pos_b (i2_m (by assumption)) | exact neg_b (i2_m (by assumption))) ?_ (fun e he => ?_)
    | refine T_ah (fun v => ?_)
    | refine T_mo (by first | assumption | exact rK_dr (by assumption) (by assumption) | exact rK_rc (by assumption) _ (by decide) | exact dR_ep | exact dR_i (by assumption) (by assumption) | exact dR_mk (by assumption) (by assumption) (by assumption) (by assumption) (by assumption) | exact dR_wd (rK_dr (by assumption) (by assumption)) (by assumption) (by assumption) (by assumption) | exact dR_fi (rK_dr (by assumption) (by assumption))) (by first | assumption | exact rK_dr (by assumption) (by assumption) | exact rK_rc (by assumption) _ (by decide) | exact dR_ep | exact dR_i (by assumption) (by assumption) | exact dR_mk (by assumption) (by assumption) (by assumption) (by assumption) (by assumption) | exact dR_wd (rK_dr (by assumption) (by assumption)) (by assumption) (by assumption) (by assumption) | exact dR_fi (rK_dr (by assumption) (by assumption))) (fun v => ?_)
    | refine T_do (by first | assumption | exact rK_dr (by assumption) (by assumption) | exact rK_rc (by assumption) _ (by decide) | exact dR_ep | exact dR_i (by assumption) (by assumption) | exact dR_mk (by assumption) (by assumption) (by assumption) (by assumption) (by assumption) | exact dR_wd (rK_dr (by assumption) (by assumption)) (by assumption) (by assumption) (by assumption) | exact dR_fi (rK_dr (by assumption) (by assumption))) (by first | assumption | exact rK_dr (by assumption) (by assumption) | exact rK_rc (by assumption) _ (by decide) | exact dR_ep | exact dR_i (by assumption) (by assumption) | exact dR_mk (by assumption) (by assumption) (by assumption) (by assumption) (by assumption) | exact dR_wd (rK_dr (by assumption) (by assumption)) (by assumption) (by assumption) (by assumption) | exact dR_fi (rK_dr (by assumption) (by assumption))) (fun v => ?_)
    | refine T_wh (by first | assumption | exact rK_dr (by assumption) (by assumption) | exact rK_rc (by assumption) _ (by decide) | exact dR_ep | exact dR_i (by assumption) (by assumption) | exact dR_mk (by assumption) (by assumption) (by assumption) (by assumption) (by assumption) | exact dR_wd (rK_dr (by assumption) (by assumption)) (by assumption) (by assumption) (by assumption) | exact dR_fi (rK_dr (by assumption) (by assumption))) (by first | assumption | exact rK_dr (by assumption) (by assumption) | exact rK_rc (by assumption) _ (by decide) | exact dR_ep | exact dR_i (by assumption) (by assumption) | exact dR_mk (by assumption) (by assumption) (by assumption) (by assumption) (by assumption) | exact dR_wd (rK_dr (by assumption) (by assumption)) (by assumption) (by assumption) (by assumption) | exact dR_fi (rK_dr (by assumption) (by assumption))) (by first | assumption | exact u_06 (by assumption) | exact u_c (by decide) | simp) (fun v => ?_)
    | refine T_cp (fun v => ?_)
    | refine T_lk (fun v => ?_)
    | refine T_fo (by first | assumption | exact rK_dv (by assumption) (by assumption) | exact rK_dc (by assumption) _ (by decide) | exact dR_v (by assumption)) (fun v => ?_)
    | refine T_tx (by first | assumption | exact rK_dr (by assumption) (by assumption) | exact rK_rc (by assumption) _ (by decide) | exact dR_ep | exact dR_i (by assumption) (by assumption) | exact dR_mk (by assumption) (by assumption) (by assumption) (by assumption) (by assumption) | exact dR_wd (rK_dr (by assumption) (by assumption)) (by assumption) (by assumption) (by assumption) | exact dR_fi (rK_dr (by assumption) (by assumption))) (fun v => ?_)
    | refine T_ad (by first | assumption | exact rK_dr (by assumption) (by assumption) | exact rK_rc (by assumption) _ (by decide) | exact dR_ep | exact dR_i (by assumption) (by assumption) | exact dR_mk (by assumption) (by assumption) (by assumption) (by assumption) (by assumption) | exact dR_wd (rK_dr (by assumption) (by assumption)) (by assumption) (by assumption) (by assumption) | exact dR_fi (rK_dr (by assumption) (by assumption))) (fun v => ?_)
    | refine T_on (by assumption) (fun e he => ?_)
    | refine T_oy (by first | exact ny_F (by assumption) | exact dR_y (rK_dr (by assumption) (by assumption))) (by assumption) (by assumption) (fun e he => ?_)
    | refine T_i (fun h => ?_) (fun h => ?_))
set_option maxHeartbeats 4000000 in
theorem t_toFirst {kn : Int32} (p0 : Int32) (z : MS) (hz : rK kn z) : T (fun r => rK kn r.2) (o_X3_toFirst p0 z) := by
  unfold o_X3_toFirst
  with_reducible repeat' (first
    | exact T_s (by assumption)
    | (refine T_fl (by assumption) (fun ha hb hc w hw _ => ?_) (fun w hw => T_in one_ne (T_s hw)); first | exact absurd ha (by decide) | exact absurd hb (by decide) | exact absurd hc (by decide) | refine T_ip rfl ?_)
    | (refine T_an (by assumption) (fun ha hb w hw => T_ip rfl ?_) (fun w hw => T_in one_ne (T_s hw)))
    | refine T_g6 (by assumption) ?_
    | refine T_g2 (by assumption) ?_
    | refine T_g3 (by assumption) ?_
    | refine T_gi (by assumption) (by assumption) (by first | assumption | exact rK_dr (by assumption) (by assumption) | exact rK_rc (by assumption) _ (by decide) | exact dR_ep | exact dR_i (by assumption) (by assumption) | exact dR_mk (by assumption) (by assumption) (by assumption) (by assumption) (by assumption) | exact dR_wd (rK_dr (by assumption) (by assumption)) (by assumption) (by assumption) (by assumption) | exact dR_fi (rK_dr (by assumption) (by assumption))) (fun v w hw => T_s hw)
    | refine T_te (by assumption) (by assumption) (fun v w hw => T_s hw)
    | refine T_nu (by first | assumption | exact rK_dv (by assumption) (by assumption) | exact rK_dc (by assumption) _ (by decide) | exact dR_v (by assumption)) (fun v => ?_)
    | refine T_iy (by first | assumption | exact rK_dv (by assumption) (by assumption) | exact rK_dc (by assumption) _ (by decide) | exact dR_v (by assumption)) (fun v => ?_)
    | refine T_lm (by assumption) (fun v hv => ?_)
    | refine T_lo (by first | assumption | exact rK_dv (by assumption) (by assumption) | exact rK_dc (by assumption) _ (by decide) | exact dR_v (by assumption)) (fun v hv => ?_)
    | refine T_id (fun h => T_in one_ne ?_) (T_ip rfl ?_)
    | refine T_dn (T_ip rfl ?_)
    | refine T_en ?_
    | refine T_es ?_
    | refine T_nr (by first | exact ny_F (by assumption) | exact dR_y (rK_dr (by assumption) (by assumption))) (by first | exact i2_12 (by assumption) | exact dV_m (rK_dv (by assumption) (by assumption))) (by first | decide | exact dV_d (rK_dv (by assumption) (by assumption))) (fun e he => ?_)
    | refine T_la (by first | assumption | exact rK_dv (by assumption) (by assumption) | exact rK_dc (by assumption) _ (by decide) | exact dR_v (by assumption)) (sp_b _ _ (by first | assumption | exact Or.inl rfl | exact Or.inr rfl)) ?_ (fun e he => ?_)
    | refine T_ld (by first | assumption | exact rK_dv (by assumption) (by assumption) | exact rK_dc (by assumption) _ (by decide) | exact dR_v (by assumption)) (sd_b _ (by first | assumption | exact Or.inl rfl | exact Or.inr rfl)) ?_ (fun e he => ?_)
    | refine T_mv (by first | assumption | exact u_06 (by assumption) | exact u_c (by decide) | simp) (by first | assumption | exact rK_dv (by assumption) (by assumption) | exact rK_dc (by assumption) _ (by decide) | exact dR_v (by assumption)) (by first | exact pos_b (i2_m (by assumption)) | exact neg_b (i2_m (by assumption))) ?_ (fun e he => ?_)
    | refine T_ah (fun v => ?_)
    | refine T_mo (by first | assumption | exact rK_dr (by assumption) (by assumption) | exact rK_rc (by assumption) _ (by decide) | exact dR_ep | exact dR_i (by assumption) (by assumption) | exact dR_mk (by assumption) (by assumption) (by assumption) (by assumption) (by assumption) | exact dR_wd (rK_dr (by assumption) (by assumption)) (by assumption) (by assumption) (by assumption) | exact dR_fi (rK_dr (by assumption) (by assumption))) (by first | assumption | exact rK_dr (by assumption) (by assumption) | exact rK_rc (by assumption) _ (by decide) | exact dR_ep | exact dR_i (by assumption) (by assumption) | exact dR_mk (by assumption) (by assumption) (by assumption) (by assumption) (by assumption) | exact dR_wd (rK_dr (by assumption) (by assumption)) (by assumption) (by assumption) (by assumption) | exact dR_fi (rK_dr (by assumption) (by assumption))) (fun v => ?_)
    | refine T_do (by first | assumption | exact rK_dr (by assumption) (by assumption) | exact rK_rc (by assumption) _ (by decide) | exact dR_ep | exact dR_i (by assumption) (by assumption) | exact dR_mk (by assumption) (by assumption) (by assumption) (by assumption) (by assumption) | exact dR_wd (rK_dr (by assumption) (by assumption)) (by assumption) (by assumption) (by assumption) | exact dR_fi (rK_dr (by assumption) (by assumption))) (by first | assumption | exact rK_dr (by assumption) (by assumption) | exact rK_rc (by assumption) _ (by decide) | exact dR_ep | exact dR_i (by assumption) (by assumption) | exact dR_mk (by assumption) (by assumption) (by assumption) (by assumption) (by assumption) | exact dR_wd (rK_dr (by assumption) (by assumption)) (by assumption) (by assumption) (by assumption) | exact dR_fi (rK_dr (by assumption) (by assumption))) (fun v => ?_)
    | refine T_wh (by first | assumption | exact rK_dr (by assumption) (by assumption) | exact rK_rc (by assumption) _ (by decide) | exact dR_ep | exact dR_i (by assumption) (by assumption) | exact dR_mk (by assumption) (by assumption) (by assumption) (by assumption) (by assumption) | exact dR_wd (rK_dr (by assumption) (by assumption)) (by assumption) (by assumption) (by assumption) | exact dR_fi (rK_dr (by assumption) (by assumption))) (by first | assumption | exact rK_dr (by assumption) (by assumption) | exact rK_rc (by assumption) _ (by decide) | exact dR_ep | exact dR_i (by assumption) (by assumption) | exact dR_mk (by assumption) (by assumption) (by assumption) (by assumption) (by assumption) | exact dR_wd (rK_dr (by assumption) (by assumption)) (by assumption) (by assumption) (by assumption) | exact dR_fi (rK_dr (by assumption) (by assumption))) (by first | assumption | exact u_06 (by assumption) | exact u_c (by decide) | simp) (fun v => ?_)
    | refine T_cp (fun v => ?_)
    | refine T_lk (fun v => ?_)
    | refine T_fo (by first | assumption | exact rK_dv (by assumption) (by assumption) | exact rK_dc (by assumption) _ (by decide) | exact dR_v (by assumption)) (fun v => ?_)
    | refine T_tx (by first | assumption | exact rK_dr (by assumption) (by assumption) | exact rK_rc (by assumption) _ (by decide) | exact dR_ep | exact dR_i (by assumption) (by assumption) | exact dR_mk (by assumption) (by assumption) (by assumption) (by assumption) (by assumption) | exact dR_wd (rK_dr (by assumption) (by assumption)) (by assumption) (by assumption) (by assumption) | exact dR_fi (rK_dr (by assumption) (by assumption))) (fun v => ?_)
    | refine T_ad (by first | assumption | exact rK_dr (by assumption) (by assumption) | exact rK_rc (by assumption) _ (by decide) | exact dR_ep | exact dR_i (by assumption) (by assumption) | exact dR_mk (by assumption) (by assumption) (by assumption) (by assumption) (by assumption) | exact dR_wd (rK_dr (by assumption) (by assumption)) (by assumption) (by assumption) (by assumption) | exact dR_fi (rK_dr (by assumption) (by assumption))) (fun v => ?_)
    | refine T_on (by assumption) (fun e he => ?_)
    | refine T_oy (by first | exact ny_F (by assumption) | exact dR_y (rK_dr (by assumption) (by assumption))) (by assumption) (by assumption) (fun e he => ?_)
    | refine T_i (fun h => ?_) (fun h => ?_))
set_option maxHeartbeats 4000000 in
theorem t_toLast {kn : Int32} (p0 : Int32) (z : MS) (hz : rK kn z) : T (fun r => rK kn r.2) (o_X3_toLast p0 z) := by
  unfold o_X3_toLast
  with_reducible repeat' (first
    | exact T_s (by assumption)
    | (refine T_fl (by assumption) (fun ha hb hc w hw _ => ?_) (fun w hw => T_in one_ne (T_s hw)); first | exact absurd ha (by decide) | exact absurd hb (by decide) | exact absurd hc (by decide) | refine T_ip rfl ?_)
    | (refine T_an (by assumption) (fun ha hb w hw => T_ip rfl ?_) (fun w hw => T_in one_ne (T_s hw)))
    | refine T_g6 (by assumption) ?_
    | refine T_g2 (by assumption) ?_
    | refine T_g3 (by assumption) ?_
    | refine T_gi (by assumption) (by assumption) (by first | assumption | exact rK_dr (by assumption) (by assumption) | exact rK_rc (by assumption) _ (by decide) | exact dR_ep | exact dR_i (by assumption) (by assumption) | exact dR_mk (by assumption) (by assumption) (by assumption) (by assumption) (by assumption) | exact dR_wd (rK_dr (by assumption) (by assumption)) (by assumption) (by assumption) (by assumption) | exact dR_fi (rK_dr (by assumption) (by assumption))) (fun v w hw => T_s hw)
    | refine T_te (by assumption) (by assumption) (fun v w hw => T_s hw)
    | refine T_nu (by first | assumption | exact rK_dv (by assumption) (by assumption) | exact rK_dc (by assumption) _ (by decide) | exact dR_v (by assumption)) (fun v => ?_)
    | refine T_iy (by first | assumption | exact rK_dv (by assumption) (by assumption) | exact rK_dc (by assumption) _ (by decide) | exact dR_v (by assumption)) (fun v => ?_)
    | refine T_lm (by assumption) (fun v hv => ?_)
    | refine T_lo (by first | assumption | exact rK_dv (by assumption) (by assumption) | exact rK_dc (by assumption) _ (by decide) | exact dR_v (by assumption)) (fun v hv => ?_)
    | refine T_id (fun h => T_in one_ne ?_) (T_ip rfl ?_)
    | refine T_dn (T_ip rfl ?_)
    | refine T_en ?_
    | refine T_es ?_
    | refine T_nr (by first | exact ny_F (by assumption) | exact dR_y (rK_dr (by assumption) (by assumption))) (by first | exact i2_12 (by assumption) | exact dV_m (rK_dv (by assumption) (by assumption))) (by first | decide | exact dV_d (rK_dv (by assumption) (by assumption))) (fun e he => ?_)
    | refine T_la (by first | assumption | exact rK_dv (by assumption) (by assumption) | exact rK_dc (by assumption) _ (by decide) | exact dR_v (by assumption)) (sp_b _ _ (by first | assumption | exact Or.inl rfl | exact Or.inr rfl)) ?_ (fun e he => ?_)
    | refine T_ld (by first | assumption | exact rK_dv (by assumption) (by assumption) | exact rK_dc (by assumption) _ (by decide) | exact dR_v (by assumption)) (sd_b _ (by first | assumption | exact Or.inl rfl | exact Or.inr rfl)) ?_ (fun e he => ?_)
    | refine T_mv (by first | assumption | exact u_06 (by assumption) | exact u_c (by decide) | simp) (by first | assumption | exact rK_dv (by assumption) (by assumption) | exact rK_dc (by assumption) _ (by decide) | exact dR_v (by assumption)) (by first | exact pos_b (i2_m (by assumption)) | exact neg_b (i2_m (by assumption))) ?_ (fun e he => ?_)
    | refine T_ah (fun v => ?_)
    | refine T_mo (by first | assumption | exact rK_dr (by assumption) (by assumption) | exact rK_rc (by assumption) _ (by decide) | exact dR_ep | exact dR_i (by assumption) (by assumption) | exact dR_mk (by assumption) (by assumption) (by assumption) (by assumption) (by assumption) | exact dR_wd (rK_dr (by assumption) (by assumption)) (by assumption) (by assumption) (by assumption) | exact dR_fi (rK_dr (by assumption) (by assumption))) (by first | assumption | exact rK_dr (by assumption) (by assumption) | exact rK_rc (by assumption) _ (by decide) | exact dR_ep | exact dR_i (by assumption) (by assumption) | exact dR_mk (by assumption) (by assumption) (by assumption) (by assumption) (by assumption) | exact dR_wd (rK_dr (by assumption) (by assumption)) (by assumption) (by assumption) (by assumption) | exact dR_fi (rK_dr (by assumption) (by assumption))) (fun v => ?_)
    | refine T_do (by first | assumption | exact rK_dr (by assumption) (by assumption) | exact rK_rc (by assumption) _ (by decide) | exact dR_ep | exact dR_i (by assumption) (by assumption) | exact dR_mk (by assumption) (by assumption) (by assumption) (by assumption) (by assumption) | exact dR_wd (rK_dr (by assumption) (by assumption)) (by assumption) (by assumption) (by assumption) | exact dR_fi (rK_dr (by assumption) (by assumption))) (by first | assumption | exact rK_dr (by assumption) (by assumption) | exact rK_rc (by assumption) _ (by decide) | exact dR_ep | exact dR_i (by assumption) (by assumption) | exact dR_mk (by assumption) (by assumption) (by assumption) (by assumption) (by assumption) | exact dR_wd (rK_dr (by assumption) (by assumption)) (by assumption) (by assumption) (by assumption) | exact dR_fi (rK_dr (by assumption) (by assumption))) (fun v => ?_)
    | refine T_wh (by first | assumption | exact rK_dr (by assumption) (by assumption) | exact rK_rc (by assumption) _ (by decide) | exact dR_ep | exact dR_i (by assumption) (by assumption) | exact dR_mk (by assumption) (by assumption) (by assumption) (by assumption) (by assumption) | exact dR_wd (rK_dr (by assumption) (by assumption)) (by assumption) (by assumption) (by assumption) | exact dR_fi (rK_dr (by assumption) (by assumption))) (by first | assumption | exact rK_dr (by assumption) (by assumption) | exact rK_rc (by assumption) _ (by decide) | exact dR_ep | exact dR_i (by assumption) (by assumption) | exact dR_mk (by assumption) (by assumption) (by assumption) (by assumption) (by assumption) | exact dR_wd (rK_dr (by assumption) (by assumption)) (by assumption) (by assumption) (by assumption) | exact dR_fi (rK_dr (by assumption) (by assumption))) (by first | assumption | exact u_06 (by assumption) | exact u_c (by decide) | simp) (fun v => ?_)
    | refine T_cp (fun v => ?_)
    | refine T_lk (fun v => ?_)
    | refine T_fo (by first | assumption | exact rK_dv (by assumption) (by assumption) | exact rK_dc (by assumption) _ (by decide) | exact dR_v (by assumption)) (fun v => ?_)
    | refine T_tx (by first | assumption | exact rK_dr (by assumption) (by assumption) | exact rK_rc (by assumption) _ (by decide) | exact dR_ep | exact dR_i (by assumption) (by assumption) | exact dR_mk (by assumption) (by assumption) (by assumption) (by assumption) (by assumption) | exact dR_wd (rK_dr (by assumption) (by assumption)) (by assumption) (by assumption) (by assumption) | exact dR_fi (rK_dr (by assumption) (by assumption))) (fun v => ?_)
    | refine T_ad (by first | assumption | exact rK_dr (by assumption) (by assumption) | exact rK_rc (by assumption) _ (by decide) | exact dR_ep | exact dR_i (by assumption) (by assumption) | exact dR_mk (by assumption) (by assumption) (by assumption) (by assumption) (by assumption) | exact dR_wd (rK_dr (by assumption) (by assumption)) (by assumption) (by assumption) (by assumption) | exact dR_fi (rK_dr (by assumption) (by assumption))) (fun v => ?_)
    | refine T_on (by assumption) (fun e he => ?_)
    | refine T_oy (by first | exact ny_F (by assumption) | exact dR_y (rK_dr (by assumption) (by assumption))) (by assumption) (by assumption) (fun e he => ?_)
    | refine T_i (fun h => ?_) (fun h => ?_))
set_option maxHeartbeats 4000000 in
theorem t_moves {kn : Int32} (p0 : Int32) (p1 : Int32) (p2 : Int32) (p3 : Int32) (z : MS) (hu : p1 = 0 ∨ p1 = 1 ∨ p1 = 2 ∨ p1 = 3 ∨ p1 = 4 ∨ p1 = 5 ∨ p1 = 6) (hz : rK kn z) : T (fun r => rK kn r.2) (o_X3_moves p0 p1 p2 p3 z) := by
  unfold o_X3_moves
  with_reducible repeat' (first
    | exact T_s (by assumption)
    | (refine T_fl (by assumption) (fun ha hb hc w hw _ => ?_) (fun w hw => T_in one_ne (T_s hw)); first | exact absurd ha (by decide) | exact absurd hb (by decide) | exact absurd hc (by decide) | refine T_ip rfl ?_)
    | (refine T_an (by assumption) (fun ha hb w hw => T_ip rfl ?_) (fun w hw => T_in one_ne (T_s hw)))
    | refine T_g6 (by assumption) ?_
    | refine T_g2 (by assumption) ?_
    | refine T_g3 (by assumption) ?_
    | refine T_gi (by assumption) (by assumption) (by first | assumption | exact rK_dr (by assumption) (by assumption) | exact rK_rc (by assumption) _ (by decide) | exact dR_ep | exact dR_i (by assumption) (by assumption) | exact dR_mk (by assumption) (by assumption) (by assumption) (by assumption) (by assumption) | exact dR_wd (rK_dr (by assumption) (by assumption)) (by assumption) (by assumption) (by assumption) | exact dR_fi (rK_dr (by assumption) (by assumption))) (fun v w hw => T_s hw)
    | refine T_te (by assumption) (by assumption) (fun v w hw => T_s hw)
    | refine T_nu (by first | assumption | exact rK_dv (by assumption) (by assumption) | exact rK_dc (by assumption) _ (by decide) | exact dR_v (by assumption)) (fun v => ?_)
    | refine T_iy (by first | assumption | exact rK_dv (by assumption) (by assumption) | exact rK_dc (by assumption) _ (by decide) | exact dR_v (by assumption)) (fun v => ?_)
    | refine T_lm (by assumption) (fun v hv => ?_)
    | refine T_lo (by first | assumption | exact rK_dv (by assumption) (by assumption) | exact rK_dc (by assumption) _ (by decide) | exact dR_v (by assumption)) (fun v hv => ?_)
    | refine T_id (fun h => T_in one_ne ?_) (T_ip rfl ?_)
    | refine T_dn (T_ip rfl ?_)
    | refine T_en ?_
    | refine T_es ?_
    | refine T_nr (by first | exact ny_F (by assumption) | exact dR_y (rK_dr (by assumption) (by assumption))) (by first | exact i2_12 (by assumption) | exact dV_m (rK_dv (by assumption) (by assumption))) (by first | decide | exact dV_d (rK_dv (by assumption) (by assumption))) (fun e he => ?_)
    | refine T_la (by first | assumption | exact rK_dv (by assumption) (by assumption) | exact rK_dc (by assumption) _ (by decide) | exact dR_v (by assumption)) (sp_b _ _ (by first | assumption | exact Or.inl rfl | exact Or.inr rfl)) ?_ (fun e he => ?_)
    | refine T_ld (by first | assumption | exact rK_dv (by assumption) (by assumption) | exact rK_dc (by assumption) _ (by decide) | exact dR_v (by assumption)) (sd_b _ (by first | assumption | exact Or.inl rfl | exact Or.inr rfl)) ?_ (fun e he => ?_)
    | refine T_mv (by first | assumption | exact u_06 (by assumption) | exact u_c (by decide) | simp) (by first | assumption | exact rK_dv (by assumption) (by assumption) | exact rK_dc (by assumption) _ (by decide) | exact dR_v (by assumption)) (by first | exact pos_b (i2_m (by assumption)) | exact neg_b (i2_m (by assumption))) ?_ (fun e he => ?_)
    | refine T_ah (fun v => ?_)
    | refine T_mo (by first | assumption | exact rK_dr (by assumption) (by assumption) | exact rK_rc (by assumption) _ (by decide) | exact dR_ep | exact dR_i (by assumption) (by assumption) | exact dR_mk (by assumption) (by assumption) (by assumption) (by assumption) (by assumption) | exact dR_wd (rK_dr (by assumption) (by assumption)) (by assumption) (by assumption) (by assumption) | exact dR_fi (rK_dr (by assumption) (by assumption))) (by first | assumption | exact rK_dr (by assumption) (by assumption) | exact rK_rc (by assumption) _ (by decide) | exact dR_ep | exact dR_i (by assumption) (by assumption) | exact dR_mk (by assumption) (by assumption) (by assumption) (by assumption) (by assumption) | exact dR_wd (rK_dr (by assumption) (by assumption)) (by assumption) (by assumption) (by assumption) | exact dR_fi (rK_dr (by assumption) (by assumption))) (fun v => ?_)
    | refine T_do (by first | assumption | exact rK_dr (by assumption) (by assumption) | exact rK_rc (by assumption) _ (by decide) | exact dR_ep | exact dR_i (by assumption) (by assumption) | exact dR_mk (by assumption) (by assumption) (by assumption) (by assumption) (by assumption) | exact dR_wd (rK_dr (by assumption) (by assumption)) (by assumption) (by assumption) (by assumption) | exact dR_fi (rK_dr (by assumption) (by assumption))) (by first | assumption | exact rK_dr (by assumption) (by assumption) | exact rK_rc (by assumption) _ (by decide) | exact dR_ep | exact dR_i (by assumption) (by assumption) | exact dR_mk (by assumption) (by assumption) (by assumption) (by assumption) (by assumption) | exact dR_wd (rK_dr (by assumption) (by assumption)) (by assumption) (by assumption) (by assumption) | exact dR_fi (rK_dr (by assumption) (by assumption))) (fun v => ?_)
    | refine T_wh (by first | assumption | exact rK_dr (by assumption) (by assumption) | exact rK_rc (by assumption) _ (by decide) | exact dR_ep | exact dR_i (by assumption) (by assumption) | exact dR_mk (by assumption) (by assumption) (by assumption) (by assumption) (by assumption) | exact dR_wd (rK_dr (by assumption) (by assumption)) (by assumption) (by assumption) (by assumption) | exact dR_fi (rK_dr (by assumption) (by assumption))) (by first | assumption | exact rK_dr (by assumption) (by assumption) | exact rK_rc (by assumption) _ (by decide) | exact dR_ep | exact dR_i (by assumption) (by assumption) | exact dR_mk (by assumption) (by assumption) (by assumption) (by assumption) (by assumption) | exact dR_wd (rK_dr (by assumption) (by assumption)) (by assumption) (by assumption) (by assumption) | exact dR_fi (rK_dr (by assumption) (by assumption))) (by first | assumption | exact u_06 (by assumption) | exact u_c (by decide) | simp) (fun v => ?_)
    | refine T_cp (fun v => ?_)
    | refine T_lk (fun v => ?_)
    | refine T_fo (by first | assumption | exact rK_dv (by assumption) (by assumption) | exact rK_dc (by assumption) _ (by decide) | exact dR_v (by assumption)) (fun v => ?_)
    | refine T_tx (by first | assumption | exact rK_dr (by assumption) (by assumption) | exact rK_rc (by assumption) _ (by decide) | exact dR_ep | exact dR_i (by assumption) (by assumption) | exact dR_mk (by assumption) (by assumption) (by assumption) (by assumption) (by assumption) | exact dR_wd (rK_dr (by assumption) (by assumption)) (by assumption) (by assumption) (by assumption) | exact dR_fi (rK_dr (by assumption) (by assumption))) (fun v => ?_)
    | refine T_ad (by first | assumption | exact rK_dr (by assumption) (by assumption) | exact rK_rc (by assumption) _ (by decide) | exact dR_ep | exact dR_i (by assumption) (by assumption) | exact dR_mk (by assumption) (by assumption) (by assumption) (by assumption) (by assumption) | exact dR_wd (rK_dr (by assumption) (by assumption)) (by assumption) (by assumption) (by assumption) | exact dR_fi (rK_dr (by assumption) (by assumption))) (fun v => ?_)
    | refine T_on (by assumption) (fun e he => ?_)
    | refine T_oy (by first | exact ny_F (by assumption) | exact dR_y (rK_dr (by assumption) (by assumption))) (by assumption) (by assumption) (fun e he => ?_)
    | refine T_i (fun h => ?_) (fun h => ?_))
set_option maxHeartbeats 4000000 in
theorem t_plusDays {kn : Int32} (p0 : Int32) (p1 : Int32) (z : MS) (hz : rK kn z) : T (fun r => rK kn r.2) (o_X3_plusDays p0 p1 z) := by
  unfold o_X3_plusDays
  exact T_b (t_moves _ _ _ _ z (by decide) hz) (fun a ha => T_s ha)
set_option maxHeartbeats 4000000 in
theorem t_plusWeeks {kn : Int32} (p0 : Int32) (p1 : Int32) (z : MS) (hz : rK kn z) : T (fun r => rK kn r.2) (o_X3_plusWeeks p0 p1 z) := by
  unfold o_X3_plusWeeks
  exact T_b (t_moves _ _ _ _ z (by decide) hz) (fun a ha => T_s ha)
set_option maxHeartbeats 4000000 in
theorem t_plusMonths {kn : Int32} (p0 : Int32) (p1 : Int32) (z : MS) (hz : rK kn z) : T (fun r => rK kn r.2) (o_X3_plusMonths p0 p1 z) := by
  unfold o_X3_plusMonths
  exact T_b (t_moves _ _ _ _ z (by decide) hz) (fun a ha => T_s ha)
set_option maxHeartbeats 4000000 in
theorem t_plusYears {kn : Int32} (p0 : Int32) (p1 : Int32) (z : MS) (hz : rK kn z) : T (fun r => rK kn r.2) (o_X3_plusYears p0 p1 z) := by
  unfold o_X3_plusYears
  exact T_b (t_moves _ _ _ _ z (by decide) hz) (fun a ha => T_s ha)
set_option maxHeartbeats 4000000 in
theorem t_minusDays {kn : Int32} (p0 : Int32) (p1 : Int32) (z : MS) (hz : rK kn z) : T (fun r => rK kn r.2) (o_X3_minusDays p0 p1 z) := by
  unfold o_X3_minusDays
  exact T_b (t_moves _ _ _ _ z (by decide) hz) (fun a ha => T_s ha)
set_option maxHeartbeats 4000000 in
theorem t_minusWeeks {kn : Int32} (p0 : Int32) (p1 : Int32) (z : MS) (hz : rK kn z) : T (fun r => rK kn r.2) (o_X3_minusWeeks p0 p1 z) := by
  unfold o_X3_minusWeeks
  exact T_b (t_moves _ _ _ _ z (by decide) hz) (fun a ha => T_s ha)
set_option maxHeartbeats 4000000 in
theorem t_minusMonths {kn : Int32} (p0 : Int32) (p1 : Int32) (z : MS) (hz : rK kn z) : T (fun r => rK kn r.2) (o_X3_minusMonths p0 p1 z) := by
  unfold o_X3_minusMonths
  exact T_b (t_moves _ _ _ _ z (by decide) hz) (fun a ha => T_s ha)
set_option maxHeartbeats 4000000 in
theorem t_minusYears {kn : Int32} (p0 : Int32) (p1 : Int32) (z : MS) (hz : rK kn z) : T (fun r => rK kn r.2) (o_X3_minusYears p0 p1 z) := by
  unfold o_X3_minusYears
  exact T_b (t_moves _ _ _ _ z (by decide) hz) (fun a ha => T_s ha)
set_option maxHeartbeats 4000000 in
theorem t_span {kn : Int32} (p0 : Int32) (p1 : Int32) (p2 : Int32) (p3 : Int32) (z : MS) (hz : rK kn z) : T (fun r => rK kn r.2) (o_X3_span p0 p1 p2 p3 z) := by
  unfold o_X3_span
  with_reducible repeat' (first
    | exact T_s (by assumption)
    | (refine T_fl (by assumption) (fun ha hb hc w hw _ => ?_) (fun w hw => T_in one_ne (T_s hw)); first | exact absurd ha (by decide) | exact absurd hb (by decide) | exact absurd hc (by decide) | refine T_ip rfl ?_)
    | (refine T_an (by assumption) (fun ha hb w hw => T_ip rfl ?_) (fun w hw => T_in one_ne (T_s hw)))
    | refine T_g6 (by assumption) ?_
    | refine T_g2 (by assumption) ?_
    | refine T_g3 (by assumption) ?_
    | refine T_gi (by assumption) (by assumption) (by first | assumption | exact rK_dr (by assumption) (by assumption) | exact rK_rc (by assumption) _ (by decide) | exact dR_ep | exact dR_i (by assumption) (by assumption) | exact dR_mk (by assumption) (by assumption) (by assumption) (by assumption) (by assumption) | exact dR_wd (rK_dr (by assumption) (by assumption)) (by assumption) (by assumption) (by assumption) | exact dR_fi (rK_dr (by assumption) (by assumption))) (fun v w hw => T_s hw)
    | refine T_te (by assumption) (by assumption) (fun v w hw => T_s hw)
    | refine T_nu (by first | assumption | exact rK_dv (by assumption) (by assumption) | exact rK_dc (by assumption) _ (by decide) | exact dR_v (by assumption)) (fun v => ?_)
    | refine T_iy (by first | assumption | exact rK_dv (by assumption) (by assumption) | exact rK_dc (by assumption) _ (by decide) | exact dR_v (by assumption)) (fun v => ?_)
    | refine T_lm (by assumption) (fun v hv => ?_)
    | refine T_lo (by first | assumption | exact rK_dv (by assumption) (by assumption) | exact rK_dc (by assumption) _ (by decide) | exact dR_v (by assumption)) (fun v hv => ?_)
    | refine T_id (fun h => T_in one_ne ?_) (T_ip rfl ?_)
    | refine T_dn (T_ip rfl ?_)
    | refine T_en ?_
    | refine T_es ?_
    | refine T_nr (by first | exact ny_F (by assumption) | exact dR_y (rK_dr (by assumption) (by assumption))) (by first | exact i2_12 (by assumption) | exact dV_m (rK_dv (by assumption) (by assumption))) (by first | decide | exact dV_d (rK_dv (by assumption) (by assumption))) (fun e he => ?_)
    | refine T_la (by first | assumption | exact rK_dv (by assumption) (by assumption) | exact rK_dc (by assumption) _ (by decide) | exact dR_v (by assumption)) (sp_b _ _ (by first | assumption | exact Or.inl rfl | exact Or.inr rfl)) ?_ (fun e he => ?_)
    | refine T_ld (by first | assumption | exact rK_dv (by assumption) (by assumption) | exact rK_dc (by assumption) _ (by decide) | exact dR_v (by assumption)) (sd_b _ (by first | assumption | exact Or.inl rfl | exact Or.inr rfl)) ?_ (fun e he => ?_)
    | refine T_mv (by first | assumption | exact u_06 (by assumption) | exact u_c (by decide) | simp) (by first | assumption | exact rK_dv (by assumption) (by assumption) | exact rK_dc (by assumption) _ (by decide) | exact dR_v (by assumption)) (by first | exact pos_b (i2_m (by assumption)) | exact neg_b (i2_m (by assumption))) ?_ (fun e he => ?_)
    | refine T_ah (fun v => ?_)
    | refine T_mo (by first | assumption | exact rK_dr (by assumption) (by assumption) | exact rK_rc (by assumption) _ (by decide) | exact dR_ep | exact dR_i (by assumption) (by assumption) | exact dR_mk (by assumption) (by assumption) (by assumption) (by assumption) (by assumption) | exact dR_wd (rK_dr (by assumption) (by assumption)) (by assumption) (by assumption) (by assumption) | exact dR_fi (rK_dr (by assumption) (by assumption))) (by first | assumption | exact rK_dr (by assumption) (by assumption) | exact rK_rc (by assumption) _ (by decide) | exact dR_ep | exact dR_i (by assumption) (by assumption) | exact dR_mk (by assumption) (by assumption) (by assumption) (by assumption) (by assumption) | exact dR_wd (rK_dr (by assumption) (by assumption)) (by assumption) (by assumption) (by assumption) | exact dR_fi (rK_dr (by assumption) (by assumption))) (fun v => ?_)
    | refine T_do (by first | assumption | exact rK_dr (by assumption) (by assumption) | exact rK_rc (by assumption) _ (by decide) | exact dR_ep | exact dR_i (by assumption) (by assumption) | exact dR_mk (by assumption) (by assumption) (by assumption) (by assumption) (by assumption) | exact dR_wd (rK_dr (by assumption) (by assumption)) (by assumption) (by assumption) (by assumption) | exact dR_fi (rK_dr (by assumption) (by assumption))) (by first | assumption | exact rK_dr (by assumption) (by assumption) | exact rK_rc (by assumption) _ (by decide) | exact dR_ep | exact dR_i (by assumption) (by assumption) | exact dR_mk (by assumption) (by assumption) (by assumption) (by assumption) (by assumption) | exact dR_wd (rK_dr (by assumption) (by assumption)) (by assumption) (by assumption) (by assumption) | exact dR_fi (rK_dr (by assumption) (by assumption))) (fun v => ?_)
    | refine T_wh (by first | assumption | exact rK_dr (by assumption) (by assumption) | exact rK_rc (by assumption) _ (by decide) | exact dR_ep | exact dR_i (by assumption) (by assumption) | exact dR_mk (by assumption) (by assumption) (by assumption) (by assumption) (by assumption) | exact dR_wd (rK_dr (by assumption) (by assumption)) (by assumption) (by assumption) (by assumption) | exact dR_fi (rK_dr (by assumption) (by assumption))) (by first | assumption | exact rK_dr (by assumption) (by assumption) | exact rK_rc (by assumption) _ (by decide) | exact dR_ep | exact dR_i (by assumption) (by assumption) | exact dR_mk (by assumption) (by assumption) (by assumption) (by assumption) (by assumption) | exact dR_wd (rK_dr (by assumption) (by assumption)) (by assumption) (by assumption) (by assumption) | exact dR_fi (rK_dr (by assumption) (by assumption))) (by first | assumption | exact u_06 (by assumption) | exact u_c (by decide) | simp) (fun v => ?_)
    | refine T_cp (fun v => ?_)
    | refine T_lk (fun v => ?_)
    | refine T_fo (by first | assumption | exact rK_dv (by assumption) (by assumption) | exact rK_dc (by assumption) _ (by decide) | exact dR_v (by assumption)) (fun v => ?_)
    | refine T_tx (by first | assumption | exact rK_dr (by assumption) (by assumption) | exact rK_rc (by assumption) _ (by decide) | exact dR_ep | exact dR_i (by assumption) (by assumption) | exact dR_mk (by assumption) (by assumption) (by assumption) (by assumption) (by assumption) | exact dR_wd (rK_dr (by assumption) (by assumption)) (by assumption) (by assumption) (by assumption) | exact dR_fi (rK_dr (by assumption) (by assumption))) (fun v => ?_)
    | refine T_ad (by first | assumption | exact rK_dr (by assumption) (by assumption) | exact rK_rc (by assumption) _ (by decide) | exact dR_ep | exact dR_i (by assumption) (by assumption) | exact dR_mk (by assumption) (by assumption) (by assumption) (by assumption) (by assumption) | exact dR_wd (rK_dr (by assumption) (by assumption)) (by assumption) (by assumption) (by assumption) | exact dR_fi (rK_dr (by assumption) (by assumption))) (fun v => ?_)
    | refine T_on (by assumption) (fun e he => ?_)
    | refine T_oy (by first | exact ny_F (by assumption) | exact dR_y (rK_dr (by assumption) (by assumption))) (by assumption) (by assumption) (fun e he => ?_)
    | refine T_i (fun h => ?_) (fun h => ?_))
set_option maxHeartbeats 4000000 in
theorem t_until {kn : Int32} (p0 : Int32) (p1 : Int32) (p2 : Int32) (z : MS) (hz : rK kn z) : T (fun r => rK kn r.2) (o_X3_until p0 p1 p2 z) := by
  unfold o_X3_until
  with_reducible repeat' (first
    | exact T_s (by assumption)
    | (refine T_fl (by assumption) (fun ha hb hc w hw _ => ?_) (fun w hw => T_in one_ne (T_s hw)); first | exact absurd ha (by decide) | exact absurd hb (by decide) | exact absurd hc (by decide) | refine T_ip rfl ?_)
    | (refine T_an (by assumption) (fun ha hb w hw => T_ip rfl ?_) (fun w hw => T_in one_ne (T_s hw)))
    | refine T_g6 (by assumption) ?_
    | refine T_g2 (by assumption) ?_
    | refine T_g3 (by assumption) ?_
    | refine T_gi (by assumption) (by assumption) (by first | assumption | exact rK_dr (by assumption) (by assumption) | exact rK_rc (by assumption) _ (by decide) | exact dR_ep | exact dR_i (by assumption) (by assumption) | exact dR_mk (by assumption) (by assumption) (by assumption) (by assumption) (by assumption) | exact dR_wd (rK_dr (by assumption) (by assumption)) (by assumption) (by assumption) (by assumption) | exact dR_fi (rK_dr (by assumption) (by assumption))) (fun v w hw => T_s hw)
    | refine T_te (by assumption) (by assumption) (fun v w hw => T_s hw)
    | refine T_nu (by first | assumption | exact rK_dv (by assumption) (by assumption) | exact rK_dc (by assumption) _ (by decide) | exact dR_v (by assumption)) (fun v => ?_)
    | refine T_iy (by first | assumption | exact rK_dv (by assumption) (by assumption) | exact rK_dc (by assumption) _ (by decide) | exact dR_v (by assumption)) (fun v => ?_)
    | refine T_lm (by assumption) (fun v hv => ?_)
    | refine T_lo (by first | assumption | exact rK_dv (by assumption) (by assumption) | exact rK_dc (by assumption) _ (by decide) | exact dR_v (by assumption)) (fun v hv => ?_)
    | refine T_id (fun h => T_in one_ne ?_) (T_ip rfl ?_)
    | refine T_dn (T_ip rfl ?_)
    | refine T_en ?_
    | refine T_es ?_
    | refine T_nr (by first | exact ny_F (by assumption) | exact dR_y (rK_dr (by assumption) (by assumption))) (by first | exact i2_12 (by assumption) | exact dV_m (rK_dv (by assumption) (by assumption))) (by first | decide | exact dV_d (rK_dv (by assumption) (by assumption))) (fun e he => ?_)
    | refine T_la (by first | assumption | exact rK_dv (by assumption) (by assumption) | exact rK_dc (by assumption) _ (by decide) | exact dR_v (by assumption)) (sp_b _ _ (by first | assumption | exact Or.inl rfl | exact Or.inr rfl)) ?_ (fun e he => ?_)
    | refine T_ld (by first | assumption | exact rK_dv (by assumption) (by assumption) | exact rK_dc (by assumption) _ (by decide) | exact dR_v (by assumption)) (sd_b _ (by first | assumption | exact Or.inl rfl | exact Or.inr rfl)) ?_ (fun e he => ?_)
    | refine T_mv (by first | assumption | exact u_06 (by assumption) | exact u_c (by decide) | simp) (by first | assumption | exact rK_dv (by assumption) (by assumption) | exact rK_dc (by assumption) _ (by decide) | exact dR_v (by assumption)) (by first | exact pos_b (i2_m (by assumption)) | exact neg_b (i2_m (by assumption))) ?_ (fun e he => ?_)
    | refine T_ah (fun v => ?_)
    | refine T_mo (by first | assumption | exact rK_dr (by assumption) (by assumption) | exact rK_rc (by assumption) _ (by decide) | exact dR_ep | exact dR_i (by assumption) (by assumption) | exact dR_mk (by assumption) (by assumption) (by assumption) (by assumption) (by assumption) | exact dR_wd (rK_dr (by assumption) (by assumption)) (by assumption) (by assumption) (by assumption) | exact dR_fi (rK_dr (by assumption) (by assumption))) (by first | assumption | exact rK_dr (by assumption) (by assumption) | exact rK_rc (by assumption) _ (by decide) | exact dR_ep | exact dR_i (by assumption) (by assumption) | exact dR_mk (by assumption) (by assumption) (by assumption) (by assumption) (by assumption) | exact dR_wd (rK_dr (by assumption) (by assumption)) (by assumption) (by assumption) (by assumption) | exact dR_fi (rK_dr (by assumption) (by assumption))) (fun v => ?_)
    | refine T_do (by first | assumption | exact rK_dr (by assumption) (by assumption) | exact rK_rc (by assumption) _ (by decide) | exact dR_ep | exact dR_i (by assumption) (by assumption) | exact dR_mk (by assumption) (by assumption) (by assumption) (by assumption) (by assumption) | exact dR_wd (rK_dr (by assumption) (by assumption)) (by assumption) (by assumption) (by assumption) | exact dR_fi (rK_dr (by assumption) (by assumption))) (by first | assumption | exact rK_dr (by assumption) (by assumption) | exact rK_rc (by assumption) _ (by decide) | exact dR_ep | exact dR_i (by assumption) (by assumption) | exact dR_mk (by assumption) (by assumption) (by assumption) (by assumption) (by assumption) | exact dR_wd (rK_dr (by assumption) (by assumption)) (by assumption) (by assumption) (by assumption) | exact dR_fi (rK_dr (by assumption) (by assumption))) (fun v => ?_)
    | refine T_wh (by first | assumption | exact rK_dr (by assumption) (by assumption) | exact rK_rc (by assumption) _ (by decide) | exact dR_ep | exact dR_i (by assumption) (by assumption) | exact dR_mk (by assumption) (by assumption) (by assumption) (by assumption) (by assumption) | exact dR_wd (rK_dr (by assumption) (by assumption)) (by assumption) (by assumption) (by assumption) | exact dR_fi (rK_dr (by assumption) (by assumption))) (by first | assumption | exact rK_dr (by assumption) (by assumption) | exact rK_rc (by assumption) _ (by decide) | exact dR_ep | exact dR_i (by assumption) (by assumption) | exact dR_mk (by assumption) (by assumption) (by assumption) (by assumption) (by assumption) | exact dR_wd (rK_dr (by assumption) (by assumption)) (by assumption) (by assumption) (by assumption) | exact dR_fi (rK_dr (by assumption) (by assumption))) (by first | assumption | exact u_06 (by assumption) | exact u_c (by decide) | simp) (fun v => ?_)
    | refine T_cp (fun v => ?_)
    | refine T_lk (fun v => ?_)
    | refine T_fo (by first | assumption | exact rK_dv (by assumption) (by assumption) | exact rK_dc (by assumption) _ (by decide) | exact dR_v (by assumption)) (fun v => ?_)
    | refine T_tx (by first | assumption | exact rK_dr (by assumption) (by assumption) | exact rK_rc (by assumption) _ (by decide) | exact dR_ep | exact dR_i (by assumption) (by assumption) | exact dR_mk (by assumption) (by assumption) (by assumption) (by assumption) (by assumption) | exact dR_wd (rK_dr (by assumption) (by assumption)) (by assumption) (by assumption) (by assumption) | exact dR_fi (rK_dr (by assumption) (by assumption))) (fun v => ?_)
    | refine T_ad (by first | assumption | exact rK_dr (by assumption) (by assumption) | exact rK_rc (by assumption) _ (by decide) | exact dR_ep | exact dR_i (by assumption) (by assumption) | exact dR_mk (by assumption) (by assumption) (by assumption) (by assumption) (by assumption) | exact dR_wd (rK_dr (by assumption) (by assumption)) (by assumption) (by assumption) (by assumption) | exact dR_fi (rK_dr (by assumption) (by assumption))) (fun v => ?_)
    | refine T_on (by assumption) (fun e he => ?_)
    | refine T_oy (by first | exact ny_F (by assumption) | exact dR_y (rK_dr (by assumption) (by assumption))) (by assumption) (by assumption) (fun e he => ?_)
    | refine T_i (fun h => ?_) (fun h => ?_))
set_option maxHeartbeats 4000000 in
theorem t_addSpan {kn : Int32} (p0 : Int32) (p1 : Int32) (z : MS) (hz : rK kn z) : T (fun r => rK kn r.2) (o_X3_addSpan p0 p1 z) := by
  unfold o_X3_addSpan
  with_reducible repeat' (first
    | exact T_s (by assumption)
    | (refine T_fl (by assumption) (fun ha hb hc w hw _ => ?_) (fun w hw => T_in one_ne (T_s hw)); first | exact absurd ha (by decide) | exact absurd hb (by decide) | exact absurd hc (by decide) | refine T_ip rfl ?_)
    | (refine T_an (by assumption) (fun ha hb w hw => T_ip rfl ?_) (fun w hw => T_in one_ne (T_s hw)))
    | refine T_g6 (by assumption) ?_
    | refine T_g2 (by assumption) ?_
    | refine T_g3 (by assumption) ?_
    | refine T_gi (by assumption) (by assumption) (by first | assumption | exact rK_dr (by assumption) (by assumption) | exact rK_rc (by assumption) _ (by decide) | exact dR_ep | exact dR_i (by assumption) (by assumption) | exact dR_mk (by assumption) (by assumption) (by assumption) (by assumption) (by assumption) | exact dR_wd (rK_dr (by assumption) (by assumption)) (by assumption) (by assumption) (by assumption) | exact dR_fi (rK_dr (by assumption) (by assumption))) (fun v w hw => T_s hw)
    | refine T_te (by assumption) (by assumption) (fun v w hw => T_s hw)
    | refine T_nu (by first | assumption | exact rK_dv (by assumption) (by assumption) | exact rK_dc (by assumption) _ (by decide) | exact dR_v (by assumption)) (fun v => ?_)
    | refine T_iy (by first | assumption | exact rK_dv (by assumption) (by assumption) | exact rK_dc (by assumption) _ (by decide) | exact dR_v (by assumption)) (fun v => ?_)
    | refine T_lm (by assumption) (fun v hv => ?_)
    | refine T_lo (by first | assumption | exact rK_dv (by assumption) (by assumption) | exact rK_dc (by assumption) _ (by decide) | exact dR_v (by assumption)) (fun v hv => ?_)
    | refine T_id (fun h => T_in one_ne ?_) (T_ip rfl ?_)
    | refine T_dn (T_ip rfl ?_)
    | refine T_en ?_
    | refine T_es ?_
    | refine T_nr (by first | exact ny_F (by assumption) | exact dR_y (rK_dr (by assumption) (by assumption))) (by first | exact i2_12 (by assumption) | exact dV_m (rK_dv (by assumption) (by assumption))) (by first | decide | exact dV_d (rK_dv (by assumption) (by assumption))) (fun e he => ?_)
    | refine T_la (by first | assumption | exact rK_dv (by assumption) (by assumption) | exact rK_dc (by assumption) _ (by decide) | exact dR_v (by assumption)) (sp_b _ _ (by first | assumption | exact Or.inl rfl | exact Or.inr rfl)) ?_ (fun e he => ?_)
    | refine T_ld (by first | assumption | exact rK_dv (by assumption) (by assumption) | exact rK_dc (by assumption) _ (by decide) | exact dR_v (by assumption)) (sd_b _ (by first | assumption | exact Or.inl rfl | exact Or.inr rfl)) ?_ (fun e he => ?_)
    | refine T_mv (by first | assumption | exact u_06 (by assumption) | exact u_c (by decide) | simp) (by first | assumption | exact rK_dv (by assumption) (by assumption) | exact rK_dc (by assumption) _ (by decide) | exact dR_v (by assumption)) (by first | exact pos_b (i2_m (by assumption)) | exact neg_b (i2_m (by assumption))) ?_ (fun e he => ?_)
    | refine T_ah (fun v => ?_)
    | refine T_mo (by first | assumption | exact rK_dr (by assumption) (by assumption) | exact rK_rc (by assumption) _ (by decide) | exact dR_ep | exact dR_i (by assumption) (by assumption) | exact dR_mk (by assumption) (by assumption) (by assumption) (by assumption) (by assumption) | exact dR_wd (rK_dr (by assumption) (by assumption)) (by assumption) (by assumption) (by assumption) | exact dR_fi (rK_dr (by assumption) (by assumption))) (by first | assumption | exact rK_dr (by assumption) (by assumption) | exact rK_rc (by assumption) _ (by decide) | exact dR_ep | exact dR_i (by assumption) (by assumption) | exact dR_mk (by assumption) (by assumption) (by assumption) (by assumption) (by assumption) | exact dR_wd (rK_dr (by assumption) (by assumption)) (by assumption) (by assumption) (by assumption) | exact dR_fi (rK_dr (by assumption) (by assumption))) (fun v => ?_)
    | refine T_do (by first | assumption | exact rK_dr (by assumption) (by assumption) | exact rK_rc (by assumption) _ (by decide) | exact dR_ep | exact dR_i (by assumption) (by assumption) | exact dR_mk (by assumption) (by assumption) (by assumption) (by assumption) (by assumption) | exact dR_wd (rK_dr (by assumption) (by assumption)) (by assumption) (by assumption) (by assumption) | exact dR_fi (rK_dr (by assumption) (by assumption))) (by first | assumption | exact rK_dr (by assumption) (by assumption) | exact rK_rc (by assumption) _ (by decide) | exact dR_ep | exact dR_i (by assumption) (by assumption) | exact dR_mk (by assumption) (by assumption) (by assumption) (by assumption) (by assumption) | exact dR_wd (rK_dr (by assumption) (by assumption)) (by assumption) (by assumption) (by assumption) | exact dR_fi (rK_dr (by assumption) (by assumption))) (fun v => ?_)
    | refine T_wh (by first | assumption | exact rK_dr (by assumption) (by assumption) | exact rK_rc (by assumption) _ (by decide) | exact dR_ep | exact dR_i (by assumption) (by assumption) | exact dR_mk (by assumption) (by assumption) (by assumption) (by assumption) (by assumption) | exact dR_wd (rK_dr (by assumption) (by assumption)) (by assumption) (by assumption) (by assumption) | exact dR_fi (rK_dr (by assumption) (by assumption))) (by first | assumption | exact rK_dr (by assumption) (by assumption) | exact rK_rc (by assumption) _ (by decide) | exact dR_ep | exact dR_i (by assumption) (by assumption) | exact dR_mk (by assumption) (by assumption) (by assumption) (by assumption) (by assumption) | exact dR_wd (rK_dr (by assumption) (by assumption)) (by assumption) (by assumption) (by assumption) | exact dR_fi (rK_dr (by assumption) (by assumption))) (by first | assumption | exact u_06 (by assumption) | exact u_c (by decide) | simp) (fun v => ?_)
    | refine T_cp (fun v => ?_)
    | refine T_lk (fun v => ?_)
    | refine T_fo (by first | assumption | exact rK_dv (by assumption) (by assumption) | exact rK_dc (by assumption) _ (by decide) | exact dR_v (by assumption)) (fun v => ?_)
    | refine T_tx (by first | assumption | exact rK_dr (by assumption) (by assumption) | exact rK_rc (by assumption) _ (by decide) | exact dR_ep | exact dR_i (by assumption) (by assumption) | exact dR_mk (by assumption) (by assumption) (by assumption) (by assumption) (by assumption) | exact dR_wd (rK_dr (by assumption) (by assumption)) (by assumption) (by assumption) (by assumption) | exact dR_fi (rK_dr (by assumption) (by assumption))) (fun v => ?_)
    | refine T_ad (by first | assumption | exact rK_dr (by assumption) (by assumption) | exact rK_rc (by assumption) _ (by decide) | exact dR_ep | exact dR_i (by assumption) (by assumption) | exact dR_mk (by assumption) (by assumption) (by assumption) (by assumption) (by assumption) | exact dR_wd (rK_dr (by assumption) (by assumption)) (by assumption) (by assumption) (by assumption) | exact dR_fi (rK_dr (by assumption) (by assumption))) (fun v => ?_)
    | refine T_on (by assumption) (fun e he => ?_)
    | refine T_oy (by first | exact ny_F (by assumption) | exact dR_y (rK_dr (by assumption) (by assumption))) (by assumption) (by assumption) (fun e he => ?_)
    | refine T_i (fun h => ?_) (fun h => ?_))
set_option maxHeartbeats 4000000 in
theorem t_ofSpan {kn : Int32} (p0 : Int32) (p1 : Int32) (z : MS) (hz : rK kn z) : T (fun r => rK kn r.2) (o_X3_ofSpan p0 p1 z) := by
  unfold o_X3_ofSpan
  with_reducible repeat' (first
    | exact T_s (by assumption)
    | (refine T_fl (by assumption) (fun ha hb hc w hw _ => ?_) (fun w hw => T_in one_ne (T_s hw)); first | exact absurd ha (by decide) | exact absurd hb (by decide) | exact absurd hc (by decide) | refine T_ip rfl ?_)
    | (refine T_an (by assumption) (fun ha hb w hw => T_ip rfl ?_) (fun w hw => T_in one_ne (T_s hw)))
    | refine T_g6 (by assumption) ?_
    | refine T_g2 (by assumption) ?_
    | refine T_g3 (by assumption) ?_
    | refine T_gi (by assumption) (by assumption) (by first | assumption | exact rK_dr (by assumption) (by assumption) | exact rK_rc (by assumption) _ (by decide) | exact dR_ep | exact dR_i (by assumption) (by assumption) | exact dR_mk (by assumption) (by assumption) (by assumption) (by assumption) (by assumption) | exact dR_wd (rK_dr (by assumption) (by assumption)) (by assumption) (by assumption) (by assumption) | exact dR_fi (rK_dr (by assumption) (by assumption))) (fun v w hw => T_s hw)
    | refine T_te (by assumption) (by assumption) (fun v w hw => T_s hw)
    | refine T_nu (by first | assumption | exact rK_dv (by assumption) (by assumption) | exact rK_dc (by assumption) _ (by decide) | exact dR_v (by assumption)) (fun v => ?_)
    | refine T_iy (by first | assumption | exact rK_dv (by assumption) (by assumption) | exact rK_dc (by assumption) _ (by decide) | exact dR_v (by assumption)) (fun v => ?_)
    | refine T_lm (by assumption) (fun v hv => ?_)
    | refine T_lo (by first | assumption | exact rK_dv (by assumption) (by assumption) | exact rK_dc (by assumption) _ (by decide) | exact dR_v (by assumption)) (fun v hv => ?_)
    | refine T_id (fun h => T_in one_ne ?_) (T_ip rfl ?_)
    | refine T_dn (T_ip rfl ?_)
    | refine T_en ?_
    | refine T_es ?_
    | refine T_nr (by first | exact ny_F (by assumption) | exact dR_y (rK_dr (by assumption) (by assumption))) (by first | exact i2_12 (by assumption) | exact dV_m (rK_dv (by assumption) (by assumption))) (by first | decide | exact dV_d (rK_dv (by assumption) (by assumption))) (fun e he => ?_)
    | refine T_la (by first | assumption | exact rK_dv (by assumption) (by assumption) | exact rK_dc (by assumption) _ (by decide) | exact dR_v (by assumption)) (sp_b _ _ (by first | assumption | exact Or.inl rfl | exact Or.inr rfl)) ?_ (fun e he => ?_)
    | refine T_ld (by first | assumption | exact rK_dv (by assumption) (by assumption) | exact rK_dc (by assumption) _ (by decide) | exact dR_v (by assumption)) (sd_b _ (by first | assumption | exact Or.inl rfl | exact Or.inr rfl)) ?_ (fun e he => ?_)
    | refine T_mv (by first | assumption | exact u_06 (by assumption) | exact u_c (by decide) | simp) (by first | assumption | exact rK_dv (by assumption) (by assumption) | exact rK_dc (by assumption) _ (by decide) | exact dR_v (by assumption)) (by first | exact pos_b (i2_m (by assumption)) | exact neg_b (i2_m (by assumption))) ?_ (fun e he => ?_)
    | refine T_ah (fun v => ?_)
    | refine T_mo (by first | assumption | exact rK_dr (by assumption) (by assumption) | exact rK_rc (by assumption) _ (by decide) | exact dR_ep | exact dR_i (by assumption) (by assumption) | exact dR_mk (by assumption) (by assumption) (by assumption) (by assumption) (by assumption) | exact dR_wd (rK_dr (by assumption) (by assumption)) (by assumption) (by assumption) (by assumption) | exact dR_fi (rK_dr (by assumption) (by assumption))) (by first | assumption | exact rK_dr (by assumption) (by assumption) | exact rK_rc (by assumption) _ (by decide) | exact dR_ep | exact dR_i (by assumption) (by assumption) | exact dR_mk (by assumption) (by assumption) (by assumption) (by assumption) (by assumption) | exact dR_wd (rK_dr (by assumption) (by assumption)) (by assumption) (by assumption) (by assumption) | exact dR_fi (rK_dr (by assumption) (by assumption))) (fun v => ?_)
    | refine T_do (by first | assumption | exact rK_dr (by assumption) (by assumption) | exact rK_rc (by assumption) _ (by decide) | exact dR_ep | exact dR_i (by assumption) (by assumption) | exact dR_mk (by assumption) (by assumption) (by assumption) (by assumption) (by assumption) | exact dR_wd (rK_dr (by assumption) (by assumption)) (by assumption) (by assumption) (by assumption) | exact dR_fi (rK_dr (by assumption) (by assumption))) (by first | assumption | exact rK_dr (by assumption) (by assumption) | exact rK_rc (by assumption) _ (by decide) | exact dR_ep | exact dR_i (by assumption) (by assumption) | exact dR_mk (by assumption) (by assumption) (by assumption) (by assumption) (by assumption) | exact dR_wd (rK_dr (by assumption) (by assumption)) (by assumption) (by assumption) (by assumption) | exact dR_fi (rK_dr (by assumption) (by assumption))) (fun v => ?_)
    | refine T_wh (by first | assumption | exact rK_dr (by assumption) (by assumption) | exact rK_rc (by assumption) _ (by decide) | exact dR_ep | exact dR_i (by assumption) (by assumption) | exact dR_mk (by assumption) (by assumption) (by assumption) (by assumption) (by assumption) | exact dR_wd (rK_dr (by assumption) (by assumption)) (by assumption) (by assumption) (by assumption) | exact dR_fi (rK_dr (by assumption) (by assumption))) (by first | assumption | exact rK_dr (by assumption) (by assumption) | exact rK_rc (by assumption) _ (by decide) | exact dR_ep | exact dR_i (by assumption) (by assumption) | exact dR_mk (by assumption) (by assumption) (by assumption) (by assumption) (by assumption) | exact dR_wd (rK_dr (by assumption) (by assumption)) (by assumption) (by assumption) (by assumption) | exact dR_fi (rK_dr (by assumption) (by assumption))) (by first | assumption | exact u_06 (by assumption) | exact u_c (by decide) | simp) (fun v => ?_)
    | refine T_cp (fun v => ?_)
    | refine T_lk (fun v => ?_)
    | refine T_fo (by first | assumption | exact rK_dv (by assumption) (by assumption) | exact rK_dc (by assumption) _ (by decide) | exact dR_v (by assumption)) (fun v => ?_)
    | refine T_tx (by first | assumption | exact rK_dr (by assumption) (by assumption) | exact rK_rc (by assumption) _ (by decide) | exact dR_ep | exact dR_i (by assumption) (by assumption) | exact dR_mk (by assumption) (by assumption) (by assumption) (by assumption) (by assumption) | exact dR_wd (rK_dr (by assumption) (by assumption)) (by assumption) (by assumption) (by assumption) | exact dR_fi (rK_dr (by assumption) (by assumption))) (fun v => ?_)
    | refine T_ad (by first | assumption | exact rK_dr (by assumption) (by assumption) | exact rK_rc (by assumption) _ (by decide) | exact dR_ep | exact dR_i (by assumption) (by assumption) | exact dR_mk (by assumption) (by assumption) (by assumption) (by assumption) (by assumption) | exact dR_wd (rK_dr (by assumption) (by assumption)) (by assumption) (by assumption) (by assumption) | exact dR_fi (rK_dr (by assumption) (by assumption))) (fun v => ?_)
    | refine T_on (by assumption) (fun e he => ?_)
    | refine T_oy (by first | exact ny_F (by assumption) | exact dR_y (rK_dr (by assumption) (by assumption))) (by assumption) (by assumption) (fun e he => ?_)
    | refine T_i (fun h => ?_) (fun h => ?_))
set_option maxHeartbeats 4000000 in
theorem t_movesBySpan {kn : Int32} (p0 : Int32) (p1 : Int32) (p2 : Int32) (z : MS) (hc : p2 = 1 ∨ p2 = -1) (hz : rK kn z) : T (fun r => rK kn r.2) (o_X3_movesBySpan p0 p1 p2 z) := by
  unfold o_X3_movesBySpan
  with_reducible repeat' (first
    | exact T_s (by assumption)
    | (refine T_fl (by assumption) (fun ha hb hc w hw _ => ?_) (fun w hw => T_in one_ne (T_s hw)); first | exact absurd ha (by decide) | exact absurd hb (by decide) | exact absurd hc (by decide) | refine T_ip rfl ?_)
    | (refine T_an (by assumption) (fun ha hb w hw => T_ip rfl ?_) (fun w hw => T_in one_ne (T_s hw)))
    | refine T_g6 (by assumption) ?_
    | refine T_g2 (by assumption) ?_
    | refine T_g3 (by assumption) ?_
    | refine T_gi (by assumption) (by assumption) (by first | assumption | exact rK_dr (by assumption) (by assumption) | exact rK_rc (by assumption) _ (by decide) | exact dR_ep | exact dR_i (by assumption) (by assumption) | exact dR_mk (by assumption) (by assumption) (by assumption) (by assumption) (by assumption) | exact dR_wd (rK_dr (by assumption) (by assumption)) (by assumption) (by assumption) (by assumption) | exact dR_fi (rK_dr (by assumption) (by assumption))) (fun v w hw => T_s hw)
    | refine T_te (by assumption) (by assumption) (fun v w hw => T_s hw)
    | refine T_nu (by first | assumption | exact rK_dv (by assumption) (by assumption) | exact rK_dc (by assumption) _ (by decide) | exact dR_v (by assumption)) (fun v => ?_)
    | refine T_iy (by first | assumption | exact rK_dv (by assumption) (by assumption) | exact rK_dc (by assumption) _ (by decide) | exact dR_v (by assumption)) (fun v => ?_)
    | refine T_lm (by assumption) (fun v hv => ?_)
    | refine T_lo (by first | assumption | exact rK_dv (by assumption) (by assumption) | exact rK_dc (by assumption) _ (by decide) | exact dR_v (by assumption)) (fun v hv => ?_)
    | refine T_id (fun h => T_in one_ne ?_) (T_ip rfl ?_)
    | refine T_dn (T_ip rfl ?_)
    | refine T_en ?_
    | refine T_es ?_
    | refine T_nr (by first | exact ny_F (by assumption) | exact dR_y (rK_dr (by assumption) (by assumption))) (by first | exact i2_12 (by assumption) | exact dV_m (rK_dv (by assumption) (by assumption))) (by first | decide | exact dV_d (rK_dv (by assumption) (by assumption))) (fun e he => ?_)
    | refine T_la (by first | assumption | exact rK_dv (by assumption) (by assumption) | exact rK_dc (by assumption) _ (by decide) | exact dR_v (by assumption)) (sp_b _ _ (by first | assumption | exact Or.inl rfl | exact Or.inr rfl)) ?_ (fun e he => ?_)
    | refine T_ld (by first | assumption | exact rK_dv (by assumption) (by assumption) | exact rK_dc (by assumption) _ (by decide) | exact dR_v (by assumption)) (sd_b _ (by first | assumption | exact Or.inl rfl | exact Or.inr rfl)) ?_ (fun e he => ?_)
    | refine T_mv (by first | assumption | exact u_06 (by assumption) | exact u_c (by decide) | simp) (by first | assumption | exact rK_dv (by assumption) (by assumption) | exact rK_dc (by assumption) _ (by decide) | exact dR_v (by assumption)) (by first | exact pos_b (i2_m (by assumption)) | exact neg_b (i2_m (by assumption))) ?_ (fun e he => ?_)
    | refine T_ah (fun v => ?_)
    | refine T_mo (by first | assumption | exact rK_dr (by assumption) (by assumption) | exact rK_rc (by assumption) _ (by decide) | exact dR_ep | exact dR_i (by assumption) (by assumption) | exact dR_mk (by assumption) (by assumption) (by assumption) (by assumption) (by assumption) | exact dR_wd (rK_dr (by assumption) (by assumption)) (by assumption) (by assumption) (by assumption) | exact dR_fi (rK_dr (by assumption) (by assumption))) (by first | assumption | exact rK_dr (by assumption) (by assumption) | exact rK_rc (by assumption) _ (by decide) | exact dR_ep | exact dR_i (by assumption) (by assumption) | exact dR_mk (by assumption) (by assumption) (by assumption) (by assumption) (by assumption) | exact dR_wd (rK_dr (by assumption) (by assumption)) (by assumption) (by assumption) (by assumption) | exact dR_fi (rK_dr (by assumption) (by assumption))) (fun v => ?_)
    | refine T_do (by first | assumption | exact rK_dr (by assumption) (by assumption) | exact rK_rc (by assumption) _ (by decide) | exact dR_ep | exact dR_i (by assumption) (by assumption) | exact dR_mk (by assumption) (by assumption) (by assumption) (by assumption) (by assumption) | exact dR_wd (rK_dr (by assumption) (by assumption)) (by assumption) (by assumption) (by assumption) | exact dR_fi (rK_dr (by assumption) (by assumption))) (by first | assumption | exact rK_dr (by assumption) (by assumption) | exact rK_rc (by assumption) _ (by decide) | exact dR_ep | exact dR_i (by assumption) (by assumption) | exact dR_mk (by assumption) (by assumption) (by assumption) (by assumption) (by assumption) | exact dR_wd (rK_dr (by assumption) (by assumption)) (by assumption) (by assumption) (by assumption) | exact dR_fi (rK_dr (by assumption) (by assumption))) (fun v => ?_)
    | refine T_wh (by first | assumption | exact rK_dr (by assumption) (by assumption) | exact rK_rc (by assumption) _ (by decide) | exact dR_ep | exact dR_i (by assumption) (by assumption) | exact dR_mk (by assumption) (by assumption) (by assumption) (by assumption) (by assumption) | exact dR_wd (rK_dr (by assumption) (by assumption)) (by assumption) (by assumption) (by assumption) | exact dR_fi (rK_dr (by assumption) (by assumption))) (by first | assumption | exact rK_dr (by assumption) (by assumption) | exact rK_rc (by assumption) _ (by decide) | exact dR_ep | exact dR_i (by assumption) (by assumption) | exact dR_mk (by assumption) (by assumption) (by assumption) (by assumption) (by assumption) | exact dR_wd (rK_dr (by assumption) (by assumption)) (by assumption) (by assumption) (by assumption) | exact dR_fi (rK_dr (by assumption) (by assumption))) (by first | assumption | exact u_06 (by assumption) | exact u_c (by decide) | simp) (fun v => ?_)
    | refine T_cp (fun v => ?_)
    | refine T_lk (fun v => ?_)
    | refine T_fo (by first | assumption | exact rK_dv (by assumption) (by assumption) | exact rK_dc (by assumption) _ (by decide) | exact dR_v (by assumption)) (fun v => ?_)
    | refine T_tx (by first | assumption | exact rK_dr (by assumption) (by assumption) | exact rK_rc (by assumption) _ (by decide) | exact dR_ep | exact dR_i (by assumption) (by assumption) | exact dR_mk (by assumption) (by assumption) (by assumption) (by assumption) (by assumption) | exact dR_wd (rK_dr (by assumption) (by assumption)) (by assumption) (by assumption) (by assumption) | exact dR_fi (rK_dr (by assumption) (by assumption))) (fun v => ?_)
    | refine T_ad (by first | assumption | exact rK_dr (by assumption) (by assumption) | exact rK_rc (by assumption) _ (by decide) | exact dR_ep | exact dR_i (by assumption) (by assumption) | exact dR_mk (by assumption) (by assumption) (by assumption) (by assumption) (by assumption) | exact dR_wd (rK_dr (by assumption) (by assumption)) (by assumption) (by assumption) (by assumption) | exact dR_fi (rK_dr (by assumption) (by assumption))) (fun v => ?_)
    | refine T_on (by assumption) (fun e he => ?_)
    | refine T_oy (by first | exact ny_F (by assumption) | exact dR_y (rK_dr (by assumption) (by assumption))) (by assumption) (by assumption) (fun e he => ?_)
    | refine T_i (fun h => ?_) (fun h => ?_))
set_option maxHeartbeats 4000000 in
theorem t_plusSpan {kn : Int32} (p0 : Int32) (p1 : Int32) (z : MS) (hz : rK kn z) : T (fun r => rK kn r.2) (o_X3_plusSpan p0 p1 z) := by
  unfold o_X3_plusSpan
  exact T_b (t_movesBySpan _ _ _ z (by decide) hz) (fun a ha => T_s ha)
set_option maxHeartbeats 4000000 in
theorem t_minusSpan {kn : Int32} (p0 : Int32) (p1 : Int32) (z : MS) (hz : rK kn z) : T (fun r => rK kn r.2) (o_X3_minusSpan p0 p1 z) := by
  unfold o_X3_minusSpan
  exact T_b (t_movesBySpan _ _ _ z (by decide) hz) (fun a ha => T_s ha)
set_option maxHeartbeats 4000000 in
theorem t_year {kn : Int32} (p0 : Int32) (z : MS) (hz : rK kn z) : T (fun r => rK kn r.2) (o_X3_year p0 z) := by
  unfold o_X3_year
  with_reducible repeat' (first
    | exact T_s (by assumption)
    | (refine T_fl (by assumption) (fun ha hb hc w hw _ => ?_) (fun w hw => T_in one_ne (T_s hw)); first | exact absurd ha (by decide) | exact absurd hb (by decide) | exact absurd hc (by decide) | refine T_ip rfl ?_)
    | (refine T_an (by assumption) (fun ha hb w hw => T_ip rfl ?_) (fun w hw => T_in one_ne (T_s hw)))
    | refine T_g6 (by assumption) ?_
    | refine T_g2 (by assumption) ?_
    | refine T_g3 (by assumption) ?_
    | refine T_gi (by assumption) (by assumption) (by first | assumption | exact rK_dr (by assumption) (by assumption) | exact rK_rc (by assumption) _ (by decide) | exact dR_ep | exact dR_i (by assumption) (by assumption) | exact dR_mk (by assumption) (by assumption) (by assumption) (by assumption) (by assumption) | exact dR_wd (rK_dr (by assumption) (by assumption)) (by assumption) (by assumption) (by assumption) | exact dR_fi (rK_dr (by assumption) (by assumption))) (fun v w hw => T_s hw)
    | refine T_te (by assumption) (by assumption) (fun v w hw => T_s hw)
    | refine T_nu (by first | assumption | exact rK_dv (by assumption) (by assumption) | exact rK_dc (by assumption) _ (by decide) | exact dR_v (by assumption)) (fun v => ?_)
    | refine T_iy (by first | assumption | exact rK_dv (by assumption) (by assumption) | exact rK_dc (by assumption) _ (by decide) | exact dR_v (by assumption)) (fun v => ?_)
    | refine T_lm (by assumption) (fun v hv => ?_)
    | refine T_lo (by first | assumption | exact rK_dv (by assumption) (by assumption) | exact rK_dc (by assumption) _ (by decide) | exact dR_v (by assumption)) (fun v hv => ?_)
    | refine T_id (fun h => T_in one_ne ?_) (T_ip rfl ?_)
    | refine T_dn (T_ip rfl ?_)
    | refine T_en ?_
    | refine T_es ?_
    | refine T_nr (by first | exact ny_F (by assumption) | exact dR_y (rK_dr (by assumption) (by assumption))) (by first | exact i2_12 (by assumption) | exact dV_m (rK_dv (by assumption) (by assumption))) (by first | decide | exact dV_d (rK_dv (by assumption) (by assumption))) (fun e he => ?_)
    | refine T_la (by first | assumption | exact rK_dv (by assumption) (by assumption) | exact rK_dc (by assumption) _ (by decide) | exact dR_v (by assumption)) (sp_b _ _ (by first | assumption | exact Or.inl rfl | exact Or.inr rfl)) ?_ (fun e he => ?_)
    | refine T_ld (by first | assumption | exact rK_dv (by assumption) (by assumption) | exact rK_dc (by assumption) _ (by decide) | exact dR_v (by assumption)) (sd_b _ (by first | assumption | exact Or.inl rfl | exact Or.inr rfl)) ?_ (fun e he => ?_)
    | refine T_mv (by first | assumption | exact u_06 (by assumption) | exact u_c (by decide) | simp) (by first | assumption | exact rK_dv (by assumption) (by assumption) | exact rK_dc (by assumption) _ (by decide) | exact dR_v (by assumption)) (by first | exact pos_b (i2_m (by assumption)) | exact neg_b (i2_m (by assumption))) ?_ (fun e he => ?_)
    | refine T_ah (fun v => ?_)
    | refine T_mo (by first | assumption | exact rK_dr (by assumption) (by assumption) | exact rK_rc (by assumption) _ (by decide) | exact dR_ep | exact dR_i (by assumption) (by assumption) | exact dR_mk (by assumption) (by assumption) (by assumption) (by assumption) (by assumption) | exact dR_wd (rK_dr (by assumption) (by assumption)) (by assumption) (by assumption) (by assumption) | exact dR_fi (rK_dr (by assumption) (by assumption))) (by first | assumption | exact rK_dr (by assumption) (by assumption) | exact rK_rc (by assumption) _ (by decide) | exact dR_ep | exact dR_i (by assumption) (by assumption) | exact dR_mk (by assumption) (by assumption) (by assumption) (by assumption) (by assumption) | exact dR_wd (rK_dr (by assumption) (by assumption)) (by assumption) (by assumption) (by assumption) | exact dR_fi (rK_dr (by assumption) (by assumption))) (fun v => ?_)
    | refine T_do (by first | assumption | exact rK_dr (by assumption) (by assumption) | exact rK_rc (by assumption) _ (by decide) | exact dR_ep | exact dR_i (by assumption) (by assumption) | exact dR_mk (by assumption) (by assumption) (by assumption) (by assumption) (by assumption) | exact dR_wd (rK_dr (by assumption) (by assumption)) (by assumption) (by assumption) (by assumption) | exact dR_fi (rK_dr (by assumption) (by assumption))) (by first | assumption | exact rK_dr (by assumption) (by assumption) | exact rK_rc (by assumption) _ (by decide) | exact dR_ep | exact dR_i (by assumption) (by assumption) | exact dR_mk (by assumption) (by assumption) (by assumption) (by assumption) (by assumption) | exact dR_wd (rK_dr (by assumption) (by assumption)) (by assumption) (by assumption) (by assumption) | exact dR_fi (rK_dr (by assumption) (by assumption))) (fun v => ?_)
    | refine T_wh (by first | assumption | exact rK_dr (by assumption) (by assumption) | exact rK_rc (by assumption) _ (by decide) | exact dR_ep | exact dR_i (by assumption) (by assumption) | exact dR_mk (by assumption) (by assumption) (by assumption) (by assumption) (by assumption) | exact dR_wd (rK_dr (by assumption) (by assumption)) (by assumption) (by assumption) (by assumption) | exact dR_fi (rK_dr (by assumption) (by assumption))) (by first | assumption | exact rK_dr (by assumption) (by assumption) | exact rK_rc (by assumption) _ (by decide) | exact dR_ep | exact dR_i (by assumption) (by assumption) | exact dR_mk (by assumption) (by assumption) (by assumption) (by assumption) (by assumption) | exact dR_wd (rK_dr (by assumption) (by assumption)) (by assumption) (by assumption) (by assumption) | exact dR_fi (rK_dr (by assumption) (by assumption))) (by first | assumption | exact u_06 (by assumption) | exact u_c (by decide) | simp) (fun v => ?_)
    | refine T_cp (fun v => ?_)
    | refine T_lk (fun v => ?_)
    | refine T_fo (by first | assumption | exact rK_dv (by assumption) (by assumption) | exact rK_dc (by assumption) _ (by decide) | exact dR_v (by assumption)) (fun v => ?_)
    | refine T_tx (by first | assumption | exact rK_dr (by assumption) (by assumption) | exact rK_rc (by assumption) _ (by decide) | exact dR_ep | exact dR_i (by assumption) (by assumption) | exact dR_mk (by assumption) (by assumption) (by assumption) (by assumption) (by assumption) | exact dR_wd (rK_dr (by assumption) (by assumption)) (by assumption) (by assumption) (by assumption) | exact dR_fi (rK_dr (by assumption) (by assumption))) (fun v => ?_)
    | refine T_ad (by first | assumption | exact rK_dr (by assumption) (by assumption) | exact rK_rc (by assumption) _ (by decide) | exact dR_ep | exact dR_i (by assumption) (by assumption) | exact dR_mk (by assumption) (by assumption) (by assumption) (by assumption) (by assumption) | exact dR_wd (rK_dr (by assumption) (by assumption)) (by assumption) (by assumption) (by assumption) | exact dR_fi (rK_dr (by assumption) (by assumption))) (fun v => ?_)
    | refine T_on (by assumption) (fun e he => ?_)
    | refine T_oy (by first | exact ny_F (by assumption) | exact dR_y (rK_dr (by assumption) (by assumption))) (by assumption) (by assumption) (fun e he => ?_)
    | refine T_i (fun h => ?_) (fun h => ?_))
set_option maxHeartbeats 4000000 in
theorem t_month {kn : Int32} (p0 : Int32) (z : MS) (hz : rK kn z) : T (fun r => rK kn r.2) (o_X3_month p0 z) := by
  unfold o_X3_month
  with_reducible repeat' (first
    | exact T_s (by assumption)
    | (refine T_fl (by assumption) (fun ha hb hc w hw _ => ?_) (fun w hw => T_in one_ne (T_s hw)); first | exact absurd ha (by decide) | exact absurd hb (by decide) | exact absurd hc (by decide) | refine T_ip rfl ?_)
    | (refine T_an (by assumption) (fun ha hb w hw => T_ip rfl ?_) (fun w hw => T_in one_ne (T_s hw)))
    | refine T_g6 (by assumption) ?_
    | refine T_g2 (by assumption) ?_
    | refine T_g3 (by assumption) ?_
    | refine T_gi (by assumption) (by assumption) (by first | assumption | exact rK_dr (by assumption) (by assumption) | exact rK_rc (by assumption) _ (by decide) | exact dR_ep | exact dR_i (by assumption) (by assumption) | exact dR_mk (by assumption) (by assumption) (by assumption) (by assumption) (by assumption) | exact dR_wd (rK_dr (by assumption) (by assumption)) (by assumption) (by assumption) (by assumption) | exact dR_fi (rK_dr (by assumption) (by assumption))) (fun v w hw => T_s hw)
    | refine T_te (by assumption) (by assumption) (fun v w hw => T_s hw)
    | refine T_nu (by first | assumption | exact rK_dv (by assumption) (by assumption) | exact rK_dc (by assumption) _ (by decide) | exact dR_v (by assumption)) (fun v => ?_)
    | refine T_iy (by first | assumption | exact rK_dv (by assumption) (by assumption) | exact rK_dc (by assumption) _ (by decide) | exact dR_v (by assumption)) (fun v => ?_)
    | refine T_lm (by assumption) (fun v hv => ?_)
    | refine T_lo (by first | assumption | exact rK_dv (by assumption) (by assumption) | exact rK_dc (by assumption) _ (by decide) | exact dR_v (by assumption)) (fun v hv => ?_)
    | refine T_id (fun h => T_in one_ne ?_) (T_ip rfl ?_)
    | refine T_dn (T_ip rfl ?_)
    | refine T_en ?_
    | refine T_es ?_
    | refine T_nr (by first | exact ny_F (by assumption) | exact dR_y (rK_dr (by assumption) (by assumption))) (by first | exact i2_12 (by assumption) | exact dV_m (rK_dv (by assumption) (by assumption))) (by first | decide | exact dV_d (rK_dv (by assumption) (by assumption))) (fun e he => ?_)
    | refine T_la (by first | assumption | exact rK_dv (by assumption) (by assumption) | exact rK_dc (by assumption) _ (by decide) | exact dR_v (by assumption)) (sp_b _ _ (by first | assumption | exact Or.inl rfl | exact Or.inr rfl)) ?_ (fun e he => ?_)
    | refine T_ld (by first | assumption | exact rK_dv (by assumption) (by assumption) | exact rK_dc (by assumption) _ (by decide) | exact dR_v (by assumption)) (sd_b _ (by first | assumption | exact Or.inl rfl | exact Or.inr rfl)) ?_ (fun e he => ?_)
    | refine T_mv (by first | assumption | exact u_06 (by assumption) | exact u_c (by decide) | simp) (by first | assumption | exact rK_dv (by assumption) (by assumption) | exact rK_dc (by assumption) _ (by decide) | exact dR_v (by assumption)) (by first | exact pos_b (i2_m (by assumption)) | exact neg_b (i2_m (by assumption))) ?_ (fun e he => ?_)
    | refine T_ah (fun v => ?_)
    | refine T_mo (by first | assumption | exact rK_dr (by assumption) (by assumption) | exact rK_rc (by assumption) _ (by decide) | exact dR_ep | exact dR_i (by assumption) (by assumption) | exact dR_mk (by assumption) (by assumption) (by assumption) (by assumption) (by assumption) | exact dR_wd (rK_dr (by assumption) (by assumption)) (by assumption) (by assumption) (by assumption) | exact dR_fi (rK_dr (by assumption) (by assumption))) (by first | assumption | exact rK_dr (by assumption) (by assumption) | exact rK_rc (by assumption) _ (by decide) | exact dR_ep | exact dR_i (by assumption) (by assumption) | exact dR_mk (by assumption) (by assumption) (by assumption) (by assumption) (by assumption) | exact dR_wd (rK_dr (by assumption) (by assumption)) (by assumption) (by assumption) (by assumption) | exact dR_fi (rK_dr (by assumption) (by assumption))) (fun v => ?_)
    | refine T_do (by first | assumption | exact rK_dr (by assumption) (by assumption) | exact rK_rc (by assumption) _ (by decide) | exact dR_ep | exact dR_i (by assumption) (by assumption) | exact dR_mk (by assumption) (by assumption) (by assumption) (by assumption) (by assumption) | exact dR_wd (rK_dr (by assumption) (by assumption)) (by assumption) (by assumption) (by assumption) | exact dR_fi (rK_dr (by assumption) (by assumption))) (by first | assumption | exact rK_dr (by assumption) (by assumption) | exact rK_rc (by assumption) _ (by decide) | exact dR_ep | exact dR_i (by assumption) (by assumption) | exact dR_mk (by assumption) (by assumption) (by assumption) (by assumption) (by assumption) | exact dR_wd (rK_dr (by assumption) (by assumption)) (by assumption) (by assumption) (by assumption) | exact dR_fi (rK_dr (by assumption) (by assumption))) (fun v => ?_)
    | refine T_wh (by first | assumption | exact rK_dr (by assumption) (by assumption) | exact rK_rc (by assumption) _ (by decide) | exact dR_ep | exact dR_i (by assumption) (by assumption) | exact dR_mk (by assumption) (by assumption) (by assumption) (by assumption) (by assumption) | exact dR_wd (rK_dr (by assumption) (by assumption)) (by assumption) (by assumption) (by assumption) | exact dR_fi (rK_dr (by assumption) (by assumption))) (by first | assumption | exact rK_dr (by assumption) (by assumption) | exact rK_rc (by assumption) _ (by decide) | exact dR_ep | exact dR_i (by assumption) (by assumption) | exact dR_mk (by assumption) (by assumption) (by assumption) (by assumption) (by assumption) | exact dR_wd (rK_dr (by assumption) (by assumption)) (by assumption) (by assumption) (by assumption) | exact dR_fi (rK_dr (by assumption) (by assumption))) (by first | assumption | exact u_06 (by assumption) | exact u_c (by decide) | simp) (fun v => ?_)
    | refine T_cp (fun v => ?_)
    | refine T_lk (fun v => ?_)
    | refine T_fo (by first | assumption | exact rK_dv (by assumption) (by assumption) | exact rK_dc (by assumption) _ (by decide) | exact dR_v (by assumption)) (fun v => ?_)
    | refine T_tx (by first | assumption | exact rK_dr (by assumption) (by assumption) | exact rK_rc (by assumption) _ (by decide) | exact dR_ep | exact dR_i (by assumption) (by assumption) | exact dR_mk (by assumption) (by assumption) (by assumption) (by assumption) (by assumption) | exact dR_wd (rK_dr (by assumption) (by assumption)) (by assumption) (by assumption) (by assumption) | exact dR_fi (rK_dr (by assumption) (by assumption))) (fun v => ?_)
    | refine T_ad (by first | assumption | exact rK_dr (by assumption) (by assumption) | exact rK_rc (by assumption) _ (by decide) | exact dR_ep | exact dR_i (by assumption) (by assumption) | exact dR_mk (by assumption) (by assumption) (by assumption) (by assumption) (by assumption) | exact dR_wd (rK_dr (by assumption) (by assumption)) (by assumption) (by assumption) (by assumption) | exact dR_fi (rK_dr (by assumption) (by assumption))) (fun v => ?_)
    | refine T_on (by assumption) (fun e he => ?_)
    | refine T_oy (by first | exact ny_F (by assumption) | exact dR_y (rK_dr (by assumption) (by assumption))) (by assumption) (by assumption) (fun e he => ?_)
    | refine T_i (fun h => ?_) (fun h => ?_))
set_option maxHeartbeats 4000000 in
theorem t_day {kn : Int32} (p0 : Int32) (z : MS) (hz : rK kn z) : T (fun r => rK kn r.2) (o_X3_day p0 z) := by
  unfold o_X3_day
  with_reducible repeat' (first
    | exact T_s (by assumption)
    | (refine T_fl (by assumption) (fun ha hb hc w hw _ => ?_) (fun w hw => T_in one_ne (T_s hw)); first | exact absurd ha (by decide) | exact absurd hb (by decide) | exact absurd hc (by decide) | refine T_ip rfl ?_)
    | (refine T_an (by assumption) (fun ha hb w hw => T_ip rfl ?_) (fun w hw => T_in one_ne (T_s hw)))
    | refine T_g6 (by assumption) ?_
    | refine T_g2 (by assumption) ?_
    | refine T_g3 (by assumption) ?_
    | refine T_gi (by assumption) (by assumption) (by first | assumption | exact rK_dr (by assumption) (by assumption) | exact rK_rc (by assumption) _ (by decide) | exact dR_ep | exact dR_i (by assumption) (by assumption) | exact dR_mk (by assumption) (by assumption) (by assumption) (by assumption) (by assumption) | exact dR_wd (rK_dr (by assumption) (by assumption)) (by assumption) (by assumption) (by assumption) | exact dR_fi (rK_dr (by assumption) (by assumption))) (fun v w hw => T_s hw)
    | refine T_te (by assumption) (by assumption) (fun v w hw => T_s hw)
    | refine T_nu (by first | assumption | exact rK_dv (by assumption) (by assumption) | exact rK_dc (by assumption) _ (by decide) | exact dR_v (by assumption)) (fun v => ?_)
    | refine T_iy (by first | assumption | exact rK_dv (by assumption) (by assumption) | exact rK_dc (by assumption) _ (by decide) | exact dR_v (by assumption)) (fun v => ?_)
    | refine T_lm (by assumption) (fun v hv => ?_)
    | refine T_lo (by first | assumption | exact rK_dv (by assumption) (by assumption) | exact rK_dc (by assumption) _ (by decide) | exact dR_v (by assumption)) (fun v hv => ?_)
    | refine T_id (fun h => T_in one_ne ?_) (T_ip rfl ?_)
    | refine T_dn (T_ip rfl ?_)
    | refine T_en ?_
    | refine T_es ?_
    | refine T_nr (by first | exact ny_F (by assumption) | exact dR_y (rK_dr (by assumption) (by assumption))) (by first | exact i2_12 (by assumption) | exact dV_m (rK_dv (by assumption) (by assumption))) (by first | decide | exact dV_d (rK_dv (by assumption) (by assumption))) (fun e he => ?_)
    | refine T_la (by first | assumption | exact rK_dv (by assumption) (by assumption) | exact rK_dc (by assumption) _ (by decide) | exact dR_v (by assumption)) (sp_b _ _ (by first | assumption | exact Or.inl rfl | exact Or.inr rfl)) ?_ (fun e he => ?_)
    | refine T_ld (by first | assumption | exact rK_dv (by assumption) (by assumption) | exact rK_dc (by assumption) _ (by decide) | exact dR_v (by assumption)) (sd_b _ (by first | assumption | exact Or.inl rfl | exact Or.inr rfl)) ?_ (fun e he => ?_)
    | refine T_mv (by first | assumption | exact u_06 (by assumption) | exact u_c (by decide) | simp) (by first | assumption | exact rK_dv (by assumption) (by assumption) | exact rK_dc (by assumption) _ (by decide) | exact dR_v (by assumption)) (by first | exact pos_b (i2_m (by assumption)) | exact neg_b (i2_m (by assumption))) ?_ (fun e he => ?_)
    | refine T_ah (fun v => ?_)
    | refine T_mo (by first | assumption | exact rK_dr (by assumption) (by assumption) | exact rK_rc (by assumption) _ (by decide) | exact dR_ep | exact dR_i (by assumption) (by assumption) | exact dR_mk (by assumption) (by assumption) (by assumption) (by assumption) (by assumption) | exact dR_wd (rK_dr (by assumption) (by assumption)) (by assumption) (by assumption) (by assumption) | exact dR_fi (rK_dr (by assumption) (by assumption))) (by first | assumption | exact rK_dr (by assumption) (by assumption) | exact rK_rc (by assumption) _ (by decide) | exact dR_ep | exact dR_i (by assumption) (by assumption) | exact dR_mk (by assumption) (by assumption) (by assumption) (by assumption) (by assumption) | exact dR_wd (rK_dr (by assumption) (by assumption)) (by assumption) (by assumption) (by assumption) | exact dR_fi (rK_dr (by assumption) (by assumption))) (fun v => ?_)
    | refine T_do (by first | assumption | exact rK_dr (by assumption) (by assumption) | exact rK_rc (by assumption) _ (by decide) | exact dR_ep | exact dR_i (by assumption) (by assumption) | exact dR_mk (by assumption) (by assumption) (by assumption) (by assumption) (by assumption) | exact dR_wd (rK_dr (by assumption) (by assumption)) (by assumption) (by assumption) (by assumption) | exact dR_fi (rK_dr (by assumption) (by assumption))) (by first | assumption | exact rK_dr (by assumption) (by assumption) | exact rK_rc (by assumption) _ (by decide) | exact dR_ep | exact dR_i (by assumption) (by assumption) | exact dR_mk (by assumption) (by assumption) (by assumption) (by assumption) (by assumption) | exact dR_wd (rK_dr (by assumption) (by assumption)) (by assumption) (by assumption) (by assumption) | exact dR_fi (rK_dr (by assumption) (by assumption))) (fun v => ?_)
    | refine T_wh (by first | assumption | exact rK_dr (by assumption) (by assumption) | exact rK_rc (by assumption) _ (by decide) | exact dR_ep | exact dR_i (by assumption) (by assumption) | exact dR_mk (by assumption) (by assumption) (by assumption) (by assumption) (by assumption) | exact dR_wd (rK_dr (by assumption) (by assumption)) (by assumption) (by assumption) (by assumption) | exact dR_fi (rK_dr (by assumption) (by assumption))) (by first | assumption | exact rK_dr (by assumption) (by assumption) | exact rK_rc (by assumption) _ (by decide) | exact dR_ep | exact dR_i (by assumption) (by assumption) | exact dR_mk (by assumption) (by assumption) (by assumption) (by assumption) (by assumption) | exact dR_wd (rK_dr (by assumption) (by assumption)) (by assumption) (by assumption) (by assumption) | exact dR_fi (rK_dr (by assumption) (by assumption))) (by first | assumption | exact u_06 (by assumption) | exact u_c (by decide) | simp) (fun v => ?_)
    | refine T_cp (fun v => ?_)
    | refine T_lk (fun v => ?_)
    | refine T_fo (by first | assumption | exact rK_dv (by assumption) (by assumption) | exact rK_dc (by assumption) _ (by decide) | exact dR_v (by assumption)) (fun v => ?_)
    | refine T_tx (by first | assumption | exact rK_dr (by assumption) (by assumption) | exact rK_rc (by assumption) _ (by decide) | exact dR_ep | exact dR_i (by assumption) (by assumption) | exact dR_mk (by assumption) (by assumption) (by assumption) (by assumption) (by assumption) | exact dR_wd (rK_dr (by assumption) (by assumption)) (by assumption) (by assumption) (by assumption) | exact dR_fi (rK_dr (by assumption) (by assumption))) (fun v => ?_)
    | refine T_ad (by first | assumption | exact rK_dr (by assumption) (by assumption) | exact rK_rc (by assumption) _ (by decide) | exact dR_ep | exact dR_i (by assumption) (by assumption) | exact dR_mk (by assumption) (by assumption) (by assumption) (by assumption) (by assumption) | exact dR_wd (rK_dr (by assumption) (by assumption)) (by assumption) (by assumption) (by assumption) | exact dR_fi (rK_dr (by assumption) (by assumption))) (fun v => ?_)
    | refine T_on (by assumption) (fun e he => ?_)
    | refine T_oy (by first | exact ny_F (by assumption) | exact dR_y (rK_dr (by assumption) (by assumption))) (by assumption) (by assumption) (fun e he => ?_)
    | refine T_i (fun h => ?_) (fun h => ?_))
set_option maxHeartbeats 4000000 in
theorem t_dayOfYear {kn : Int32} (p0 : Int32) (z : MS) (hz : rK kn z) : T (fun r => rK kn r.2) (o_X3_dayOfYear p0 z) := by
  unfold o_X3_dayOfYear
  with_reducible repeat' (first
    | exact T_s (by assumption)
    | (refine T_fl (by assumption) (fun ha hb hc w hw _ => ?_) (fun w hw => T_in one_ne (T_s hw)); first | exact absurd ha (by decide) | exact absurd hb (by decide) | exact absurd hc (by decide) | refine T_ip rfl ?_)
    | (refine T_an (by assumption) (fun ha hb w hw => T_ip rfl ?_) (fun w hw => T_in one_ne (T_s hw)))
    | refine T_g6 (by assumption) ?_
    | refine T_g2 (by assumption) ?_
    | refine T_g3 (by assumption) ?_
    | refine T_gi (by assumption) (by assumption) (by first | assumption | exact rK_dr (by assumption) (by assumption) | exact rK_rc (by assumption) _ (by decide) | exact dR_ep | exact dR_i (by assumption) (by assumption) | exact dR_mk (by assumption) (by assumption) (by assumption) (by assumption) (by assumption) | exact dR_wd (rK_dr (by assumption) (by assumption)) (by assumption) (by assumption) (by assumption) | exact dR_fi (rK_dr (by assumption) (by assumption))) (fun v w hw => T_s hw)
    | refine T_te (by assumption) (by assumption) (fun v w hw => T_s hw)
    | refine T_nu (by first | assumption | exact rK_dv (by assumption) (by assumption) | exact rK_dc (by assumption) _ (by decide) | exact dR_v (by assumption)) (fun v => ?_)
    | refine T_iy (by first | assumption | exact rK_dv (by assumption) (by assumption) | exact rK_dc (by assumption) _ (by decide) | exact dR_v (by assumption)) (fun v => ?_)
    | refine T_lm (by assumption) (fun v hv => ?_)
    | refine T_lo (by first | assumption | exact rK_dv (by assumption) (by assumption) | exact rK_dc (by assumption) _ (by decide) | exact dR_v (by assumption)) (fun v hv => ?_)
    | refine T_id (fun h => T_in one_ne ?_) (T_ip rfl ?_)
    | refine T_dn (T_ip rfl ?_)
    | refine T_en ?_
    | refine T_es ?_
    | refine T_nr (by first | exact ny_F (by assumption) | exact dR_y (rK_dr (by assumption) (by assumption))) (by first | exact i2_12 (by assumption) | exact dV_m (rK_dv (by assumption) (by assumption))) (by first | decide | exact dV_d (rK_dv (by assumption) (by assumption))) (fun e he => ?_)
    | refine T_la (by first | assumption | exact rK_dv (by assumption) (by assumption) | exact rK_dc (by assumption) _ (by decide) | exact dR_v (by assumption)) (sp_b _ _ (by first | assumption | exact Or.inl rfl | exact Or.inr rfl)) ?_ (fun e he => ?_)
    | refine T_ld (by first | assumption | exact rK_dv (by assumption) (by assumption) | exact rK_dc (by assumption) _ (by decide) | exact dR_v (by assumption)) (sd_b _ (by first | assumption | exact Or.inl rfl | exact Or.inr rfl)) ?_ (fun e he => ?_)
    | refine T_mv (by first | assumption | exact u_06 (by assumption) | exact u_c (by decide) | simp) (by first | assumption | exact rK_dv (by assumption) (by assumption) | exact rK_dc (by assumption) _ (by decide) | exact dR_v (by assumption)) (by first | exact pos_b (i2_m (by assumption)) | exact neg_b (i2_m (by assumption))) ?_ (fun e he => ?_)
    | refine T_ah (fun v => ?_)
    | refine T_mo (by first | assumption | exact rK_dr (by assumption) (by assumption) | exact rK_rc (by assumption) _ (by decide) | exact dR_ep | exact dR_i (by assumption) (by assumption) | exact dR_mk (by assumption) (by assumption) (by assumption) (by assumption) (by assumption) | exact dR_wd (rK_dr (by assumption) (by assumption)) (by assumption) (by assumption) (by assumption) | exact dR_fi (rK_dr (by assumption) (by assumption))) (by first | assumption | exact rK_dr (by assumption) (by assumption) | exact rK_rc (by assumption) _ (by decide) | exact dR_ep | exact dR_i (by assumption) (by assumption) | exact dR_mk (by assumption) (by assumption) (by assumption) (by assumption) (by assumption) | exact dR_wd (rK_dr (by assumption) (by assumption)) (by assumption) (by assumption) (by assumption) | exact dR_fi (rK_dr (by assumption) (by assumption))) (fun v => ?_)
    | refine T_do (by first | assumption | exact rK_dr (by assumption) (by assumption) | exact rK_rc (by assumption) _ (by decide) | exact dR_ep | exact dR_i (by assumption) (by assumption) | exact dR_mk (by assumption) (by assumption) (by assumption) (by assumption) (by assumption) | exact dR_wd (rK_dr (by assumption) (by assumption)) (by assumption) (by assumption) (by assumption) | exact dR_fi (rK_dr (by assumption) (by assumption))) (by first | assumption | exact rK_dr (by assumption) (by assumption) | exact rK_rc (by assumption) _ (by decide) | exact dR_ep | exact dR_i (by assumption) (by assumption) | exact dR_mk (by assumption) (by assumption) (by assumption) (by assumption) (by assumption) | exact dR_wd (rK_dr (by assumption) (by assumption)) (by assumption) (by assumption) (by assumption) | exact dR_fi (rK_dr (by assumption) (by assumption))) (fun v => ?_)
    | refine T_wh (by first | assumption | exact rK_dr (by assumption) (by assumption) | exact rK_rc (by assumption) _ (by decide) | exact dR_ep | exact dR_i (by assumption) (by assumption) | exact dR_mk (by assumption) (by assumption) (by assumption) (by assumption) (by assumption) | exact dR_wd (rK_dr (by assumption) (by assumption)) (by assumption) (by assumption) (by assumption) | exact dR_fi (rK_dr (by assumption) (by assumption))) (by first | assumption | exact rK_dr (by assumption) (by assumption) | exact rK_rc (by assumption) _ (by decide) | exact dR_ep | exact dR_i (by assumption) (by assumption) | exact dR_mk (by assumption) (by assumption) (by assumption) (by assumption) (by assumption) | exact dR_wd (rK_dr (by assumption) (by assumption)) (by assumption) (by assumption) (by assumption) | exact dR_fi (rK_dr (by assumption) (by assumption))) (by first | assumption | exact u_06 (by assumption) | exact u_c (by decide) | simp) (fun v => ?_)
    | refine T_cp (fun v => ?_)
    | refine T_lk (fun v => ?_)
    | refine T_fo (by first | assumption | exact rK_dv (by assumption) (by assumption) | exact rK_dc (by assumption) _ (by decide) | exact dR_v (by assumption)) (fun v => ?_)
    | refine T_tx (by first | assumption | exact rK_dr (by assumption) (by assumption) | exact rK_rc (by assumption) _ (by decide) | exact dR_ep | exact dR_i (by assumption) (by assumption) | exact dR_mk (by assumption) (by assumption) (by assumption) (by assumption) (by assumption) | exact dR_wd (rK_dr (by assumption) (by assumption)) (by assumption) (by assumption) (by assumption) | exact dR_fi (rK_dr (by assumption) (by assumption))) (fun v => ?_)
    | refine T_ad (by first | assumption | exact rK_dr (by assumption) (by assumption) | exact rK_rc (by assumption) _ (by decide) | exact dR_ep | exact dR_i (by assumption) (by assumption) | exact dR_mk (by assumption) (by assumption) (by assumption) (by assumption) (by assumption) | exact dR_wd (rK_dr (by assumption) (by assumption)) (by assumption) (by assumption) (by assumption) | exact dR_fi (rK_dr (by assumption) (by assumption))) (fun v => ?_)
    | refine T_on (by assumption) (fun e he => ?_)
    | refine T_oy (by first | exact ny_F (by assumption) | exact dR_y (rK_dr (by assumption) (by assumption))) (by assumption) (by assumption) (fun e he => ?_)
    | refine T_i (fun h => ?_) (fun h => ?_))
set_option maxHeartbeats 4000000 in
theorem t_dayOfWeek {kn : Int32} (p0 : Int32) (z : MS) (hz : rK kn z) : T (fun r => rK kn r.2) (o_X3_dayOfWeek p0 z) := by
  unfold o_X3_dayOfWeek
  with_reducible repeat' (first
    | exact T_s (by assumption)
    | (refine T_fl (by assumption) (fun ha hb hc w hw _ => ?_) (fun w hw => T_in one_ne (T_s hw)); first | exact absurd ha (by decide) | exact absurd hb (by decide) | exact absurd hc (by decide) | refine T_ip rfl ?_)
    | (refine T_an (by assumption) (fun ha hb w hw => T_ip rfl ?_) (fun w hw => T_in one_ne (T_s hw)))
    | refine T_g6 (by assumption) ?_
    | refine T_g2 (by assumption) ?_
    | refine T_g3 (by assumption) ?_
    | refine T_gi (by assumption) (by assumption) (by first | assumption | exact rK_dr (by assumption) (by assumption) | exact rK_rc (by assumption) _ (by decide) | exact dR_ep | exact dR_i (by assumption) (by assumption) | exact dR_mk (by assumption) (by assumption) (by assumption) (by assumption) (by assumption) | exact dR_wd (rK_dr (by assumption) (by assumption)) (by assumption) (by assumption) (by assumption) | exact dR_fi (rK_dr (by assumption) (by assumption))) (fun v w hw => T_s hw)
    | refine T_te (by assumption) (by assumption) (fun v w hw => T_s hw)
    | refine T_nu (by first | assumption | exact rK_dv (by assumption) (by assumption) | exact rK_dc (by assumption) _ (by decide) | exact dR_v (by assumption)) (fun v => ?_)
    | refine T_iy (by first | assumption | exact rK_dv (by assumption) (by assumption) | exact rK_dc (by assumption) _ (by decide) | exact dR_v (by assumption)) (fun v => ?_)
    | refine T_lm (by assumption) (fun v hv => ?_)
    | refine T_lo (by first | assumption | exact rK_dv (by assumption) (by assumption) | exact rK_dc (by assumption) _ (by decide) | exact dR_v (by assumption)) (fun v hv => ?_)
    | refine T_id (fun h => T_in one_ne ?_) (T_ip rfl ?_)
    | refine T_dn (T_ip rfl ?_)
    | refine T_en ?_
    | refine T_es ?_
    | refine T_nr (by first | exact ny_F (by assumption) | exact dR_y (rK_dr (by assumption) (by assumption))) (by first | exact i2_12 (by assumption) | exact dV_m (rK_dv (by assumption) (by assumption))) (by first | decide | exact dV_d (rK_dv (by assumption) (by assumption))) (fun e he => ?_)
    | refine T_la (by first | assumption | exact rK_dv (by assumption) (by assumption) | exact rK_dc (by assumption) _ (by decide) | exact dR_v (by assumption)) (sp_b _ _ (by first | assumption | exact Or.inl rfl | exact Or.inr rfl)) ?_ (fun e he => ?_)
    | refine T_ld (by first | assumption | exact rK_dv (by assumption) (by assumption) | exact rK_dc (by assumption) _ (by decide) | exact dR_v (by assumption)) (sd_b _ (by first | assumption | exact Or.inl rfl | exact Or.inr rfl)) ?_ (fun e he => ?_)
    | refine T_mv (by first | assumption | exact u_06 (by assumption) | exact u_c (by decide) | simp) (by first | assumption | exact rK_dv (by assumption) (by assumption) | exact rK_dc (by assumption) _ (by decide) | exact dR_v (by assumption)) (by first | exact pos_b (i2_m (by assumption)) | exact neg_b (i2_m (by assumption))) ?_ (fun e he => ?_)
    | refine T_ah (fun v => ?_)
    | refine T_mo (by first | assumption | exact rK_dr (by assumption) (by assumption) | exact rK_rc (by assumption) _ (by decide) | exact dR_ep | exact dR_i (by assumption) (by assumption) | exact dR_mk (by assumption) (by assumption) (by assumption) (by assumption) (by assumption) | exact dR_wd (rK_dr (by assumption) (by assumption)) (by assumption) (by assumption) (by assumption) | exact dR_fi (rK_dr (by assumption) (by assumption))) (by first | assumption | exact rK_dr (by assumption) (by assumption) | exact rK_rc (by assumption) _ (by decide) | exact dR_ep | exact dR_i (by assumption) (by assumption) | exact dR_mk (by assumption) (by assumption) (by assumption) (by assumption) (by assumption) | exact dR_wd (rK_dr (by assumption) (by assumption)) (by assumption) (by assumption) (by assumption) | exact dR_fi (rK_dr (by assumption) (by assumption))) (fun v => ?_)
    | refine T_do (by first | assumption | exact rK_dr (by assumption) (by assumption) | exact rK_rc (by assumption) _ (by decide) | exact dR_ep | exact dR_i (by assumption) (by assumption) | exact dR_mk (by assumption) (by assumption) (by assumption) (by assumption) (by assumption) | exact dR_wd (rK_dr (by assumption) (by assumption)) (by assumption) (by assumption) (by assumption) | exact dR_fi (rK_dr (by assumption) (by assumption))) (by first | assumption | exact rK_dr (by assumption) (by assumption) | exact rK_rc (by assumption) _ (by decide) | exact dR_ep | exact dR_i (by assumption) (by assumption) | exact dR_mk (by assumption) (by assumption) (by assumption) (by assumption) (by assumption) | exact dR_wd (rK_dr (by assumption) (by assumption)) (by assumption) (by assumption) (by assumption) | exact dR_fi (rK_dr (by assumption) (by assumption))) (fun v => ?_)
    | refine T_wh (by first | assumption | exact rK_dr (by assumption) (by assumption) | exact rK_rc (by assumption) _ (by decide) | exact dR_ep | exact dR_i (by assumption) (by assumption) | exact dR_mk (by assumption) (by assumption) (by assumption) (by assumption) (by assumption) | exact dR_wd (rK_dr (by assumption) (by assumption)) (by assumption) (by assumption) (by assumption) | exact dR_fi (rK_dr (by assumption) (by assumption))) (by first | assumption | exact rK_dr (by assumption) (by assumption) | exact rK_rc (by assumption) _ (by decide) | exact dR_ep | exact dR_i (by assumption) (by assumption) | exact dR_mk (by assumption) (by assumption) (by assumption) (by assumption) (by assumption) | exact dR_wd (rK_dr (by assumption) (by assumption)) (by assumption) (by assumption) (by assumption) | exact dR_fi (rK_dr (by assumption) (by assumption))) (by first | assumption | exact u_06 (by assumption) | exact u_c (by decide) | simp) (fun v => ?_)
    | refine T_cp (fun v => ?_)
    | refine T_lk (fun v => ?_)
    | refine T_fo (by first | assumption | exact rK_dv (by assumption) (by assumption) | exact rK_dc (by assumption) _ (by decide) | exact dR_v (by assumption)) (fun v => ?_)
    | refine T_tx (by first | assumption | exact rK_dr (by assumption) (by assumption) | exact rK_rc (by assumption) _ (by decide) | exact dR_ep | exact dR_i (by assumption) (by assumption) | exact dR_mk (by assumption) (by assumption) (by assumption) (by assumption) (by assumption) | exact dR_wd (rK_dr (by assumption) (by assumption)) (by assumption) (by assumption) (by assumption) | exact dR_fi (rK_dr (by assumption) (by assumption))) (fun v => ?_)
    | refine T_ad (by first | assumption | exact rK_dr (by assumption) (by assumption) | exact rK_rc (by assumption) _ (by decide) | exact dR_ep | exact dR_i (by assumption) (by assumption) | exact dR_mk (by assumption) (by assumption) (by assumption) (by assumption) (by assumption) | exact dR_wd (rK_dr (by assumption) (by assumption)) (by assumption) (by assumption) (by assumption) | exact dR_fi (rK_dr (by assumption) (by assumption))) (fun v => ?_)
    | refine T_on (by assumption) (fun e he => ?_)
    | refine T_oy (by first | exact ny_F (by assumption) | exact dR_y (rK_dr (by assumption) (by assumption))) (by assumption) (by assumption) (fun e he => ?_)
    | refine T_i (fun h => ?_) (fun h => ?_))
set_option maxHeartbeats 4000000 in
theorem t_laterDayOfWeek {kn : Int32} (p0 : Int32) (p1 : Int32) (z : MS) (hz : rK kn z) : T (fun r => rK kn r.2) (o_X3_laterDayOfWeek p0 p1 z) := by
  unfold o_X3_laterDayOfWeek
  with_reducible repeat' (first
    | exact T_s (by assumption)
    | (refine T_fl (by assumption) (fun ha hb hc w hw _ => ?_) (fun w hw => T_in one_ne (T_s hw)); first | exact absurd ha (by decide) | exact absurd hb (by decide) | exact absurd hc (by decide) | refine T_ip rfl ?_)
    | (refine T_an (by assumption) (fun ha hb w hw => T_ip rfl ?_) (fun w hw => T_in one_ne (T_s hw)))
    | refine T_g6 (by assumption) ?_
    | refine T_g2 (by assumption) ?_
    | refine T_g3 (by assumption) ?_
    | refine T_gi (by assumption) (by assumption) (by first | assumption | exact rK_dr (by assumption) (by assumption) | exact rK_rc (by assumption) _ (by decide) | exact dR_ep | exact dR_i (by assumption) (by assumption) | exact dR_mk (by assumption) (by assumption) (by assumption) (by assumption) (by assumption) | exact dR_wd (rK_dr (by assumption) (by assumption)) (by assumption) (by assumption) (by assumption) | exact dR_fi (rK_dr (by assumption) (by assumption))) (fun v w hw => T_s hw)
    | refine T_te (by assumption) (by assumption) (fun v w hw => T_s hw)
    | refine T_nu (by first | assumption | exact rK_dv (by assumption) (by assumption) | exact rK_dc (by assumption) _ (by decide) | exact dR_v (by assumption)) (fun v => ?_)
    | refine T_iy (by first | assumption | exact rK_dv (by assumption) (by assumption) | exact rK_dc (by assumption) _ (by decide) | exact dR_v (by assumption)) (fun v => ?_)
    | refine T_lm (by assumption) (fun v hv => ?_)
    | refine T_lo (by first | assumption | exact rK_dv (by assumption) (by assumption) | exact rK_dc (by assumption) _ (by decide) | exact dR_v (by assumption)) (fun v hv => ?_)
    | refine T_id (fun h => T_in one_ne ?_) (T_ip rfl ?_)
    | refine T_dn (T_ip rfl ?_)
    | refine T_en ?_
    | refine T_es ?_
    | refine T_nr (by first | exact ny_F (by assumption) | exact dR_y (rK_dr (by assumption) (by assumption))) (by first | exact i2_12 (by assumption) | exact dV_m (rK_dv (by assumption) (by assumption))) (by first | decide | exact dV_d (rK_dv (by assumption) (by assumption))) (fun e he => ?_)
    | refine T_la (by first | assumption | exact rK_dv (by assumption) (by assumption) | exact rK_dc (by assumption) _ (by decide) | exact dR_v (by assumption)) (sp_b _ _ (by first | assumption | exact Or.inl rfl | exact Or.inr rfl)) ?_ (fun e he => ?_)
    | refine T_ld (by first | assumption | exact rK_dv (by assumption) (by assumption) | exact rK_dc (by assumption) _ (by decide) | exact dR_v (by assumption)) (sd_b _ (by first | assumption | exact Or.inl rfl | exact Or.inr rfl)) ?_ (fun e he => ?_)
    | refine T_mv (by first | assumption | exact u_06 (by assumption) | exact u_c (by decide) | simp) (by first | assumption | exact rK_dv (by assumption) (by assumption) | exact rK_dc (by assumption) _ (by decide) | exact dR_v (by assumption)) (by first | exact pos_b (i2_m (by assumption)) | exact neg_b (i2_m (by assumption))) ?_ (fun e he => ?_)
    | refine T_ah (fun v => ?_)
    | refine T_mo (by first | assumption | exact rK_dr (by assumption) (by assumption) | exact rK_rc (by assumption) _ (by decide) | exact dR_ep | exact dR_i (by assumption) (by assumption) | exact dR_mk (by assumption) (by assumption) (by assumption) (by assumption) (by assumption) | exact dR_wd (rK_dr (by assumption) (by assumption)) (by assumption) (by assumption) (by assumption) | exact dR_fi (rK_dr (by assumption) (by assumption))) (by first | assumption | exact rK_dr (by assumption) (by assumption) | exact rK_rc (by assumption) _ (by decide) | exact dR_ep | exact dR_i (by assumption) (by assumption) | exact dR_mk (by assumption) (by assumption) (by assumption) (by assumption) (by assumption) | exact dR_wd (rK_dr (by assumption) (by assumption)) (by assumption) (by assumption) (by assumption) | exact dR_fi (rK_dr (by assumption) (by assumption))) (fun v => ?_)
    | refine T_do (by first | assumption | exact rK_dr (by assumption) (by assumption) | exact rK_rc (by assumption) _ (by decide) | exact dR_ep | exact dR_i (by assumption) (by assumption) | exact dR_mk (by assumption) (by assumption) (by assumption) (by assumption) (by assumption) | exact dR_wd (rK_dr (by assumption) (by assumption)) (by assumption) (by assumption) (by assumption) | exact dR_fi (rK_dr (by assumption) (by assumption))) (by first | assumption | exact rK_dr (by assumption) (by assumption) | exact rK_rc (by assumption) _ (by decide) | exact dR_ep | exact dR_i (by assumption) (by assumption) | exact dR_mk (by assumption) (by assumption) (by assumption) (by assumption) (by assumption) | exact dR_wd (rK_dr (by assumption) (by assumption)) (by assumption) (by assumption) (by assumption) | exact dR_fi (rK_dr (by assumption) (by assumption))) (fun v => ?_)
    | refine T_wh (by first | assumption | exact rK_dr (by assumption) (by assumption) | exact rK_rc (by assumption) _ (by decide) | exact dR_ep | exact dR_i (by assumption) (by assumption) | exact dR_mk (by assumption) (by assumption) (by assumption) (by assumption) (by assumption) | exact dR_wd (rK_dr (by assumption) (by assumption)) (by assumption) (by assumption) (by assumption) | exact dR_fi (rK_dr (by assumption) (by assumption))) (by first | assumption | exact rK_dr (by assumption) (by assumption) | exact rK_rc (by assumption) _ (by decide) | exact dR_ep | exact dR_i (by assumption) (by assumption) | exact dR_mk (by assumption) (by assumption) (by assumption) (by assumption) (by assumption) | exact dR_wd (rK_dr (by assumption) (by assumption)) (by assumption) (by assumption) (by assumption) | exact dR_fi (rK_dr (by assumption) (by assumption))) (by first | assumption | exact u_06 (by assumption) | exact u_c (by decide) | simp) (fun v => ?_)
    | refine T_cp (fun v => ?_)
    | refine T_lk (fun v => ?_)
    | refine T_fo (by first | assumption | exact rK_dv (by assumption) (by assumption) | exact rK_dc (by assumption) _ (by decide) | exact dR_v (by assumption)) (fun v => ?_)
    | refine T_tx (by first | assumption | exact rK_dr (by assumption) (by assumption) | exact rK_rc (by assumption) _ (by decide) | exact dR_ep | exact dR_i (by assumption) (by assumption) | exact dR_mk (by assumption) (by assumption) (by assumption) (by assumption) (by assumption) | exact dR_wd (rK_dr (by assumption) (by assumption)) (by assumption) (by assumption) (by assumption) | exact dR_fi (rK_dr (by assumption) (by assumption))) (fun v => ?_)
    | refine T_ad (by first | assumption | exact rK_dr (by assumption) (by assumption) | exact rK_rc (by assumption) _ (by decide) | exact dR_ep | exact dR_i (by assumption) (by assumption) | exact dR_mk (by assumption) (by assumption) (by assumption) (by assumption) (by assumption) | exact dR_wd (rK_dr (by assumption) (by assumption)) (by assumption) (by assumption) (by assumption) | exact dR_fi (rK_dr (by assumption) (by assumption))) (fun v => ?_)
    | refine T_on (by assumption) (fun e he => ?_)
    | refine T_oy (by first | exact ny_F (by assumption) | exact dR_y (rK_dr (by assumption) (by assumption))) (by assumption) (by assumption) (fun e he => ?_)
    | refine T_i (fun h => ?_) (fun h => ?_))
set_option maxHeartbeats 4000000 in
theorem t_lengthOfMonth {kn : Int32} (p0 : Int32) (z : MS) (hz : rK kn z) : T (fun r => rK kn r.2) (o_X3_lengthOfMonth p0 z) := by
  unfold o_X3_lengthOfMonth
  with_reducible repeat' (first
    | exact T_s (by assumption)
    | (refine T_fl (by assumption) (fun ha hb hc w hw _ => ?_) (fun w hw => T_in one_ne (T_s hw)); first | exact absurd ha (by decide) | exact absurd hb (by decide) | exact absurd hc (by decide) | refine T_ip rfl ?_)
    | (refine T_an (by assumption) (fun ha hb w hw => T_ip rfl ?_) (fun w hw => T_in one_ne (T_s hw)))
    | refine T_g6 (by assumption) ?_
    | refine T_g2 (by assumption) ?_
    | refine T_g3 (by assumption) ?_
    | refine T_gi (by assumption) (by assumption) (by first | assumption | exact rK_dr (by assumption) (by assumption) | exact rK_rc (by assumption) _ (by decide) | exact dR_ep | exact dR_i (by assumption) (by assumption) | exact dR_mk (by assumption) (by assumption) (by assumption) (by assumption) (by assumption) | exact dR_wd (rK_dr (by assumption) (by assumption)) (by assumption) (by assumption) (by assumption) | exact dR_fi (rK_dr (by assumption) (by assumption))) (fun v w hw => T_s hw)
    | refine T_te (by assumption) (by assumption) (fun v w hw => T_s hw)
    | refine T_nu (by first | assumption | exact rK_dv (by assumption) (by assumption) | exact rK_dc (by assumption) _ (by decide) | exact dR_v (by assumption)) (fun v => ?_)
    | refine T_iy (by first | assumption | exact rK_dv (by assumption) (by assumption) | exact rK_dc (by assumption) _ (by decide) | exact dR_v (by assumption)) (fun v => ?_)
    | refine T_lm (by assumption) (fun v hv => ?_)
    | refine T_lo (by first | assumption | exact rK_dv (by assumption) (by assumption) | exact rK_dc (by assumption) _ (by decide) | exact dR_v (by assumption)) (fun v hv => ?_)
    | refine T_id (fun h => T_in one_ne ?_) (T_ip rfl ?_)
    | refine T_dn (T_ip rfl ?_)
    | refine T_en ?_
    | refine T_es ?_
    | refine T_nr (by first | exact ny_F (by assumption) | exact dR_y (rK_dr (by assumption) (by assumption))) (by first | exact i2_12 (by assumption) | exact dV_m (rK_dv (by assumption) (by assumption))) (by first | decide | exact dV_d (rK_dv (by assumption) (by assumption))) (fun e he => ?_)
    | refine T_la (by first | assumption | exact rK_dv (by assumption) (by assumption) | exact rK_dc (by assumption) _ (by decide) | exact dR_v (by assumption)) (sp_b _ _ (by first | assumption | exact Or.inl rfl | exact Or.inr rfl)) ?_ (fun e he => ?_)
    | refine T_ld (by first | assumption | exact rK_dv (by assumption) (by assumption) | exact rK_dc (by assumption) _ (by decide) | exact dR_v (by assumption)) (sd_b _ (by first | assumption | exact Or.inl rfl | exact Or.inr rfl)) ?_ (fun e he => ?_)
    | refine T_mv (by first | assumption | exact u_06 (by assumption) | exact u_c (by decide) | simp) (by first | assumption | exact rK_dv (by assumption) (by assumption) | exact rK_dc (by assumption) _ (by decide) | exact dR_v (by assumption)) (by first | exact pos_b (i2_m (by assumption)) | exact neg_b (i2_m (by assumption))) ?_ (fun e he => ?_)
    | refine T_ah (fun v => ?_)
    | refine T_mo (by first | assumption | exact rK_dr (by assumption) (by assumption) | exact rK_rc (by assumption) _ (by decide) | exact dR_ep | exact dR_i (by assumption) (by assumption) | exact dR_mk (by assumption) (by assumption) (by assumption) (by assumption) (by assumption) | exact dR_wd (rK_dr (by assumption) (by assumption)) (by assumption) (by assumption) (by assumption) | exact dR_fi (rK_dr (by assumption) (by assumption))) (by first | assumption | exact rK_dr (by assumption) (by assumption) | exact rK_rc (by assumption) _ (by decide) | exact dR_ep | exact dR_i (by assumption) (by assumption) | exact dR_mk (by assumption) (by assumption) (by assumption) (by assumption) (by assumption) | exact dR_wd (rK_dr (by assumption) (by assumption)) (by assumption) (by assumption) (by assumption) | exact dR_fi (rK_dr (by assumption) (by assumption))) (fun v => ?_)
    | refine T_do (by first | assumption | exact rK_dr (by assumption) (by assumption) | exact rK_rc (by assumption) _ (by decide) | exact dR_ep | exact dR_i (by assumption) (by assumption) | exact dR_mk (by assumption) (by assumption) (by assumption) (by assumption) (by assumption) | exact dR_wd (rK_dr (by assumption) (by assumption)) (by assumption) (by assumption) (by assumption) | exact dR_fi (rK_dr (by assumption) (by assumption))) (by first | assumption | exact rK_dr (by assumption) (by assumption) | exact rK_rc (by assumption) _ (by decide) | exact dR_ep | exact dR_i (by assumption) (by assumption) | exact dR_mk (by assumption) (by assumption) (by assumption) (by assumption) (by assumption) | exact dR_wd (rK_dr (by assumption) (by assumption)) (by assumption) (by assumption) (by assumption) | exact dR_fi (rK_dr (by assumption) (by assumption))) (fun v => ?_)
    | refine T_wh (by first | assumption | exact rK_dr (by assumption) (by assumption) | exact rK_rc (by assumption) _ (by decide) | exact dR_ep | exact dR_i (by assumption) (by assumption) | exact dR_mk (by assumption) (by assumption) (by assumption) (by assumption) (by assumption) | exact dR_wd (rK_dr (by assumption) (by assumption)) (by assumption) (by assumption) (by assumption) | exact dR_fi (rK_dr (by assumption) (by assumption))) (by first | assumption | exact rK_dr (by assumption) (by assumption) | exact rK_rc (by assumption) _ (by decide) | exact dR_ep | exact dR_i (by assumption) (by assumption) | exact dR_mk (by assumption) (by assumption) (by assumption) (by assumption) (by assumption) | exact dR_wd (rK_dr (by assumption) (by assumption)) (by assumption) (by assumption) (by assumption) | exact dR_fi (rK_dr (by assumption) (by assumption))) (by first | assumption | exact u_06 (by assumption) | exact u_c (by decide) | simp) (fun v => ?_)
    | refine T_cp (fun v => ?_)
    | refine T_lk (fun v => ?_)
    | refine T_fo (by first | assumption | exact rK_dv (by assumption) (by assumption) | exact rK_dc (by assumption) _ (by decide) | exact dR_v (by assumption)) (fun v => ?_)
    | refine T_tx (by first | assumption | exact rK_dr (by assumption) (by assumption) | exact rK_rc (by assumption) _ (by decide) | exact dR_ep | exact dR_i (by assumption) (by assumption) | exact dR_mk (by assumption) (by assumption) (by assumption) (by assumption) (by assumption) | exact dR_wd (rK_dr (by assumption) (by assumption)) (by assumption) (by assumption) (by assumption) | exact dR_fi (rK_dr (by assumption) (by assumption))) (fun v => ?_)
    | refine T_ad (by first | assumption | exact rK_dr (by assumption) (by assumption) | exact rK_rc (by assumption) _ (by decide) | exact dR_ep | exact dR_i (by assumption) (by assumption) | exact dR_mk (by assumption) (by assumption) (by assumption) (by assumption) (by assumption) | exact dR_wd (rK_dr (by assumption) (by assumption)) (by assumption) (by assumption) (by assumption) | exact dR_fi (rK_dr (by assumption) (by assumption))) (fun v => ?_)
    | refine T_on (by assumption) (fun e he => ?_)
    | refine T_oy (by first | exact ny_F (by assumption) | exact dR_y (rK_dr (by assumption) (by assumption))) (by assumption) (by assumption) (fun e he => ?_)
    | refine T_i (fun h => ?_) (fun h => ?_))
set_option maxHeartbeats 4000000 in
theorem t_lengthOfYear {kn : Int32} (p0 : Int32) (z : MS) (hz : rK kn z) : T (fun r => rK kn r.2) (o_X3_lengthOfYear p0 z) := by
  unfold o_X3_lengthOfYear
  with_reducible repeat' (first
    | exact T_s (by assumption)
    | (refine T_fl (by assumption) (fun ha hb hc w hw _ => ?_) (fun w hw => T_in one_ne (T_s hw)); first | exact absurd ha (by decide) | exact absurd hb (by decide) | exact absurd hc (by decide) | refine T_ip rfl ?_)
    | (refine T_an (by assumption) (fun ha hb w hw => T_ip rfl ?_) (fun w hw => T_in one_ne (T_s hw)))
    | refine T_g6 (by assumption) ?_
    | refine T_g2 (by assumption) ?_
    | refine T_g3 (by assumption) ?_
    | refine T_gi (by assumption) (by assumption) (by first | assumption | exact rK_dr (by assumption) (by assumption) | exact rK_rc (by assumption) _ (by decide) | exact dR_ep | exact dR_i (by assumption) (by assumption) | exact dR_mk (by assumption) (by assumption) (by assumption) (by assumption) (by assumption) | exact dR_wd (rK_dr (by assumption) (by assumption)) (by assumption) (by assumption) (by assumption) | exact dR_fi (rK_dr (by assumption) (by assumption))) (fun v w hw => T_s hw)
    | refine T_te (by assumption) (by assumption) (fun v w hw => T_s hw)
    | refine T_nu (by first | assumption | exact rK_dv (by assumption) (by assumption) | exact rK_dc (by assumption) _ (by decide) | exact dR_v (by assumption)) (fun v => ?_)
    | refine T_iy (by first | assumption | exact rK_dv (by assumption) (by assumption) | exact rK_dc (by assumption) _ (by decide) | exact dR_v (by assumption)) (fun v => ?_)
    | refine T_lm (by assumption) (fun v hv => ?_)
    | refine T_lo (by first | assumption | exact rK_dv (by assumption) (by assumption) | exact rK_dc (by assumption) _ (by decide) | exact dR_v (by assumption)) (fun v hv => ?_)
    | refine T_id (fun h => T_in one_ne ?_) (T_ip rfl ?_)
    | refine T_dn (T_ip rfl ?_)
    | refine T_en ?_
    | refine T_es ?_
    | refine T_nr (by first | exact ny_F (by assumption) | exact dR_y (rK_dr (by assumption) (by assumption))) (by first | exact i2_12 (by assumption) | exact dV_m (rK_dv (by assumption) (by assumption))) (by first | decide | exact dV_d (rK_dv (by assumption) (by assumption))) (fun e he => ?_)
    | refine T_la (by first | assumption | exact rK_dv (by assumption) (by assumption) | exact rK_dc (by assumption) _ (by decide) | exact dR_v (by assumption)) (sp_b _ _ (by first | assumption | exact Or.inl rfl | exact Or.inr rfl)) ?_ (fun e he => ?_)
    | refine T_ld (by first | assumption | exact rK_dv (by assumption) (by assumption) | exact rK_dc (by assumption) _ (by decide) | exact dR_v (by assumption)) (sd_b _ (by first | assumption | exact Or.inl rfl | exact Or.inr rfl)) ?_ (fun e he => ?_)
    | refine T_mv (by first | assumption | exact u_06 (by assumption) | exact u_c (by decide) | simp) (by first | assumption | exact rK_dv (by assumption) (by assumption) | exact rK_dc (by assumption) _ (by decide) | exact dR_v (by assumption)) (by first | exact pos_b (i2_m (by assumption)) | exact neg_b (i2_m (by assumption))) ?_ (fun e he => ?_)
    | refine T_ah (fun v => ?_)
    | refine T_mo (by first | assumption | exact rK_dr (by assumption) (by assumption) | exact rK_rc (by assumption) _ (by decide) | exact dR_ep | exact dR_i (by assumption) (by assumption) | exact dR_mk (by assumption) (by assumption) (by assumption) (by assumption) (by assumption) | exact dR_wd (rK_dr (by assumption) (by assumption)) (by assumption) (by assumption) (by assumption) | exact dR_fi (rK_dr (by assumption) (by assumption))) (by first | assumption | exact rK_dr (by assumption) (by assumption) | exact rK_rc (by assumption) _ (by decide) | exact dR_ep | exact dR_i (by assumption) (by assumption) | exact dR_mk (by assumption) (by assumption) (by assumption) (by assumption) (by assumption) | exact dR_wd (rK_dr (by assumption) (by assumption)) (by assumption) (by assumption) (by assumption) | exact dR_fi (rK_dr (by assumption) (by assumption))) (fun v => ?_)
    | refine T_do (by first | assumption | exact rK_dr (by assumption) (by assumption) | exact rK_rc (by assumption) _ (by decide) | exact dR_ep | exact dR_i (by assumption) (by assumption) | exact dR_mk (by assumption) (by assumption) (by assumption) (by assumption) (by assumption) | exact dR_wd (rK_dr (by assumption) (by assumption)) (by assumption) (by assumption) (by assumption) | exact dR_fi (rK_dr (by assumption) (by assumption))) (by first | assumption | exact rK_dr (by assumption) (by assumption) | exact rK_rc (by assumption) _ (by decide) | exact dR_ep | exact dR_i (by assumption) (by assumption) | exact dR_mk (by assumption) (by assumption) (by assumption) (by assumption) (by assumption) | exact dR_wd (rK_dr (by assumption) (by assumption)) (by assumption) (by assumption) (by assumption) | exact dR_fi (rK_dr (by assumption) (by assumption))) (fun v => ?_)
    | refine T_wh (by first | assumption | exact rK_dr (by assumption) (by assumption) | exact rK_rc (by assumption) _ (by decide) | exact dR_ep | exact dR_i (by assumption) (by assumption) | exact dR_mk (by assumption) (by assumption) (by assumption) (by assumption) (by assumption) | exact dR_wd (rK_dr (by assumption) (by assumption)) (by assumption) (by assumption) (by assumption) | exact dR_fi (rK_dr (by assumption) (by assumption))) (by first | assumption | exact rK_dr (by assumption) (by assumption) | exact rK_rc (by assumption) _ (by decide) | exact dR_ep | exact dR_i (by assumption) (by assumption) | exact dR_mk (by assumption) (by assumption) (by assumption) (by assumption) (by assumption) | exact dR_wd (rK_dr (by assumption) (by assumption)) (by assumption) (by assumption) (by assumption) | exact dR_fi (rK_dr (by assumption) (by assumption))) (by first | assumption | exact u_06 (by assumption) | exact u_c (by decide) | simp) (fun v => ?_)
    | refine T_cp (fun v => ?_)
    | refine T_lk (fun v => ?_)
    | refine T_fo (by first | assumption | exact rK_dv (by assumption) (by assumption) | exact rK_dc (by assumption) _ (by decide) | exact dR_v (by assumption)) (fun v => ?_)
    | refine T_tx (by first | assumption | exact rK_dr (by assumption) (by assumption) | exact rK_rc (by assumption) _ (by decide) | exact dR_ep | exact dR_i (by assumption) (by assumption) | exact dR_mk (by assumption) (by assumption) (by assumption) (by assumption) (by assumption) | exact dR_wd (rK_dr (by assumption) (by assumption)) (by assumption) (by assumption) (by assumption) | exact dR_fi (rK_dr (by assumption) (by assumption))) (fun v => ?_)
    | refine T_ad (by first | assumption | exact rK_dr (by assumption) (by assumption) | exact rK_rc (by assumption) _ (by decide) | exact dR_ep | exact dR_i (by assumption) (by assumption) | exact dR_mk (by assumption) (by assumption) (by assumption) (by assumption) (by assumption) | exact dR_wd (rK_dr (by assumption) (by assumption)) (by assumption) (by assumption) (by assumption) | exact dR_fi (rK_dr (by assumption) (by assumption))) (fun v => ?_)
    | refine T_on (by assumption) (fun e he => ?_)
    | refine T_oy (by first | exact ny_F (by assumption) | exact dR_y (rK_dr (by assumption) (by assumption))) (by assumption) (by assumption) (fun e he => ?_)
    | refine T_i (fun h => ?_) (fun h => ?_))
set_option maxHeartbeats 4000000 in
theorem t_isLeapYear {kn : Int32} (p0 : Int32) (z : MS) (hz : rK kn z) : T (fun r => rK kn r.2) (o_X3_isLeapYear p0 z) := by
  unfold o_X3_isLeapYear
  with_reducible repeat' (first
    | exact T_s (by assumption)
    | (refine T_fl (by assumption) (fun ha hb hc w hw _ => ?_) (fun w hw => T_in one_ne (T_s hw)); first | exact absurd ha (by decide) | exact absurd hb (by decide) | exact absurd hc (by decide) | refine T_ip rfl ?_)
    | (refine T_an (by assumption) (fun ha hb w hw => T_ip rfl ?_) (fun w hw => T_in one_ne (T_s hw)))
    | refine T_g6 (by assumption) ?_
    | refine T_g2 (by assumption) ?_
    | refine T_g3 (by assumption) ?_
    | refine T_gi (by assumption) (by assumption) (by first | assumption | exact rK_dr (by assumption) (by assumption) | exact rK_rc (by assumption) _ (by decide) | exact dR_ep | exact dR_i (by assumption) (by assumption) | exact dR_mk (by assumption) (by assumption) (by assumption) (by assumption) (by assumption) | exact dR_wd (rK_dr (by assumption) (by assumption)) (by assumption) (by assumption) (by assumption) | exact dR_fi (rK_dr (by assumption) (by assumption))) (fun v w hw => T_s hw)
    | refine T_te (by assumption) (by assumption) (fun v w hw => T_s hw)
    | refine T_nu (by first | assumption | exact rK_dv (by assumption) (by assumption) | exact rK_dc (by assumption) _ (by decide) | exact dR_v (by assumption)) (fun v => ?_)
    | refine T_iy (by first | assumption | exact rK_dv (by assumption) (by assumption) | exact rK_dc (by assumption) _ (by decide) | exact dR_v (by assumption)) (fun v => ?_)
    | refine T_lm (by assumption) (fun v hv => ?_)
    | refine T_lo (by first | assumption | exact rK_dv (by assumption) (by assumption) | exact rK_dc (by assumption) _ (by decide) | exact dR_v (by assumption)) (fun v hv => ?_)
    | refine T_id (fun h => T_in one_ne ?_) (T_ip rfl ?_)
    | refine T_dn (T_ip rfl ?_)
    | refine T_en ?_
    | refine T_es ?_
    | refine T_nr (by first | exact ny_F (by assumption) | exact dR_y (rK_dr (by assumption) (by assumption))) (by first | exact i2_12 (by assumption) | exact dV_m (rK_dv (by assumption) (by assumption))) (by first | decide | exact dV_d (rK_dv (by assumption) (by assumption))) (fun e he => ?_)
    | refine T_la (by first | assumption | exact rK_dv (by assumption) (by assumption) | exact rK_dc (by assumption) _ (by decide) | exact dR_v (by assumption)) (sp_b _ _ (by first | assumption | exact Or.inl rfl | exact Or.inr rfl)) ?_ (fun e he => ?_)
    | refine T_ld (by first | assumption | exact rK_dv (by assumption) (by assumption) | exact rK_dc (by assumption) _ (by decide) | exact dR_v (by assumption)) (sd_b _ (by first | assumption | exact Or.inl rfl | exact Or.inr rfl)) ?_ (fun e he => ?_)
    | refine T_mv (by first | assumption | exact u_06 (by assumption) | exact u_c (by decide) | simp) (by first | assumption | exact rK_dv (by assumption) (by assumption) | exact rK_dc (by assumption) _ (by decide) | exact dR_v (by assumption)) (by first | exact pos_b (i2_m (by assumption)) | exact neg_b (i2_m (by assumption))) ?_ (fun e he => ?_)
    | refine T_ah (fun v => ?_)
    | refine T_mo (by first | assumption | exact rK_dr (by assumption) (by assumption) | exact rK_rc (by assumption) _ (by decide) | exact dR_ep | exact dR_i (by assumption) (by assumption) | exact dR_mk (by assumption) (by assumption) (by assumption) (by assumption) (by assumption) | exact dR_wd (rK_dr (by assumption) (by assumption)) (by assumption) (by assumption) (by assumption) | exact dR_fi (rK_dr (by assumption) (by assumption))) (by first | assumption | exact rK_dr (by assumption) (by assumption) | exact rK_rc (by assumption) _ (by decide) | exact dR_ep | exact dR_i (by assumption) (by assumption) | exact dR_mk (by assumption) (by assumption) (by assumption) (by assumption) (by assumption) | exact dR_wd (rK_dr (by assumption) (by assumption)) (by assumption) (by assumption) (by assumption) | exact dR_fi (rK_dr (by assumption) (by assumption))) (fun v => ?_)
    | refine T_do (by first | assumption | exact rK_dr (by assumption) (by assumption) | exact rK_rc (by assumption) _ (by decide) | exact dR_ep | exact dR_i (by assumption) (by assumption) | exact dR_mk (by assumption) (by assumption) (by assumption) (by assumption) (by assumption) | exact dR_wd (rK_dr (by assumption) (by assumption)) (by assumption) (by assumption) (by assumption) | exact dR_fi (rK_dr (by assumption) (by assumption))) (by first | assumption | exact rK_dr (by assumption) (by assumption) | exact rK_rc (by assumption) _ (by decide) | exact dR_ep | exact dR_i (by assumption) (by assumption) | exact dR_mk (by assumption) (by assumption) (by assumption) (by assumption) (by assumption) | exact dR_wd (rK_dr (by assumption) (by assumption)) (by assumption) (by assumption) (by assumption) | exact dR_fi (rK_dr (by assumption) (by assumption))) (fun v => ?_)
    | refine T_wh (by first | assumption | exact rK_dr (by assumption) (by assumption) | exact rK_rc (by assumption) _ (by decide) | exact dR_ep | exact dR_i (by assumption) (by assumption) | exact dR_mk (by assumption) (by assumption) (by assumption) (by assumption) (by assumption) | exact dR_wd (rK_dr (by assumption) (by assumption)) (by assumption) (by assumption) (by assumption) | exact dR_fi (rK_dr (by assumption) (by assumption))) (by first | assumption | exact rK_dr (by assumption) (by assumption) | exact rK_rc (by assumption) _ (by decide) | exact dR_ep | exact dR_i (by assumption) (by assumption) | exact dR_mk (by assumption) (by assumption) (by assumption) (by assumption) (by assumption) | exact dR_wd (rK_dr (by assumption) (by assumption)) (by assumption) (by assumption) (by assumption) | exact dR_fi (rK_dr (by assumption) (by assumption))) (by first | assumption | exact u_06 (by assumption) | exact u_c (by decide) | simp) (fun v => ?_)
    | refine T_cp (fun v => ?_)
    | refine T_lk (fun v => ?_)
    | refine T_fo (by first | assumption | exact rK_dv (by assumption) (by assumption) | exact rK_dc (by assumption) _ (by decide) | exact dR_v (by assumption)) (fun v => ?_)
    | refine T_tx (by first | assumption | exact rK_dr (by assumption) (by assumption) | exact rK_rc (by assumption) _ (by decide) | exact dR_ep | exact dR_i (by assumption) (by assumption) | exact dR_mk (by assumption) (by assumption) (by assumption) (by assumption) (by assumption) | exact dR_wd (rK_dr (by assumption) (by assumption)) (by assumption) (by assumption) (by assumption) | exact dR_fi (rK_dr (by assumption) (by assumption))) (fun v => ?_)
    | refine T_ad (by first | assumption | exact rK_dr (by assumption) (by assumption) | exact rK_rc (by assumption) _ (by decide) | exact dR_ep | exact dR_i (by assumption) (by assumption) | exact dR_mk (by assumption) (by assumption) (by assumption) (by assumption) (by assumption) | exact dR_wd (rK_dr (by assumption) (by assumption)) (by assumption) (by assumption) (by assumption) | exact dR_fi (rK_dr (by assumption) (by assumption))) (fun v => ?_)
    | refine T_on (by assumption) (fun e he => ?_)
    | refine T_oy (by first | exact ny_F (by assumption) | exact dR_y (rK_dr (by assumption) (by assumption))) (by assumption) (by assumption) (fun e he => ?_)
    | refine T_i (fun h => ?_) (fun h => ?_))
set_option maxHeartbeats 4000000 in
theorem t_field {kn : Int32} (p0 : Int32) (p1 : Int32) (z : MS) (hz : rK kn z) : T (fun r => rK kn r.2) (o_X3_field p0 p1 z) := by
  unfold o_X3_field
  with_reducible repeat' (first
    | exact T_s (by assumption)
    | (refine T_fl (by assumption) (fun ha hb hc w hw _ => ?_) (fun w hw => T_in one_ne (T_s hw)); first | exact absurd ha (by decide) | exact absurd hb (by decide) | exact absurd hc (by decide) | refine T_ip rfl ?_)
    | (refine T_an (by assumption) (fun ha hb w hw => T_ip rfl ?_) (fun w hw => T_in one_ne (T_s hw)))
    | refine T_g6 (by assumption) ?_
    | refine T_g2 (by assumption) ?_
    | refine T_g3 (by assumption) ?_
    | refine T_gi (by assumption) (by assumption) (by first | assumption | exact rK_dr (by assumption) (by assumption) | exact rK_rc (by assumption) _ (by decide) | exact dR_ep | exact dR_i (by assumption) (by assumption) | exact dR_mk (by assumption) (by assumption) (by assumption) (by assumption) (by assumption) | exact dR_wd (rK_dr (by assumption) (by assumption)) (by assumption) (by assumption) (by assumption) | exact dR_fi (rK_dr (by assumption) (by assumption))) (fun v w hw => T_s hw)
    | refine T_te (by assumption) (by assumption) (fun v w hw => T_s hw)
    | refine T_nu (by first | assumption | exact rK_dv (by assumption) (by assumption) | exact rK_dc (by assumption) _ (by decide) | exact dR_v (by assumption)) (fun v => ?_)
    | refine T_iy (by first | assumption | exact rK_dv (by assumption) (by assumption) | exact rK_dc (by assumption) _ (by decide) | exact dR_v (by assumption)) (fun v => ?_)
    | refine T_lm (by assumption) (fun v hv => ?_)
    | refine T_lo (by first | assumption | exact rK_dv (by assumption) (by assumption) | exact rK_dc (by assumption) _ (by decide) | exact dR_v (by assumption)) (fun v hv => ?_)
    | refine T_id (fun h => T_in one_ne ?_) (T_ip rfl ?_)
    | refine T_dn (T_ip rfl ?_)
    | refine T_en ?_
    | refine T_es ?_
    | refine T_nr (by first | exact ny_F (by assumption) | exact dR_y (rK_dr (by assumption) (by assumption))) (by first | exact i2_12 (by assumption) | exact dV_m (rK_dv (by assumption) (by assumption))) (by first | decide | exact dV_d (rK_dv (by assumption) (by assumption))) (fun e he => ?_)
    | refine T_la (by first | assumption | exact rK_dv (by assumption) (by assumption) | exact rK_dc (by assumption) _ (by decide) | exact dR_v (by assumption)) (sp_b _ _ (by first | assumption | exact Or.inl rfl | exact Or.inr rfl)) ?_ (fun e he => ?_)
    | refine T_ld (by first | assumption | exact rK_dv (by assumption) (by assumption) | exact rK_dc (by assumption) _ (by decide) | exact dR_v (by assumption)) (sd_b _ (by first | assumption | exact Or.inl rfl | exact Or.inr rfl)) ?_ (fun e he => ?_)
    | refine T_mv (by first | assumption | exact u_06 (by assumption) | exact u_c (by decide) | simp) (by first | assumption | exact rK_dv (by assumption) (by assumption) | exact rK_dc (by assumption) _ (by decide) | exact dR_v (by assumption)) (by first | exact pos_b (i2_m (by assumption)) | exact neg_b (i2_m (by assumption))) ?_ (fun e he => ?_)
    | refine T_ah (fun v => ?_)
    | refine T_mo (by first | assumption | exact rK_dr (by assumption) (by assumption) | exact rK_rc (by assumption) _ (by decide) | exact dR_ep | exact dR_i (by assumption) (by assumption) | exact dR_mk (by assumption) (by assumption) (by assumption) (by assumption) (by assumption) | exact dR_wd (rK_dr (by assumption) (by assumption)) (by assumption) (by assumption) (by assumption) | exact dR_fi (rK_dr (by assumption) (by assumption))) (by first | assumption | exact rK_dr (by assumption) (by assumption) | exact rK_rc (by assumption) _ (by decide) | exact dR_ep | exact dR_i (by assumption) (by assumption) | exact dR_mk (by assumption) (by assumption) (by assumption) (by assumption) (by assumption) | exact dR_wd (rK_dr (by assumption) (by assumption)) (by assumption) (by assumption) (by assumption) | exact dR_fi (rK_dr (by assumption) (by assumption))) (fun v => ?_)
    | refine T_do (by first | assumption | exact rK_dr (by assumption) (by assumption) | exact rK_rc (by assumption) _ (by decide) | exact dR_ep | exact dR_i (by assumption) (by assumption) | exact dR_mk (by assumption) (by assumption) (by assumption) (by assumption) (by assumption) | exact dR_wd (rK_dr (by assumption) (by assumption)) (by assumption) (by assumption) (by assumption) | exact dR_fi (rK_dr (by assumption) (by assumption))) (by first | assumption | exact rK_dr (by assumption) (by assumption) | exact rK_rc (by assumption) _ (by decide) | exact dR_ep | exact dR_i (by assumption) (by assumption) | exact dR_mk (by assumption) (by assumption) (by assumption) (by assumption) (by assumption) | exact dR_wd (rK_dr (by assumption) (by assumption)) (by assumption) (by assumption) (by assumption) | exact dR_fi (rK_dr (by assumption) (by assumption))) (fun v => ?_)
    | refine T_wh (by first | assumption | exact rK_dr (by assumption) (by assumption) | exact rK_rc (by assumption) _ (by decide) | exact dR_ep | exact dR_i (by assumption) (by assumption) | exact dR_mk (by assumption) (by assumption) (by assumption) (by assumption) (by assumption) | exact dR_wd (rK_dr (by assumption) (by assumption)) (by assumption) (by assumption) (by assumption) | exact dR_fi (rK_dr (by assumption) (by assumption))) (by first | assumption | exact rK_dr (by assumption) (by assumption) | exact rK_rc (by assumption) _ (by decide) | exact dR_ep | exact dR_i (by assumption) (by assumption) | exact dR_mk (by assumption) (by assumption) (by assumption) (by assumption) (by assumption) | exact dR_wd (rK_dr (by assumption) (by assumption)) (by assumption) (by assumption) (by assumption) | exact dR_fi (rK_dr (by assumption) (by assumption))) (by first | assumption | exact u_06 (by assumption) | exact u_c (by decide) | simp) (fun v => ?_)
    | refine T_cp (fun v => ?_)
    | refine T_lk (fun v => ?_)
    | refine T_fo (by first | assumption | exact rK_dv (by assumption) (by assumption) | exact rK_dc (by assumption) _ (by decide) | exact dR_v (by assumption)) (fun v => ?_)
    | refine T_tx (by first | assumption | exact rK_dr (by assumption) (by assumption) | exact rK_rc (by assumption) _ (by decide) | exact dR_ep | exact dR_i (by assumption) (by assumption) | exact dR_mk (by assumption) (by assumption) (by assumption) (by assumption) (by assumption) | exact dR_wd (rK_dr (by assumption) (by assumption)) (by assumption) (by assumption) (by assumption) | exact dR_fi (rK_dr (by assumption) (by assumption))) (fun v => ?_)
    | refine T_ad (by first | assumption | exact rK_dr (by assumption) (by assumption) | exact rK_rc (by assumption) _ (by decide) | exact dR_ep | exact dR_i (by assumption) (by assumption) | exact dR_mk (by assumption) (by assumption) (by assumption) (by assumption) (by assumption) | exact dR_wd (rK_dr (by assumption) (by assumption)) (by assumption) (by assumption) (by assumption) | exact dR_fi (rK_dr (by assumption) (by assumption))) (fun v => ?_)
    | refine T_on (by assumption) (fun e he => ?_)
    | refine T_oy (by first | exact ny_F (by assumption) | exact dR_y (rK_dr (by assumption) (by assumption))) (by assumption) (by assumption) (fun e he => ?_)
    | refine T_i (fun h => ?_) (fun h => ?_))
set_option maxHeartbeats 4000000 in
theorem t_toDay {kn : Int32} (p0 : Int32) (z : MS) (hz : rK kn z) : T (fun r => rK kn r.2) (o_X3_toDay p0 z) := by
  unfold o_X3_toDay
  with_reducible repeat' (first
    | exact T_s (by assumption)
    | (refine T_fl (by assumption) (fun ha hb hc w hw _ => ?_) (fun w hw => T_in one_ne (T_s hw)); first | exact absurd ha (by decide) | exact absurd hb (by decide) | exact absurd hc (by decide) | refine T_ip rfl ?_)
    | (refine T_an (by assumption) (fun ha hb w hw => T_ip rfl ?_) (fun w hw => T_in one_ne (T_s hw)))
    | refine T_g6 (by assumption) ?_
    | refine T_g2 (by assumption) ?_
    | refine T_g3 (by assumption) ?_
    | refine T_gi (by assumption) (by assumption) (by first | assumption | exact rK_dr (by assumption) (by assumption) | exact rK_rc (by assumption) _ (by decide) | exact dR_ep | exact dR_i (by assumption) (by assumption) | exact dR_mk (by assumption) (by assumption) (by assumption) (by assumption) (by assumption) | exact dR_wd (rK_dr (by assumption) (by assumption)) (by assumption) (by assumption) (by assumption) | exact dR_fi (rK_dr (by assumption) (by assumption))) (fun v w hw => T_s hw)
    | refine T_te (by assumption) (by assumption) (fun v w hw => T_s hw)
    | refine T_nu (by first | assumption | exact rK_dv (by assumption) (by assumption) | exact rK_dc (by assumption) _ (by decide) | exact dR_v (by assumption)) (fun v => ?_)
    | refine T_iy (by first | assumption | exact rK_dv (by assumption) (by assumption) | exact rK_dc (by assumption) _ (by decide) | exact dR_v (by assumption)) (fun v => ?_)
    | refine T_lm (by assumption) (fun v hv => ?_)
    | refine T_lo (by first | assumption | exact rK_dv (by assumption) (by assumption) | exact rK_dc (by assumption) _ (by decide) | exact dR_v (by assumption)) (fun v hv => ?_)
    | refine T_id (fun h => T_in one_ne ?_) (T_ip rfl ?_)
    | refine T_dn (T_ip rfl ?_)
    | refine T_en ?_
    | refine T_es ?_
    | refine T_nr (by first | exact ny_F (by assumption) | exact dR_y (rK_dr (by assumption) (by assumption))) (by first | exact i2_12 (by assumption) | exact dV_m (rK_dv (by assumption) (by assumption))) (by first | decide | exact dV_d (rK_dv (by assumption) (by assumption))) (fun e he => ?_)
    | refine T_la (by first | assumption | exact rK_dv (by assumption) (by assumption) | exact rK_dc (by assumption) _ (by decide) | exact dR_v (by assumption)) (sp_b _ _ (by first | assumption | exact Or.inl rfl | exact Or.inr rfl)) ?_ (fun e he => ?_)
    | refine T_ld (by first | assumption | exact rK_dv (by assumption) (by assumption) | exact rK_dc (by assumption) _ (by decide) | exact dR_v (by assumption)) (sd_b _ (by first | assumption | exact Or.inl rfl | exact Or.inr rfl)) ?_ (fun e he => ?_)
    | refine T_mv (by first | assumption | exact u_06 (by assumption) | exact u_c (by decide) | simp) (by first | assumption | exact rK_dv (by assumption) (by assumption) | exact rK_dc (by assumption) _ (by decide) | exact dR_v (by assumption)) (by first | exact pos_b (i2_m (by assumption)) | exact neg_b (i2_m (by assumption))) ?_ (fun e he => ?_)
    | refine T_ah (fun v => ?_)
    | refine T_mo (by first | assumption | exact rK_dr (by assumption) (by assumption) | exact rK_rc (by assumption) _ (by decide) | exact dR_ep | exact dR_i (by assumption) (by assumption) | exact dR_mk (by assumption) (by assumption) (by assumption) (by assumption) (by assumption) | exact dR_wd (rK_dr (by assumption) (by assumption)) (by assumption) (by assumption) (by assumption) | exact dR_fi (rK_dr (by assumption) (by assumption))) (by first | assumption | exact rK_dr (by assumption) (by assumption) | exact rK_rc (by assumption) _ (by decide) | exact dR_ep | exact dR_i (by assumption) (by assumption) | exact dR_mk (by assumption) (by assumption) (by assumption) (by assumption) (by assumption) | exact dR_wd (rK_dr (by assumption) (by assumption)) (by assumption) (by assumption) (by assumption) | exact dR_fi (rK_dr (by assumption) (by assumption))) (fun v => ?_)
    | refine T_do (by first | assumption | exact rK_dr (by assumption) (by assumption) | exact rK_rc (by assumption) _ (by decide) | exact dR_ep | exact dR_i (by assumption) (by assumption) | exact dR_mk (by assumption) (by assumption) (by assumption) (by assumption) (by assumption) | exact dR_wd (rK_dr (by assumption) (by assumption)) (by assumption) (by assumption) (by assumption) | exact dR_fi (rK_dr (by assumption) (by assumption))) (by first | assumption | exact rK_dr (by assumption) (by assumption) | exact rK_rc (by assumption) _ (by decide) | exact dR_ep | exact dR_i (by assumption) (by assumption) | exact dR_mk (by assumption) (by assumption) (by assumption) (by assumption) (by assumption) | exact dR_wd (rK_dr (by assumption) (by assumption)) (by assumption) (by assumption) (by assumption) | exact dR_fi (rK_dr (by assumption) (by assumption))) (fun v => ?_)
    | refine T_wh (by first | assumption | exact rK_dr (by assumption) (by assumption) | exact rK_rc (by assumption) _ (by decide) | exact dR_ep | exact dR_i (by assumption) (by assumption) | exact dR_mk (by assumption) (by assumption) (by assumption) (by assumption) (by assumption) | exact dR_wd (rK_dr (by assumption) (by assumption)) (by assumption) (by assumption) (by assumption) | exact dR_fi (rK_dr (by assumption) (by assumption))) (by first | assumption | exact rK_dr (by assumption) (by assumption) | exact rK_rc (by assumption) _ (by decide) | exact dR_ep | exact dR_i (by assumption) (by assumption) | exact dR_mk (by assumption) (by assumption) (by assumption) (by assumption) (by assumption) | exact dR_wd (rK_dr (by assumption) (by assumption)) (by assumption) (by assumption) (by assumption) | exact dR_fi (rK_dr (by assumption) (by assumption))) (by first | assumption | exact u_06 (by assumption) | exact u_c (by decide) | simp) (fun v => ?_)
    | refine T_cp (fun v => ?_)
    | refine T_lk (fun v => ?_)
    | refine T_fo (by first | assumption | exact rK_dv (by assumption) (by assumption) | exact rK_dc (by assumption) _ (by decide) | exact dR_v (by assumption)) (fun v => ?_)
    | refine T_tx (by first | assumption | exact rK_dr (by assumption) (by assumption) | exact rK_rc (by assumption) _ (by decide) | exact dR_ep | exact dR_i (by assumption) (by assumption) | exact dR_mk (by assumption) (by assumption) (by assumption) (by assumption) (by assumption) | exact dR_wd (rK_dr (by assumption) (by assumption)) (by assumption) (by assumption) (by assumption) | exact dR_fi (rK_dr (by assumption) (by assumption))) (fun v => ?_)
    | refine T_ad (by first | assumption | exact rK_dr (by assumption) (by assumption) | exact rK_rc (by assumption) _ (by decide) | exact dR_ep | exact dR_i (by assumption) (by assumption) | exact dR_mk (by assumption) (by assumption) (by assumption) (by assumption) (by assumption) | exact dR_wd (rK_dr (by assumption) (by assumption)) (by assumption) (by assumption) (by assumption) | exact dR_fi (rK_dr (by assumption) (by assumption))) (fun v => ?_)
    | refine T_on (by assumption) (fun e he => ?_)
    | refine T_oy (by first | exact ny_F (by assumption) | exact dR_y (rK_dr (by assumption) (by assumption))) (by assumption) (by assumption) (fun e he => ?_)
    | refine T_i (fun h => ?_) (fun h => ?_))
set_option maxHeartbeats 4000000 in
theorem t_isDate_ {kn : Int32} (p0 : Int32) (p1 : Int32) (p2 : Int32) (z : MS) (hz : rK kn z) : T (fun r => rK kn r.2) (o_X3_isDate_ p0 p1 p2 z) := by
  unfold o_X3_isDate_
  with_reducible repeat' (first
    | exact T_s (by assumption)
    | (refine T_fl (by assumption) (fun ha hb hc w hw _ => ?_) (fun w hw => T_in one_ne (T_s hw)); first | exact absurd ha (by decide) | exact absurd hb (by decide) | exact absurd hc (by decide) | refine T_ip rfl ?_)
    | (refine T_an (by assumption) (fun ha hb w hw => T_ip rfl ?_) (fun w hw => T_in one_ne (T_s hw)))
    | refine T_g6 (by assumption) ?_
    | refine T_g2 (by assumption) ?_
    | refine T_g3 (by assumption) ?_
    | refine T_gi (by assumption) (by assumption) (by first | assumption | exact rK_dr (by assumption) (by assumption) | exact rK_rc (by assumption) _ (by decide) | exact dR_ep | exact dR_i (by assumption) (by assumption) | exact dR_mk (by assumption) (by assumption) (by assumption) (by assumption) (by assumption) | exact dR_wd (rK_dr (by assumption) (by assumption)) (by assumption) (by assumption) (by assumption) | exact dR_fi (rK_dr (by assumption) (by assumption))) (fun v w hw => T_s hw)
    | refine T_te (by assumption) (by assumption) (fun v w hw => T_s hw)
    | refine T_nu (by first | assumption | exact rK_dv (by assumption) (by assumption) | exact rK_dc (by assumption) _ (by decide) | exact dR_v (by assumption)) (fun v => ?_)
    | refine T_iy (by first | assumption | exact rK_dv (by assumption) (by assumption) | exact rK_dc (by assumption) _ (by decide) | exact dR_v (by assumption)) (fun v => ?_)
    | refine T_lm (by assumption) (fun v hv => ?_)
    | refine T_lo (by first | assumption | exact rK_dv (by assumption) (by assumption) | exact rK_dc (by assumption) _ (by decide) | exact dR_v (by assumption)) (fun v hv => ?_)
    | refine T_id (fun h => T_in one_ne ?_) (T_ip rfl ?_)
    | refine T_dn (T_ip rfl ?_)
    | refine T_en ?_
    | refine T_es ?_
    | refine T_nr (by first | exact ny_F (by assumption) | exact dR_y (rK_dr (by assumption) (by assumption))) (by first | exact i2_12 (by assumption) | exact dV_m (rK_dv (by assumption) (by assumption))) (by first | decide | exact dV_d (rK_dv (by assumption) (by assumption))) (fun e he => ?_)
    | refine T_la (by first | assumption | exact rK_dv (by assumption) (by assumption) | exact rK_dc (by assumption) _ (by decide) | exact dR_v (by assumption)) (sp_b _ _ (by first | assumption | exact Or.inl rfl | exact Or.inr rfl)) ?_ (fun e he => ?_)
    | refine T_ld (by first | assumption | exact rK_dv (by assumption) (by assumption) | exact rK_dc (by assumption) _ (by decide) | exact dR_v (by assumption)) (sd_b _ (by first | assumption | exact Or.inl rfl | exact Or.inr rfl)) ?_ (fun e he => ?_)
    | refine T_mv (by first | assumption | exact u_06 (by assumption) | exact u_c (by decide) | simp) (by first | assumption | exact rK_dv (by assumption) (by assumption) | exact rK_dc (by assumption) _ (by decide) | exact dR_v (by assumption)) (by first | exact pos_b (i2_m (by assumption)) | exact neg_b (i2_m (by assumption))) ?_ (fun e he => ?_)
    | refine T_ah (fun v => ?_)
    | refine T_mo (by first | assumption | exact rK_dr (by assumption) (by assumption) | exact rK_rc (by assumption) _ (by decide) | exact dR_ep | exact dR_i (by assumption) (by assumption) | exact dR_mk (by assumption) (by assumption) (by assumption) (by assumption) (by assumption) | exact dR_wd (rK_dr (by assumption) (by assumption)) (by assumption) (by assumption) (by assumption) | exact dR_fi (rK_dr (by assumption) (by assumption))) (by first | assumption | exact rK_dr (by assumption) (by assumption) | exact rK_rc (by assumption) _ (by decide) | exact dR_ep | exact dR_i (by assumption) (by assumption) | exact dR_mk (by assumption) (by assumption) (by assumption) (by assumption) (by assumption) | exact dR_wd (rK_dr (by assumption) (by assumption)) (by assumption) (by assumption) (by assumption) | exact dR_fi (rK_dr (by assumption) (by assumption))) (fun v => ?_)
    | refine T_do (by first | assumption | exact rK_dr (by assumption) (by assumption) | exact rK_rc (by assumption) _ (by decide) | exact dR_ep | exact dR_i (by assumption) (by assumption) | exact dR_mk (by assumption) (by assumption) (by assumption) (by assumption) (by assumption) | exact dR_wd (rK_dr (by assumption) (by assumption)) (by assumption) (by assumption) (by assumption) | exact dR_fi (rK_dr (by assumption) (by assumption))) (by first | assumption | exact rK_dr (by assumption) (by assumption) | exact rK_rc (by assumption) _ (by decide) | exact dR_ep | exact dR_i (by assumption) (by assumption) | exact dR_mk (by assumption) (by assumption) (by assumption) (by assumption) (by assumption) | exact dR_wd (rK_dr (by assumption) (by assumption)) (by assumption) (by assumption) (by assumption) | exact dR_fi (rK_dr (by assumption) (by assumption))) (fun v => ?_)
    | refine T_wh (by first | assumption | exact rK_dr (by assumption) (by assumption) | exact rK_rc (by assumption) _ (by decide) | exact dR_ep | exact dR_i (by assumption) (by assumption) | exact dR_mk (by assumption) (by assumption) (by assumption) (by assumption) (by assumption) | exact dR_wd (rK_dr (by assumption) (by assumption)) (by assumption) (by assumption) (by assumption) | exact dR_fi (rK_dr (by assumption) (by assumption))) (by first | assumption | exact rK_dr (by assumption) (by assumption) | exact rK_rc (by assumption) _ (by decide) | exact dR_ep | exact dR_i (by assumption) (by assumption) | exact dR_mk (by assumption) (by assumption) (by assumption) (by assumption) (by assumption) | exact dR_wd (rK_dr (by assumption) (by assumption)) (by assumption) (by assumption) (by assumption) | exact dR_fi (rK_dr (by assumption) (by assumption))) (by first | assumption | exact u_06 (by assumption) | exact u_c (by decide) | simp) (fun v => ?_)
    | refine T_cp (fun v => ?_)
    | refine T_lk (fun v => ?_)
    | refine T_fo (by first | assumption | exact rK_dv (by assumption) (by assumption) | exact rK_dc (by assumption) _ (by decide) | exact dR_v (by assumption)) (fun v => ?_)
    | refine T_tx (by first | assumption | exact rK_dr (by assumption) (by assumption) | exact rK_rc (by assumption) _ (by decide) | exact dR_ep | exact dR_i (by assumption) (by assumption) | exact dR_mk (by assumption) (by assumption) (by assumption) (by assumption) (by assumption) | exact dR_wd (rK_dr (by assumption) (by assumption)) (by assumption) (by assumption) (by assumption) | exact dR_fi (rK_dr (by assumption) (by assumption))) (fun v => ?_)
    | refine T_ad (by first | assumption | exact rK_dr (by assumption) (by assumption) | exact rK_rc (by assumption) _ (by decide) | exact dR_ep | exact dR_i (by assumption) (by assumption) | exact dR_mk (by assumption) (by assumption) (by assumption) (by assumption) (by assumption) | exact dR_wd (rK_dr (by assumption) (by assumption)) (by assumption) (by assumption) (by assumption) | exact dR_fi (rK_dr (by assumption) (by assumption))) (fun v => ?_)
    | refine T_on (by assumption) (fun e he => ?_)
    | refine T_oy (by first | exact ny_F (by assumption) | exact dR_y (rK_dr (by assumption) (by assumption))) (by assumption) (by assumption) (fun e he => ?_)
    | refine T_i (fun h => ?_) (fun h => ?_))
set_option maxHeartbeats 4000000 in
theorem t_wouldBe {kn : Int32} (p0 : Int32) (p1 : Int32) (p2 : Int32) (z : MS) (hz : rK kn z) : T (fun r => rK kn r.2) (o_X3_wouldBe p0 p1 p2 z) := by
  unfold o_X3_wouldBe
  with_reducible repeat' (first
    | exact T_s (by assumption)
    | (refine T_fl (by assumption) (fun ha hb hc w hw _ => ?_) (fun w hw => T_in one_ne (T_s hw)); first | exact absurd ha (by decide) | exact absurd hb (by decide) | exact absurd hc (by decide) | refine T_ip rfl ?_)
    | (refine T_an (by assumption) (fun ha hb w hw => T_ip rfl ?_) (fun w hw => T_in one_ne (T_s hw)))
    | refine T_g6 (by assumption) ?_
    | refine T_g2 (by assumption) ?_
    | refine T_g3 (by assumption) ?_
    | refine T_gi (by assumption) (by assumption) (by first | assumption | exact rK_dr (by assumption) (by assumption) | exact rK_rc (by assumption) _ (by decide) | exact dR_ep | exact dR_i (by assumption) (by assumption) | exact dR_mk (by assumption) (by assumption) (by assumption) (by assumption) (by assumption) | exact dR_wd (rK_dr (by assumption) (by assumption)) (by assumption) (by assumption) (by assumption) | exact dR_fi (rK_dr (by assumption) (by assumption))) (fun v w hw => T_s hw)
    | refine T_te (by assumption) (by assumption) (fun v w hw => T_s hw)
    | refine T_nu (by first | assumption | exact rK_dv (by assumption) (by assumption) | exact rK_dc (by assumption) _ (by decide) | exact dR_v (by assumption)) (fun v => ?_)
    | refine T_iy (by first | assumption | exact rK_dv (by assumption) (by assumption) | exact rK_dc (by assumption) _ (by decide) | exact dR_v (by assumption)) (fun v => ?_)
    | refine T_lm (by assumption) (fun v hv => ?_)
    | refine T_lo (by first | assumption | exact rK_dv (by assumption) (by assumption) | exact rK_dc (by assumption) _ (by decide) | exact dR_v (by assumption)) (fun v hv => ?_)
    | refine T_id (fun h => T_in one_ne ?_) (T_ip rfl ?_)
    | refine T_dn (T_ip rfl ?_)
    | refine T_en ?_
    | refine T_es ?_
    | refine T_nr (by first | exact ny_F (by assumption) | exact dR_y (rK_dr (by assumption) (by assumption))) (by first | exact i2_12 (by assumption) | exact dV_m (rK_dv (by assumption) (by assumption))) (by first | decide | exact dV_d (rK_dv (by assumption) (by assumption))) (fun e he => ?_)
    | refine T_la (by first | assumption | exact rK_dv (by assumption) (by assumption) | exact rK_dc (by assumption) _ (by decide) | exact dR_v (by assumption)) (sp_b _ _ (by first | assumption | exact Or.inl rfl | exact Or.inr rfl)) ?_ (fun e he => ?_)
    | refine T_ld (by first | assumption | exact rK_dv (by assumption) (by assumption) | exact rK_dc (by assumption) _ (by decide) | exact dR_v (by assumption)) (sd_b _ (by first | assumption | exact Or.inl rfl | exact Or.inr rfl)) ?_ (fun e he => ?_)
    | refine T_mv (by first | assumption | exact u_06 (by assumption) | exact u_c (by decide) | simp) (by first | assumption | exact rK_dv (by assumption) (by assumption) | exact rK_dc (by assumption) _ (by decide) | exact dR_v (by assumption)) (by first | exact pos_b (i2_m (by assumption)) | exact neg_b (i2_m (by assumption))) ?_ (fun e he => ?_)
    | refine T_ah (fun v => ?_)
    | refine T_mo (by first | assumption | exact rK_dr (by assumption) (by assumption) | exact rK_rc (by assumption) _ (by decide) | exact dR_ep | exact dR_i (by assumption) (by assumption) | exact dR_mk (by assumption) (by assumption) (by assumption) (by assumption) (by assumption) | exact dR_wd (rK_dr (by assumption) (by assumption)) (by assumption) (by assumption) (by assumption) | exact dR_fi (rK_dr (by assumption) (by assumption))) (by first | assumption | exact rK_dr (by assumption) (by assumption) | exact rK_rc (by assumption) _ (by decide) | exact dR_ep | exact dR_i (by assumption) (by assumption) | exact dR_mk (by assumption) (by assumption) (by assumption) (by assumption) (by assumption) | exact dR_wd (rK_dr (by assumption) (by assumption)) (by assumption) (by assumption) (by assumption) | exact dR_fi (rK_dr (by assumption) (by assumption))) (fun v => ?_)
    | refine T_do (by first | assumption | exact rK_dr (by assumption) (by assumption) | exact rK_rc (by assumption) _ (by decide) | exact dR_ep | exact dR_i (by assumption) (by assumption) | exact dR_mk (by assumption) (by assumption) (by assumption) (by assumption) (by assumption) | exact dR_wd (rK_dr (by assumption) (by assumption)) (by assumption) (by assumption) (by assumption) | exact dR_fi (rK_dr (by assumption) (by assumption))) (by first | assumption | exact rK_dr (by assumption) (by assumption) | exact rK_rc (by assumption) _ (by decide) | exact dR_ep | exact dR_i (by assumption) (by assumption) | exact dR_mk (by assumption) (by assumption) (by assumption) (by assumption) (by assumption) | exact dR_wd (rK_dr (by assumption) (by assumption)) (by assumption) (by assumption) (by assumption) | exact dR_fi (rK_dr (by assumption) (by assumption))) (fun v => ?_)
    | refine T_wh (by first | assumption | exact rK_dr (by assumption) (by assumption) | exact rK_rc (by assumption) _ (by decide) | exact dR_ep | exact dR_i (by assumption) (by assumption) | exact dR_mk (by assumption) (by assumption) (by assumption) (by assumption) (by assumption) | exact dR_wd (rK_dr (by assumption) (by assumption)) (by assumption) (by assumption) (by assumption) | exact dR_fi (rK_dr (by assumption) (by assumption))) (by first | assumption | exact rK_dr (by assumption) (by assumption) | exact rK_rc (by assumption) _ (by decide) | exact dR_ep | exact dR_i (by assumption) (by assumption) | exact dR_mk (by assumption) (by assumption) (by assumption) (by assumption) (by assumption) | exact dR_wd (rK_dr (by assumption) (by assumption)) (by assumption) (by assumption) (by assumption) | exact dR_fi (rK_dr (by assumption) (by assumption))) (by first | assumption | exact u_06 (by assumption) | exact u_c (by decide) | simp) (fun v => ?_)
    | refine T_cp (fun v => ?_)
    | refine T_lk (fun v => ?_)
    | refine T_fo (by first | assumption | exact rK_dv (by assumption) (by assumption) | exact rK_dc (by assumption) _ (by decide) | exact dR_v (by assumption)) (fun v => ?_)
    | refine T_tx (by first | assumption | exact rK_dr (by assumption) (by assumption) | exact rK_rc (by assumption) _ (by decide) | exact dR_ep | exact dR_i (by assumption) (by assumption) | exact dR_mk (by assumption) (by assumption) (by assumption) (by assumption) (by assumption) | exact dR_wd (rK_dr (by assumption) (by assumption)) (by assumption) (by assumption) (by assumption) | exact dR_fi (rK_dr (by assumption) (by assumption))) (fun v => ?_)
    | refine T_ad (by first | assumption | exact rK_dr (by assumption) (by assumption) | exact rK_rc (by assumption) _ (by decide) | exact dR_ep | exact dR_i (by assumption) (by assumption) | exact dR_mk (by assumption) (by assumption) (by assumption) (by assumption) (by assumption) | exact dR_wd (rK_dr (by assumption) (by assumption)) (by assumption) (by assumption) (by assumption) | exact dR_fi (rK_dr (by assumption) (by assumption))) (fun v => ?_)
    | refine T_on (by assumption) (fun e he => ?_)
    | refine T_oy (by first | exact ny_F (by assumption) | exact dR_y (rK_dr (by assumption) (by assumption))) (by assumption) (by assumption) (fun e he => ?_)
    | refine T_i (fun h => ?_) (fun h => ?_))
set_option maxHeartbeats 4000000 in
theorem t_compare {kn : Int32} (p0 : Int32) (p1 : Int32) (z : MS) (hz : rK kn z) : T (fun r => rK kn r.2) (o_X3_compare p0 p1 z) := by
  unfold o_X3_compare
  with_reducible repeat' (first
    | exact T_s (by assumption)
    | (refine T_fl (by assumption) (fun ha hb hc w hw _ => ?_) (fun w hw => T_in one_ne (T_s hw)); first | exact absurd ha (by decide) | exact absurd hb (by decide) | exact absurd hc (by decide) | refine T_ip rfl ?_)
    | (refine T_an (by assumption) (fun ha hb w hw => T_ip rfl ?_) (fun w hw => T_in one_ne (T_s hw)))
    | refine T_g6 (by assumption) ?_
    | refine T_g2 (by assumption) ?_
    | refine T_g3 (by assumption) ?_
    | refine T_gi (by assumption) (by assumption) (by first | assumption | exact rK_dr (by assumption) (by assumption) | exact rK_rc (by assumption) _ (by decide) | exact dR_ep | exact dR_i (by assumption) (by assumption) | exact dR_mk (by assumption) (by assumption) (by assumption) (by assumption) (by assumption) | exact dR_wd (rK_dr (by assumption) (by assumption)) (by assumption) (by assumption) (by assumption) | exact dR_fi (rK_dr (by assumption) (by assumption))) (fun v w hw => T_s hw)
    | refine T_te (by assumption) (by assumption) (fun v w hw => T_s hw)
    | refine T_nu (by first | assumption | exact rK_dv (by assumption) (by assumption) | exact rK_dc (by assumption) _ (by decide) | exact dR_v (by assumption)) (fun v => ?_)
    | refine T_iy (by first | assumption | exact rK_dv (by assumption) (by assumption) | exact rK_dc (by assumption) _ (by decide) | exact dR_v (by assumption)) (fun v => ?_)
    | refine T_lm (by assumption) (fun v hv => ?_)
    | refine T_lo (by first | assumption | exact rK_dv (by assumption) (by assumption) | exact rK_dc (by assumption) _ (by decide) | exact dR_v (by assumption)) (fun v hv => ?_)
    | refine T_id (fun h => T_in one_ne ?_) (T_ip rfl ?_)
    | refine T_dn (T_ip rfl ?_)
    | refine T_en ?_
    | refine T_es ?_
    | refine T_nr (by first | exact ny_F (by assumption) | exact dR_y (rK_dr (by assumption) (by assumption))) (by first | exact i2_12 (by assumption) | exact dV_m (rK_dv (by assumption) (by assumption))) (by first | decide | exact dV_d (rK_dv (by assumption) (by assumption))) (fun e he => ?_)
    | refine T_la (by first | assumption | exact rK_dv (by assumption) (by assumption) | exact rK_dc (by assumption) _ (by decide) | exact dR_v (by assumption)) (sp_b _ _ (by first | assumption | exact Or.inl rfl | exact Or.inr rfl)) ?_ (fun e he => ?_)
    | refine T_ld (by first | assumption | exact rK_dv (by assumption) (by assumption) | exact rK_dc (by assumption) _ (by decide) | exact dR_v (by assumption)) (sd_b _ (by first | assumption | exact Or.inl rfl | exact Or.inr rfl)) ?_ (fun e he => ?_)
    | refine T_mv (by first | assumption | exact u_06 (by assumption) | exact u_c (by decide) | simp) (by first | assumption | exact rK_dv (by assumption) (by assumption) | exact rK_dc (by assumption) _ (by decide) | exact dR_v (by assumption)) (by first | exact pos_b (i2_m (by assumption)) | exact neg_b (i2_m (by assumption))) ?_ (fun e he => ?_)
    | refine T_ah (fun v => ?_)
    | refine T_mo (by first | assumption | exact rK_dr (by assumption) (by assumption) | exact rK_rc (by assumption) _ (by decide) | exact dR_ep | exact dR_i (by assumption) (by assumption) | exact dR_mk (by assumption) (by assumption) (by assumption) (by assumption) (by assumption) | exact dR_wd (rK_dr (by assumption) (by assumption)) (by assumption) (by assumption) (by assumption) | exact dR_fi (rK_dr (by assumption) (by assumption))) (by first | assumption | exact rK_dr (by assumption) (by assumption) | exact rK_rc (by assumption) _ (by decide) | exact dR_ep | exact dR_i (by assumption) (by assumption) | exact dR_mk (by assumption) (by assumption) (by assumption) (by assumption) (by assumption) | exact dR_wd (rK_dr (by assumption) (by assumption)) (by assumption) (by assumption) (by assumption) | exact dR_fi (rK_dr (by assumption) (by assumption))) (fun v => ?_)
    | refine T_do (by first | assumption | exact rK_dr (by assumption) (by assumption) | exact rK_rc (by assumption) _ (by decide) | exact dR_ep | exact dR_i (by assumption) (by assumption) | exact dR_mk (by assumption) (by assumption) (by assumption) (by assumption) (by assumption) | exact dR_wd (rK_dr (by assumption) (by assumption)) (by assumption) (by assumption) (by assumption) | exact dR_fi (rK_dr (by assumption) (by assumption))) (by first | assumption | exact rK_dr (by assumption) (by assumption) | exact rK_rc (by assumption) _ (by decide) | exact dR_ep | exact dR_i (by assumption) (by assumption) | exact dR_mk (by assumption) (by assumption) (by assumption) (by assumption) (by assumption) | exact dR_wd (rK_dr (by assumption) (by assumption)) (by assumption) (by assumption) (by assumption) | exact dR_fi (rK_dr (by assumption) (by assumption))) (fun v => ?_)
    | refine T_wh (by first | assumption | exact rK_dr (by assumption) (by assumption) | exact rK_rc (by assumption) _ (by decide) | exact dR_ep | exact dR_i (by assumption) (by assumption) | exact dR_mk (by assumption) (by assumption) (by assumption) (by assumption) (by assumption) | exact dR_wd (rK_dr (by assumption) (by assumption)) (by assumption) (by assumption) (by assumption) | exact dR_fi (rK_dr (by assumption) (by assumption))) (by first | assumption | exact rK_dr (by assumption) (by assumption) | exact rK_rc (by assumption) _ (by decide) | exact dR_ep | exact dR_i (by assumption) (by assumption) | exact dR_mk (by assumption) (by assumption) (by assumption) (by assumption) (by assumption) | exact dR_wd (rK_dr (by assumption) (by assumption)) (by assumption) (by assumption) (by assumption) | exact dR_fi (rK_dr (by assumption) (by assumption))) (by first | assumption | exact u_06 (by assumption) | exact u_c (by decide) | simp) (fun v => ?_)
    | refine T_cp (fun v => ?_)
    | refine T_lk (fun v => ?_)
    | refine T_fo (by first | assumption | exact rK_dv (by assumption) (by assumption) | exact rK_dc (by assumption) _ (by decide) | exact dR_v (by assumption)) (fun v => ?_)
    | refine T_tx (by first | assumption | exact rK_dr (by assumption) (by assumption) | exact rK_rc (by assumption) _ (by decide) | exact dR_ep | exact dR_i (by assumption) (by assumption) | exact dR_mk (by assumption) (by assumption) (by assumption) (by assumption) (by assumption) | exact dR_wd (rK_dr (by assumption) (by assumption)) (by assumption) (by assumption) (by assumption) | exact dR_fi (rK_dr (by assumption) (by assumption))) (fun v => ?_)
    | refine T_ad (by first | assumption | exact rK_dr (by assumption) (by assumption) | exact rK_rc (by assumption) _ (by decide) | exact dR_ep | exact dR_i (by assumption) (by assumption) | exact dR_mk (by assumption) (by assumption) (by assumption) (by assumption) (by assumption) | exact dR_wd (rK_dr (by assumption) (by assumption)) (by assumption) (by assumption) (by assumption) | exact dR_fi (rK_dr (by assumption) (by assumption))) (fun v => ?_)
    | refine T_on (by assumption) (fun e he => ?_)
    | refine T_oy (by first | exact ny_F (by assumption) | exact dR_y (rK_dr (by assumption) (by assumption))) (by assumption) (by assumption) (fun e he => ?_)
    | refine T_i (fun h => ?_) (fun h => ?_))
set_option maxHeartbeats 4000000 in
theorem t_isBefore {kn : Int32} (p0 : Int32) (p1 : Int32) (z : MS) (hz : rK kn z) : T (fun r => rK kn r.2) (o_X3_isBefore p0 p1 z) := by
  unfold o_X3_isBefore
  with_reducible repeat' (first
    | exact T_s (by assumption)
    | (refine T_fl (by assumption) (fun ha hb hc w hw _ => ?_) (fun w hw => T_in one_ne (T_s hw)); first | exact absurd ha (by decide) | exact absurd hb (by decide) | exact absurd hc (by decide) | refine T_ip rfl ?_)
    | (refine T_an (by assumption) (fun ha hb w hw => T_ip rfl ?_) (fun w hw => T_in one_ne (T_s hw)))
    | refine T_g6 (by assumption) ?_
    | refine T_g2 (by assumption) ?_
    | refine T_g3 (by assumption) ?_
    | refine T_gi (by assumption) (by assumption) (by first | assumption | exact rK_dr (by assumption) (by assumption) | exact rK_rc (by assumption) _ (by decide) | exact dR_ep | exact dR_i (by assumption) (by assumption) | exact dR_mk (by assumption) (by assumption) (by assumption) (by assumption) (by assumption) | exact dR_wd (rK_dr (by assumption) (by assumption)) (by assumption) (by assumption) (by assumption) | exact dR_fi (rK_dr (by assumption) (by assumption))) (fun v w hw => T_s hw)
    | refine T_te (by assumption) (by assumption) (fun v w hw => T_s hw)
    | refine T_nu (by first | assumption | exact rK_dv (by assumption) (by assumption) | exact rK_dc (by assumption) _ (by decide) | exact dR_v (by assumption)) (fun v => ?_)
    | refine T_iy (by first | assumption | exact rK_dv (by assumption) (by assumption) | exact rK_dc (by assumption) _ (by decide) | exact dR_v (by assumption)) (fun v => ?_)
    | refine T_lm (by assumption) (fun v hv => ?_)
    | refine T_lo (by first | assumption | exact rK_dv (by assumption) (by assumption) | exact rK_dc (by assumption) _ (by decide) | exact dR_v (by assumption)) (fun v hv => ?_)
    | refine T_id (fun h => T_in one_ne ?_) (T_ip rfl ?_)
    | refine T_dn (T_ip rfl ?_)
    | refine T_en ?_
    | refine T_es ?_
    | refine T_nr (by first | exact ny_F (by assumption) | exact dR_y (rK_dr (by assumption) (by assumption))) (by first | exact i2_12 (by assumption) | exact dV_m (rK_dv (by assumption) (by assumption))) (by first | decide | exact dV_d (rK_dv (by assumption) (by assumption))) (fun e he => ?_)
    | refine T_la (by first | assumption | exact rK_dv (by assumption) (by assumption) | exact rK_dc (by assumption) _ (by decide) | exact dR_v (by assumption)) (sp_b _ _ (by first | assumption | exact Or.inl rfl | exact Or.inr rfl)) ?_ (fun e he => ?_)
    | refine T_ld (by first | assumption | exact rK_dv (by assumption) (by assumption) | exact rK_dc (by assumption) _ (by decide) | exact dR_v (by assumption)) (sd_b _ (by first | assumption | exact Or.inl rfl | exact Or.inr rfl)) ?_ (fun e he => ?_)
    | refine T_mv (by first | assumption | exact u_06 (by assumption) | exact u_c (by decide) | simp) (by first | assumption | exact rK_dv (by assumption) (by assumption) | exact rK_dc (by assumption) _ (by decide) | exact dR_v (by assumption)) (by first | exact pos_b (i2_m (by assumption)) | exact neg_b (i2_m (by assumption))) ?_ (fun e he => ?_)
    | refine T_ah (fun v => ?_)
    | refine T_mo (by first | assumption | exact rK_dr (by assumption) (by assumption) | exact rK_rc (by assumption) _ (by decide) | exact dR_ep | exact dR_i (by assumption) (by assumption) | exact dR_mk (by assumption) (by assumption) (by assumption) (by assumption) (by assumption) | exact dR_wd (rK_dr (by assumption) (by assumption)) (by assumption) (by assumption) (by assumption) | exact dR_fi (rK_dr (by assumption) (by assumption))) (by first | assumption | exact rK_dr (by assumption) (by assumption) | exact rK_rc (by assumption) _ (by decide) | exact dR_ep | exact dR_i (by assumption) (by assumption) | exact dR_mk (by assumption) (by assumption) (by assumption) (by assumption) (by assumption) | exact dR_wd (rK_dr (by assumption) (by assumption)) (by assumption) (by assumption) (by assumption) | exact dR_fi (rK_dr (by assumption) (by assumption))) (fun v => ?_)
    | refine T_do (by first | assumption | exact rK_dr (by assumption) (by assumption) | exact rK_rc (by assumption) _ (by decide) | exact dR_ep | exact dR_i (by assumption) (by assumption) | exact dR_mk (by assumption) (by assumption) (by assumption) (by assumption) (by assumption) | exact dR_wd (rK_dr (by assumption) (by assumption)) (by assumption) (by assumption) (by assumption) | exact dR_fi (rK_dr (by assumption) (by assumption))) (by first | assumption | exact rK_dr (by assumption) (by assumption) | exact rK_rc (by assumption) _ (by decide) | exact dR_ep | exact dR_i (by assumption) (by assumption) | exact dR_mk (by assumption) (by assumption) (by assumption) (by assumption) (by assumption) | exact dR_wd (rK_dr (by assumption) (by assumption)) (by assumption) (by assumption) (by assumption) | exact dR_fi (rK_dr (by assumption) (by assumption))) (fun v => ?_)
    | refine T_wh (by first | assumption | exact rK_dr (by assumption) (by assumption) | exact rK_rc (by assumption) _ (by decide) | exact dR_ep | exact dR_i (by assumption) (by assumption) | exact dR_mk (by assumption) (by assumption) (by assumption) (by assumption) (by assumption) | exact dR_wd (rK_dr (by assumption) (by assumption)) (by assumption) (by assumption) (by assumption) | exact dR_fi (rK_dr (by assumption) (by assumption))) (by first | assumption | exact rK_dr (by assumption) (by assumption) | exact rK_rc (by assumption) _ (by decide) | exact dR_ep | exact dR_i (by assumption) (by assumption) | exact dR_mk (by assumption) (by assumption) (by assumption) (by assumption) (by assumption) | exact dR_wd (rK_dr (by assumption) (by assumption)) (by assumption) (by assumption) (by assumption) | exact dR_fi (rK_dr (by assumption) (by assumption))) (by first | assumption | exact u_06 (by assumption) | exact u_c (by decide) | simp) (fun v => ?_)
    | refine T_cp (fun v => ?_)
    | refine T_lk (fun v => ?_)
    | refine T_fo (by first | assumption | exact rK_dv (by assumption) (by assumption) | exact rK_dc (by assumption) _ (by decide) | exact dR_v (by assumption)) (fun v => ?_)
    | refine T_tx (by first | assumption | exact rK_dr (by assumption) (by assumption) | exact rK_rc (by assumption) _ (by decide) | exact dR_ep | exact dR_i (by assumption) (by assumption) | exact dR_mk (by assumption) (by assumption) (by assumption) (by assumption) (by assumption) | exact dR_wd (rK_dr (by assumption) (by assumption)) (by assumption) (by assumption) (by assumption) | exact dR_fi (rK_dr (by assumption) (by assumption))) (fun v => ?_)
    | refine T_ad (by first | assumption | exact rK_dr (by assumption) (by assumption) | exact rK_rc (by assumption) _ (by decide) | exact dR_ep | exact dR_i (by assumption) (by assumption) | exact dR_mk (by assumption) (by assumption) (by assumption) (by assumption) (by assumption) | exact dR_wd (rK_dr (by assumption) (by assumption)) (by assumption) (by assumption) (by assumption) | exact dR_fi (rK_dr (by assumption) (by assumption))) (fun v => ?_)
    | refine T_on (by assumption) (fun e he => ?_)
    | refine T_oy (by first | exact ny_F (by assumption) | exact dR_y (rK_dr (by assumption) (by assumption))) (by assumption) (by assumption) (fun e he => ?_)
    | refine T_i (fun h => ?_) (fun h => ?_))
set_option maxHeartbeats 4000000 in
theorem t_isAfter {kn : Int32} (p0 : Int32) (p1 : Int32) (z : MS) (hz : rK kn z) : T (fun r => rK kn r.2) (o_X3_isAfter p0 p1 z) := by
  unfold o_X3_isAfter
  with_reducible repeat' (first
    | exact T_s (by assumption)
    | (refine T_fl (by assumption) (fun ha hb hc w hw _ => ?_) (fun w hw => T_in one_ne (T_s hw)); first | exact absurd ha (by decide) | exact absurd hb (by decide) | exact absurd hc (by decide) | refine T_ip rfl ?_)
    | (refine T_an (by assumption) (fun ha hb w hw => T_ip rfl ?_) (fun w hw => T_in one_ne (T_s hw)))
    | refine T_g6 (by assumption) ?_
    | refine T_g2 (by assumption) ?_
    | refine T_g3 (by assumption) ?_
    | refine T_gi (by assumption) (by assumption) (by first | assumption | exact rK_dr (by assumption) (by assumption) | exact rK_rc (by assumption) _ (by decide) | exact dR_ep | exact dR_i (by assumption) (by assumption) | exact dR_mk (by assumption) (by assumption) (by assumption) (by assumption) (by assumption) | exact dR_wd (rK_dr (by assumption) (by assumption)) (by assumption) (by assumption) (by assumption) | exact dR_fi (rK_dr (by assumption) (by assumption))) (fun v w hw => T_s hw)
    | refine T_te (by assumption) (by assumption) (fun v w hw => T_s hw)
    | refine T_nu (by first | assumption | exact rK_dv (by assumption) (by assumption) | exact rK_dc (by assumption) _ (by decide) | exact dR_v (by assumption)) (fun v => ?_)
    | refine T_iy (by first | assumption | exact rK_dv (by assumption) (by assumption) | exact rK_dc (by assumption) _ (by decide) | exact dR_v (by assumption)) (fun v => ?_)
    | refine T_lm (by assumption) (fun v hv => ?_)
    | refine T_lo (by first | assumption | exact rK_dv (by assumption) (by assumption) | exact rK_dc (by assumption) _ (by decide) | exact dR_v (by assumption)) (fun v hv => ?_)
    | refine T_id (fun h => T_in one_ne ?_) (T_ip rfl ?_)
    | refine T_dn (T_ip rfl ?_)
    | refine T_en ?_
    | refine T_es ?_
    | refine T_nr (by first | exact ny_F (by assumption) | exact dR_y (rK_dr (by assumption) (by assumption))) (by first | exact i2_12 (by assumption) | exact dV_m (rK_dv (by assumption) (by assumption))) (by first | decide | exact dV_d (rK_dv (by assumption) (by assumption))) (fun e he => ?_)
    | refine T_la (by first | assumption | exact rK_dv (by assumption) (by assumption) | exact rK_dc (by assumption) _ (by decide) | exact dR_v (by assumption)) (sp_b _ _ (by first | assumption | exact Or.inl rfl | exact Or.inr rfl)) ?_ (fun e he => ?_)
    | refine T_ld (by first | assumption | exact rK_dv (by assumption) (by assumption) | exact rK_dc (by assumption) _ (by decide) | exact dR_v (by assumption)) (sd_b _ (by first | assumption | exact Or.inl rfl | exact Or.inr rfl)) ?_ (fun e he => ?_)
    | refine T_mv (by first | assumption | exact u_06 (by assumption) | exact u_c (by decide) | simp) (by first | assumption | exact rK_dv (by assumption) (by assumption) | exact rK_dc (by assumption) _ (by decide) | exact dR_v (by assumption)) (by first | exact pos_b (i2_m (by assumption)) | exact neg_b (i2_m (by assumption))) ?_ (fun e he => ?_)
    | refine T_ah (fun v => ?_)
    | refine T_mo (by first | assumption | exact rK_dr (by assumption) (by assumption) | exact rK_rc (by assumption) _ (by decide) | exact dR_ep | exact dR_i (by assumption) (by assumption) | exact dR_mk (by assumption) (by assumption) (by assumption) (by assumption) (by assumption) | exact dR_wd (rK_dr (by assumption) (by assumption)) (by assumption) (by assumption) (by assumption) | exact dR_fi (rK_dr (by assumption) (by assumption))) (by first | assumption | exact rK_dr (by assumption) (by assumption) | exact rK_rc (by assumption) _ (by decide) | exact dR_ep | exact dR_i (by assumption) (by assumption) | exact dR_mk (by assumption) (by assumption) (by assumption) (by assumption) (by assumption) | exact dR_wd (rK_dr (by assumption) (by assumption)) (by assumption) (by assumption) (by assumption) | exact dR_fi (rK_dr (by assumption) (by assumption))) (fun v => ?_)
    | refine T_do (by first | assumption | exact rK_dr (by assumption) (by assumption) | exact rK_rc (by assumption) _ (by decide) | exact dR_ep | exact dR_i (by assumption) (by assumption) | exact dR_mk (by assumption) (by assumption) (by assumption) (by assumption) (by assumption) | exact dR_wd (rK_dr (by assumption) (by assumption)) (by assumption) (by assumption) (by assumption) | exact dR_fi (rK_dr (by assumption) (by assumption))) (by first | assumption | exact rK_dr (by assumption) (by assumption) | exact rK_rc (by assumption) _ (by decide) | exact dR_ep | exact dR_i (by assumption) (by assumption) | exact dR_mk (by assumption) (by assumption) (by assumption) (by assumption) (by assumption) | exact dR_wd (rK_dr (by assumption) (by assumption)) (by assumption) (by assumption) (by assumption) | exact dR_fi (rK_dr (by assumption) (by assumption))) (fun v => ?_)
    | refine T_wh (by first | assumption | exact rK_dr (by assumption) (by assumption) | exact rK_rc (by assumption) _ (by decide) | exact dR_ep | exact dR_i (by assumption) (by assumption) | exact dR_mk (by assumption) (by assumption) (by assumption) (by assumption) (by assumption) | exact dR_wd (rK_dr (by assumption) (by assumption)) (by assumption) (by assumption) (by assumption) | exact dR_fi (rK_dr (by assumption) (by assumption))) (by first | assumption | exact rK_dr (by assumption) (by assumption) | exact rK_rc (by assumption) _ (by decide) | exact dR_ep | exact dR_i (by assumption) (by assumption) | exact dR_mk (by assumption) (by assumption) (by assumption) (by assumption) (by assumption) | exact dR_wd (rK_dr (by assumption) (by assumption)) (by assumption) (by assumption) (by assumption) | exact dR_fi (rK_dr (by assumption) (by assumption))) (by first | assumption | exact u_06 (by assumption) | exact u_c (by decide) | simp) (fun v => ?_)
    | refine T_cp (fun v => ?_)
    | refine T_lk (fun v => ?_)
    | refine T_fo (by first | assumption | exact rK_dv (by assumption) (by assumption) | exact rK_dc (by assumption) _ (by decide) | exact dR_v (by assumption)) (fun v => ?_)
    | refine T_tx (by first | assumption | exact rK_dr (by assumption) (by assumption) | exact rK_rc (by assumption) _ (by decide) | exact dR_ep | exact dR_i (by assumption) (by assumption) | exact dR_mk (by assumption) (by assumption) (by assumption) (by assumption) (by assumption) | exact dR_wd (rK_dr (by assumption) (by assumption)) (by assumption) (by assumption) (by assumption) | exact dR_fi (rK_dr (by assumption) (by assumption))) (fun v => ?_)
    | refine T_ad (by first | assumption | exact rK_dr (by assumption) (by assumption) | exact rK_rc (by assumption) _ (by decide) | exact dR_ep | exact dR_i (by assumption) (by assumption) | exact dR_mk (by assumption) (by assumption) (by assumption) (by assumption) (by assumption) | exact dR_wd (rK_dr (by assumption) (by assumption)) (by assumption) (by assumption) (by assumption) | exact dR_fi (rK_dr (by assumption) (by assumption))) (fun v => ?_)
    | refine T_on (by assumption) (fun e he => ?_)
    | refine T_oy (by first | exact ny_F (by assumption) | exact dR_y (rK_dr (by assumption) (by assumption))) (by assumption) (by assumption) (fun e he => ?_)
    | refine T_i (fun h => ?_) (fun h => ?_))
set_option maxHeartbeats 4000000 in
theorem t_isSame {kn : Int32} (p0 : Int32) (p1 : Int32) (z : MS) (hz : rK kn z) : T (fun r => rK kn r.2) (o_X3_isSame p0 p1 z) := by
  unfold o_X3_isSame
  with_reducible repeat' (first
    | exact T_s (by assumption)
    | (refine T_fl (by assumption) (fun ha hb hc w hw _ => ?_) (fun w hw => T_in one_ne (T_s hw)); first | exact absurd ha (by decide) | exact absurd hb (by decide) | exact absurd hc (by decide) | refine T_ip rfl ?_)
    | (refine T_an (by assumption) (fun ha hb w hw => T_ip rfl ?_) (fun w hw => T_in one_ne (T_s hw)))
    | refine T_g6 (by assumption) ?_
    | refine T_g2 (by assumption) ?_
    | refine T_g3 (by assumption) ?_
    | refine T_gi (by assumption) (by assumption) (by first | assumption | exact rK_dr (by assumption) (by assumption) | exact rK_rc (by assumption) _ (by decide) | exact dR_ep | exact dR_i (by assumption) (by assumption) | exact dR_mk (by assumption) (by assumption) (by assumption) (by assumption) (by assumption) | exact dR_wd (rK_dr (by assumption) (by assumption)) (by assumption) (by assumption) (by assumption) | exact dR_fi (rK_dr (by assumption) (by assumption))) (fun v w hw => T_s hw)
    | refine T_te (by assumption) (by assumption) (fun v w hw => T_s hw)
    | refine T_nu (by first | assumption | exact rK_dv (by assumption) (by assumption) | exact rK_dc (by assumption) _ (by decide) | exact dR_v (by assumption)) (fun v => ?_)
    | refine T_iy (by first | assumption | exact rK_dv (by assumption) (by assumption) | exact rK_dc (by assumption) _ (by decide) | exact dR_v (by assumption)) (fun v => ?_)
    | refine T_lm (by assumption) (fun v hv => ?_)
    | refine T_lo (by first | assumption | exact rK_dv (by assumption) (by assumption) | exact rK_dc (by assumption) _ (by decide) | exact dR_v (by assumption)) (fun v hv => ?_)
    | refine T_id (fun h => T_in one_ne ?_) (T_ip rfl ?_)
    | refine T_dn (T_ip rfl ?_)
    | refine T_en ?_
    | refine T_es ?_
    | refine T_nr (by first | exact ny_F (by assumption) | exact dR_y (rK_dr (by assumption) (by assumption))) (by first | exact i2_12 (by assumption) | exact dV_m (rK_dv (by assumption) (by assumption))) (by first | decide | exact dV_d (rK_dv (by assumption) (by assumption))) (fun e he => ?_)
    | refine T_la (by first | assumption | exact rK_dv (by assumption) (by assumption) | exact rK_dc (by assumption) _ (by decide) | exact dR_v (by assumption)) (sp_b _ _ (by first | assumption | exact Or.inl rfl | exact Or.inr rfl)) ?_ (fun e he => ?_)
    | refine T_ld (by first | assumption | exact rK_dv (by assumption) (by assumption) | exact rK_dc (by assumption) _ (by decide) | exact dR_v (by assumption)) (sd_b _ (by first | assumption | exact Or.inl rfl | exact Or.inr rfl)) ?_ (fun e he => ?_)
    | refine T_mv (by first | assumption | exact u_06 (by assumption) | exact u_c (by decide) | simp) (by first | assumption | exact rK_dv (by assumption) (by assumption) | exact rK_dc (by assumption) _ (by decide) | exact dR_v (by assumption)) (by first | exact pos_b (i2_m (by assumption)) | exact neg_b (i2_m (by assumption))) ?_ (fun e he => ?_)
    | refine T_ah (fun v => ?_)
    | refine T_mo (by first | assumption | exact rK_dr (by assumption) (by assumption) | exact rK_rc (by assumption) _ (by decide) | exact dR_ep | exact dR_i (by assumption) (by assumption) | exact dR_mk (by assumption) (by assumption) (by assumption) (by assumption) (by assumption) | exact dR_wd (rK_dr (by assumption) (by assumption)) (by assumption) (by assumption) (by assumption) | exact dR_fi (rK_dr (by assumption) (by assumption))) (by first | assumption | exact rK_dr (by assumption) (by assumption) | exact rK_rc (by assumption) _ (by decide) | exact dR_ep | exact dR_i (by assumption) (by assumption) | exact dR_mk (by assumption) (by assumption) (by assumption) (by assumption) (by assumption) | exact dR_wd (rK_dr (by assumption) (by assumption)) (by assumption) (by assumption) (by assumption) | exact dR_fi (rK_dr (by assumption) (by assumption))) (fun v => ?_)
    | refine T_do (by first | assumption | exact rK_dr (by assumption) (by assumption) | exact rK_rc (by assumption) _ (by decide) | exact dR_ep | exact dR_i (by assumption) (by assumption) | exact dR_mk (by assumption) (by assumption) (by assumption) (by assumption) (by assumption) | exact dR_wd (rK_dr (by assumption) (by assumption)) (by assumption) (by assumption) (by assumption) | exact dR_fi (rK_dr (by assumption) (by assumption))) (by first | assumption | exact rK_dr (by assumption) (by assumption) | exact rK_rc (by assumption) _ (by decide) | exact dR_ep | exact dR_i (by assumption) (by assumption) | exact dR_mk (by assumption) (by assumption) (by assumption) (by assumption) (by assumption) | exact dR_wd (rK_dr (by assumption) (by assumption)) (by assumption) (by assumption) (by assumption) | exact dR_fi (rK_dr (by assumption) (by assumption))) (fun v => ?_)
    | refine T_wh (by first | assumption | exact rK_dr (by assumption) (by assumption) | exact rK_rc (by assumption) _ (by decide) | exact dR_ep | exact dR_i (by assumption) (by assumption) | exact dR_mk (by assumption) (by assumption) (by assumption) (by assumption) (by assumption) | exact dR_wd (rK_dr (by assumption) (by assumption)) (by assumption) (by assumption) (by assumption) | exact dR_fi (rK_dr (by assumption) (by assumption))) (by first | assumption | exact rK_dr (by assumption) (by assumption) | exact rK_rc (by assumption) _ (by decide) | exact dR_ep | exact dR_i (by assumption) (by assumption) | exact dR_mk (by assumption) (by assumption) (by assumption) (by assumption) (by assumption) | exact dR_wd (rK_dr (by assumption) (by assumption)) (by assumption) (by assumption) (by assumption) | exact dR_fi (rK_dr (by assumption) (by assumption))) (by first | assumption | exact u_06 (by assumption) | exact u_c (by decide) | simp) (fun v => ?_)
    | refine T_cp (fun v => ?_)
    | refine T_lk (fun v => ?_)
    | refine T_fo (by first | assumption | exact rK_dv (by assumption) (by assumption) | exact rK_dc (by assumption) _ (by decide) | exact dR_v (by assumption)) (fun v => ?_)
    | refine T_tx (by first | assumption | exact rK_dr (by assumption) (by assumption) | exact rK_rc (by assumption) _ (by decide) | exact dR_ep | exact dR_i (by assumption) (by assumption) | exact dR_mk (by assumption) (by assumption) (by assumption) (by assumption) (by assumption) | exact dR_wd (rK_dr (by assumption) (by assumption)) (by assumption) (by assumption) (by assumption) | exact dR_fi (rK_dr (by assumption) (by assumption))) (fun v => ?_)
    | refine T_ad (by first | assumption | exact rK_dr (by assumption) (by assumption) | exact rK_rc (by assumption) _ (by decide) | exact dR_ep | exact dR_i (by assumption) (by assumption) | exact dR_mk (by assumption) (by assumption) (by assumption) (by assumption) (by assumption) | exact dR_wd (rK_dr (by assumption) (by assumption)) (by assumption) (by assumption) (by assumption) | exact dR_fi (rK_dr (by assumption) (by assumption))) (fun v => ?_)
    | refine T_on (by assumption) (fun e he => ?_)
    | refine T_oy (by first | exact ny_F (by assumption) | exact dR_y (rK_dr (by assumption) (by assumption))) (by assumption) (by assumption) (fun e he => ?_)
    | refine T_i (fun h => ?_) (fun h => ?_))
set_option maxHeartbeats 4000000 in
theorem t_between {kn : Int32} (p0 : Int32) (p1 : Int32) (p2 : Int32) (z : MS) (hz : rK kn z) : T (fun r => rK kn r.2) (o_X3_between p0 p1 p2 z) := by
  unfold o_X3_between
  with_reducible repeat' (first
    | exact T_s (by assumption)
    | (refine T_fl (by assumption) (fun ha hb hc w hw _ => ?_) (fun w hw => T_in one_ne (T_s hw)); first | exact absurd ha (by decide) | exact absurd hb (by decide) | exact absurd hc (by decide) | refine T_ip rfl ?_)
    | (refine T_an (by assumption) (fun ha hb w hw => T_ip rfl ?_) (fun w hw => T_in one_ne (T_s hw)))
    | refine T_g6 (by assumption) ?_
    | refine T_g2 (by assumption) ?_
    | refine T_g3 (by assumption) ?_
    | refine T_gi (by assumption) (by assumption) (by first | assumption | exact rK_dr (by assumption) (by assumption) | exact rK_rc (by assumption) _ (by decide) | exact dR_ep | exact dR_i (by assumption) (by assumption) | exact dR_mk (by assumption) (by assumption) (by assumption) (by assumption) (by assumption) | exact dR_wd (rK_dr (by assumption) (by assumption)) (by assumption) (by assumption) (by assumption) | exact dR_fi (rK_dr (by assumption) (by assumption))) (fun v w hw => T_s hw)
    | refine T_te (by assumption) (by assumption) (fun v w hw => T_s hw)
    | refine T_nu (by first | assumption | exact rK_dv (by assumption) (by assumption) | exact rK_dc (by assumption) _ (by decide) | exact dR_v (by assumption)) (fun v => ?_)
    | refine T_iy (by first | assumption | exact rK_dv (by assumption) (by assumption) | exact rK_dc (by assumption) _ (by decide) | exact dR_v (by assumption)) (fun v => ?_)
    | refine T_lm (by assumption) (fun v hv => ?_)
    | refine T_lo (by first | assumption | exact rK_dv (by assumption) (by assumption) | exact rK_dc (by assumption) _ (by decide) | exact dR_v (by assumption)) (fun v hv => ?_)
    | refine T_id (fun h => T_in one_ne ?_) (T_ip rfl ?_)
    | refine T_dn (T_ip rfl ?_)
    | refine T_en ?_
    | refine T_es ?_
    | refine T_nr (by first | exact ny_F (by assumption) | exact dR_y (rK_dr (by assumption) (by assumption))) (by first | exact i2_12 (by assumption) | exact dV_m (rK_dv (by assumption) (by assumption))) (by first | decide | exact dV_d (rK_dv (by assumption) (by assumption))) (fun e he => ?_)
    | refine T_la (by first | assumption | exact rK_dv (by assumption) (by assumption) | exact rK_dc (by assumption) _ (by decide) | exact dR_v (by assumption)) (sp_b _ _ (by first | assumption | exact Or.inl rfl | exact Or.inr rfl)) ?_ (fun e he => ?_)
    | refine T_ld (by first | assumption | exact rK_dv (by assumption) (by assumption) | exact rK_dc (by assumption) _ (by decide) | exact dR_v (by assumption)) (sd_b _ (by first | assumption | exact Or.inl rfl | exact Or.inr rfl)) ?_ (fun e he => ?_)
    | refine T_mv (by first | assumption | exact u_06 (by assumption) | exact u_c (by decide) | simp) (by first | assumption | exact rK_dv (by assumption) (by assumption) | exact rK_dc (by assumption) _ (by decide) | exact dR_v (by assumption)) (by first | exact pos_b (i2_m (by assumption)) | exact neg_b (i2_m (by assumption))) ?_ (fun e he => ?_)
    | refine T_ah (fun v => ?_)
    | refine T_mo (by first | assumption | exact rK_dr (by assumption) (by assumption) | exact rK_rc (by assumption) _ (by decide) | exact dR_ep | exact dR_i (by assumption) (by assumption) | exact dR_mk (by assumption) (by assumption) (by assumption) (by assumption) (by assumption) | exact dR_wd (rK_dr (by assumption) (by assumption)) (by assumption) (by assumption) (by assumption) | exact dR_fi (rK_dr (by assumption) (by assumption))) (by first | assumption | exact rK_dr (by assumption) (by assumption) | exact rK_rc (by assumption) _ (by decide) | exact dR_ep | exact dR_i (by assumption) (by assumption) | exact dR_mk (by assumption) (by assumption) (by assumption) (by assumption) (by assumption) | exact dR_wd (rK_dr (by assumption) (by assumption)) (by assumption) (by assumption) (by assumption) | exact dR_fi (rK_dr (by assumption) (by assumption))) (fun v => ?_)
    | refine T_do (by first | assumption | exact rK_dr (by assumption) (by assumption) | exact rK_rc (by assumption) _ (by decide) | exact dR_ep | exact dR_i (by assumption) (by assumption) | exact dR_mk (by assumption) (by assumption) (by assumption) (by assumption) (by assumption) | exact dR_wd (rK_dr (by assumption) (by assumption)) (by assumption) (by assumption) (by assumption) | exact dR_fi (rK_dr (by assumption) (by assumption))) (by first | assumption | exact rK_dr (by assumption) (by assumption) | exact rK_rc (by assumption) _ (by decide) | exact dR_ep | exact dR_i (by assumption) (by assumption) | exact dR_mk (by assumption) (by assumption) (by assumption) (by assumption) (by assumption) | exact dR_wd (rK_dr (by assumption) (by assumption)) (by assumption) (by assumption) (by assumption) | exact dR_fi (rK_dr (by assumption) (by assumption))) (fun v => ?_)
    | refine T_wh (by first | assumption | exact rK_dr (by assumption) (by assumption) | exact rK_rc (by assumption) _ (by decide) | exact dR_ep | exact dR_i (by assumption) (by assumption) | exact dR_mk (by assumption) (by assumption) (by assumption) (by assumption) (by assumption) | exact dR_wd (rK_dr (by assumption) (by assumption)) (by assumption) (by assumption) (by assumption) | exact dR_fi (rK_dr (by assumption) (by assumption))) (by first | assumption | exact rK_dr (by assumption) (by assumption) | exact rK_rc (by assumption) _ (by decide) | exact dR_ep | exact dR_i (by assumption) (by assumption) | exact dR_mk (by assumption) (by assumption) (by assumption) (by assumption) (by assumption) | exact dR_wd (rK_dr (by assumption) (by assumption)) (by assumption) (by assumption) (by assumption) | exact dR_fi (rK_dr (by assumption) (by assumption))) (by first | assumption | exact u_06 (by assumption) | exact u_c (by decide) | simp) (fun v => ?_)
    | refine T_cp (fun v => ?_)
    | refine T_lk (fun v => ?_)
    | refine T_fo (by first | assumption | exact rK_dv (by assumption) (by assumption) | exact rK_dc (by assumption) _ (by decide) | exact dR_v (by assumption)) (fun v => ?_)
    | refine T_tx (by first | assumption | exact rK_dr (by assumption) (by assumption) | exact rK_rc (by assumption) _ (by decide) | exact dR_ep | exact dR_i (by assumption) (by assumption) | exact dR_mk (by assumption) (by assumption) (by assumption) (by assumption) (by assumption) | exact dR_wd (rK_dr (by assumption) (by assumption)) (by assumption) (by assumption) (by assumption) | exact dR_fi (rK_dr (by assumption) (by assumption))) (fun v => ?_)
    | refine T_ad (by first | assumption | exact rK_dr (by assumption) (by assumption) | exact rK_rc (by assumption) _ (by decide) | exact dR_ep | exact dR_i (by assumption) (by assumption) | exact dR_mk (by assumption) (by assumption) (by assumption) (by assumption) (by assumption) | exact dR_wd (rK_dr (by assumption) (by assumption)) (by assumption) (by assumption) (by assumption) | exact dR_fi (rK_dr (by assumption) (by assumption))) (fun v => ?_)
    | refine T_on (by assumption) (fun e he => ?_)
    | refine T_oy (by first | exact ny_F (by assumption) | exact dR_y (rK_dr (by assumption) (by assumption))) (by assumption) (by assumption) (fun e he => ?_)
    | refine T_i (fun h => ?_) (fun h => ?_))
set_option maxHeartbeats 4000000 in
theorem t_apart {kn : Int32} (p0 : Int32) (p1 : Int32) (p2 : Int32) (z : MS) (hz : rK kn z) : T (fun r => rK kn r.2) (o_X3_apart p0 p1 p2 z) := by
  unfold o_X3_apart
  with_reducible repeat' (first
    | exact T_s (by assumption)
    | (refine T_fl (by assumption) (fun ha hb hc w hw _ => ?_) (fun w hw => T_in one_ne (T_s hw)); first | exact absurd ha (by decide) | exact absurd hb (by decide) | exact absurd hc (by decide) | refine T_ip rfl ?_)
    | (refine T_an (by assumption) (fun ha hb w hw => T_ip rfl ?_) (fun w hw => T_in one_ne (T_s hw)))
    | refine T_g6 (by assumption) ?_
    | refine T_g2 (by assumption) ?_
    | refine T_g3 (by assumption) ?_
    | refine T_gi (by assumption) (by assumption) (by first | assumption | exact rK_dr (by assumption) (by assumption) | exact rK_rc (by assumption) _ (by decide) | exact dR_ep | exact dR_i (by assumption) (by assumption) | exact dR_mk (by assumption) (by assumption) (by assumption) (by assumption) (by assumption) | exact dR_wd (rK_dr (by assumption) (by assumption)) (by assumption) (by assumption) (by assumption) | exact dR_fi (rK_dr (by assumption) (by assumption))) (fun v w hw => T_s hw)
    | refine T_te (by assumption) (by assumption) (fun v w hw => T_s hw)
    | refine T_nu (by first | assumption | exact rK_dv (by assumption) (by assumption) | exact rK_dc (by assumption) _ (by decide) | exact dR_v (by assumption)) (fun v => ?_)
    | refine T_iy (by first | assumption | exact rK_dv (by assumption) (by assumption) | exact rK_dc (by assumption) _ (by decide) | exact dR_v (by assumption)) (fun v => ?_)
    | refine T_lm (by assumption) (fun v hv => ?_)
    | refine T_lo (by first | assumption | exact rK_dv (by assumption) (by assumption) | exact rK_dc (by assumption) _ (by decide) | exact dR_v (by assumption)) (fun v hv => ?_)
    | refine T_id (fun h => T_in one_ne ?_) (T_ip rfl ?_)
    | refine T_dn (T_ip rfl ?_)
    | refine T_en ?_
    | refine T_es ?_
    | refine T_nr (by first | exact ny_F (by assumption) | exact dR_y (rK_dr (by assumption) (by assumption))) (by first | exact i2_12 (by assumption) | exact dV_m (rK_dv (by assumption) (by assumption))) (by first | decide | exact dV_d (rK_dv (by assumption) (by assumption))) (fun e he => ?_)
    | refine T_la (by first | assumption | exact rK_dv (by assumption) (by assumption) | exact rK_dc (by assumption) _ (by decide) | exact dR_v (by assumption)) (sp_b _ _ (by first | assumption | exact Or.inl rfl | exact Or.inr rfl)) ?_ (fun e he => ?_)
    | refine T_ld (by first | assumption | exact rK_dv (by assumption) (by assumption) | exact rK_dc (by assumption) _ (by decide) | exact dR_v (by assumption)) (sd_b _ (by first | assumption | exact Or.inl rfl | exact Or.inr rfl)) ?_ (fun e he => ?_)
    | refine T_mv (by first | assumption | exact u_06 (by assumption) | exact u_c (by decide) | simp) (by first | assumption | exact rK_dv (by assumption) (by assumption) | exact rK_dc (by assumption) _ (by decide) | exact dR_v (by assumption)) (by first | exact pos_b (i2_m (by assumption)) | exact neg_b (i2_m (by assumption))) ?_ (fun e he => ?_)
    | refine T_ah (fun v => ?_)
    | refine T_mo (by first | assumption | exact rK_dr (by assumption) (by assumption) | exact rK_rc (by assumption) _ (by decide) | exact dR_ep | exact dR_i (by assumption) (by assumption) | exact dR_mk (by assumption) (by assumption) (by assumption) (by assumption) (by assumption) | exact dR_wd (rK_dr (by assumption) (by assumption)) (by assumption) (by assumption) (by assumption) | exact dR_fi (rK_dr (by assumption) (by assumption))) (by first | assumption | exact rK_dr (by assumption) (by assumption) | exact rK_rc (by assumption) _ (by decide) | exact dR_ep | exact dR_i (by assumption) (by assumption) | exact dR_mk (by assumption) (by assumption) (by assumption) (by assumption) (by assumption) | exact dR_wd (rK_dr (by assumption) (by assumption)) (by assumption) (by assumption) (by assumption) | exact dR_fi (rK_dr (by assumption) (by assumption))) (fun v => ?_)
    | refine T_do (by first | assumption | exact rK_dr (by assumption) (by assumption) | exact rK_rc (by assumption) _ (by decide) | exact dR_ep | exact dR_i (by assumption) (by assumption) | exact dR_mk (by assumption) (by assumption) (by assumption) (by assumption) (by assumption) | exact dR_wd (rK_dr (by assumption) (by assumption)) (by assumption) (by assumption) (by assumption) | exact dR_fi (rK_dr (by assumption) (by assumption))) (by first | assumption | exact rK_dr (by assumption) (by assumption) | exact rK_rc (by assumption) _ (by decide) | exact dR_ep | exact dR_i (by assumption) (by assumption) | exact dR_mk (by assumption) (by assumption) (by assumption) (by assumption) (by assumption) | exact dR_wd (rK_dr (by assumption) (by assumption)) (by assumption) (by assumption) (by assumption) | exact dR_fi (rK_dr (by assumption) (by assumption))) (fun v => ?_)
    | refine T_wh (by first | assumption | exact rK_dr (by assumption) (by assumption) | exact rK_rc (by assumption) _ (by decide) | exact dR_ep | exact dR_i (by assumption) (by assumption) | exact dR_mk (by assumption) (by assumption) (by assumption) (by assumption) (by assumption) | exact dR_wd (rK_dr (by assumption) (by assumption)) (by assumption) (by assumption) (by assumption) | exact dR_fi (rK_dr (by assumption) (by assumption))) (by first | assumption | exact rK_dr (by assumption) (by assumption) | exact rK_rc (by assumption) _ (by decide) | exact dR_ep | exact dR_i (by assumption) (by assumption) | exact dR_mk (by assumption) (by assumption) (by assumption) (by assumption) (by assumption) | exact dR_wd (rK_dr (by assumption) (by assumption)) (by assumption) (by assumption) (by assumption) | exact dR_fi (rK_dr (by assumption) (by assumption))) (by first | assumption | exact u_06 (by assumption) | exact u_c (by decide) | simp) (fun v => ?_)
    | refine T_cp (fun v => ?_)
    | refine T_lk (fun v => ?_)
    | refine T_fo (by first | assumption | exact rK_dv (by assumption) (by assumption) | exact rK_dc (by assumption) _ (by decide) | exact dR_v (by assumption)) (fun v => ?_)
    | refine T_tx (by first | assumption | exact rK_dr (by assumption) (by assumption) | exact rK_rc (by assumption) _ (by decide) | exact dR_ep | exact dR_i (by assumption) (by assumption) | exact dR_mk (by assumption) (by assumption) (by assumption) (by assumption) (by assumption) | exact dR_wd (rK_dr (by assumption) (by assumption)) (by assumption) (by assumption) (by assumption) | exact dR_fi (rK_dr (by assumption) (by assumption))) (fun v => ?_)
    | refine T_ad (by first | assumption | exact rK_dr (by assumption) (by assumption) | exact rK_rc (by assumption) _ (by decide) | exact dR_ep | exact dR_i (by assumption) (by assumption) | exact dR_mk (by assumption) (by assumption) (by assumption) (by assumption) (by assumption) | exact dR_wd (rK_dr (by assumption) (by assumption)) (by assumption) (by assumption) (by assumption) | exact dR_fi (rK_dr (by assumption) (by assumption))) (fun v => ?_)
    | refine T_on (by assumption) (fun e he => ?_)
    | refine T_oy (by first | exact ny_F (by assumption) | exact dR_y (rK_dr (by assumption) (by assumption))) (by assumption) (by assumption) (fun e he => ?_)
    | refine T_i (fun h => ?_) (fun h => ?_))
set_option maxHeartbeats 4000000 in
theorem t_daysToYearEnd {kn : Int32} (p0 : Int32) (z : MS) (hz : rK kn z) : T (fun r => rK kn r.2) (o_X3_daysToYearEnd p0 z) := by
  unfold o_X3_daysToYearEnd
  with_reducible repeat' (first
    | exact T_s (by assumption)
    | (refine T_fl (by assumption) (fun ha hb hc w hw _ => ?_) (fun w hw => T_in one_ne (T_s hw)); first | exact absurd ha (by decide) | exact absurd hb (by decide) | exact absurd hc (by decide) | refine T_ip rfl ?_)
    | (refine T_an (by assumption) (fun ha hb w hw => T_ip rfl ?_) (fun w hw => T_in one_ne (T_s hw)))
    | refine T_g6 (by assumption) ?_
    | refine T_g2 (by assumption) ?_
    | refine T_g3 (by assumption) ?_
    | refine T_gi (by assumption) (by assumption) (by first | assumption | exact rK_dr (by assumption) (by assumption) | exact rK_rc (by assumption) _ (by decide) | exact dR_ep | exact dR_i (by assumption) (by assumption) | exact dR_mk (by assumption) (by assumption) (by assumption) (by assumption) (by assumption) | exact dR_wd (rK_dr (by assumption) (by assumption)) (by assumption) (by assumption) (by assumption) | exact dR_fi (rK_dr (by assumption) (by assumption))) (fun v w hw => T_s hw)
    | refine T_te (by assumption) (by assumption) (fun v w hw => T_s hw)
    | refine T_nu (by first | assumption | exact rK_dv (by assumption) (by assumption) | exact rK_dc (by assumption) _ (by decide) | exact dR_v (by assumption)) (fun v => ?_)
    | refine T_iy (by first | assumption | exact rK_dv (by assumption) (by assumption) | exact rK_dc (by assumption) _ (by decide) | exact dR_v (by assumption)) (fun v => ?_)
    | refine T_lm (by assumption) (fun v hv => ?_)
    | refine T_lo (by first | assumption | exact rK_dv (by assumption) (by assumption) | exact rK_dc (by assumption) _ (by decide) | exact dR_v (by assumption)) (fun v hv => ?_)
    | refine T_id (fun h => T_in one_ne ?_) (T_ip rfl ?_)
    | refine T_dn (T_ip rfl ?_)
    | refine T_en ?_
    | refine T_es ?_
    | refine T_nr (by first | exact ny_F (by assumption) | exact dR_y (rK_dr (by assumption) (by assumption))) (by first | exact i2_12 (by assumption) | exact dV_m (rK_dv (by assumption) (by assumption))) (by first | decide | exact dV_d (rK_dv (by assumption) (by assumption))) (fun e he => ?_)
    | refine T_la (by first | assumption | exact rK_dv (by assumption) (by assumption) | exact rK_dc (by assumption) _ (by decide) | exact dR_v (by assumption)) (sp_b _ _ (by first | assumption | exact Or.inl rfl | exact Or.inr rfl)) ?_ (fun e he => ?_)
    | refine T_ld (by first | assumption | exact rK_dv (by assumption) (by assumption) | exact rK_dc (by assumption) _ (by decide) | exact dR_v (by assumption)) (sd_b _ (by first | assumption | exact Or.inl rfl | exact Or.inr rfl)) ?_ (fun e he => ?_)
    | refine T_mv (by first | assumption | exact u_06 (by assumption) | exact u_c (by decide) | simp) (by first | assumption | exact rK_dv (by assumption) (by assumption) | exact rK_dc (by assumption) _ (by decide) | exact dR_v (by assumption)) (by first | exact pos_b (i2_m (by assumption)) | exact neg_b (i2_m (by assumption))) ?_ (fun e he => ?_)
    | refine T_ah (fun v => ?_)
    | refine T_mo (by first | assumption | exact rK_dr (by assumption) (by assumption) | exact rK_rc (by assumption) _ (by decide) | exact dR_ep | exact dR_i (by assumption) (by assumption) | exact dR_mk (by assumption) (by assumption) (by assumption) (by assumption) (by assumption) | exact dR_wd (rK_dr (by assumption) (by assumption)) (by assumption) (by assumption) (by assumption) | exact dR_fi (rK_dr (by assumption) (by assumption))) (by first | assumption | exact rK_dr (by assumption) (by assumption) | exact rK_rc (by assumption) _ (by decide) | exact dR_ep | exact dR_i (by assumption) (by assumption) | exact dR_mk (by assumption) (by assumption) (by assumption) (by assumption) (by assumption) | exact dR_wd (rK_dr (by assumption) (by assumption)) (by assumption) (by assumption) (by assumption) | exact dR_fi (rK_dr (by assumption) (by assumption))) (fun v => ?_)
    | refine T_do (by first | assumption | exact rK_dr (by assumption) (by assumption) | exact rK_rc (by assumption) _ (by decide) | exact dR_ep | exact dR_i (by assumption) (by assumption) | exact dR_mk (by assumption) (by assumption) (by assumption) (by assumption) (by assumption) | exact dR_wd (rK_dr (by assumption) (by assumption)) (by assumption) (by assumption) (by assumption) | exact dR_fi (rK_dr (by assumption) (by assumption))) (by first | assumption | exact rK_dr (by assumption) (by assumption) | exact rK_rc (by assumption) _ (by decide) | exact dR_ep | exact dR_i (by assumption) (by assumption) | exact dR_mk (by assumption) (by assumption) (by assumption) (by assumption) (by assumption) | exact dR_wd (rK_dr (by assumption) (by assumption)) (by assumption) (by assumption) (by assumption) | exact dR_fi (rK_dr (by assumption) (by assumption))) (fun v => ?_)
    | refine T_wh (by first | assumption | exact rK_dr (by assumption) (by assumption) | exact rK_rc (by assumption) _ (by decide) | exact dR_ep | exact dR_i (by assumption) (by assumption) | exact dR_mk (by assumption) (by assumption) (by assumption) (by assumption) (by assumption) | exact dR_wd (rK_dr (by assumption) (by assumption)) (by assumption) (by assumption) (by assumption) | exact dR_fi (rK_dr (by assumption) (by assumption))) (by first | assumption | exact rK_dr (by assumption) (by assumption) | exact rK_rc (by assumption) _ (by decide) | exact dR_ep | exact dR_i (by assumption) (by assumption) | exact dR_mk (by assumption) (by assumption) (by assumption) (by assumption) (by assumption) | exact dR_wd (rK_dr (by assumption) (by assumption)) (by assumption) (by assumption) (by assumption) | exact dR_fi (rK_dr (by assumption) (by assumption))) (by first | assumption | exact u_06 (by assumption) | exact u_c (by decide) | simp) (fun v => ?_)
    | refine T_cp (fun v => ?_)
    | refine T_lk (fun v => ?_)
    | refine T_fo (by first | assumption | exact rK_dv (by assumption) (by assumption) | exact rK_dc (by assumption) _ (by decide) | exact dR_v (by assumption)) (fun v => ?_)
    | refine T_tx (by first | assumption | exact rK_dr (by assumption) (by assumption) | exact rK_rc (by assumption) _ (by decide) | exact dR_ep | exact dR_i (by assumption) (by assumption) | exact dR_mk (by assumption) (by assumption) (by assumption) (by assumption) (by assumption) | exact dR_wd (rK_dr (by assumption) (by assumption)) (by assumption) (by assumption) (by assumption) | exact dR_fi (rK_dr (by assumption) (by assumption))) (fun v => ?_)
    | refine T_ad (by first | assumption | exact rK_dr (by assumption) (by assumption) | exact rK_rc (by assumption) _ (by decide) | exact dR_ep | exact dR_i (by assumption) (by assumption) | exact dR_mk (by assumption) (by assumption) (by assumption) (by assumption) (by assumption) | exact dR_wd (rK_dr (by assumption) (by assumption)) (by assumption) (by assumption) (by assumption) | exact dR_fi (rK_dr (by assumption) (by assumption))) (fun v => ?_)
    | refine T_on (by assumption) (fun e he => ?_)
    | refine T_oy (by first | exact ny_F (by assumption) | exact dR_y (rK_dr (by assumption) (by assumption))) (by assumption) (by assumption) (fun e he => ?_)
    | refine T_i (fun h => ?_) (fun h => ?_))
set_option maxHeartbeats 4000000 in
theorem t_sameDay {kn : Int32} (p0 : Int32) (p1 : Int32) (z : MS) (hz : rK kn z) : T (fun r => rK kn r.2) (o_X3_sameDay p0 p1 z) := by
  unfold o_X3_sameDay
  with_reducible repeat' (first
    | exact T_s (by assumption)
    | (refine T_fl (by assumption) (fun ha hb hc w hw _ => ?_) (fun w hw => T_in one_ne (T_s hw)); first | exact absurd ha (by decide) | exact absurd hb (by decide) | exact absurd hc (by decide) | refine T_ip rfl ?_)
    | (refine T_an (by assumption) (fun ha hb w hw => T_ip rfl ?_) (fun w hw => T_in one_ne (T_s hw)))
    | refine T_g6 (by assumption) ?_
    | refine T_g2 (by assumption) ?_
    | refine T_g3 (by assumption) ?_
    | refine T_gi (by assumption) (by assumption) (by first | assumption | exact rK_dr (by assumption) (by assumption) | exact rK_rc (by assumption) _ (by decide) | exact dR_ep | exact dR_i (by assumption) (by assumption) | exact dR_mk (by assumption) (by assumption) (by assumption) (by assumption) (by assumption) | exact dR_wd (rK_dr (by assumption) (by assumption)) (by assumption) (by assumption) (by assumption) | exact dR_fi (rK_dr (by assumption) (by assumption))) (fun v w hw => T_s hw)
    | refine T_te (by assumption) (by assumption) (fun v w hw => T_s hw)
    | refine T_nu (by first | assumption | exact rK_dv (by assumption) (by assumption) | exact rK_dc (by assumption) _ (by decide) | exact dR_v (by assumption)) (fun v => ?_)
    | refine T_iy (by first | assumption | exact rK_dv (by assumption) (by assumption) | exact rK_dc (by assumption) _ (by decide) | exact dR_v (by assumption)) (fun v => ?_)
    | refine T_lm (by assumption) (fun v hv => ?_)
    | refine T_lo (by first | assumption | exact rK_dv (by assumption) (by assumption) | exact rK_dc (by assumption) _ (by decide) | exact dR_v (by assumption)) (fun v hv => ?_)
    | refine T_id (fun h => T_in one_ne ?_) (T_ip rfl ?_)
    | refine T_dn (T_ip rfl ?_)
    | refine T_en ?_
    | refine T_es ?_
    | refine T_nr (by first | exact ny_F (by assumption) | exact dR_y (rK_dr (by assumption) (by assumption))) (by first | exact i2_12 (by assumption) | exact dV_m (rK_dv (by assumption) (by assumption))) (by first | decide | exact dV_d (rK_dv (by assumption) (by assumption))) (fun e he => ?_)
    | refine T_la (by first | assumption | exact rK_dv (by assumption) (by assumption) | exact rK_dc (by assumption) _ (by decide) | exact dR_v (by assumption)) (sp_b _ _ (by first | assumption | exact Or.inl rfl | exact Or.inr rfl)) ?_ (fun e he => ?_)
    | refine T_ld (by first | assumption | exact rK_dv (by assumption) (by assumption) | exact rK_dc (by assumption) _ (by decide) | exact dR_v (by assumption)) (sd_b _ (by first | assumption | exact Or.inl rfl | exact Or.inr rfl)) ?_ (fun e he => ?_)
    | refine T_mv (by first | assumption | exact u_06 (by assumption) | exact u_c (by decide) | simp) (by first | assumption | exact rK_dv (by assumption) (by assumption) | exact rK_dc (by assumption) _ (by decide) | exact dR_v (by assumption)) (by first | exact pos_b (i2_m (by assumption)) | exact neg_b (i2_m (by assumption))) ?_ (fun e he => ?_)
    | refine T_ah (fun v => ?_)
    | refine T_mo (by first | assumption | exact rK_dr (by assumption) (by assumption) | exact rK_rc (by assumption) _ (by decide) | exact dR_ep | exact dR_i (by assumption) (by assumption) | exact dR_mk (by assumption) (by assumption) (by assumption) (by assumption) (by assumption) | exact dR_wd (rK_dr (by assumption) (by assumption)) (by assumption) (by assumption) (by assumption) | exact dR_fi (rK_dr (by assumption) (by assumption))) (by first | assumption | exact rK_dr (by assumption) (by assumption) | exact rK_rc (by assumption) _ (by decide) | exact dR_ep | exact dR_i (by assumption) (by assumption) | exact dR_mk (by assumption) (by assumption) (by assumption) (by assumption) (by assumption) | exact dR_wd (rK_dr (by assumption) (by assumption)) (by assumption) (by assumption) (by assumption) | exact dR_fi (rK_dr (by assumption) (by assumption))) (fun v => ?_)
    | refine T_do (by first | assumption | exact rK_dr (by assumption) (by assumption) | exact rK_rc (by assumption) _ (by decide) | exact dR_ep | exact dR_i (by assumption) (by assumption) | exact dR_mk (by assumption) (by assumption) (by assumption) (by assumption) (by assumption) | exact dR_wd (rK_dr (by assumption) (by assumption)) (by assumption) (by assumption) (by assumption) | exact dR_fi (rK_dr (by assumption) (by assumption))) (by first | assumption | exact rK_dr (by assumption) (by assumption) | exact rK_rc (by assumption) _ (by decide) | exact dR_ep | exact dR_i (by assumption) (by assumption) | exact dR_mk (by assumption) (by assumption) (by assumption) (by assumption) (by assumption) | exact dR_wd (rK_dr (by assumption) (by assumption)) (by assumption) (by assumption) (by assumption) | exact dR_fi (rK_dr (by assumption) (by assumption))) (fun v => ?_)
    | refine T_wh (by first | assumption | exact rK_dr (by assumption) (by assumption) | exact rK_rc (by assumption) _ (by decide) | exact dR_ep | exact dR_i (by assumption) (by assumption) | exact dR_mk (by assumption) (by assumption) (by assumption) (by assumption) (by assumption) | exact dR_wd (rK_dr (by assumption) (by assumption)) (by assumption) (by assumption) (by assumption) | exact dR_fi (rK_dr (by assumption) (by assumption))) (by first | assumption | exact rK_dr (by assumption) (by assumption) | exact rK_rc (by assumption) _ (by decide) | exact dR_ep | exact dR_i (by assumption) (by assumption) | exact dR_mk (by assumption) (by assumption) (by assumption) (by assumption) (by assumption) | exact dR_wd (rK_dr (by assumption) (by assumption)) (by assumption) (by assumption) (by assumption) | exact dR_fi (rK_dr (by assumption) (by assumption))) (by first | assumption | exact u_06 (by assumption) | exact u_c (by decide) | simp) (fun v => ?_)
    | refine T_cp (fun v => ?_)
    | refine T_lk (fun v => ?_)
    | refine T_fo (by first | assumption | exact rK_dv (by assumption) (by assumption) | exact rK_dc (by assumption) _ (by decide) | exact dR_v (by assumption)) (fun v => ?_)
    | refine T_tx (by first | assumption | exact rK_dr (by assumption) (by assumption) | exact rK_rc (by assumption) _ (by decide) | exact dR_ep | exact dR_i (by assumption) (by assumption) | exact dR_mk (by assumption) (by assumption) (by assumption) (by assumption) (by assumption) | exact dR_wd (rK_dr (by assumption) (by assumption)) (by assumption) (by assumption) (by assumption) | exact dR_fi (rK_dr (by assumption) (by assumption))) (fun v => ?_)
    | refine T_ad (by first | assumption | exact rK_dr (by assumption) (by assumption) | exact rK_rc (by assumption) _ (by decide) | exact dR_ep | exact dR_i (by assumption) (by assumption) | exact dR_mk (by assumption) (by assumption) (by assumption) (by assumption) (by assumption) | exact dR_wd (rK_dr (by assumption) (by assumption)) (by assumption) (by assumption) (by assumption) | exact dR_fi (rK_dr (by assumption) (by assumption))) (fun v => ?_)
    | refine T_on (by assumption) (fun e he => ?_)
    | refine T_oy (by first | exact ny_F (by assumption) | exact dR_y (rK_dr (by assumption) (by assumption))) (by assumption) (by assumption) (fun e he => ?_)
    | refine T_i (fun h => ?_) (fun h => ?_))
set_option maxHeartbeats 4000000 in
theorem t_houseNow {kn : Int32} (p0 : Int32) (z : MS) (hz : rK kn z) : T (fun r => rK kn r.2) (o_X3_houseNow p0 z) := by
  unfold o_X3_houseNow
  with_reducible repeat' (first
    | exact T_s (by assumption)
    | (refine T_fl (by assumption) (fun ha hb hc w hw _ => ?_) (fun w hw => T_in one_ne (T_s hw)); first | exact absurd ha (by decide) | exact absurd hb (by decide) | exact absurd hc (by decide) | refine T_ip rfl ?_)
    | (refine T_an (by assumption) (fun ha hb w hw => T_ip rfl ?_) (fun w hw => T_in one_ne (T_s hw)))
    | refine T_g6 (by assumption) ?_
    | refine T_g2 (by assumption) ?_
    | refine T_g3 (by assumption) ?_
    | refine T_gi (by assumption) (by assumption) (by first | assumption | exact rK_dr (by assumption) (by assumption) | exact rK_rc (by assumption) _ (by decide) | exact dR_ep | exact dR_i (by assumption) (by assumption) | exact dR_mk (by assumption) (by assumption) (by assumption) (by assumption) (by assumption) | exact dR_wd (rK_dr (by assumption) (by assumption)) (by assumption) (by assumption) (by assumption) | exact dR_fi (rK_dr (by assumption) (by assumption))) (fun v w hw => T_s hw)
    | refine T_te (by assumption) (by assumption) (fun v w hw => T_s hw)
    | refine T_nu (by first | assumption | exact rK_dv (by assumption) (by assumption) | exact rK_dc (by assumption) _ (by decide) | exact dR_v (by assumption)) (fun v => ?_)
    | refine T_iy (by first | assumption | exact rK_dv (by assumption) (by assumption) | exact rK_dc (by assumption) _ (by decide) | exact dR_v (by assumption)) (fun v => ?_)
    | refine T_lm (by assumption) (fun v hv => ?_)
    | refine T_lo (by first | assumption | exact rK_dv (by assumption) (by assumption) | exact rK_dc (by assumption) _ (by decide) | exact dR_v (by assumption)) (fun v hv => ?_)
    | refine T_id (fun h => T_in one_ne ?_) (T_ip rfl ?_)
    | refine T_dn (T_ip rfl ?_)
    | refine T_en ?_
    | refine T_es ?_
    | refine T_nr (by first | exact ny_F (by assumption) | exact dR_y (rK_dr (by assumption) (by assumption))) (by first | exact i2_12 (by assumption) | exact dV_m (rK_dv (by assumption) (by assumption))) (by first | decide | exact dV_d (rK_dv (by assumption) (by assumption))) (fun e he => ?_)
    | refine T_la (by first | assumption | exact rK_dv (by assumption) (by assumption) | exact rK_dc (by assumption) _ (by decide) | exact dR_v (by assumption)) (sp_b _ _ (by first | assumption | exact Or.inl rfl | exact Or.inr rfl)) ?_ (fun e he => ?_)
    | refine T_ld (by first | assumption | exact rK_dv (by assumption) (by assumption) | exact rK_dc (by assumption) _ (by decide) | exact dR_v (by assumption)) (sd_b _ (by first | assumption | exact Or.inl rfl | exact Or.inr rfl)) ?_ (fun e he => ?_)
    | refine T_mv (by first | assumption | exact u_06 (by assumption) | exact u_c (by decide) | simp) (by first | assumption | exact rK_dv (by assumption) (by assumption) | exact rK_dc (by assumption) _ (by decide) | exact dR_v (by assumption)) (by first | exact pos_b (i2_m (by assumption)) | exact neg_b (i2_m (by assumption))) ?_ (fun e he => ?_)
    | refine T_ah (fun v => ?_)
    | refine T_mo (by first | assumption | exact rK_dr (by assumption) (by assumption) | exact rK_rc (by assumption) _ (by decide) | exact dR_ep | exact dR_i (by assumption) (by assumption) | exact dR_mk (by assumption) (by assumption) (by assumption) (by assumption) (by assumption) | exact dR_wd (rK_dr (by assumption) (by assumption)) (by assumption) (by assumption) (by assumption) | exact dR_fi (rK_dr (by assumption) (by assumption))) (by first | assumption | exact rK_dr (by assumption) (by assumption) | exact rK_rc (by assumption) _ (by decide) | exact dR_ep | exact dR_i (by assumption) (by assumption) | exact dR_mk (by assumption) (by assumption) (by assumption) (by assumption) (by assumption) | exact dR_wd (rK_dr (by assumption) (by assumption)) (by assumption) (by assumption) (by assumption) | exact dR_fi (rK_dr (by assumption) (by assumption))) (fun v => ?_)
    | refine T_do (by first | assumption | exact rK_dr (by assumption) (by assumption) | exact rK_rc (by assumption) _ (by decide) | exact dR_ep | exact dR_i (by assumption) (by assumption) | exact dR_mk (by assumption) (by assumption) (by assumption) (by assumption) (by assumption) | exact dR_wd (rK_dr (by assumption) (by assumption)) (by assumption) (by assumption) (by assumption) | exact dR_fi (rK_dr (by assumption) (by assumption))) (by first | assumption | exact rK_dr (by assumption) (by assumption) | exact rK_rc (by assumption) _ (by decide) | exact dR_ep | exact dR_i (by assumption) (by assumption) | exact dR_mk (by assumption) (by assumption) (by assumption) (by assumption) (by assumption) | exact dR_wd (rK_dr (by assumption) (by assumption)) (by assumption) (by assumption) (by assumption) | exact dR_fi (rK_dr (by assumption) (by assumption))) (fun v => ?_)
    | refine T_wh (by first | assumption | exact rK_dr (by assumption) (by assumption) | exact rK_rc (by assumption) _ (by decide) | exact dR_ep | exact dR_i (by assumption) (by assumption) | exact dR_mk (by assumption) (by assumption) (by assumption) (by assumption) (by assumption) | exact dR_wd (rK_dr (by assumption) (by assumption)) (by assumption) (by assumption) (by assumption) | exact dR_fi (rK_dr (by assumption) (by assumption))) (by first | assumption | exact rK_dr (by assumption) (by assumption) | exact rK_rc (by assumption) _ (by decide) | exact dR_ep | exact dR_i (by assumption) (by assumption) | exact dR_mk (by assumption) (by assumption) (by assumption) (by assumption) (by assumption) | exact dR_wd (rK_dr (by assumption) (by assumption)) (by assumption) (by assumption) (by assumption) | exact dR_fi (rK_dr (by assumption) (by assumption))) (by first | assumption | exact u_06 (by assumption) | exact u_c (by decide) | simp) (fun v => ?_)
    | refine T_cp (fun v => ?_)
    | refine T_lk (fun v => ?_)
    | refine T_fo (by first | assumption | exact rK_dv (by assumption) (by assumption) | exact rK_dc (by assumption) _ (by decide) | exact dR_v (by assumption)) (fun v => ?_)
    | refine T_tx (by first | assumption | exact rK_dr (by assumption) (by assumption) | exact rK_rc (by assumption) _ (by decide) | exact dR_ep | exact dR_i (by assumption) (by assumption) | exact dR_mk (by assumption) (by assumption) (by assumption) (by assumption) (by assumption) | exact dR_wd (rK_dr (by assumption) (by assumption)) (by assumption) (by assumption) (by assumption) | exact dR_fi (rK_dr (by assumption) (by assumption))) (fun v => ?_)
    | refine T_ad (by first | assumption | exact rK_dr (by assumption) (by assumption) | exact rK_rc (by assumption) _ (by decide) | exact dR_ep | exact dR_i (by assumption) (by assumption) | exact dR_mk (by assumption) (by assumption) (by assumption) (by assumption) (by assumption) | exact dR_wd (rK_dr (by assumption) (by assumption)) (by assumption) (by assumption) (by assumption) | exact dR_fi (rK_dr (by assumption) (by assumption))) (fun v => ?_)
    | refine T_on (by assumption) (fun e he => ?_)
    | refine T_oy (by first | exact ny_F (by assumption) | exact dR_y (rK_dr (by assumption) (by assumption))) (by assumption) (by assumption) (fun e he => ?_)
    | refine T_i (fun h => ?_) (fun h => ?_))
set_option maxHeartbeats 4000000 in
theorem t_house {kn : Int32} (p0 : Int32) (z : MS) (hz : rK kn z) : T (fun r => rK kn r.2) (o_X3_house p0 z) := by
  unfold o_X3_house
  with_reducible repeat' (first
    | exact T_s (by assumption)
    | (refine T_fl (by assumption) (fun ha hb hc w hw _ => ?_) (fun w hw => T_in one_ne (T_s hw)); first | exact absurd ha (by decide) | exact absurd hb (by decide) | exact absurd hc (by decide) | refine T_ip rfl ?_)
    | (refine T_an (by assumption) (fun ha hb w hw => T_ip rfl ?_) (fun w hw => T_in one_ne (T_s hw)))
    | refine T_g6 (by assumption) ?_
    | refine T_g2 (by assumption) ?_
    | refine T_g3 (by assumption) ?_
    | refine T_gi (by assumption) (by assumption) (by first | assumption | exact rK_dr (by assumption) (by assumption) | exact rK_rc (by assumption) _ (by decide) | exact dR_ep | exact dR_i (by assumption) (by assumption) | exact dR_mk (by assumption) (by assumption) (by assumption) (by assumption) (by assumption) | exact dR_wd (rK_dr (by assumption) (by assumption)) (by assumption) (by assumption) (by assumption) | exact dR_fi (rK_dr (by assumption) (by assumption))) (fun v w hw => T_s hw)
    | refine T_te (by assumption) (by assumption) (fun v w hw => T_s hw)
    | refine T_nu (by first | assumption | exact rK_dv (by assumption) (by assumption) | exact rK_dc (by assumption) _ (by decide) | exact dR_v (by assumption)) (fun v => ?_)
    | refine T_iy (by first | assumption | exact rK_dv (by assumption) (by assumption) | exact rK_dc (by assumption) _ (by decide) | exact dR_v (by assumption)) (fun v => ?_)
    | refine T_lm (by assumption) (fun v hv => ?_)
    | refine T_lo (by first | assumption | exact rK_dv (by assumption) (by assumption) | exact rK_dc (by assumption) _ (by decide) | exact dR_v (by assumption)) (fun v hv => ?_)
    | refine T_id (fun h => T_in one_ne ?_) (T_ip rfl ?_)
    | refine T_dn (T_ip rfl ?_)
    | refine T_en ?_
    | refine T_es ?_
    | refine T_nr (by first | exact ny_F (by assumption) | exact dR_y (rK_dr (by assumption) (by assumption))) (by first | exact i2_12 (by assumption) | exact dV_m (rK_dv (by assumption) (by assumption))) (by first | decide | exact dV_d (rK_dv (by assumption) (by assumption))) (fun e he => ?_)
    | refine T_la (by first | assumption | exact rK_dv (by assumption) (by assumption) | exact rK_dc (by assumption) _ (by decide) | exact dR_v (by assumption)) (sp_b _ _ (by first | assumption | exact Or.inl rfl | exact Or.inr rfl)) ?_ (fun e he => ?_)
    | refine T_ld (by first | assumption | exact rK_dv (by assumption) (by assumption) | exact rK_dc (by assumption) _ (by decide) | exact dR_v (by assumption)) (sd_b _ (by first | assumption | exact Or.inl rfl | exact Or.inr rfl)) ?_ (fun e he => ?_)
    | refine T_mv (by first | assumption | exact u_06 (by assumption) | exact u_c (by decide) | simp) (by first | assumption | exact rK_dv (by assumption) (by assumption) | exact rK_dc (by assumption) _ (by decide) | exact dR_v (by assumption)) (by first | exact pos_b (i2_m (by assumption)) | exact neg_b (i2_m (by assumption))) ?_ (fun e he => ?_)
    | refine T_ah (fun v => ?_)
    | refine T_mo (by first | assumption | exact rK_dr (by assumption) (by assumption) | exact rK_rc (by assumption) _ (by decide) | exact dR_ep | exact dR_i (by assumption) (by assumption) | exact dR_mk (by assumption) (by assumption) (by assumption) (by assumption) (by assumption) | exact dR_wd (rK_dr (by assumption) (by assumption)) (by assumption) (by assumption) (by assumption) | exact dR_fi (rK_dr (by assumption) (by assumption))) (by first | assumption | exact rK_dr (by assumption) (by assumption) | exact rK_rc (by assumption) _ (by decide) | exact dR_ep | exact dR_i (by assumption) (by assumption) | exact dR_mk (by assumption) (by assumption) (by assumption) (by assumption) (by assumption) | exact dR_wd (rK_dr (by assumption) (by assumption)) (by assumption) (by assumption) (by assumption) | exact dR_fi (rK_dr (by assumption) (by assumption))) (fun v => ?_)
    | refine T_do (by first | assumption | exact rK_dr (by assumption) (by assumption) | exact rK_rc (by assumption) _ (by decide) | exact dR_ep | exact dR_i (by assumption) (by assumption) | exact dR_mk (by assumption) (by assumption) (by assumption) (by assumption) (by assumption) | exact dR_wd (rK_dr (by assumption) (by assumption)) (by assumption) (by assumption) (by assumption) | exact dR_fi (rK_dr (by assumption) (by assumption))) (by first | assumption | exact rK_dr (by assumption) (by assumption) | exact rK_rc (by assumption) _ (by decide) | exact dR_ep | exact dR_i (by assumption) (by assumption) | exact dR_mk (by assumption) (by assumption) (by assumption) (by assumption) (by assumption) | exact dR_wd (rK_dr (by assumption) (by assumption)) (by assumption) (by assumption) (by assumption) | exact dR_fi (rK_dr (by assumption) (by assumption))) (fun v => ?_)
    | refine T_wh (by first | assumption | exact rK_dr (by assumption) (by assumption) | exact rK_rc (by assumption) _ (by decide) | exact dR_ep | exact dR_i (by assumption) (by assumption) | exact dR_mk (by assumption) (by assumption) (by assumption) (by assumption) (by assumption) | exact dR_wd (rK_dr (by assumption) (by assumption)) (by assumption) (by assumption) (by assumption) | exact dR_fi (rK_dr (by assumption) (by assumption))) (by first | assumption | exact rK_dr (by assumption) (by assumption) | exact rK_rc (by assumption) _ (by decide) | exact dR_ep | exact dR_i (by assumption) (by assumption) | exact dR_mk (by assumption) (by assumption) (by assumption) (by assumption) (by assumption) | exact dR_wd (rK_dr (by assumption) (by assumption)) (by assumption) (by assumption) (by assumption) | exact dR_fi (rK_dr (by assumption) (by assumption))) (by first | assumption | exact u_06 (by assumption) | exact u_c (by decide) | simp) (fun v => ?_)
    | refine T_cp (fun v => ?_)
    | refine T_lk (fun v => ?_)
    | refine T_fo (by first | assumption | exact rK_dv (by assumption) (by assumption) | exact rK_dc (by assumption) _ (by decide) | exact dR_v (by assumption)) (fun v => ?_)
    | refine T_tx (by first | assumption | exact rK_dr (by assumption) (by assumption) | exact rK_rc (by assumption) _ (by decide) | exact dR_ep | exact dR_i (by assumption) (by assumption) | exact dR_mk (by assumption) (by assumption) (by assumption) (by assumption) (by assumption) | exact dR_wd (rK_dr (by assumption) (by assumption)) (by assumption) (by assumption) (by assumption) | exact dR_fi (rK_dr (by assumption) (by assumption))) (fun v => ?_)
    | refine T_ad (by first | assumption | exact rK_dr (by assumption) (by assumption) | exact rK_rc (by assumption) _ (by decide) | exact dR_ep | exact dR_i (by assumption) (by assumption) | exact dR_mk (by assumption) (by assumption) (by assumption) (by assumption) (by assumption) | exact dR_wd (rK_dr (by assumption) (by assumption)) (by assumption) (by assumption) (by assumption) | exact dR_fi (rK_dr (by assumption) (by assumption))) (fun v => ?_)
    | refine T_on (by assumption) (fun e he => ?_)
    | refine T_oy (by first | exact ny_F (by assumption) | exact dR_y (rK_dr (by assumption) (by assumption))) (by assumption) (by assumption) (fun e he => ?_)
    | exact T_b (t_houseNow _ _ (by assumption)) (fun a ha => T_s ha)
    | refine T_i (fun h => ?_) (fun h => ?_))
set_option maxHeartbeats 4000000 in
theorem t_text {kn : Int32} (p0 : Int32) (z : MS) (hz : rK kn z) : T (fun r => rK kn r.2) (o_X3_text p0 z) := by
  unfold o_X3_text
  with_reducible repeat' (first
    | exact T_s (by assumption)
    | (refine T_fl (by assumption) (fun ha hb hc w hw _ => ?_) (fun w hw => T_in one_ne (T_s hw)); first | exact absurd ha (by decide) | exact absurd hb (by decide) | exact absurd hc (by decide) | refine T_ip rfl ?_)
    | (refine T_an (by assumption) (fun ha hb w hw => T_ip rfl ?_) (fun w hw => T_in one_ne (T_s hw)))
    | refine T_g6 (by assumption) ?_
    | refine T_g2 (by assumption) ?_
    | refine T_g3 (by assumption) ?_
    | refine T_gi (by assumption) (by assumption) (by first | assumption | exact rK_dr (by assumption) (by assumption) | exact rK_rc (by assumption) _ (by decide) | exact dR_ep | exact dR_i (by assumption) (by assumption) | exact dR_mk (by assumption) (by assumption) (by assumption) (by assumption) (by assumption) | exact dR_wd (rK_dr (by assumption) (by assumption)) (by assumption) (by assumption) (by assumption) | exact dR_fi (rK_dr (by assumption) (by assumption))) (fun v w hw => T_s hw)
    | refine T_te (by assumption) (by assumption) (fun v w hw => T_s hw)
    | refine T_nu (by first | assumption | exact rK_dv (by assumption) (by assumption) | exact rK_dc (by assumption) _ (by decide) | exact dR_v (by assumption)) (fun v => ?_)
    | refine T_iy (by first | assumption | exact rK_dv (by assumption) (by assumption) | exact rK_dc (by assumption) _ (by decide) | exact dR_v (by assumption)) (fun v => ?_)
    | refine T_lm (by assumption) (fun v hv => ?_)
    | refine T_lo (by first | assumption | exact rK_dv (by assumption) (by assumption) | exact rK_dc (by assumption) _ (by decide) | exact dR_v (by assumption)) (fun v hv => ?_)
    | refine T_id (fun h => T_in one_ne ?_) (T_ip rfl ?_)
    | refine T_dn (T_ip rfl ?_)
    | refine T_en ?_
    | refine T_es ?_
    | refine T_nr (by first | exact ny_F (by assumption) | exact dR_y (rK_dr (by assumption) (by assumption))) (by first | exact i2_12 (by assumption) | exact dV_m (rK_dv (by assumption) (by assumption))) (by first | decide | exact dV_d (rK_dv (by assumption) (by assumption))) (fun e he => ?_)
    | refine T_la (by first | assumption | exact rK_dv (by assumption) (by assumption) | exact rK_dc (by assumption) _ (by decide) | exact dR_v (by assumption)) (sp_b _ _ (by first | assumption | exact Or.inl rfl | exact Or.inr rfl)) ?_ (fun e he => ?_)
    | refine T_ld (by first | assumption | exact rK_dv (by assumption) (by assumption) | exact rK_dc (by assumption) _ (by decide) | exact dR_v (by assumption)) (sd_b _ (by first | assumption | exact Or.inl rfl | exact Or.inr rfl)) ?_ (fun e he => ?_)
    | refine T_mv (by first | assumption | exact u_06 (by assumption) | exact u_c (by decide) | simp) (by first | assumption | exact rK_dv (by assumption) (by assumption) | exact rK_dc (by assumption) _ (by decide) | exact dR_v (by assumption)) (by first | exact pos_b (i2_m (by assumption)) | exact neg_b (i2_m (by assumption))) ?_ (fun e he => ?_)
    | refine T_ah (fun v => ?_)
    | refine T_mo (by first | assumption | exact rK_dr (by assumption) (by assumption) | exact rK_rc (by assumption) _ (by decide) | exact dR_ep | exact dR_i (by assumption) (by assumption) | exact dR_mk (by assumption) (by assumption) (by assumption) (by assumption) (by assumption) | exact dR_wd (rK_dr (by assumption) (by assumption)) (by assumption) (by assumption) (by assumption) | exact dR_fi (rK_dr (by assumption) (by assumption))) (by first | assumption | exact rK_dr (by assumption) (by assumption) | exact rK_rc (by assumption) _ (by decide) | exact dR_ep | exact dR_i (by assumption) (by assumption) | exact dR_mk (by assumption) (by assumption) (by assumption) (by assumption) (by assumption) | exact dR_wd (rK_dr (by assumption) (by assumption)) (by assumption) (by assumption) (by assumption) | exact dR_fi (rK_dr (by assumption) (by assumption))) (fun v => ?_)
    | refine T_do (by first | assumption | exact rK_dr (by assumption) (by assumption) | exact rK_rc (by assumption) _ (by decide) | exact dR_ep | exact dR_i (by assumption) (by assumption) | exact dR_mk (by assumption) (by assumption) (by assumption) (by assumption) (by assumption) | exact dR_wd (rK_dr (by assumption) (by assumption)) (by assumption) (by assumption) (by assumption) | exact dR_fi (rK_dr (by assumption) (by assumption))) (by first | assumption | exact rK_dr (by assumption) (by assumption) | exact rK_rc (by assumption) _ (by decide) | exact dR_ep | exact dR_i (by assumption) (by assumption) | exact dR_mk (by assumption) (by assumption) (by assumption) (by assumption) (by assumption) | exact dR_wd (rK_dr (by assumption) (by assumption)) (by assumption) (by assumption) (by assumption) | exact dR_fi (rK_dr (by assumption) (by assumption))) (fun v => ?_)
    | refine T_wh (by first | assumption | exact rK_dr (by assumption) (by assumption) | exact rK_rc (by assumption) _ (by decide) | exact dR_ep | exact dR_i (by assumption) (by assumption) | exact dR_mk (by assumption) (by assumption) (by assumption) (by assumption) (by assumption) | exact dR_wd (rK_dr (by assumption) (by assumption)) (by assumption) (by assumption) (by assumption) | exact dR_fi (rK_dr (by assumption) (by assumption))) (by first | assumption | exact rK_dr (by assumption) (by assumption) | exact rK_rc (by assumption) _ (by decide) | exact dR_ep | exact dR_i (by assumption) (by assumption) | exact dR_mk (by assumption) (by assumption) (by assumption) (by assumption) (by assumption) | exact dR_wd (rK_dr (by assumption) (by assumption)) (by assumption) (by assumption) (by assumption) | exact dR_fi (rK_dr (by assumption) (by assumption))) (by first | assumption | exact u_06 (by assumption) | exact u_c (by decide) | simp) (fun v => ?_)
    | refine T_cp (fun v => ?_)
    | refine T_lk (fun v => ?_)
    | refine T_fo (by first | assumption | exact rK_dv (by assumption) (by assumption) | exact rK_dc (by assumption) _ (by decide) | exact dR_v (by assumption)) (fun v => ?_)
    | refine T_tx (by first | assumption | exact rK_dr (by assumption) (by assumption) | exact rK_rc (by assumption) _ (by decide) | exact dR_ep | exact dR_i (by assumption) (by assumption) | exact dR_mk (by assumption) (by assumption) (by assumption) (by assumption) (by assumption) | exact dR_wd (rK_dr (by assumption) (by assumption)) (by assumption) (by assumption) (by assumption) | exact dR_fi (rK_dr (by assumption) (by assumption))) (fun v => ?_)
    | refine T_ad (by first | assumption | exact rK_dr (by assumption) (by assumption) | exact rK_rc (by assumption) _ (by decide) | exact dR_ep | exact dR_i (by assumption) (by assumption) | exact dR_mk (by assumption) (by assumption) (by assumption) (by assumption) (by assumption) | exact dR_wd (rK_dr (by assumption) (by assumption)) (by assumption) (by assumption) (by assumption) | exact dR_fi (rK_dr (by assumption) (by assumption))) (fun v => ?_)
    | refine T_on (by assumption) (fun e he => ?_)
    | refine T_oy (by first | exact ny_F (by assumption) | exact dR_y (rK_dr (by assumption) (by assumption))) (by assumption) (by assumption) (fun e he => ?_)
    | refine T_i (fun h => ?_) (fun h => ?_))
