theorem fo_E {D : Int64} {d : DT} (h : pkD D d) (hd : dR d) {i : Int32} (hi : ¬ m_X3_isIn i.toInt64 0 5 = 0) :
    o_X3_fieldOf d i = some (if i = 0 then m_X0_placeInRound (m_X0_dayIn D) else if i = 1 then m_X0_roundOf (m_X0_dayIn D) else if i = 2 then m_X0_placeInRound (m_X0_dayInYear D) else if i = 3 then m_X0_roundOf (m_X0_dayInYear D) else if i = 4 then m_X0_yearOfEra (m_X0_yearIn D).toInt32 else if lg_cmp (m_X0_yearIn D) 1 < 0 then 0 else 1) := by
  obtain ⟨v, e, ev⟩ := iy_F hd.1
  have e1 := vv_dy h hd.1 ev
  have e2 := pk_da h hd.1
  have e3 := vv_ye h hd
  have e4 := pk_yr h hd.1
  have hk : 0 ≤ i.toInt ∧ i.toInt ≤ 5 := i2_F hi
  have q0 := i32_eq (p := i) rfl 0
  have q1 := i32_eq (p := i) rfl 1
  have q2 := i32_eq (p := i) rfl 2
  have q3 := i32_eq (p := i) rfl 3
  have q4 := i32_eq (p := i) rfl 4
  have q5 := i32_eq (p := i) rfl 5
  have c1 : d.1 < 1 ↔ d.1.toInt < 1 := ia_lt rfl rfl
  have c2 : d.1 ≤ 0 ↔ d.1.toInt ≤ 0 := ia_le rfl rfl
  have c3 : lg_cmp (m_X0_yearIn D) 1 < 0 ↔ d.1.toInt < 1 := by rw [lg_cmp_lt, Int64.lt_iff_toInt_lt, e4]; exact Iff.rfl
  unfold o_X3_fieldOf
  rw [e1, e2, e3]
  rcases (show i = 0 ∨ i = 1 ∨ i = 2 ∨ i = 3 ∨ i = 4 ∨ i = 5 by rw [q0, q1, q2, q3, q4, q5]; show i.toInt = 0 ∨ i.toInt = 1 ∨ i.toInt = 2 ∨ i.toInt = 3 ∨ i.toInt = 4 ∨ i.toInt = 5; omega) with rfl | rfl | rfl | rfl | rfl | rfl
  · rw [if_neg (by decide), if_neg (by decide), if_pos (by decide), if_pos rfl]; rfl
  · rw [if_neg (by decide), if_neg (by decide), if_neg (by decide), if_neg (by decide), if_pos rfl]; rfl
  · rw [if_pos (by decide)]; refine bs e ?_
    rw [if_neg (by decide), if_pos (by decide), if_neg (by decide), if_neg (by decide), if_pos rfl]; rfl
  · rw [if_pos (by decide)]; refine bs e ?_
    rw [if_neg (by decide), if_neg (by decide), if_neg (by decide), if_neg (by decide), if_neg (by decide), if_pos rfl]; rfl
  · rw [if_pos (by decide)]; refine bs e ?_
    rw [if_pos (by decide), if_neg (show ¬ (4 : Int32) = 0 by decide), if_neg (show ¬ (4 : Int32) = 1 by decide), if_neg (show ¬ (4 : Int32) = 2 by decide), if_neg (show ¬ (4 : Int32) = 3 by decide), if_pos (show (4 : Int32) = 4 from rfl)]
    unfold m_X0_yearOfEra
    by_cases g : d.1.toInt ≤ 0
    · rw [if_pos (c2.mpr g), if_neg (by decide), if_pos (c1.mpr (by omega))]
    · rw [if_neg (fun k => g (c2.mp k)), if_neg (by decide), if_neg (fun k => g (by have := c1.mp k; omega))]
  · rw [if_pos (by decide)]; refine bs e ?_
    rw [if_pos (by decide), if_neg (show ¬ (5 : Int32) = 0 by decide), if_neg (show ¬ (5 : Int32) = 1 by decide), if_neg (show ¬ (5 : Int32) = 2 by decide), if_neg (show ¬ (5 : Int32) = 3 by decide), if_neg (show ¬ (5 : Int32) = 4 by decide)]
    by_cases g : d.1.toInt ≤ 0
    · rw [if_pos (c2.mpr g), if_pos rfl, if_pos (c3.mpr (by omega))]; rfl
    · rw [if_neg (fun k => g (c2.mp k)), if_pos rfl, if_neg (fun k => g (by have := c3.mp k; omega))]; rfl
theorem O_6 {c0 c1 c2 c3 c4 c5 : Prop} [Decidable c0] [Decidable c1] [Decidable c2] [Decidable c3] [Decidable c4] [Decidable c5] {a0 a1 a2 a3 a4 a5 a6 : Int32} : (if c0 then ((0 : Nat), a0) else (if c1 then (0, a1) else (if c2 then (0, a2) else (if c3 then (0, a3) else (if c4 then (0, a4) else (if c5 then (0, a5) else (0, a6))))))) = (0, if c0 then a0 else if c1 then a1 else if c2 then a2 else if c3 then a3 else if c4 then a4 else if c5 then a5 else a6) := by
  repeat' split
  all_goals rfl
theorem sm_field (p0 p1 : Int32) {z : CS} {w : MS} (h : sR z w) : sO (1, 2) z (m_X0_field p0 p1 z) (o_X3_field p0 p1 w) := by
  unfold m_X0_field o_X3_field
  refine O_at (fun hp => O_rw (A := 0) (B := 5) (by decide) (by decide) (fun hw => ?_) (fun hw => ?_)) (fun hp => ?_)
  · obtain ⟨hD, hd⟩ := at_R h hp
    have e := fo_E hD hd hw
    rw [O_6]
    exact T_in hw (fx_0 hp rfl rfl (T_ip rfl (T_g6 hp (T_b (Q := fun v => _ = v) ⟨_, e, rfl⟩ (fun v hv => s_val h hv)))))
  · exact T_ip hw (fx_2 hp (by decide) (T_in one_ne (s_code h (by decide) rfl)))
  · exact T_i (fun _ => fx_1 hp (T_in one_ne (s_code h (by decide) rfl))) (fun _ => fx_1 hp (T_in one_ne (s_code h (by decide) rfl)))
theorem sm_sameDay (p0 p1 : Int32) {z : CS} {w : MS} (h : sR z w) : sO (1, 2) z (m_X0_sameDay p0 p1 z) (o_X3_sameDay p0 p1 w) := by
  unfold m_X0_sameDay o_X3_sameDay
  refine O_at (fun hp => O_ny (fun hy => ?_) (fun hy => fx_2 hp hy (T_in one_ne (s_code h (by decide) rfl)))) (fun hp => fx_1 hp (T_in one_ne (s_code h (by decide) rfl)))
  obtain ⟨hD, hd⟩ := at_R h hp
  have b := ny_F hy
  obtain ⟨e, g1, g2, g3, g4, g5⟩ := nr_F (p0 := p1) rfl (p1 := (w.2.1 p0.toNatClampNeg).2.1) rfl hd.1.1 hd.1.2.1 (p2 := (w.2.1 p0.toNatClampNeg).2.2) hd.1.2.2.1 (by omega) (by omega)
  have hf : pkD (m_X0_fittedDate p1.toInt64 (m_X0_monthIn (m_X0_dateAt p0 z).2) (m_X0_dayIn (m_X0_dateAt p0 z).2)) e := by
    refine pk_fi (by rw [ma_l rfl, g3]) (by rw [pk_mo hD hd.1, g4]) g2 ?_
    rw [pk_da hD hd.1, g5, g3, g4]
  refine fx_0 hp hy rfl (T_ip rfl (T_g6 hp (T_g6 hp (T_b (Q := fun x => x = e) ⟨_, g1, rfl⟩ (fun x hx => ?_)))))
  subst hx
  exact v_nu g2 (fun v hv => s_val h (pk_nuI hf g2 hv))
