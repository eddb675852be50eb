-- digest: the class's values and the reference's
theorem add_e : m_X0_digestValue = m_X3_add := by funext a b; rfl
theorem tx_10 {p0 : Int32} {z : CS} (h : cIv z) (h0 : (m_X0_dateAt p0 z).1 = 0) (hp : 0 ≤ (m_X0_yearIn (m_X0_dateAt p0 z).2).toInt32) : ∃ n, o_X0_text p0 z = some (0, n) ∧ n = 10 := by
  have hy := at_y h h0
  unfold o_X0_text
  rw [if_pos h0, if_pos hp]
  have e := ma_yearIn (m_X0_dateAt p0 z).2
  have hr := yOK_iff.mp hy
  have e2 := ma_i e (by omega) (by omega)
  have hp2 : 0 ≤ (m_X0_yearIn (m_X0_dateAt p0 z).2).toInt32.toInt := Int32.le_iff_toInt_le.mp hp
  rw [e2] at hp2
  have e3 := nI_at e2 hp2
  obtain ⟨b, hb, eb⟩ := pk_andE ((((m_X0_dateAt p0 z).2) >>> ((5 : Int32).toInt64 &&& 63)).toInt32) (m := 15) 4 (by decide)
  obtain ⟨c, hc, ec⟩ := pk_andE (((m_X0_dateAt p0 z).2)).toInt32 (m := 31) 5 (by decide)
  have eb2 : m_X0_monthIn (m_X0_dateAt p0 z).2 = nI b := eb
  have ec2 : m_X0_dayIn (m_X0_dateAt p0 z).2 = nI c := ec
  have a1 : o_J4_append_cf468 45 4 = some ((), 5) := by decide +kernel
  have a2 : o_J4_append_cf468 45 7 = some ((), 8) := by decide +kernel
  rw [e3, eb2, ec2, fill4 (by omega)]
  simp only [Option.bind_some, a1, fill2m b (by omega), a2, fill2d c (by omega)]
  exact ⟨10, rfl, rfl⟩
theorem tx_01 {p0 : Int32} {z : CS} (h0 : (m_X0_dateAt p0 z).1 = 0) (hp : ¬ 0 ≤ (m_X0_yearIn (m_X0_dateAt p0 z).2).toInt32) : o_X0_text p0 z = some (0, 1) := by
  unfold o_X0_text
  rw [if_pos h0, if_neg hp]
theorem dp_T {c : Int32} {z : CS} {w : MS} (h : sR z w) (hc : m_X3_isNo c = 0) : ∃ n, o_X0_text c z = some (0, n) ∧ o_X3_textOf (w.2.1 c.toNatClampNeg) = some n := by
  obtain ⟨hD, hd⟩ := at_R h hc
  have h0 := (at_no (z := z)).mpr hc
  have e := vv_ye hD hd
  have e0 : (0 : Int32) ≤ (w.2.1 c.toNatClampNeg).1 ↔ 0 ≤ (w.2.1 c.toNatClampNeg).1.toInt := ia_le rfl rfl
  rw [xt_F hd]
  by_cases g : 0 ≤ (w.2.1 c.toNatClampNeg).1.toInt
  · obtain ⟨n, a, b⟩ := tx_10 (cI_R h) h0 (by rw [e]; exact e0.mpr g)
    exact ⟨n, a, by rw [if_pos g, b]⟩
  · exact ⟨1, tx_01 h0 (by rw [e]; exact fun k => g (e0.mp k)), by rw [if_neg g]⟩
theorem fi_V {c i : Int32} {z : CS} {w : MS} (h : sR z w) (hc : m_X3_isNo c = 0) (hi : ¬ m_X3_isIn i.toInt64 0 5 = 0) : o_X3_fieldOf (w.2.1 c.toNatClampNeg) i = some (m_X0_field c i z).2 := by
  obtain ⟨hD, hd⟩ := at_R h hc
  rw [fo_E hD hd hi]
  unfold m_X0_field
  rw [if_pos (at_no.mpr hc), if_pos ((rw_is (A := 0) (B := 5) (by decide) (by decide)).mpr hi), O_6]
set_option maxHeartbeats 4000000 in
theorem dp_E {v : Int64} {c : Int32} {z : CS} {w : MS} (h : sR z w) (hc : m_X3_isNo c = 0) : ∃ V, o_X0_digestPlace v c z = some (0, V) ∧ o_X3_addDate v (w.2.1 c.toNatClampNeg) = some V := by
  obtain ⟨hD, hd⟩ := at_R h hc
  have h0 := (at_no (z := z)).mpr hc
  have bN := dN_r hd
  obtain ⟨n, a1, a2⟩ := nu_F hd.1
  obtain ⟨y, b1, b2⟩ := iy_F hd.1
  obtain ⟨l, l1, l2⟩ := lo_F (y := (w.2.1 c.toNatClampNeg).1) rfl (m := (w.2.1 c.toNatClampNeg).2.1) rfl hd.1.1 hd.1.2.1
  obtain ⟨x, t1, t2⟩ := dp_T h hc
  have f : ∀ i : Int32, ¬ m_X3_isIn i.toInt64 0 5 = 0 → (m_X0_field c i z).1 = 0 := fun i hi => q_fi h0 ((rw_is (A := 0) (B := 5) (by decide) (by decide)).mpr hi)
  have g : ∀ i : Int32, ¬ m_X3_isIn i.toInt64 0 5 = 0 → o_X3_fieldOf (w.2.1 c.toNatClampNeg) i = some (m_X0_field c i z).2 := fun i hi => fi_V h hc hi
  have k0 : ¬ m_X3_isIn (0 : Int32).toInt64 0 5 = 0 := by decide
  have k1 : ¬ m_X3_isIn (1 : Int32).toInt64 0 5 = 0 := by decide
  have k2 : ¬ m_X3_isIn (2 : Int32).toInt64 0 5 = 0 := by decide
  have k3 : ¬ m_X3_isIn (3 : Int32).toInt64 0 5 = 0 := by decide
  have k4 : ¬ m_X3_isIn (4 : Int32).toInt64 0 5 = 0 := by decide
  have k5 : ¬ m_X3_isIn (5 : Int32).toInt64 0 5 = 0 := by decide
  have v0 : (m_X0_toDay c z).2 = n := by rw [td_e hc]; exact pk_nuI hD hd.1 a2
  have v1 : (m_X0_year c z).2 = (w.2.1 c.toNatClampNeg).1 := by unfold m_X0_year; rw [if_pos h0]; dsimp only; exact vv_ye hD hd
  have v2 : (m_X0_month c z).2 = (w.2.1 c.toNatClampNeg).2.1 := by unfold m_X0_month; rw [if_pos h0]; dsimp only; exact pk_mo hD hd.1
  have v3 : (m_X0_day c z).2 = (w.2.1 c.toNatClampNeg).2.2 := by unfold m_X0_day; rw [if_pos h0]; dsimp only; exact pk_da hD hd.1
  have v4 : (m_X0_dayOfYear c z).2 = y := by unfold m_X0_dayOfYear; rw [if_pos h0]; dsimp only; exact vv_dy hD hd.1 b2
  have v5 : (m_X0_dayOfWeek c z).2 = m_X3_weekDay n.toInt64 := by
    unfold m_X0_dayOfWeek
    rw [td_e hc, if_pos rfl]
    have a2' : n.toInt = dN (w.2.1 c.toNatClampNeg) := a2
    exact vv_dw (by rw [pk_nuI hD hd.1 a2']; exact a2') (ma_l a2') (by omega) (by omega)
  have v6 : (m_X0_lengthOfMonth c z).2 = l := by unfold m_X0_lengthOfMonth; rw [if_pos h0]; dsimp only; exact vv_lm hD hd.1 l2
  have v7 : (m_X0_lengthOfYear c z).2 = m_X3_lengthOf (w.2.1 c.toNatClampNeg).1 := by unfold m_X0_lengthOfYear; rw [if_pos h0]; dsimp only; exact vv_ly hD hd.1
  have v8 : (m_X0_isLeapYear c z).2 = m_X3_isLeap (w.2.1 c.toNatClampNeg).1 := by unfold m_X0_isLeapYear; rw [if_pos h0]; dsimp only; exact vv_lp hD hd.1
  refine ⟨_, ?_, (by unfold o_X3_addDate; exact bs a1 (bs b1 (bs a1 (bs l1 (bs (g 0 k0) (bs (g 1 k1) (bs (g 2 k2) (bs (g 3 k3) (bs (g 4 k4) (bs (g 5 k5) (bs t2 rfl)))))))))))⟩
  unfold o_X0_digestPlace
  rw [if_pos (q_td h0), if_pos (q_ye h0), if_pos (q_mo h0), if_pos (q_da h0), if_pos (q_dy h0), if_pos (q_dw h0), if_pos (q_lm h0), if_pos (q_ly h0), if_pos (q_lp h0), v0, v1, v2, v3, v4, v5, v6, v7, v8, add_e]
  unfold m_X3_one
  by_cases q : m_X3_isLeap (w.2.1 c.toNatClampNeg).1 = 0
  · rw [if_pos q, if_pos (f 0 k0), if_pos (f 1 k1), if_pos (f 2 k2), if_pos (f 3 k3), if_pos (f 4 k4), if_pos (f 5 k5), if_pos q]
    refine (bs t1 (if_pos rfl)).trans ?_
    first
      | (dsimp only; done)
      | (dsimp only; rfl)
      | rfl
  · rw [if_neg q, if_pos (f 0 k0), if_pos (f 1 k1), if_pos (f 2 k2), if_pos (f 3 k3), if_pos (f 4 k4), if_pos (f 5 k5), if_neg q]
    refine (bs t1 (if_pos rfl)).trans ?_
    first
      | (dsimp only; done)
      | (dsimp only; rfl)
      | rfl
theorem cm_V {p q : Int32} {z : CS} {w : MS} (h : sR z w) (hp : m_X3_isNo p = 0) (hq : m_X3_isNo q = 0) : o_X3_compared (w.2.1 p.toNatClampNeg) (w.2.1 q.toNatClampNeg) = some (m_X0_compare p q z).2 := by
  rw [cp_E (at_R h hp).1 (at_R h hq).1 (at_R h hp).2.1 (at_R h hq).2.1]
  unfold m_X0_compare
  rw [if_pos (at_no.mpr hp), if_pos (at_no.mpr hq)]
theorem bw_V {p q u : Int32} {z : CS} {w : MS} (h : sR z w) (hp : m_X3_isNo p = 0) (hq : m_X3_isNo q = 0) (hu : u = 0 ∨ u = 1 ∨ u = 2 ∨ u = 3 ∨ u = 4 ∨ u = 5 ∨ u = 6) : o_X3_whole (w.2.1 p.toNatClampNeg) (w.2.1 q.toNatClampNeg) u = some (m_X0_between p q u z).2 := by
  have r : m_X0_requireUnit u = 0 := by rcases hu with rfl | rfl | rfl | rfl | rfl | rfl | rfl <;> decide
  rw [w_E (at_R h hp).1 (at_R h hq).1 (at_R h hp).2 (at_R h hq).2 hu]
  unfold m_X0_between
  rw [if_pos (at_no.mpr hp), if_pos (at_no.mpr hq), if_pos r]
  by_cases g : 0 ≤ lg_cmp (m_X0_dateAt q z).2 (m_X0_dateAt p z).2
  · rw [if_pos g, if_pos g]
  · rw [if_neg g, if_neg g]
theorem dq_V {v : Int64} {p q : Int32} {z : CS} (hp : (m_X0_dateAt p z).1 = 0) (hq : (m_X0_dateAt q z).1 = 0) : (m_X0_digestPair v p q z).2 = m_X3_add (m_X3_add (m_X3_add (m_X3_add (m_X3_add (m_X3_add (m_X3_add (m_X3_add v (m_X0_compare p q z).2.toInt64) (m_X0_between p q 0 z).2.toInt64) (m_X0_between p q 1 z).2.toInt64) (m_X0_between p q 2 z).2.toInt64) (m_X0_between p q 3 z).2.toInt64) (m_X0_between p q 4 z).2.toInt64) (m_X0_between p q 5 z).2.toInt64) (m_X0_between p q 6 z).2.toInt64 := by
  unfold m_X0_digestPair
  have hu : ∀ u : Int32, 0 ≤ u.toInt → u.toInt ≤ 6 → m_X0_requireUnit u = 0 := fun u a b => by
    have : m_X0_requireWithin u 0 6 = 0 := rw_iff.mpr ⟨a, b⟩
    unfold m_X0_requireUnit; rw [if_pos this]
  rw [if_pos (q_co hp hq), if_pos (q_be hp hq (hu 0 (by decide) (by decide))), if_pos (q_be hp hq (hu 1 (by decide) (by decide))), if_pos (q_be hp hq (hu 2 (by decide) (by decide))), if_pos (q_be hp hq (hu 3 (by decide) (by decide))), if_pos (q_be hp hq (hu 4 (by decide) (by decide))), if_pos (q_be hp hq (hu 5 (by decide) (by decide))), if_pos (q_be hp hq (hu 6 (by decide) (by decide))), add_e]
theorem os_0 {s : Int32} {z : CS} (hs : m_X0_requireSpan s = 0) : m_X0_ofSpan s 0 z = (0, z.2.1 s.toNatClampNeg) := by unfold m_X0_ofSpan; rw [if_pos hs, if_pos (by decide), if_pos rfl]
theorem os_1 {s : Int32} {z : CS} (hs : m_X0_requireSpan s = 0) : m_X0_ofSpan s 1 z = (0, z.2.2.1 s.toNatClampNeg) := by unfold m_X0_ofSpan; rw [if_pos hs, if_pos (by decide), if_neg (by decide), if_pos rfl]
theorem os_2 {s : Int32} {z : CS} (hs : m_X0_requireSpan s = 0) : m_X0_ofSpan s 2 z = (0, z.2.2.2.1 s.toNatClampNeg) := by unfold m_X0_ofSpan; rw [if_pos hs, if_pos (by decide), if_neg (by decide), if_neg (by decide)]
theorem hs_0 (z : CS) : m_X0_house 0 z = (0, z.2.2.2.2.1) := by unfold m_X0_house; rw [if_pos (by decide), if_pos rfl]
theorem hs_1 (z : CS) : m_X0_house 1 z = (0, z.2.2.2.2.2) := by unfold m_X0_house; rw [if_pos (by decide), if_neg (by decide), if_pos rfl]
theorem hs_2 (z : CS) : m_X0_house 2 z = (0, (m_X0_sumOfNumbers z).2) := by unfold m_X0_house; rw [if_pos (by decide), if_neg (by decide), if_neg (by decide), if_pos (oc_sumOfNumbers z)]
set_option maxHeartbeats 8000000 in
set_option maxRecDepth 100000 in
theorem sm_digest {z : CS} {w : MS} (h : sR z w) : ∃ u, o_X0_digest z = some (0, u) ∧ T (fun r => sR z r.2 ∧ r.1 = u) (o_X3_digest w) := by
  have c0 := at_c pc0 z
  have c1 := at_c pc1 z
  have c2 := at_c pc2 z
  have c3 := at_c pc3 z
  have c4 := at_c pc4 z
  have c5 := at_c pc5 z
  have n0 : m_X3_isNo 0 = 0 := by decide
  have n1 : m_X3_isNo 1 = 0 := by decide
  have n2 : m_X3_isNo 2 = 0 := by decide
  have n3 : m_X3_isNo 3 = 0 := by decide
  have n4 : m_X3_isNo 4 = 0 := by decide
  have n5 : m_X3_isNo 5 = 0 := by decide
  have m0 : m_X3_isNo ((0 : Int32) + 1) = 0 := by decide
  have m1 : m_X3_isNo ((1 : Int32) + 1) = 0 := by decide
  have m2 : m_X3_isNo ((2 : Int32) + 1) = 0 := by decide
  have m3 : m_X3_isNo ((3 : Int32) + 1) = 0 := by decide
  have m4 : m_X3_isNo ((4 : Int32) + 1) = 0 := by decide
  have b0 : (m_X0_dateAt ((0 : Int32) + 1) z).1 = 0 := at_no.mpr m0
  have b1 : (m_X0_dateAt ((1 : Int32) + 1) z).1 = 0 := at_no.mpr m1
  have b2 : (m_X0_dateAt ((2 : Int32) + 1) z).1 = 0 := at_no.mpr m2
  have b3 : (m_X0_dateAt ((3 : Int32) + 1) z).1 = 0 := at_no.mpr m3
  have b4 : (m_X0_dateAt ((4 : Int32) + 1) z).1 = 0 := at_no.mpr m4
  have g0 : ¬ ((0 : Int32) + (1 : Int32) < 0 ∨ 6 ≤ ((0 : Int32) + (1 : Int32)).toNatClampNeg) := by decide
  have g1 : ¬ ((1 : Int32) + (1 : Int32) < 0 ∨ 6 ≤ ((1 : Int32) + (1 : Int32)).toNatClampNeg) := by decide
  have g2 : ¬ ((2 : Int32) + (1 : Int32) < 0 ∨ 6 ≤ ((2 : Int32) + (1 : Int32)).toNatClampNeg) := by decide
  have g3 : ¬ ((3 : Int32) + (1 : Int32) < 0 ∨ 6 ≤ ((3 : Int32) + (1 : Int32)).toNatClampNeg) := by decide
  have g4 : ¬ ((4 : Int32) + (1 : Int32) < 0 ∨ 6 ≤ ((4 : Int32) + (1 : Int32)).toNatClampNeg) := by decide
  have u0 : (0 : Int32) = 0 ∨ (0 : Int32) = 1 ∨ (0 : Int32) = 2 ∨ (0 : Int32) = 3 ∨ (0 : Int32) = 4 ∨ (0 : Int32) = 5 ∨ (0 : Int32) = 6 := u_c (by decide)
  have u1 : (1 : Int32) = 0 ∨ (1 : Int32) = 1 ∨ (1 : Int32) = 2 ∨ (1 : Int32) = 3 ∨ (1 : Int32) = 4 ∨ (1 : Int32) = 5 ∨ (1 : Int32) = 6 := u_c (by decide)
  have u2 : (2 : Int32) = 0 ∨ (2 : Int32) = 1 ∨ (2 : Int32) = 2 ∨ (2 : Int32) = 3 ∨ (2 : Int32) = 4 ∨ (2 : Int32) = 5 ∨ (2 : Int32) = 6 := u_c (by decide)
  have u3 : (3 : Int32) = 0 ∨ (3 : Int32) = 1 ∨ (3 : Int32) = 2 ∨ (3 : Int32) = 3 ∨ (3 : Int32) = 4 ∨ (3 : Int32) = 5 ∨ (3 : Int32) = 6 := u_c (by decide)
  have u4 : (4 : Int32) = 0 ∨ (4 : Int32) = 1 ∨ (4 : Int32) = 2 ∨ (4 : Int32) = 3 ∨ (4 : Int32) = 4 ∨ (4 : Int32) = 5 ∨ (4 : Int32) = 6 := u_c (by decide)
  have u5 : (5 : Int32) = 0 ∨ (5 : Int32) = 1 ∨ (5 : Int32) = 2 ∨ (5 : Int32) = 3 ∨ (5 : Int32) = 4 ∨ (5 : Int32) = 5 ∨ (5 : Int32) = 6 := u_c (by decide)
  have u6 : (6 : Int32) = 0 ∨ (6 : Int32) = 1 ∨ (6 : Int32) = 2 ∨ (6 : Int32) = 3 ∨ (6 : Int32) = 4 ∨ (6 : Int32) = 5 ∨ (6 : Int32) = 6 := u_c (by decide)
  have s0 : m_X3_isNoSpan 0 = 0 := by decide
  have s1 : m_X3_isNoSpan 1 = 0 := by decide
  obtain ⟨⟨p0, p1, p2⟩, -⟩ := sp_at (w := ((0 : Int32), w.2)) h s0
  obtain ⟨⟨r0, r1, r2⟩, -⟩ := sp_at (w := ((0 : Int32), w.2)) h s1
  obtain ⟨V0, x0, y0⟩ := dp_E (v := (7787 : Int64)) h n0
  obtain ⟨V1, x1, y1⟩ := dp_E (v := V0) h n1
  obtain ⟨V2, x2, y2⟩ := dp_E (v := V1) h n2
  obtain ⟨V3, x3, y3⟩ := dp_E (v := V2) h n3
  obtain ⟨V4, x4, y4⟩ := dp_E (v := V3) h n4
  obtain ⟨V5, x5, y5⟩ := dp_E (v := V4) h n5
  have e0 := hn_E 0 (t := 0) h
  have e1 := hn_E 1 (t := 0) h
  have e2 := hn_E 2 (t := 0) h
  have j0 : ((if (0 : Int32) = 0 then z.2.2.2.2.1 else if (0 : Int32) = 1 then z.2.2.2.2.2 else (m_X0_sumOfNumbers z).2) : Int32) = z.2.2.2.2.1 := if_pos rfl
  have j1 : ((if (1 : Int32) = 0 then z.2.2.2.2.1 else if (1 : Int32) = 1 then z.2.2.2.2.2 else (m_X0_sumOfNumbers z).2) : Int32) = z.2.2.2.2.2 := rfl
  have j2 : ((if (2 : Int32) = 0 then z.2.2.2.2.1 else if (2 : Int32) = 1 then z.2.2.2.2.2 else (m_X0_sumOfNumbers z).2) : Int32) = (m_X0_sumOfNumbers z).2 := rfl
  rw [j0] at e0
  rw [j1] at e1
  rw [j2] at e2
  have ns : ¬ (m_X0_isSound z).2 = 0 := by rw [sm_sound h]; decide
  have hC : ∃ b, o_X0_digest z = some b ∧ b = ((0 : Nat), m_X3_add (m_X3_add (m_X3_add (m_X3_add (m_X3_add (m_X3_add (m_X3_add (m_X3_add (m_X3_add (m_X3_add (m_X3_add (m_X3_add (m_X3_add (m_X3_add (m_X3_add (m_X3_add (m_X3_add (m_X3_add (m_X3_add (m_X3_add (m_X3_add (m_X3_add (m_X3_add (m_X3_add (m_X3_add (m_X3_add (m_X3_add (m_X3_add (m_X3_add (m_X3_add (m_X3_add (m_X3_add (m_X3_add (m_X3_add (m_X3_add (m_X3_add (m_X3_add (m_X3_add (m_X3_add (m_X3_add (m_X3_add (m_X3_add (m_X3_add (m_X3_add (m_X3_add (m_X3_add (m_X3_add (m_X3_add (m_X3_add (m_X3_add V5 (z.2.1 (0 : Int32).toNatClampNeg).toInt64) (z.2.2.1 (0 : Int32).toNatClampNeg).toInt64) (z.2.2.2.1 (0 : Int32).toNatClampNeg).toInt64) (z.2.1 (1 : Int32).toNatClampNeg).toInt64) (z.2.2.1 (1 : Int32).toNatClampNeg).toInt64) (z.2.2.2.1 (1 : Int32).toNatClampNeg).toInt64) (m_X0_compare (0 : Int32) ((0 : Int32) + (1 : Int32)) z).2.toInt64) (m_X0_between (0 : Int32) ((0 : Int32) + (1 : Int32)) 0 z).2.toInt64) (m_X0_between (0 : Int32) ((0 : Int32) + (1 : Int32)) 1 z).2.toInt64) (m_X0_between (0 : Int32) ((0 : Int32) + (1 : Int32)) 2 z).2.toInt64) (m_X0_between (0 : Int32) ((0 : Int32) + (1 : Int32)) 3 z).2.toInt64) (m_X0_between (0 : Int32) ((0 : Int32) + (1 : Int32)) 4 z).2.toInt64) (m_X0_between (0 : Int32) ((0 : Int32) + (1 : Int32)) 5 z).2.toInt64) (m_X0_between (0 : Int32) ((0 : Int32) + (1 : Int32)) 6 z).2.toInt64) (m_X0_compare (1 : Int32) ((1 : Int32) + (1 : Int32)) z).2.toInt64) (m_X0_between (1 : Int32) ((1 : Int32) + (1 : Int32)) 0 z).2.toInt64) (m_X0_between (1 : Int32) ((1 : Int32) + (1 : Int32)) 1 z).2.toInt64) (m_X0_between (1 : Int32) ((1 : Int32) + (1 : Int32)) 2 z).2.toInt64) (m_X0_between (1 : Int32) ((1 : Int32) + (1 : Int32)) 3 z).2.toInt64) (m_X0_between (1 : Int32) ((1 : Int32) + (1 : Int32)) 4 z).2.toInt64) (m_X0_between (1 : Int32) ((1 : Int32) + (1 : Int32)) 5 z).2.toInt64) (m_X0_between (1 : Int32) ((1 : Int32) + (1 : Int32)) 6 z).2.toInt64) (m_X0_compare (2 : Int32) ((2 : Int32) + (1 : Int32)) z).2.toInt64) (m_X0_between (2 : Int32) ((2 : Int32) + (1 : Int32)) 0 z).2.toInt64) (m_X0_between (2 : Int32) ((2 : Int32) + (1 : Int32)) 1 z).2.toInt64) (m_X0_between (2 : Int32) ((2 : Int32) + (1 : Int32)) 2 z).2.toInt64) (m_X0_between (2 : Int32) ((2 : Int32) + (1 : Int32)) 3 z).2.toInt64) (m_X0_between (2 : Int32) ((2 : Int32) + (1 : Int32)) 4 z).2.toInt64) (m_X0_between (2 : Int32) ((2 : Int32) + (1 : Int32)) 5 z).2.toInt64) (m_X0_between (2 : Int32) ((2 : Int32) + (1 : Int32)) 6 z).2.toInt64) (m_X0_compare (3 : Int32) ((3 : Int32) + (1 : Int32)) z).2.toInt64) (m_X0_between (3 : Int32) ((3 : Int32) + (1 : Int32)) 0 z).2.toInt64) (m_X0_between (3 : Int32) ((3 : Int32) + (1 : Int32)) 1 z).2.toInt64) (m_X0_between (3 : Int32) ((3 : Int32) + (1 : Int32)) 2 z).2.toInt64) (m_X0_between (3 : Int32) ((3 : Int32) + (1 : Int32)) 3 z).2.toInt64) (m_X0_between (3 : Int32) ((3 : Int32) + (1 : Int32)) 4 z).2.toInt64) (m_X0_between (3 : Int32) ((3 : Int32) + (1 : Int32)) 5 z).2.toInt64) (m_X0_between (3 : Int32) ((3 : Int32) + (1 : Int32)) 6 z).2.toInt64) (m_X0_compare (4 : Int32) ((4 : Int32) + (1 : Int32)) z).2.toInt64) (m_X0_between (4 : Int32) ((4 : Int32) + (1 : Int32)) 0 z).2.toInt64) (m_X0_between (4 : Int32) ((4 : Int32) + (1 : Int32)) 1 z).2.toInt64) (m_X0_between (4 : Int32) ((4 : Int32) + (1 : Int32)) 2 z).2.toInt64) (m_X0_between (4 : Int32) ((4 : Int32) + (1 : Int32)) 3 z).2.toInt64) (m_X0_between (4 : Int32) ((4 : Int32) + (1 : Int32)) 4 z).2.toInt64) (m_X0_between (4 : Int32) ((4 : Int32) + (1 : Int32)) 5 z).2.toInt64) (m_X0_between (4 : Int32) ((4 : Int32) + (1 : Int32)) 6 z).2.toInt64) z.2.2.2.2.1.toInt64) z.2.2.2.2.2.toInt64) (m_X0_sumOfNumbers z).2.toInt64) (1 : Int64)) := by
    unfold o_X0_digest
    refine bt ⟨_, x0, ?_⟩
    refine i1 rfl ?_
    refine bt ⟨_, x1, ?_⟩
    refine i1 rfl ?_
    refine bt ⟨_, x2, ?_⟩
    refine i1 rfl ?_
    refine bt ⟨_, x3, ?_⟩
    refine i1 rfl ?_
    refine bt ⟨_, x4, ?_⟩
    refine i1 rfl ?_
    refine bt ⟨_, x5, ?_⟩
    refine i1 rfl ?_
    dsimp only
    rw [os_0 sp0, os_1 sp0, os_2 sp0, os_0 sp1, os_1 sp1, os_2 sp1, hs_0, hs_1, hs_2]
    refine i1 rfl (i1 rfl (i1 rfl (i1 rfl (i1 rfl (i1 rfl (i1 (q_dp c0 b0) (i1 (q_dp c1 b1) (i1 (q_dp c2 b2) (i1 (q_dp c3 b3) (i1 (q_dp c4 b4) (i1 rfl (i1 rfl (i1 rfl (i1 (oc_isSound z) ?_))))))))))))))
    rw [if_neg ns, dq_V c4 b4, dq_V c3 b3, dq_V c2 b2, dq_V c1 b1, dq_V c0 b0, add_e]
    exact ⟨_, rfl, rfl⟩
  obtain ⟨b, hb, eb⟩ := hC
  subst eb
  refine ⟨_, hb, ?_⟩
  unfold o_X3_digest
  refine T_b (Q := fun x => x = V0) ⟨_, y0, rfl⟩ (fun _ k => ?_)
  subst k
  refine T_b (Q := fun x => x = V1) ⟨_, y1, rfl⟩ (fun _ k => ?_)
  subst k
  refine T_b (Q := fun x => x = V2) ⟨_, y2, rfl⟩ (fun _ k => ?_)
  subst k
  refine T_b (Q := fun x => x = V3) ⟨_, y3, rfl⟩ (fun _ k => ?_)
  subst k
  refine T_b (Q := fun x => x = V4) ⟨_, y4, rfl⟩ (fun _ k => ?_)
  subst k
  refine T_b (Q := fun x => x = V5) ⟨_, y5, rfl⟩ (fun _ k => ?_)
  subst k
  refine T_in g0 (T_b (Q := fun x => x = _) ⟨_, cm_V h n0 m0, rfl⟩ (fun _ k => ?_))
  subst k
  refine T_in g0 (T_b (Q := fun x => x = _) ⟨_, bw_V h n0 m0 u0, rfl⟩ (fun _ k => ?_))
  subst k
  refine T_in g0 (T_b (Q := fun x => x = _) ⟨_, bw_V h n0 m0 u1, rfl⟩ (fun _ k => ?_))
  subst k
  refine T_in g0 (T_b (Q := fun x => x = _) ⟨_, bw_V h n0 m0 u2, rfl⟩ (fun _ k => ?_))
  subst k
  refine T_in g0 (T_b (Q := fun x => x = _) ⟨_, bw_V h n0 m0 u3, rfl⟩ (fun _ k => ?_))
  subst k
  refine T_in g0 (T_b (Q := fun x => x = _) ⟨_, bw_V h n0 m0 u4, rfl⟩ (fun _ k => ?_))
  subst k
  refine T_in g0 (T_b (Q := fun x => x = _) ⟨_, bw_V h n0 m0 u5, rfl⟩ (fun _ k => ?_))
  subst k
  refine T_in g0 (T_b (Q := fun x => x = _) ⟨_, bw_V h n0 m0 u6, rfl⟩ (fun _ k => ?_))
  subst k
  refine T_in g1 (T_b (Q := fun x => x = _) ⟨_, cm_V h n1 m1, rfl⟩ (fun _ k => ?_))
  subst k
  refine T_in g1 (T_b (Q := fun x => x = _) ⟨_, bw_V h n1 m1 u0, rfl⟩ (fun _ k => ?_))
  subst k
  refine T_in g1 (T_b (Q := fun x => x = _) ⟨_, bw_V h n1 m1 u1, rfl⟩ (fun _ k => ?_))
  subst k
  refine T_in g1 (T_b (Q := fun x => x = _) ⟨_, bw_V h n1 m1 u2, rfl⟩ (fun _ k => ?_))
  subst k
  refine T_in g1 (T_b (Q := fun x => x = _) ⟨_, bw_V h n1 m1 u3, rfl⟩ (fun _ k => ?_))
  subst k
  refine T_in g1 (T_b (Q := fun x => x = _) ⟨_, bw_V h n1 m1 u4, rfl⟩ (fun _ k => ?_))
  subst k
  refine T_in g1 (T_b (Q := fun x => x = _) ⟨_, bw_V h n1 m1 u5, rfl⟩ (fun _ k => ?_))
  subst k
  refine T_in g1 (T_b (Q := fun x => x = _) ⟨_, bw_V h n1 m1 u6, rfl⟩ (fun _ k => ?_))
  subst k
  refine T_in g2 (T_b (Q := fun x => x = _) ⟨_, cm_V h n2 m2, rfl⟩ (fun _ k => ?_))
  subst k
  refine T_in g2 (T_b (Q := fun x => x = _) ⟨_, bw_V h n2 m2 u0, rfl⟩ (fun _ k => ?_))
  subst k
  refine T_in g2 (T_b (Q := fun x => x = _) ⟨_, bw_V h n2 m2 u1, rfl⟩ (fun _ k => ?_))
  subst k
  refine T_in g2 (T_b (Q := fun x => x = _) ⟨_, bw_V h n2 m2 u2, rfl⟩ (fun _ k => ?_))
  subst k
  refine T_in g2 (T_b (Q := fun x => x = _) ⟨_, bw_V h n2 m2 u3, rfl⟩ (fun _ k => ?_))
  subst k
  refine T_in g2 (T_b (Q := fun x => x = _) ⟨_, bw_V h n2 m2 u4, rfl⟩ (fun _ k => ?_))
  subst k
  refine T_in g2 (T_b (Q := fun x => x = _) ⟨_, bw_V h n2 m2 u5, rfl⟩ (fun _ k => ?_))
  subst k
  refine T_in g2 (T_b (Q := fun x => x = _) ⟨_, bw_V h n2 m2 u6, rfl⟩ (fun _ k => ?_))
  subst k
  refine T_in g3 (T_b (Q := fun x => x = _) ⟨_, cm_V h n3 m3, rfl⟩ (fun _ k => ?_))
  subst k
  refine T_in g3 (T_b (Q := fun x => x = _) ⟨_, bw_V h n3 m3 u0, rfl⟩ (fun _ k => ?_))
  subst k
  refine T_in g3 (T_b (Q := fun x => x = _) ⟨_, bw_V h n3 m3 u1, rfl⟩ (fun _ k => ?_))
  subst k
  refine T_in g3 (T_b (Q := fun x => x = _) ⟨_, bw_V h n3 m3 u2, rfl⟩ (fun _ k => ?_))
  subst k
  refine T_in g3 (T_b (Q := fun x => x = _) ⟨_, bw_V h n3 m3 u3, rfl⟩ (fun _ k => ?_))
  subst k
  refine T_in g3 (T_b (Q := fun x => x = _) ⟨_, bw_V h n3 m3 u4, rfl⟩ (fun _ k => ?_))
  subst k
  refine T_in g3 (T_b (Q := fun x => x = _) ⟨_, bw_V h n3 m3 u5, rfl⟩ (fun _ k => ?_))
  subst k
  refine T_in g3 (T_b (Q := fun x => x = _) ⟨_, bw_V h n3 m3 u6, rfl⟩ (fun _ k => ?_))
  subst k
  refine T_in g4 (T_b (Q := fun x => x = _) ⟨_, cm_V h n4 m4, rfl⟩ (fun _ k => ?_))
  subst k
  refine T_in g4 (T_b (Q := fun x => x = _) ⟨_, bw_V h n4 m4 u0, rfl⟩ (fun _ k => ?_))
  subst k
  refine T_in g4 (T_b (Q := fun x => x = _) ⟨_, bw_V h n4 m4 u1, rfl⟩ (fun _ k => ?_))
  subst k
  refine T_in g4 (T_b (Q := fun x => x = _) ⟨_, bw_V h n4 m4 u2, rfl⟩ (fun _ k => ?_))
  subst k
  refine T_in g4 (T_b (Q := fun x => x = _) ⟨_, bw_V h n4 m4 u3, rfl⟩ (fun _ k => ?_))
  subst k
  refine T_in g4 (T_b (Q := fun x => x = _) ⟨_, bw_V h n4 m4 u4, rfl⟩ (fun _ k => ?_))
  subst k
  refine T_in g4 (T_b (Q := fun x => x = _) ⟨_, bw_V h n4 m4 u5, rfl⟩ (fun _ k => ?_))
  subst k
  refine T_in g4 (T_b (Q := fun x => x = _) ⟨_, bw_V h n4 m4 u6, rfl⟩ (fun _ k => ?_))
  subst k
  refine T_b (Q := fun x => x = _) ⟨_, e0, rfl⟩ (fun _ k => ?_)
  subst k
  refine T_b (Q := fun x => x = _) ⟨_, e1, rfl⟩ (fun _ k => ?_)
  subst k
  refine T_b (Q := fun x => x = _) ⟨_, e2, rfl⟩ (fun _ k => ?_)
  subst k
  refine T_s ⟨h, ?_⟩
  rw [p0, p1, p2, r0, r1, r2]
  all_goals rfl
