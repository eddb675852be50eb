-- isSound: what the class finds sound
theorem dL_N1 {d e : DT} (hd : dV d) (he : dV e) (h : dL d e) : dN d < dN e := by
  have bd := dN_b hd
  have be := dN_b he
  rcases h with h | ⟨h1, h | ⟨h2, h3⟩⟩
  · have : nF (d.1.toInt + 1) ≤ nF e.1.toInt := by
      by_cases q : d.1.toInt + 1 = e.1.toInt
      · rw [q]; exact Int.le_refl _
      · exact Int.le_of_lt (nF_lt (by omega))
    omega
  · obtain ⟨a1, a2, a3, a4, _, _⟩ := id hd
    obtain ⟨b1, b2, b3, b4, _, _⟩ := id he
    have r : db d.1.toInt (d.2.1.toInt.toNat - 1 + 1) = db d.1.toInt (d.2.1.toInt.toNat - 1) + ml d.1.toInt ((d.2.1.toInt.toNat - 1 : Nat) + 1 : Int) := rfl
    rw [show ((d.2.1.toInt.toNat - 1 : Nat) + 1 : Int) = d.2.1.toInt by omega] at r
    have l : db d.1.toInt (d.2.1.toInt.toNat - 1 + 1) ≤ db d.1.toInt (e.2.1.toInt.toNat - 1) := by
      by_cases q : d.2.1.toInt.toNat - 1 + 1 = e.2.1.toInt.toNat - 1
      · rw [q]; exact Int.le_refl _
      · have := db_lt (y := d.1.toInt) (show d.2.1.toInt.toNat - 1 + 1 < e.2.1.toInt.toNat - 1 by omega)
        omega
    unfold dN dY
    rw [← h1]
    omega
  · unfold dN dY
    rw [← h1, ← h2]
    omega
theorem dL_N {d e : DT} (hd : dV d) (he : dV e) : dL d e ↔ dN d < dN e := by
  refine ⟨dL_N1 hd he, fun h => ?_⟩
  by_cases g : dL d e
  · exact g
  · by_cases k : dL e d
    · have := dL_N1 he hd k; omega
    · have q : d = e := by
        unfold dL at g k
        exact Prod.ext (Int32.toInt_inj.mp (by omega)) (Prod.ext (Int32.toInt_inj.mp (by omega)) (Int32.toInt_inj.mp (by omega)))
      rw [q] at h; omega
theorem dB_E {D E : Int64} {d e : DT} (hD : pkD D d) (hE : pkD E e) (hd : dR d) (he : dR e) : ∃ f, dV f ∧ pkD (m_X0_monthsLater D (m_X0_monthsUpTo D E).toInt64) f ∧ (m_X0_daysBehindMonths D E).toInt = dN e - dN f := by
  obtain ⟨m, a2, b2⟩ := mo_R hd he
  have a3 := pd_mu hD hE hd he
  obtain ⟨⟨h1, h2, h3, h4, _, _⟩, h5, h6⟩ := id hd
  obtain ⟨⟨g1, g2, g3, g4, _, _⟩, g5, g6⟩ := id he
  have em : m_X0_monthsUpTo D E = m := Option.some.inj (a3.symm.trans a2)
  have hq : 0 ≤ (if d.2.2.toInt ≤ e.2.2.toInt then (0 : Int) else 1) ∧ (if d.2.2.toInt ≤ e.2.2.toInt then (0 : Int) else 1) ≤ 1 := by split <;> omega
  generalize (if d.2.2.toInt ≤ e.2.2.toInt then (0 : Int) else 1) = k at *
  unfold m_X0_daysBehindMonths
  rw [em]
  rcases la_F hd.1 (ma_l b2) (by omega) (by omega) with ⟨c, _⟩ | ⟨_, f, e2, f3, f4, _⟩
  · exact absurd ⟨by omega, by omega⟩ c
  · rcases pk_ml hD hd.1 (ma_l b2) (by omega) (by omega) with ⟨f', e1, f1, f2⟩ | ⟨e1, _⟩
    · have r1 := dN_b f1
      have r2 := nF_r f1.2.2.2.2.1 (Int.le_trans f1.2.2.2.2.2 (by decide))
      have r3 := nF_r (y := f'.1.toInt + 1) (by have := f1.2.2.2.2.1; omega) (by have := f1.2.2.2.2.2; omega)
      have r4 := dN_r he
      exact ⟨f', f1, f2, ma_i (ma_sub (pk_nu hE he.1) (pk_nu f2 f1) (by omega) (by omega)) (by omega) (by omega)⟩
    · rw [e1] at e2; cases e2
theorem at_L {D E : Int64} {d e : DT} (hD : pkD D d) (hE : pkD E e) (hd : dR d) (he : dR e) : lg_cmp (m_X0_daysLater (m_X0_monthsLater D (m_X0_monthsUpTo D E).toInt64) (m_X0_daysBehindMonths D E).toInt64) E = 0 := by
  obtain ⟨f, f1, f2, f3⟩ := dB_E hD hE hd he
  have n := pk_nu f2 f1
  have r4 := dN_r he
  have r1 := dN_b f1
  have r2 := nF_r f1.2.2.2.2.1 (Int.le_trans f1.2.2.2.2.2 (by decide))
  have r3 := nF_r (y := f.1.toInt + 1) (by have := f1.2.2.2.2.1; omega) (by have := f1.2.2.2.2.2; omega)
  generalize m_X0_monthsLater D (m_X0_monthsUpTo D E).toInt64 = x at *
  have k : pkD (m_X0_daysLater x (m_X0_daysBehindMonths D E).toInt64) e := by
    unfold m_X0_daysLater
    exact pk_dn (q := dN e) ((ma_add n (ma_l f3) (by omega) (by omega)).trans (by omega)) (by omega) (by omega) he.1 rfl
  exact (pd_eq k hE he.1 he.1).mpr rfl
theorem at_2 {D E : Int64} {d e : DT} (hD : pkD D d) (hE : pkD E e) (hd : dR d) (he : dR e) : m_X0_areSoundTogether D E = 1 := by
  have l1 := pd_le hD hE hd.1 he.1
  have l2 := pd_le hE hD he.1 hd.1
  have n1 : 0 ≤ lg_cmp (m_X0_numberOf D) (m_X0_numberOf E) ↔ ¬ dN d < dN e := by
    rw [lg_cmp_ge, Int64.le_iff_toInt_le, pk_nu hD hd.1, pk_nu hE he.1]; omega
  have k := dL_N hd.1 he.1
  have s := at_L hD hE hd he
  unfold m_X0_areSoundTogether
  by_cases q : dL d e
  · rw [if_neg (fun x => l1.mp x q), if_neg (fun x => n1.mp x (k.mp q)), if_pos (l2.mpr (dL_asym q)), if_pos s]
  · rw [if_pos (l1.mpr q), if_pos (n1.mpr (fun x => q (k.mpr x)))]
    by_cases q2 : dL e d
    · rw [if_neg (fun x => l2.mp x q2)]
    · rw [if_pos (l2.mpr q2), if_pos s]
theorem at_1a {D : Int64} {d : DT} (h : pkD D d) (hd : dR d) : m_X0_isSoundAlone D = 1 := by
  have r := dN_r hd
  have n := pk_nu h hd.1
  have bY := dY_b hd.1
  obtain ⟨e, e1, e2⟩ : ∃ e, dV e ∧ dN e = dN d + 1 := by
    rcases ld_F hd.1 (p := 1) (x := 1) rfl (by decide) (by decide) with ⟨c, _⟩ | ⟨_, e, _, a, b⟩
    · exact absurd ⟨by omega, by omega⟩ c
    · exact ⟨e, a, b⟩
  have p1 : pkD (m_X0_daysLater D 1) e := by
    unfold m_X0_daysLater
    exact pk_dn (ma_add n (show (1 : Int64).toInt = 1 from rfl) (by omega) (by omega)) (by omega) (by omega) e1 e2
  have p2 : pkD (m_X0_daysLater (m_X0_daysLater D 1) (-1)) d := by
    have n2 := pk_nu p1 e1
    generalize m_X0_daysLater D 1 = x at *
    unfold m_X0_daysLater
    exact pk_dn (ma_add n2 (show (-1 : Int64).toInt = -1 from rfl) (by omega) (by omega)) (by omega) (by omega) hd.1 (by omega)
  have c1 : pkD (m_X0_fittedDate (m_X0_yearIn D) (m_X0_monthIn D) (m_X0_dayIn D)) d :=
    pk_fi (pk_yr h hd.1) (pk_mo h hd.1) hd.1 (by rw [pk_da h hd.1, if_pos hd.1.2.2.2.1])
  have c2 : pkD (m_X0_dateOfNumber (m_X0_numberOf D)) d := pk_dn n (by omega) (by omega) hd.1 rfl
  have c3 : pkD (m_X0_dateOfYearDay (m_X0_yearIn D) (m_X0_dayInYear D)) d :=
    pk_yd (pk_yr h hd.1) (pk_dy h hd.1) bY.1 bY.2 hd.1 rfl (by unfold dN; omega)
  have o := pd_le h p1 hd.1 e1
  have k : dL d e := (dL_N hd.1 e1).mpr (by omega)
  unfold m_X0_isSoundAlone
  rw [if_pos ((pd_eq c1 h hd.1 hd.1).mpr rfl), if_pos ((pd_eq c2 h hd.1 hd.1).mpr rfl), if_pos ((pd_eq c3 h hd.1 hd.1).mpr rfl), if_neg (fun x => o.mp x k), if_pos ((pd_eq p2 h hd.1 hd.1).mpr rfl)]
theorem i1q {c : Prop} [Decidable c] {A B : Nat × Int32} (hc : c) (h : A.2 = 1) : (if c then A else B).2 = 1 := by rw [if_pos hc]; exact h
theorem i2q {c : Prop} [Decidable c] {A B : Nat × Int32} (hc : ¬ c) (h : B.2 = 1) : (if c then A else B).2 = 1 := by rw [if_neg hc]; exact h
theorem sm_sound {z : CS} {w : MS} (h : sR z w) : (m_X0_isSound z).2 = 1 := by
  have c0 := at_c pc0 z
  have c1 := at_c pc1 z
  have c2 := at_c pc2 z
  have c3 := at_c pc3 z
  have c4 := at_c pc4 z
  have c5 := at_c pc5 z
  have n0 : m_X3_isNo 0 = 0 := by decide
  have n1 : m_X3_isNo 1 = 0 := by decide
  have n2 : m_X3_isNo 2 = 0 := by decide
  have n3 : m_X3_isNo 3 = 0 := by decide
  have n4 : m_X3_isNo 4 = 0 := by decide
  have n5 : m_X3_isNo 5 = 0 := by decide
  have aa : ∀ p : Int32, m_X3_isNo p = 0 → ¬ m_X0_isSoundAlone (m_X0_dateAt p z).2 = 0 := fun p hp => by rw [at_1a (at_R h hp).1 (at_R h hp).2]; decide
  have tt : ∀ p q : Int32, m_X3_isNo p = 0 → m_X3_isNo q = 0 → ¬ m_X0_areSoundTogether (m_X0_dateAt p z).2 (m_X0_dateAt q z).2 = 0 := fun p q hp hq => by rw [at_2 (at_R h hp).1 (at_R h hq).1 (at_R h hp).2 (at_R h hq).2]; decide
  unfold m_X0_isSound
  refine i1q c0 (i2q (aa 0 n0) ?_)
  refine i1q c0 (i1q c0 (i2q (tt 0 0 n0 n0) ?_))
  refine i1q c0 (i1q c1 (i2q (tt 0 1 n0 n1) ?_))
  refine i1q c0 (i1q c2 (i2q (tt 0 2 n0 n2) ?_))
  refine i1q c0 (i1q c3 (i2q (tt 0 3 n0 n3) ?_))
  refine i1q c0 (i1q c4 (i2q (tt 0 4 n0 n4) ?_))
  refine i1q c0 (i1q c5 (i2q (tt 0 5 n0 n5) ?_))
  refine i1q c1 (i2q (aa 1 n1) ?_)
  refine i1q c1 (i1q c0 (i2q (tt 1 0 n1 n0) ?_))
  refine i1q c1 (i1q c1 (i2q (tt 1 1 n1 n1) ?_))
  refine i1q c1 (i1q c2 (i2q (tt 1 2 n1 n2) ?_))
  refine i1q c1 (i1q c3 (i2q (tt 1 3 n1 n3) ?_))
  refine i1q c1 (i1q c4 (i2q (tt 1 4 n1 n4) ?_))
  refine i1q c1 (i1q c5 (i2q (tt 1 5 n1 n5) ?_))
  refine i1q c2 (i2q (aa 2 n2) ?_)
  refine i1q c2 (i1q c0 (i2q (tt 2 0 n2 n0) ?_))
  refine i1q c2 (i1q c1 (i2q (tt 2 1 n2 n1) ?_))
  refine i1q c2 (i1q c2 (i2q (tt 2 2 n2 n2) ?_))
  refine i1q c2 (i1q c3 (i2q (tt 2 3 n2 n3) ?_))
  refine i1q c2 (i1q c4 (i2q (tt 2 4 n2 n4) ?_))
  refine i1q c2 (i1q c5 (i2q (tt 2 5 n2 n5) ?_))
  refine i1q c3 (i2q (aa 3 n3) ?_)
  refine i1q c3 (i1q c0 (i2q (tt 3 0 n3 n0) ?_))
  refine i1q c3 (i1q c1 (i2q (tt 3 1 n3 n1) ?_))
  refine i1q c3 (i1q c2 (i2q (tt 3 2 n3 n2) ?_))
  refine i1q c3 (i1q c3 (i2q (tt 3 3 n3 n3) ?_))
  refine i1q c3 (i1q c4 (i2q (tt 3 4 n3 n4) ?_))
  refine i1q c3 (i1q c5 (i2q (tt 3 5 n3 n5) ?_))
  refine i1q c4 (i2q (aa 4 n4) ?_)
  refine i1q c4 (i1q c0 (i2q (tt 4 0 n4 n0) ?_))
  refine i1q c4 (i1q c1 (i2q (tt 4 1 n4 n1) ?_))
  refine i1q c4 (i1q c2 (i2q (tt 4 2 n4 n2) ?_))
  refine i1q c4 (i1q c3 (i2q (tt 4 3 n4 n3) ?_))
  refine i1q c4 (i1q c4 (i2q (tt 4 4 n4 n4) ?_))
  refine i1q c4 (i1q c5 (i2q (tt 4 5 n4 n5) ?_))
  refine i1q c5 (i2q (aa 5 n5) ?_)
  refine i1q c5 (i1q c0 (i2q (tt 5 0 n5 n0) ?_))
  refine i1q c5 (i1q c1 (i2q (tt 5 1 n5 n1) ?_))
  refine i1q c5 (i1q c2 (i2q (tt 5 2 n5 n2) ?_))
  refine i1q c5 (i1q c3 (i2q (tt 5 3 n5 n3) ?_))
  refine i1q c5 (i1q c4 (i2q (tt 5 4 n5 n4) ?_))
  refine i1q c5 (i1q c5 (i2q (tt 5 5 n5 n5) ?_))
  exact rfl
