-- the class's packed date against the reference's date
def pkD (w : Int64) (d : DT) : Prop := w.toInt = d.1.toInt * 512 + d.2.1.toInt * 32 + d.2.2.toInt
theorem and15 (x : Int32) : x &&& 15 = nI (x.toInt % 16).toNat := by
  rw [pk_and x (m := 15) 4 (by decide)]
  have e : x.toInt = if 2 * x.toBitVec.toNat < 2 ^ 32 then (x.toBitVec.toNat : Int) else (x.toBitVec.toNat : Int) - (2 ^ 32 : Nat) := BitVec.toInt_eq_toNat_cond x.toBitVec
  congr 1
  split at e <;> omega
theorem and31 (x : Int32) : x &&& 31 = nI (x.toInt % 32).toNat := by
  rw [pk_and x (m := 31) 5 (by decide)]
  have e : x.toInt = if 2 * x.toBitVec.toNat < 2 ^ 32 then (x.toBitVec.toNat : Int) else (x.toBitVec.toNat : Int) - (2 ^ 32 : Nat) := BitVec.toInt_eq_toNat_cond x.toBitVec
  congr 1
  split at e <;> omega
theorem tI_16 (a : Int64) : a.toInt32.toInt % 16 = a.toInt % 16 := by
  rw [Int64.toInt_toInt32, Int.bmod_def]
  split <;> omega
theorem tI_32 (a : Int64) : a.toInt32.toInt % 32 = a.toInt % 32 := by
  rw [Int64.toInt_toInt32, Int.bmod_def]
  split <;> omega
theorem pk_yr {w : Int64} {d : DT} (h : pkD w d) (hd : dV d) : (m_X0_yearIn w).toInt = d.1.toInt := by
  have hm := ml_b d.1.toInt d.2.1.toInt
  obtain ⟨h1, h2, h3, h4, _, _⟩ := hd
  rw [ma_yearIn, h]; omega
theorem pk_mo {w : Int64} {d : DT} (h : pkD w d) (hd : dV d) : m_X0_monthIn w = d.2.1 := by
  have hm := ml_b d.1.toInt d.2.1.toInt
  obtain ⟨h1, h2, h3, h4, _, _⟩ := hd
  have e : (w >>> ((5 : Int32).toInt64 &&& 63)).toInt = w.toInt / 32 := ma_shr w _ 5 (by decide)
  unfold m_X0_monthIn
  rw [and15, tI_16, e, h, nI_at (x := d.2.1.toInt) rfl (by omega)]
  congr 1
  rw [nI_toInt (by omega)]
  omega
theorem pk_da {w : Int64} {d : DT} (h : pkD w d) (hd : dV d) : m_X0_dayIn w = d.2.2 := by
  have hm := ml_b d.1.toInt d.2.1.toInt
  obtain ⟨h1, h2, h3, h4, _, _⟩ := hd
  unfold m_X0_dayIn
  rw [and31, tI_32, h, nI_at (x := d.2.2.toInt) rfl (by omega)]
  congr 1
  rw [nI_toInt (by omega)]
  omega
theorem pk_of {y : Int64} {m a : Int32} {d : DT} (hd : dV d) (hy : y.toInt = d.1.toInt) (hm : m = d.2.1) (ha : a = d.2.2) : pkD (m_X0_dateOf y m a) d := by
  subst hm ha
  obtain ⟨h1, h2, h3, h4, h5, h6⟩ := hd
  exact ma_dateOf hy rfl rfl (by omega) (by omega)
theorem pk_rq {w : Int64} {d : DT} (h : pkD w d) (hd : dV d) : m_X0_requireDate w = 0 ↔ -9999 ≤ d.1.toInt ∧ d.1.toInt ≤ 9999 := by
  have e := pk_yr h hd
  rw [ma_yearIn] at e
  have := yOK_iff (d := w)
  rw [e] at this
  exact this
theorem pk_dy {w : Int64} {d : DT} (h : pkD w d) (hd : dV d) : (m_X0_dayInYear w).toInt = dY d := by
  have hb := dY_b hd
  have hyl := yl_b d.1.toInt
  have ey := pk_yr h hd
  have em := pk_mo h hd
  have ea := pk_da h hd
  obtain ⟨h1, h2, h3, h4, _, _⟩ := hd
  have hm2 := ml_b d.1.toInt d.2.1.toInt
  have key : ∀ (n j : Nat) (x : Int32), 11 ≤ n + j → j < 12 → (j : Int) + 1 ≤ d.2.1.toInt → x.toInt = db d.1.toInt j + d.2.2.toInt → ∃ v, l_X0_dayInYear w (n + 1) (nI (j + 1)) x = some v ∧ v.toInt = dY d := by
    intro n
    induction n with
    | zero =>
      intro j x q1 q2 q3 q4
      refine ⟨x, if_pos (by rw [em]; exact (ia_le rfl (nI_t (by omega))).mpr (by omega)), ?_⟩
      unfold dY; rw [q4, show d.2.1.toInt.toNat - 1 = j by omega]
    | succ n ih =>
      intro j x q1 q2 q3 q4
      by_cases hc : d.2.1 ≤ nI (j + 1)
      · have := (ia_le rfl (nI_t (k := j + 1) (by omega))).mp hc
        refine ⟨x, if_pos (by rw [em]; exact hc), ?_⟩
        unfold dY; rw [q4, show d.2.1.toInt.toNat - 1 = j by omega]
      · have hc2 : ¬ d.2.1.toInt ≤ ((j + 1 : Nat) : Int) := fun g => hc ((ia_le rfl (nI_t (k := j + 1) (by omega))).mpr g)
        have e2 := mo_F ey (nI_t (k := j + 1) (by omega))
        have hm := ml_b d.1.toInt ((j + 1 : Nat) : Int)
        have hdb := db_b (y := d.1.toInt) j
        obtain ⟨v, e3, e4⟩ := ih (j + 1) (x + m_X0_monthLength (nI (j + 1)) (m_X0_isLeap (m_X0_yearIn w))) (by omega) (by omega) (by omega) (by rw [ia_add q4 e2 (by omega) (by omega)]; show _ = db d.1.toInt j + ml d.1.toInt ((j + 1 : Nat) : Int) + _; omega)
        refine ⟨v, (if_neg (fun g => hc (by rw [em] at g; exact g))).trans ?_, e4⟩
        rw [nI_1]; exact e3
  obtain ⟨v, e1, e2⟩ := key 19 0 d.2.2 (by omega) (by omega) (by omega) (by show _ = 0 + _; omega)
  unfold m_X0_dayInYear o_X0_dayInYear
  rw [ea, show l_X0_dayInYear w 20 1 d.2.2 = some v from e1]
  exact e2
theorem pk_nu {w : Int64} {d : DT} (h : pkD w d) (hd : dV d) : (m_X0_numberOf w).toInt = dN d := by
  have ed := pk_dy h hd
  have hb := dY_b hd
  have hyl := yl_b d.1.toInt
  have hr := nF_r hd.2.2.2.2.1 (Int.le_trans hd.2.2.2.2.2 (by decide))
  have ef := fn_F (pk_yr h hd) (by have := hd.2.2.2.2.1; omega) (by have := hd.2.2.2.2.2; omega)
  unfold m_X0_numberOf
  rw [ma_sub (ma_add ef (ma_l ed) (by omega) (by omega)) (show (1 : Int64).toInt = 1 from rfl) (by omega) (by omega)]
  unfold dN; omega
theorem pk_nuI {w : Int64} {d : DT} {v : Int32} (h : pkD w d) (hd : dV d) (hv : v.toInt = dN d) : (m_X0_numberOf w).toInt32 = v := by
  have e := pk_nu h hd
  have h1 := Int32.le_toInt v
  have h2 := Int32.toInt_lt v
  rw [hv] at h1 h2
  exact Int32.toInt_inj.mp (by rw [ma_i e h1 h2, hv])
theorem pk_dn {p : Int64} {q : Int} (h : p.toInt = q) (h1 : -100000000 ≤ q) (h2 : q ≤ 100000000) {d : DT} (hd : dV d) (hn : dN d = q) : pkD (m_X0_dateOfNumber p) d := by
  obtain ⟨y, i, e, b1, b2, b3, b4, q1, q2, q3, q4⟩ := dn_F h (by omega) (by omega)
  have hb := dN_b hd
  rw [hn] at hb
  have ey : y = d.1.toInt := nF_uniq b1 b2 hb.1 hb.2
  subst ey
  have eY : dY d = q - nF d.1.toInt + 1 := by unfold dN at hn; omega
  obtain ⟨g1, g2, g3, g4, g5, g6⟩ := id hd
  have r1 : db d.1.toInt (d.2.1.toInt.toNat - 1 + 1) = db d.1.toInt (d.2.1.toInt.toNat - 1) + ml d.1.toInt ((d.2.1.toInt.toNat - 1 : Nat) + 1 : Int) := rfl
  rw [show ((d.2.1.toInt.toNat - 1 : Nat) + 1 : Int) = d.2.1.toInt by omega] at r1
  have ei : i = d.2.1.toInt.toNat - 1 := db_uniq (y := d.1.toInt) (k := q - nF d.1.toInt + 1) q2 q3 (by unfold dY at eY; omega) (by unfold dY at eY; omega)
  rw [q4]
  refine pk_of hd e ?_ ?_
  · exact Int32.toInt_inj.mp (by rw [nI_t (by omega)]; omega)
  · have hmb := ml_b d.1.toInt d.2.1.toInt
    have e9 : q - nF d.1.toInt + 1 - db d.1.toInt (d.2.1.toInt.toNat - 1) = d.2.2.toInt := by unfold dY at eY; omega
    rw [ei, e9]
    exact Int32.toInt_inj.mp (by rw [nI_t (by omega)]; omega)
theorem pk_dnO {p : Int64} {q : Int} (h : p.toInt = q) (h1 : -1000000000 ≤ q) (h2 : q ≤ 1000000000) (ho : ¬ (-100000000 ≤ q ∧ q ≤ 100000000)) : m_X0_requireDate (m_X0_dateOfNumber p) ≠ 0 := by
  obtain ⟨y, i, e, b1, b2, b3, b4, q1, q2, q3, q4⟩ := dn_F h h1 h2
  have hd : db y (i + 1) = db y i + ml y ((i + 1 : Nat) : Int) := rfl
  have hm := ml_b y ((i + 1 : Nat) : Int)
  have l := nF_lo; have u := nF_hi
  intro g
  have g2 := yOK_iff.mp g
  rw [q4, ma_dateOf e (nI_t (k := i + 1) (by omega)) (nI_t (k := (q - nF y + 1 - db y i).toNat) (by omega)) (by omega) (by omega)] at g2
  have g3 : -9999 ≤ y ∧ y ≤ 9999 := by omega
  by_cases hq : q ≤ 100000000
  · by_cases e9 : y = -9999
    · subst e9; omega
    · have := nF_lt (show -9999 < y by omega); omega
  · by_cases e9 : y + 1 = 10000
    · rw [e9] at b2; omega
    · have := nF_lt (show y + 1 < 10000 by omega); omega
theorem ma_fmod {p c : Int64} {x y : Int} (hp : p.toInt = x) (hc : c.toInt = y) (h0 : 1 < y) : (m_J9_floorMod_f86c9 p c).toInt = x % y := by
  have hy := Int64.toInt_lt c
  rw [hc] at hy
  have hr := ma_rem hp hc h0
  have e1 := Int.mul_tdiv_add_tmod x y
  have hm1 := Int.emod_nonneg x (show y ≠ 0 by omega)
  have hm2 := Int.emod_lt_of_pos x (show 0 < y by omega)
  unfold m_J9_floorMod_f86c9
  by_cases hx : 0 ≤ x
  · rw [if_pos ((lg_cmp_ge _ _).mpr ((ma_xor p c (by omega)).mpr (by omega))), hr]
    exact Int.tmod_eq_emod_of_nonneg hx
  · rw [if_neg (fun h => hx (by have := (ma_xor p c (by omega)).mp ((lg_cmp_ge _ _).mp h); omega))]
    have h9 := Int.tmod_eq_emod (a := x) (b := y)
    by_cases hz : lg_cmp (p - p / c * c) 0 = 0
    · rw [if_pos hz, hr]
      have := (ma_rem0 hp hc h0).mp hz
      have t0 : x.tmod y = 0 := by
        have := Int.dvd_of_emod_eq_zero this
        exact Int.tmod_eq_zero_of_dvd this
      rw [t0, this]
    · rw [if_neg hz]
      have hne : ¬ x % y = 0 := fun g => hz ((ma_rem0 hp hc h0).mpr g)
      have t1 : x.tmod y = x % y - y := by
        rw [h9, if_neg (fun g => g.elim hx (fun q => hne (Int.emod_eq_zero_of_dvd q)))]
        have : (y.natAbs : Int) = y := by omega
        rw [this]
      rw [ma_add hr hc (by omega) (by omega), t1]; omega
