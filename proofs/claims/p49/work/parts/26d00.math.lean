theorem ma_b64 {x : Int} (h : -9223372036854775808 ≤ x) (h2 : x < 9223372036854775808) : x.bmod (2 ^ 64) = x := by
  apply Int.bmod_eq_of_le <;> omega
theorem ma_add {a b : Int64} {x y : Int} (ha : a.toInt = x) (hb : b.toInt = y) (h : -9223372036854775808 ≤ x + y) (h2 : x + y < 9223372036854775808) : (a + b).toInt = x + y := by
  rw [Int64.toInt_add, ha, hb]; exact ma_b64 h h2
theorem ma_sub {a b : Int64} {x y : Int} (ha : a.toInt = x) (hb : b.toInt = y) (h : -9223372036854775808 ≤ x - y) (h2 : x - y < 9223372036854775808) : (a - b).toInt = x - y := by
  rw [Int64.toInt_sub, ha, hb]; exact ma_b64 h h2
theorem ma_mul {a b : Int64} {x y : Int} (ha : a.toInt = x) (hb : b.toInt = y) (h : -9223372036854775808 ≤ x * y) (h2 : x * y < 9223372036854775808) : (a * b).toInt = x * y := by
  rw [Int64.toInt_mul, ha, hb]; exact ma_b64 h h2
theorem ma_shr (a s : Int64) (k : Nat) (hs : (s.toBitVec.smod 64).toNat = k) : (a >>> s).toInt = a.toInt / 2 ^ k := by
  show (a.toBitVec.sshiftRight (s.toBitVec.smod 64).toNat).toInt = _
  rw [hs, BitVec.toInt_sshiftRight, Int.shiftRight_eq_div_pow]
  rfl
theorem ma_shl (a s : Int64) (k : Nat) (hs : (s.toBitVec.smod 64).toNat = k) (c : Int64) (hc : BitVec.twoPow 64 k = c.toBitVec) : a <<< s = a * c := by
  apply Int64.toBitVec_inj.mp
  show a.toBitVec <<< (s.toBitVec.smod 64).toNat = _
  rw [hs, BitVec.shiftLeft_eq_mul_twoPow, hc]
  rfl
theorem ma_xor (p c : Int64) (hc : 0 ≤ c.toInt) : (0 ≤ p ^^^ c) ↔ 0 ≤ p.toInt := by
  have e : (p ^^^ c).toInt < 0 ↔ p.toInt < 0 := by
    show (p ^^^ c).toBitVec.toInt < 0 ↔ p.toBitVec.toInt < 0
    rw [Int64.toBitVec_xor]
    have h1 := BitVec.msb_eq_toInt (x := p.toBitVec ^^^ c.toBitVec)
    have h2 := BitVec.msb_eq_toInt (x := p.toBitVec)
    have h3 := BitVec.msb_eq_toInt (x := c.toBitVec)
    rw [BitVec.msb_xor, h2, h3] at h1
    have h4 : ¬ c.toBitVec.toInt < 0 := Int.not_lt.mpr hc
    rw [decide_eq_false h4, Bool.xor_false] at h1
    exact (decide_eq_decide.mp h1).symm
  rw [Int64.le_iff_toInt_le]
  show 0 ≤ (p ^^^ c).toInt ↔ _
  omega
theorem ma_fdiv {p c : Int64} {x y : Int} (hp : p.toInt = x) (hc : c.toInt = y) (h0 : 1 < y) : (m_J9_floorDiv_f86c9 p c).toInt = x / y := by
  have hr1 := Int64.le_toInt p
  have hr2 := Int64.toInt_lt p
  have hy := Int64.toInt_lt c
  rw [hp] at hr1 hr2
  rw [hc] at hy
  have ht := Int.natAbs_tdiv_le_natAbs x y
  have hd : (p / c).toInt = x.tdiv y := by
    rw [Int64.toInt_div, hp, hc]
    by_cases hx : x.tdiv y = 9223372036854775808
    · have e := Int.mul_tdiv_add_tmod x y
      have h9 := Int.tdiv_eq_ediv (a := x) (b := y)
      have hs : y.sign = 1 := Int.sign_eq_one_of_pos (by omega)
      have h8 : x / y ≤ 9223372036854775807 := by
        apply Int.ediv_le_of_le_mul (by omega)
        omega
      have h7 : x / y < 0 ∨ 0 ≤ x := by
        by_cases hx0 : 0 ≤ x
        · exact Or.inr hx0
        · exact Or.inl (Int.ediv_neg_of_neg_of_pos (by omega) (by omega))
      rw [hs] at h9
      split at h9 <;> omega
    · exact ma_b64 (by omega) (by omega)
  have hs : y.sign = 1 := Int.sign_eq_one_of_pos (by omega)
  unfold m_J9_floorDiv_f86c9
  by_cases hx : 0 ≤ x
  · rw [if_pos ((lg_cmp_ge _ _).mpr ((ma_xor p c (by omega)).mpr (by omega))), hd]
    exact Int.tdiv_eq_ediv_of_nonneg hx
  · rw [if_neg (fun h => hx (by have := (ma_xor p c (by omega)).mp ((lg_cmp_ge _ _).mp h); omega))]
    have h9 := Int.tdiv_eq_ediv (a := x) (b := y)
    rw [hs] at h9
    have hm := Int.mul_ediv_add_emod x y
    have hm1 := Int.emod_nonneg x (show y ≠ 0 by omega)
    have hm2 := Int.emod_lt_of_pos x (show 0 < y by omega)
    by_cases hdv : y ∣ x
    · rw [if_pos (Or.inr hdv), Int.add_zero] at h9
      have e : (p / c) * c = p := by
        apply Int64.toInt_inj.mp
        rw [Int64.toInt_mul, hd, hc, hp, h9, Int.mul_comm]
        have := Int.emod_eq_zero_of_dvd hdv
        rw [ma_b64 (by omega) (by omega)]
        omega
      rw [if_pos ((lg_cmp_eq _ _).mpr e), hd, h9]
    · rw [if_neg (fun h => h.elim hx hdv)] at h9
      have hne : x % y ≠ 0 := fun h => hdv (Int.dvd_of_emod_eq_zero h)
      have e : ¬ (p / c) * c = p := fun h => by
        have h2 : ((p / c) * c).toInt = x := by rw [h, hp]
        rw [Int64.toInt_mul, hd, hc, h9, Int.mul_comm, Int.mul_add, Int.mul_one, ma_b64 (by omega) (by omega)] at h2
        omega
      rw [if_neg (fun h => e ((lg_cmp_eq _ _).mp h))]
      have h5 : -4611686018427387904 ≤ x / y := Int.le_ediv_of_mul_le (by omega) (by omega)
      have h6 : x / y < 0 := Int.ediv_neg_of_neg_of_pos (by omega) (by omega)
      rw [ma_sub hd (show (1 : Int64).toInt = 1 by decide) (by omega) (by omega), h9]
      omega

-- years in a packed date
theorem ma_yearIn (d : Int64) : (m_X0_yearIn d).toInt = d.toInt / 512 := ma_shr d _ 9 (by decide)
theorem ma_l {a : Int32} {x : Int} (h : a.toInt = x) : a.toInt64.toInt = x := by rw [Int32.toInt_toInt64, h]
theorem ma_dateOf {y : Int64} {m d : Int32} {a b c : Int} (hy : y.toInt = a) (hm : m.toInt = b) (hd : d.toInt = c) (h1 : -1000000000 ≤ a ∧ a ≤ 1000000000) (h2 : 0 ≤ b ∧ b ≤ 15) : (m_X0_dateOf y m d).toInt = a * 512 + b * 32 + c := by
  have hc := Int32.le_toInt d
  have hc2 := Int32.toInt_lt d
  rw [hd] at hc hc2
  unfold m_X0_dateOf
  have e1 : (y <<< ((9 : Int32).toInt64 &&& 63)) = y * 512 := ma_shl y _ 9 (by decide) 512 (by decide)
  have e2 : (m <<< ((5 : Int32) &&& 31)).toInt = b * 32 := by
    have h9 : m = nI b.toNat := Int32.toInt_inj.mp (by rw [nI_toInt (by omega)]; omega)
    rw [h9, pk_shlN _ 5 (by decide) (by omega), nI_toInt (by omega)]
    omega
  rw [e1]
  exact ma_add (ma_add (ma_mul hy (by decide) (by omega) (by omega)) (ma_l e2) (by omega) (by omega)) (ma_l hd) (by omega) (by omega)
def yOK (d : Int64) : Prop := m_X0_requireDate d = 0
theorem yOK_iff {d : Int64} : yOK d ↔ -9999 ≤ d.toInt / 512 ∧ d.toInt / 512 ≤ 9999 := by
  have e := ma_yearIn d
  unfold yOK m_X0_requireDate
  have h1 : lg_cmp (m_X0_yearIn d) (-9999) < 0 ↔ d.toInt / 512 < -9999 := by
    rw [lg_cmp_lt, Int64.lt_iff_toInt_lt, e]; rfl
  have h2 : lg_cmp (m_X0_yearIn d) 9999 ≤ 0 ↔ d.toInt / 512 ≤ 9999 := by
    rw [lg_cmp_le, Int64.le_iff_toInt_le, e]; rfl
  split
  · rename_i g; rw [h1] at g
    constructor
    · intro h; exact absurd h (by decide)
    · intro h; omega
  · rename_i g; rw [h1] at g
    split
    · rename_i g2; rw [h2] at g2
      constructor
      · intro h; omega
      · intro h; rfl
    · rename_i g2; rw [h2] at g2
      constructor
      · intro h; exact absurd h (by decide)
      · intro h; omega
theorem yOK_of {y : Int64} {m d : Int32} {a b c : Int} (hy : y.toInt = a) (hm : m.toInt = b) (hd : d.toInt = c) (h1 : -9999 ≤ a ∧ a ≤ 9999) (h2 : 0 ≤ b ∧ b ≤ 15) (h3 : 0 ≤ c ∧ b * 32 + c ≤ 511) : yOK (m_X0_dateOf y m d) := by
  rw [yOK_iff, ma_dateOf hy hm hd (by omega) (by omega)]
  omega

theorem ma_monthIn (d : Int64) : ∃ b : Int, (m_X0_monthIn d).toInt = b ∧ 0 ≤ b ∧ b ≤ 15 := by
  obtain ⟨j, hj, e⟩ := pk_andE ((d >>> ((5 : Int32).toInt64 &&& 63)).toInt32) (m := 15) 4 (by decide)
  exact ⟨j, by unfold m_X0_monthIn; rw [e, nI_toInt (by omega)], by omega, by omega⟩
theorem ma_dayIn (d : Int64) : ∃ b : Int, (m_X0_dayIn d).toInt = b ∧ 0 ≤ b ∧ b ≤ 31 := by
  obtain ⟨j, hj, e⟩ := pk_andE d.toInt32 (m := 31) 5 (by decide)
  exact ⟨j, by unfold m_X0_dayIn; rw [e, nI_toInt (by omega)], by omega, by omega⟩
theorem ma_mLen (m f : Int32) : 28 ≤ (m_X0_monthLength m f).toInt ∧ (m_X0_monthLength m f).toInt ≤ 31 := by
  unfold m_X0_monthLength
  repeat' split
  all_goals decide
theorem yOK_fit {y : Int64} {m d : Int32} {a b c : Int} (hy : y.toInt = a) (hm : m.toInt = b) (hd : d.toInt = c) (h1 : -9999 ≤ a ∧ a ≤ 9999) (h2 : 0 ≤ b ∧ b ≤ 15) (h3 : 0 ≤ c ∧ c ≤ 31) : yOK (m_X0_fittedDate y m d) := by
  unfold m_X0_fittedDate
  have := ma_mLen m (m_X0_isLeap y)
  split
  · exact yOK_of hy hm rfl h1 h2 (by omega)
  · exact yOK_of hy hm hd h1 h2 (by omega)
-- the outcomes of the class
def cIv (z : CS) : Prop := ∀ i, i < 6 → yOK (z.1 i)
theorem pl_iff {p : Int32} : m_X0_requirePlace p = 0 ↔ 0 ≤ p.toInt ∧ p.toInt < 6 := by
  unfold m_X0_requirePlace
  have h1 : p < 0 ↔ p.toInt < 0 := Int32.lt_iff_toInt_lt
  have h2 : p < 6 ↔ p.toInt < 6 := Int32.lt_iff_toInt_lt
  split
  · rename_i g; rw [h1] at g
    constructor
    · intro h; exact absurd h (by decide)
    · intro h; omega
  · rename_i g; rw [h1] at g
    split
    · rename_i g2; rw [h2] at g2
      constructor
      · intro h; omega
      · intro h; rfl
    · rename_i g2; rw [h2] at g2
      constructor
      · intro h; exact absurd h (by decide)
      · intro h; omega
theorem pl_cl {p : Int32} (h : m_X0_requirePlace p = 0) : p.toNatClampNeg < 6 := by
  have := pl_iff.mp h
  have e : p.toNatClampNeg = p.toInt.toNat := rfl
  omega
theorem pl_01 (p : Int32) : m_X0_requirePlace p = 0 ∨ m_X0_requirePlace p = 1 := by
  unfold m_X0_requirePlace; repeat' split
  all_goals simp
theorem at_01 (p : Int32) (z : CS) : (m_X0_dateAt p z).1 = 0 ∨ (m_X0_dateAt p z).1 = 1 := by
  unfold m_X0_dateAt
  split
  · exact Or.inl rfl
  · exact pl_01 p
theorem at_y {p : Int32} {z : CS} (h : cIv z) (h0 : (m_X0_dateAt p z).1 = 0) : yOK (m_X0_dateAt p z).2 := by
  unfold m_X0_dateAt at h0 ⊢
  split at h0
  · rename_i h1; rw [if_pos h1]; exact h _ (pl_cl h1)
  · rename_i h1; exact absurd h0 h1
theorem put_01 (p : Int32) (d : Int64) (z : CS) : (m_X0_put p d z).1 = 0 ∨ (m_X0_put p d z).1 = 1 := by
  unfold m_X0_put
  split
  · exact Or.inl rfl
  · exact pl_01 p
theorem put_iv {p : Int32} {d : Int64} {z : CS} (h : cIv z) (hd : yOK d) : cIv (m_X0_put p d z).2 := by
  unfold m_X0_put
  split
  · intro i hi
    show yOK (vp_updL z.1 p.toNatClampNeg d i)
    by_cases e : i = p.toNatClampNeg
    · subst e; rw [pk_uLs]; exact hd
    · rw [pk_uLn e]; exact h i hi
  · exact h
theorem give_iv {p : Int32} {d : Int64} {z : CS} (h : cIv z) : cIv (m_X0_give p d z).2.2 := by
  unfold m_X0_give
  split
  · rename_i h1
    split
    · exact put_iv (d := d) h h1
    · exact put_iv (d := d) h h1
  · exact h
theorem give_o (p : Int32) (d : Int64) (z : CS) : (m_X0_give p d z).1 = 0 ∨ (m_X0_give p d z).1 = 1 ∨ (m_X0_give p d z).1 = 3 := by
  unfold m_X0_give
  split
  · split
    · exact Or.inl rfl
    · rename_i h; exact (put_01 p d z).elim (fun e => absurd e h) (fun e => Or.inr (Or.inl e))
  · rename_i h
    refine Or.inr (Or.inr ?_)
    show m_X0_requireDate d = 3
    unfold m_X0_requireDate at h ⊢
    split
    · rfl
    · rename_i h1
      rw [if_neg h1] at h
      split
      · rename_i h2; exact absurd (if_pos h2) h
      · rfl
theorem give_y {p : Int32} {d : Int64} {z : CS} (hd : yOK d) : (m_X0_give p d z).1 = 0 ∨ (m_X0_give p d z).1 = 1 := by
  unfold m_X0_give
  rw [if_pos (show m_X0_requireDate d = 0 from hd)]
  split
  · exact Or.inl rfl
  · exact put_01 p d z
theorem oc_requireDate (d : Int64) : m_X0_requireDate d = 0 ∨ m_X0_requireDate d = 3 := by
  unfold m_X0_requireDate
  split
  · exact Or.inr rfl
  · split
    · exact Or.inl rfl
    · exact Or.inr rfl
theorem civ_e {z w : CS} (h : cIv z) (e : w.1 = z.1) : cIv w := by unfold cIv; rw [e]; exact h
theorem oc_requireWithin (p0 : Int32) (p1 : Int32) (p2 : Int32) : m_X0_requireWithin p0 p1 p2 = 0 ∨ m_X0_requireWithin p0 p1 p2 = 2 := by
  unfold m_X0_requireWithin
  with_reducible repeat' split
  all_goals with_reducible (first | omega | simp_all)
theorem oc_requireYearMonthDay (p0 : Int32) (p1 : Int32) (p2 : Int32) : m_X0_requireYearMonthDay p0 p1 p2 = 0 ∨ m_X0_requireYearMonthDay p0 p1 p2 = 2 := by
  unfold m_X0_requireYearMonthDay
  have h0 := oc_requireWithin p0 (-9999 : Int32) (9999 : Int32)
  have h1 := oc_requireWithin p1 (1 : Int32) (12 : Int32)
  have h2 := oc_requireWithin p2 (1 : Int32) (31 : Int32)
  with_reducible repeat' split
  all_goals with_reducible (first | omega | simp_all)
theorem oc_requireDayOfMonth (p0 : Int64) (p1 : Int32) (p2 : Int32) : m_X0_requireDayOfMonth p0 p1 p2 = 0 ∨ m_X0_requireDayOfMonth p0 p1 p2 = 3 := by
  unfold m_X0_requireDayOfMonth
  with_reducible repeat' split
  all_goals with_reducible (first | omega | simp_all)
theorem oc_of (p0 : Int32) (p1 : Int32) (p2 : Int32) (p3 : Int32) (z : CS) : (m_X0_of p0 p1 p2 p3 z).1 = 0 ∨ (m_X0_of p0 p1 p2 p3 z).1 = 1 ∨ (m_X0_of p0 p1 p2 p3 z).1 = 2 ∨ (m_X0_of p0 p1 p2 p3 z).1 = 3 := by
  unfold m_X0_of
  have h0 := pl_01 p0
  have h1 := oc_requireYearMonthDay p1 p2 p3
  have h2 := oc_requireDayOfMonth p1.toInt64 p2 p3
  have h3 := give_o p0 (m_X0_dateOf p1.toInt64 p2 p3) z
  with_reducible repeat' split
  all_goals with_reducible (try dsimp only; first | omega | simp_all)
theorem iv_of (p0 : Int32) (p1 : Int32) (p2 : Int32) (p3 : Int32) (z : CS) (h : cIv z) : cIv (m_X0_of p0 p1 p2 p3 z).2.2 := by
  unfold m_X0_of
  with_reducible repeat' split
  all_goals with_reducible first | exact h | exact give_iv h | exact civ_e h rfl | fail
theorem oc_giveYearDay (p0 : Int32) (p1 : Int64) (p2 : Int32) (z : CS) : (m_X0_giveYearDay p0 p1 p2 z).1 = 0 ∨ (m_X0_giveYearDay p0 p1 p2 z).1 = 1 ∨ (m_X0_giveYearDay p0 p1 p2 z).1 = 2 ∨ (m_X0_giveYearDay p0 p1 p2 z).1 = 3 := by
  unfold m_X0_giveYearDay
  have h0 := oc_requireWithin p2 (1 : Int32) (366 : Int32)
  have h1 := give_o p0 (m_X0_dateOfYearDay p1 p2) z
  with_reducible repeat' split
  all_goals with_reducible (try dsimp only; first | omega | simp_all)
theorem iv_giveYearDay (p0 : Int32) (p1 : Int64) (p2 : Int32) (z : CS) (h : cIv z) : cIv (m_X0_giveYearDay p0 p1 p2 z).2.2 := by
  unfold m_X0_giveYearDay
  with_reducible repeat' split
  all_goals with_reducible first | exact h | exact give_iv h | exact civ_e h rfl | exact iv_of _ _ _ _ _ h | fail
theorem oc_ofYearDay (p0 : Int32) (p1 : Int32) (p2 : Int32) (z : CS) : (m_X0_ofYearDay p0 p1 p2 z).1 = 0 ∨ (m_X0_ofYearDay p0 p1 p2 z).1 = 1 ∨ (m_X0_ofYearDay p0 p1 p2 z).1 = 2 ∨ (m_X0_ofYearDay p0 p1 p2 z).1 = 3 := by
  unfold m_X0_ofYearDay
  have h0 := pl_01 p0
  have h1 := oc_requireWithin p1 (-9999 : Int32) (9999 : Int32)
  have h2 := oc_giveYearDay p0 p1.toInt64 p2 z
  with_reducible repeat' split
  all_goals with_reducible (try dsimp only; first | omega | simp_all)
theorem iv_ofYearDay (p0 : Int32) (p1 : Int32) (p2 : Int32) (z : CS) (h : cIv z) : cIv (m_X0_ofYearDay p0 p1 p2 z).2.2 := by
  unfold m_X0_ofYearDay
  with_reducible repeat' split
  all_goals with_reducible first | exact h | exact give_iv h | exact civ_e h rfl | exact iv_of _ _ _ _ _ h | exact iv_giveYearDay _ _ _ _ h | fail
theorem oc_toDay (p0 : Int32) (z : CS) : (m_X0_toDay p0 z).1 = 0 ∨ (m_X0_toDay p0 z).1 = 1 := by
  unfold m_X0_toDay
  have h0 := at_01 p0 z
  with_reducible repeat' split
  all_goals with_reducible (try dsimp only; first | omega | simp_all)
theorem oc_withDay (p0 : Int32) (p1 : Int32) (z : CS) : (m_X0_withDay p0 p1 z).1 = 0 ∨ (m_X0_withDay p0 p1 z).1 = 1 ∨ (m_X0_withDay p0 p1 z).1 = 2 ∨ (m_X0_withDay p0 p1 z).1 = 3 := by
  unfold m_X0_withDay
  have h0 := at_01 p0 z
  have h1 := oc_requireWithin p1 (1 : Int32) (31 : Int32)
  have h2 := oc_requireDayOfMonth (m_X0_yearIn ((m_X0_dateAt p0 z).2)) (m_X0_monthIn ((m_X0_dateAt p0 z).2)) p1
  have h3 := give_o p0 (m_X0_dateOf (m_X0_yearIn ((m_X0_dateAt p0 z).2)) (m_X0_monthIn ((m_X0_dateAt p0 z).2)) p1) z
  with_reducible repeat' split
  all_goals with_reducible (try dsimp only; first | omega | simp_all)
theorem iv_withDay (p0 : Int32) (p1 : Int32) (z : CS) (h : cIv z) : cIv (m_X0_withDay p0 p1 z).2.2 := by
  unfold m_X0_withDay
  with_reducible repeat' split
  all_goals with_reducible first | exact h | exact give_iv h | exact civ_e h rfl | exact iv_of _ _ _ _ _ h | exact iv_giveYearDay _ _ _ _ h | exact iv_ofYearDay _ _ _ _ h | fail
theorem oc_withDayOfYear (p0 : Int32) (p1 : Int32) (z : CS) : (m_X0_withDayOfYear p0 p1 z).1 = 0 ∨ (m_X0_withDayOfYear p0 p1 z).1 = 1 ∨ (m_X0_withDayOfYear p0 p1 z).1 = 2 ∨ (m_X0_withDayOfYear p0 p1 z).1 = 3 := by
  unfold m_X0_withDayOfYear
  have h0 := at_01 p0 z
  have h1 := oc_giveYearDay p0 (m_X0_yearIn ((m_X0_dateAt p0 z).2)) p1 z
  with_reducible repeat' split
  all_goals with_reducible (try dsimp only; first | omega | simp_all)
theorem iv_withDayOfYear (p0 : Int32) (p1 : Int32) (z : CS) (h : cIv z) : cIv (m_X0_withDayOfYear p0 p1 z).2.2 := by
  unfold m_X0_withDayOfYear
  with_reducible repeat' split
  all_goals with_reducible first | exact h | exact give_iv h | exact civ_e h rfl | exact iv_of _ _ _ _ _ h | exact iv_giveYearDay _ _ _ _ h | exact iv_ofYearDay _ _ _ _ h | exact iv_withDay _ _ _ h | fail
theorem oc_requireAmount (p0 : Int32) : m_X0_requireAmount p0 = 0 ∨ m_X0_requireAmount p0 = 2 := by
  unfold m_X0_requireAmount
  have h0 := oc_requireWithin p0 (-200000 : Int32) (200000 : Int32)
  with_reducible repeat' split
  all_goals with_reducible (first | omega | simp_all)
theorem oc_move (p0 : Int32) (p1 : Int32) (p2 : Int32) (z : CS) : (m_X0_move p0 p1 p2 z).1 = 0 ∨ (m_X0_move p0 p1 p2 z).1 = 1 ∨ (m_X0_move p0 p1 p2 z).1 = 2 ∨ (m_X0_move p0 p1 p2 z).1 = 3 := by
  unfold m_X0_move
  have h0 := at_01 p0 z
  have h1 := oc_requireAmount p2
  have h2 := give_o p0 (m_X0_unitsLater ((m_X0_dateAt p0 z).2) p1 p2) z
  with_reducible repeat' split
  all_goals with_reducible (try dsimp only; first | omega | simp_all)
theorem iv_move (p0 : Int32) (p1 : Int32) (p2 : Int32) (z : CS) (h : cIv z) : cIv (m_X0_move p0 p1 p2 z).2.2 := by
  unfold m_X0_move
  with_reducible repeat' split
  all_goals with_reducible first | exact h | exact give_iv h | exact civ_e h rfl | exact iv_of _ _ _ _ _ h | exact iv_giveYearDay _ _ _ _ h | exact iv_ofYearDay _ _ _ _ h | exact iv_withDay _ _ _ h | exact iv_withDayOfYear _ _ _ h | fail
theorem oc_plusDays (p0 : Int32) (p1 : Int32) (z : CS) : (m_X0_plusDays p0 p1 z).1 = 0 ∨ (m_X0_plusDays p0 p1 z).1 = 1 ∨ (m_X0_plusDays p0 p1 z).1 = 2 ∨ (m_X0_plusDays p0 p1 z).1 = 3 := by
  unfold m_X0_plusDays
  have h0 := oc_move p0 (0 : Int32) p1 z
  with_reducible repeat' split
  all_goals with_reducible (try dsimp only; first | omega | simp_all)
theorem iv_plusDays (p0 : Int32) (p1 : Int32) (z : CS) (h : cIv z) : cIv (m_X0_plusDays p0 p1 z).2.2 := by
  unfold m_X0_plusDays
  with_reducible repeat' split
  all_goals with_reducible first | exact h | exact give_iv h | exact civ_e h rfl | exact iv_of _ _ _ _ _ h | exact iv_giveYearDay _ _ _ _ h | exact iv_ofYearDay _ _ _ _ h | exact iv_withDay _ _ _ h | exact iv_withDayOfYear _ _ _ h | exact iv_move _ _ _ _ h | fail
theorem oc_plusWeeks (p0 : Int32) (p1 : Int32) (z : CS) : (m_X0_plusWeeks p0 p1 z).1 = 0 ∨ (m_X0_plusWeeks p0 p1 z).1 = 1 ∨ (m_X0_plusWeeks p0 p1 z).1 = 2 ∨ (m_X0_plusWeeks p0 p1 z).1 = 3 := by
  unfold m_X0_plusWeeks
  have h0 := oc_move p0 (1 : Int32) p1 z
  with_reducible repeat' split
  all_goals with_reducible (try dsimp only; first | omega | simp_all)
theorem iv_plusWeeks (p0 : Int32) (p1 : Int32) (z : CS) (h : cIv z) : cIv (m_X0_plusWeeks p0 p1 z).2.2 := by
  unfold m_X0_plusWeeks
  with_reducible repeat' split
  all_goals with_reducible first | exact h | exact give_iv h | exact civ_e h rfl | exact iv_of _ _ _ _ _ h | exact iv_giveYearDay _ _ _ _ h | exact iv_ofYearDay _ _ _ _ h | exact iv_withDay _ _ _ h | exact iv_withDayOfYear _ _ _ h | exact iv_move _ _ _ _ h | exact iv_plusDays _ _ _ h | fail
theorem oc_plusMonths (p0 : Int32) (p1 : Int32) (z : CS) : (m_X0_plusMonths p0 p1 z).1 = 0 ∨ (m_X0_plusMonths p0 p1 z).1 = 1 ∨ (m_X0_plusMonths p0 p1 z).1 = 2 ∨ (m_X0_plusMonths p0 p1 z).1 = 3 := by
  unfold m_X0_plusMonths
  have h0 := oc_move p0 (2 : Int32) p1 z
  with_reducible repeat' split
  all_goals with_reducible (try dsimp only; first | omega | simp_all)
theorem iv_plusMonths (p0 : Int32) (p1 : Int32) (z : CS) (h : cIv z) : cIv (m_X0_plusMonths p0 p1 z).2.2 := by
  unfold m_X0_plusMonths
  with_reducible repeat' split
  all_goals with_reducible first | exact h | exact give_iv h | exact civ_e h rfl | exact iv_of _ _ _ _ _ h | exact iv_giveYearDay _ _ _ _ h | exact iv_ofYearDay _ _ _ _ h | exact iv_withDay _ _ _ h | exact iv_withDayOfYear _ _ _ h | exact iv_move _ _ _ _ h | exact iv_plusDays _ _ _ h | exact iv_plusWeeks _ _ _ h | fail
theorem oc_plusYears (p0 : Int32) (p1 : Int32) (z : CS) : (m_X0_plusYears p0 p1 z).1 = 0 ∨ (m_X0_plusYears p0 p1 z).1 = 1 ∨ (m_X0_plusYears p0 p1 z).1 = 2 ∨ (m_X0_plusYears p0 p1 z).1 = 3 := by
  unfold m_X0_plusYears
  have h0 := oc_move p0 (3 : Int32) p1 z
  with_reducible repeat' split
  all_goals with_reducible (try dsimp only; first | omega | simp_all)
theorem iv_plusYears (p0 : Int32) (p1 : Int32) (z : CS) (h : cIv z) : cIv (m_X0_plusYears p0 p1 z).2.2 := by
  unfold m_X0_plusYears
  with_reducible repeat' split
  all_goals with_reducible first | exact h | exact give_iv h | exact civ_e h rfl | exact iv_of _ _ _ _ _ h | exact iv_giveYearDay _ _ _ _ h | exact iv_ofYearDay _ _ _ _ h | exact iv_withDay _ _ _ h | exact iv_withDayOfYear _ _ _ h | exact iv_move _ _ _ _ h | exact iv_plusDays _ _ _ h | exact iv_plusWeeks _ _ _ h | exact iv_plusMonths _ _ _ h | fail
theorem oc_minusDays (p0 : Int32) (p1 : Int32) (z : CS) : (m_X0_minusDays p0 p1 z).1 = 0 ∨ (m_X0_minusDays p0 p1 z).1 = 1 ∨ (m_X0_minusDays p0 p1 z).1 = 2 ∨ (m_X0_minusDays p0 p1 z).1 = 3 := by
  unfold m_X0_minusDays
  have h0 := oc_move p0 (0 : Int32) (-p1) z
  with_reducible repeat' split
  all_goals with_reducible (try dsimp only; first | omega | simp_all)
theorem iv_minusDays (p0 : Int32) (p1 : Int32) (z : CS) (h : cIv z) : cIv (m_X0_minusDays p0 p1 z).2.2 := by
  unfold m_X0_minusDays
  with_reducible repeat' split
  all_goals with_reducible first | exact h | exact give_iv h | exact civ_e h rfl | exact iv_of _ _ _ _ _ h | exact iv_giveYearDay _ _ _ _ h | exact iv_ofYearDay _ _ _ _ h | exact iv_withDay _ _ _ h | exact iv_withDayOfYear _ _ _ h | exact iv_move _ _ _ _ h | exact iv_plusDays _ _ _ h | exact iv_plusWeeks _ _ _ h | exact iv_plusMonths _ _ _ h | exact iv_plusYears _ _ _ h | fail
theorem oc_minusWeeks (p0 : Int32) (p1 : Int32) (z : CS) : (m_X0_minusWeeks p0 p1 z).1 = 0 ∨ (m_X0_minusWeeks p0 p1 z).1 = 1 ∨ (m_X0_minusWeeks p0 p1 z).1 = 2 ∨ (m_X0_minusWeeks p0 p1 z).1 = 3 := by
  unfold m_X0_minusWeeks
  have h0 := oc_move p0 (1 : Int32) (-p1) z
  with_reducible repeat' split
  all_goals with_reducible (try dsimp only; first | omega | simp_all)
theorem iv_minusWeeks (p0 : Int32) (p1 : Int32) (z : CS) (h : cIv z) : cIv (m_X0_minusWeeks p0 p1 z).2.2 := by
  unfold m_X0_minusWeeks
  with_reducible repeat' split
  all_goals with_reducible first | exact h | exact give_iv h | exact civ_e h rfl | exact iv_of _ _ _ _ _ h | exact iv_giveYearDay _ _ _ _ h | exact iv_ofYearDay _ _ _ _ h | exact iv_withDay _ _ _ h | exact iv_withDayOfYear _ _ _ h | exact iv_move _ _ _ _ h | exact iv_plusDays _ _ _ h | exact iv_plusWeeks _ _ _ h | exact iv_plusMonths _ _ _ h | exact iv_plusYears _ _ _ h | exact iv_minusDays _ _ _ h | fail
theorem oc_minusMonths (p0 : Int32) (p1 : Int32) (z : CS) : (m_X0_minusMonths p0 p1 z).1 = 0 ∨ (m_X0_minusMonths p0 p1 z).1 = 1 ∨ (m_X0_minusMonths p0 p1 z).1 = 2 ∨ (m_X0_minusMonths p0 p1 z).1 = 3 := by
  unfold m_X0_minusMonths
  have h0 := oc_move p0 (2 : Int32) (-p1) z
  with_reducible repeat' split
  all_goals with_reducible (try dsimp only; first | omega | simp_all)
theorem iv_minusMonths (p0 : Int32) (p1 : Int32) (z : CS) (h : cIv z) : cIv (m_X0_minusMonths p0 p1 z).2.2 := by
  unfold m_X0_minusMonths
  with_reducible repeat' split
  all_goals with_reducible first | exact h | exact give_iv h | exact civ_e h rfl | exact iv_of _ _ _ _ _ h | exact iv_giveYearDay _ _ _ _ h | exact iv_ofYearDay _ _ _ _ h | exact iv_withDay _ _ _ h | exact iv_withDayOfYear _ _ _ h | exact iv_move _ _ _ _ h | exact iv_plusDays _ _ _ h | exact iv_plusWeeks _ _ _ h | exact iv_plusMonths _ _ _ h | exact iv_plusYears _ _ _ h | exact iv_minusDays _ _ _ h | exact iv_minusWeeks _ _ _ h | fail
theorem oc_minusYears (p0 : Int32) (p1 : Int32) (z : CS) : (m_X0_minusYears p0 p1 z).1 = 0 ∨ (m_X0_minusYears p0 p1 z).1 = 1 ∨ (m_X0_minusYears p0 p1 z).1 = 2 ∨ (m_X0_minusYears p0 p1 z).1 = 3 := by
  unfold m_X0_minusYears
  have h0 := oc_move p0 (3 : Int32) (-p1) z
  with_reducible repeat' split
  all_goals with_reducible (try dsimp only; first | omega | simp_all)
theorem iv_minusYears (p0 : Int32) (p1 : Int32) (z : CS) (h : cIv z) : cIv (m_X0_minusYears p0 p1 z).2.2 := by
  unfold m_X0_minusYears
  with_reducible repeat' split
  all_goals with_reducible first | exact h | exact give_iv h | exact civ_e h rfl | exact iv_of _ _ _ _ _ h | exact iv_giveYearDay _ _ _ _ h | exact iv_ofYearDay _ _ _ _ h | exact iv_withDay _ _ _ h | exact iv_withDayOfYear _ _ _ h | exact iv_move _ _ _ _ h | exact iv_plusDays _ _ _ h | exact iv_plusWeeks _ _ _ h | exact iv_plusMonths _ _ _ h | exact iv_plusYears _ _ _ h | exact iv_minusDays _ _ _ h | exact iv_minusWeeks _ _ _ h | exact iv_minusMonths _ _ _ h | fail
theorem oc_requireSpan (p0 : Int32) : m_X0_requireSpan p0 = 0 ∨ m_X0_requireSpan p0 = 1 := by
  unfold m_X0_requireSpan
  with_reducible repeat' split
  all_goals with_reducible (first | omega | simp_all)
theorem oc_putSpan (p0 : Int32) (p1 : Int32) (p2 : Int32) (p3 : Int32) (z : CS) : (m_X0_putSpan p0 p1 p2 p3 z).1 = 0 ∨ (m_X0_putSpan p0 p1 p2 p3 z).1 = 1 := by
  unfold m_X0_putSpan
  have h0 := oc_requireSpan p0
  with_reducible repeat' split
  all_goals with_reducible (try dsimp only; first | omega | simp_all)
theorem iv_putSpan (p0 : Int32) (p1 : Int32) (p2 : Int32) (p3 : Int32) (z : CS) (h : cIv z) : cIv (m_X0_putSpan p0 p1 p2 p3 z).2 := by
  unfold m_X0_putSpan
  with_reducible repeat' split
  all_goals with_reducible first | exact h | exact give_iv h | exact civ_e h rfl | exact iv_of _ _ _ _ _ h | exact iv_giveYearDay _ _ _ _ h | exact iv_ofYearDay _ _ _ _ h | exact iv_withDay _ _ _ h | exact iv_withDayOfYear _ _ _ h | exact iv_move _ _ _ _ h | exact iv_plusDays _ _ _ h | exact iv_plusWeeks _ _ _ h | exact iv_plusMonths _ _ _ h | exact iv_plusYears _ _ _ h | exact iv_minusDays _ _ _ h | exact iv_minusWeeks _ _ _ h | exact iv_minusMonths _ _ _ h | exact iv_minusYears _ _ _ h | fail
theorem oc_giveSpan (p0 : Int32) (p1 : Int32) (p2 : Int32) (p3 : Int32) (z : CS) : (m_X0_giveSpan p0 p1 p2 p3 z).1 = 0 ∨ (m_X0_giveSpan p0 p1 p2 p3 z).1 = 1 := by
  unfold m_X0_giveSpan
  have h0 := oc_putSpan p0 p1 p2 p3 z
  with_reducible repeat' split
  all_goals with_reducible (try dsimp only; first | omega | simp_all)
theorem iv_giveSpan (p0 : Int32) (p1 : Int32) (p2 : Int32) (p3 : Int32) (z : CS) (h : cIv z) : cIv (m_X0_giveSpan p0 p1 p2 p3 z).2 := by
  unfold m_X0_giveSpan
  with_reducible repeat' split
  all_goals with_reducible first | exact h | exact give_iv h | exact civ_e h rfl | exact civ_e (iv_putSpan _ _ _ _ _ h) rfl | exact iv_of _ _ _ _ _ h | exact iv_giveYearDay _ _ _ _ h | exact iv_ofYearDay _ _ _ _ h | exact iv_withDay _ _ _ h | exact iv_withDayOfYear _ _ _ h | exact iv_move _ _ _ _ h | exact iv_plusDays _ _ _ h | exact iv_plusWeeks _ _ _ h | exact iv_plusMonths _ _ _ h | exact iv_plusYears _ _ _ h | exact iv_minusDays _ _ _ h | exact iv_minusWeeks _ _ _ h | exact iv_minusMonths _ _ _ h | exact iv_minusYears _ _ _ h | exact iv_putSpan _ _ _ _ _ h | fail
theorem oc_monthsOfSpan (p0 : Int32) (z : CS) : (m_X0_monthsOfSpan p0 z).1 = 0 ∨ (m_X0_monthsOfSpan p0 z).1 = 1 := by
  unfold m_X0_monthsOfSpan
  have h0 := oc_requireSpan p0
  with_reducible repeat' split
  all_goals with_reducible (try dsimp only; first | omega | simp_all)
theorem oc_span (p0 : Int32) (p1 : Int32) (p2 : Int32) (p3 : Int32) (z : CS) : (m_X0_span p0 p1 p2 p3 z).1 = 0 ∨ (m_X0_span p0 p1 p2 p3 z).1 = 1 ∨ (m_X0_span p0 p1 p2 p3 z).1 = 2 := by
  unfold m_X0_span
  have h0 := oc_requireSpan p0
  have h1 := oc_requireWithin p1 (-100000 : Int32) (100000 : Int32)
  have h2 := oc_requireWithin p2 (-100000 : Int32) (100000 : Int32)
  have h3 := oc_requireWithin p3 (-100000 : Int32) (100000 : Int32)
  have h4 := oc_giveSpan p0 p1 p2 p3 z
  have h5 := oc_monthsOfSpan p0 ((m_X0_giveSpan p0 p1 p2 p3 z).2)
  with_reducible repeat' split
  all_goals with_reducible (try dsimp only; first | omega | simp_all)
theorem iv_span (p0 : Int32) (p1 : Int32) (p2 : Int32) (p3 : Int32) (z : CS) (h : cIv z) : cIv (m_X0_span p0 p1 p2 p3 z).2.2 := by
  unfold m_X0_span
  with_reducible repeat' split
  all_goals with_reducible first | exact h | exact give_iv h | exact civ_e h rfl | exact civ_e (iv_putSpan _ _ _ _ _ h) rfl | exact civ_e (iv_giveSpan _ _ _ _ _ h) rfl | exact iv_of _ _ _ _ _ h | exact iv_giveYearDay _ _ _ _ h | exact iv_ofYearDay _ _ _ _ h | exact iv_withDay _ _ _ h | exact iv_withDayOfYear _ _ _ h | exact iv_move _ _ _ _ h | exact iv_plusDays _ _ _ h | exact iv_plusWeeks _ _ _ h | exact iv_plusMonths _ _ _ h | exact iv_plusYears _ _ _ h | exact iv_minusDays _ _ _ h | exact iv_minusWeeks _ _ _ h | exact iv_minusMonths _ _ _ h | exact iv_minusYears _ _ _ h | exact iv_putSpan _ _ _ _ _ h | exact iv_giveSpan _ _ _ _ _ h | fail
theorem oc_requireNotAhead (p0 : Int64) (p1 : Int64) : m_X0_requireNotAhead p0 p1 = 0 ∨ m_X0_requireNotAhead p0 p1 = 3 := by
  unfold m_X0_requireNotAhead
  with_reducible repeat' split
  all_goals with_reducible (first | omega | simp_all)
theorem oc_until (p0 : Int32) (p1 : Int32) (p2 : Int32) (z : CS) : (m_X0_until p0 p1 p2 z).1 = 0 ∨ (m_X0_until p0 p1 p2 z).1 = 1 ∨ (m_X0_until p0 p1 p2 z).1 = 3 := by
  unfold m_X0_until
  have h0 := oc_requireSpan p0
  have h1 := at_01 p1 z
  have h2 := at_01 p2 z
  have h3 := oc_requireNotAhead ((m_X0_dateAt p2 z).2) ((m_X0_dateAt p1 z).2)
  have h4 := oc_giveSpan p0 ((m_X0_monthsUpTo ((m_X0_dateAt p1 z).2) ((m_X0_dateAt p2 z).2)) / (12 : Int32)) ((m_X0_monthsUpTo ((m_X0_dateAt p1 z).2) ((m_X0_dateAt p2 z).2)) - (m_X0_monthsUpTo ((m_X0_dateAt p1 z).2) ((m_X0_dateAt p2 z).2)) / (12 : Int32) * (12 : Int32)) (m_X0_daysBehindMonths ((m_X0_dateAt p1 z).2) ((m_X0_dateAt p2 z).2)) z
  with_reducible repeat' split
  all_goals with_reducible (try dsimp only; first | omega | simp_all)
theorem iv_until (p0 : Int32) (p1 : Int32) (p2 : Int32) (z : CS) (h : cIv z) : cIv (m_X0_until p0 p1 p2 z).2.2 := by
  unfold m_X0_until
  with_reducible repeat' split
  all_goals with_reducible first | exact h | exact give_iv h | exact civ_e h rfl | exact civ_e (iv_putSpan _ _ _ _ _ h) rfl | exact civ_e (iv_giveSpan _ _ _ _ _ h) rfl | exact iv_of _ _ _ _ _ h | exact iv_giveYearDay _ _ _ _ h | exact iv_ofYearDay _ _ _ _ h | exact iv_withDay _ _ _ h | exact iv_withDayOfYear _ _ _ h | exact iv_move _ _ _ _ h | exact iv_plusDays _ _ _ h | exact iv_plusWeeks _ _ _ h | exact iv_plusMonths _ _ _ h | exact iv_plusYears _ _ _ h | exact iv_minusDays _ _ _ h | exact iv_minusWeeks _ _ _ h | exact iv_minusMonths _ _ _ h | exact iv_minusYears _ _ _ h | exact iv_putSpan _ _ _ _ _ h | exact iv_giveSpan _ _ _ _ _ h | exact iv_span _ _ _ _ _ h | fail
theorem oc_requireSpanHolds (p0 : Int32) : m_X0_requireSpanHolds p0 = 0 ∨ m_X0_requireSpanHolds p0 = 3 := by
  unfold m_X0_requireSpanHolds
  with_reducible repeat' split
  all_goals with_reducible (first | omega | simp_all)
theorem oc_addSpan (p0 : Int32) (p1 : Int32) (z : CS) : (m_X0_addSpan p0 p1 z).1 = 0 ∨ (m_X0_addSpan p0 p1 z).1 = 1 ∨ (m_X0_addSpan p0 p1 z).1 = 3 := by
  unfold m_X0_addSpan
  have h0 := oc_requireSpan p0
  have h1 := oc_requireSpan p1
  have h2 := oc_requireSpanHolds ((z.2.1 p0.toNatClampNeg) + (z.2.1 p1.toNatClampNeg))
  have h3 := oc_requireSpanHolds ((z.2.2.1 p0.toNatClampNeg) + (z.2.2.1 p1.toNatClampNeg))
  have h4 := oc_requireSpanHolds ((z.2.2.2.1 p0.toNatClampNeg) + (z.2.2.2.1 p1.toNatClampNeg))
  have h5 := oc_giveSpan p0 ((z.2.1 p0.toNatClampNeg) + (z.2.1 p1.toNatClampNeg)) ((z.2.2.1 p0.toNatClampNeg) + (z.2.2.1 p1.toNatClampNeg)) ((z.2.2.2.1 p0.toNatClampNeg) + (z.2.2.2.1 p1.toNatClampNeg)) z
  with_reducible repeat' split
  all_goals with_reducible (try dsimp only; first | omega | simp_all)
theorem iv_addSpan (p0 : Int32) (p1 : Int32) (z : CS) (h : cIv z) : cIv (m_X0_addSpan p0 p1 z).2.2 := by
  unfold m_X0_addSpan
  with_reducible repeat' split
  all_goals with_reducible first | exact h | exact give_iv h | exact civ_e h rfl | exact civ_e (iv_putSpan _ _ _ _ _ h) rfl | exact civ_e (iv_giveSpan _ _ _ _ _ h) rfl | exact iv_of _ _ _ _ _ h | exact iv_giveYearDay _ _ _ _ h | exact iv_ofYearDay _ _ _ _ h | exact iv_withDay _ _ _ h | exact iv_withDayOfYear _ _ _ h | exact iv_move _ _ _ _ h | exact iv_plusDays _ _ _ h | exact iv_plusWeeks _ _ _ h | exact iv_plusMonths _ _ _ h | exact iv_plusYears _ _ _ h | exact iv_minusDays _ _ _ h | exact iv_minusWeeks _ _ _ h | exact iv_minusMonths _ _ _ h | exact iv_minusYears _ _ _ h | exact iv_putSpan _ _ _ _ _ h | exact iv_giveSpan _ _ _ _ _ h | exact iv_span _ _ _ _ _ h | exact iv_until _ _ _ _ h | fail
theorem oc_ofSpan (p0 : Int32) (p1 : Int32) (z : CS) : (m_X0_ofSpan p0 p1 z).1 = 0 ∨ (m_X0_ofSpan p0 p1 z).1 = 1 ∨ (m_X0_ofSpan p0 p1 z).1 = 2 := by
  unfold m_X0_ofSpan
  have h0 := oc_requireSpan p0
  have h1 := oc_requireWithin p1 (0 : Int32) (2 : Int32)
  with_reducible repeat' split
  all_goals with_reducible (try dsimp only; first | omega | simp_all)
theorem oc_plusSpan (p0 : Int32) (p1 : Int32) (z : CS) : (m_X0_plusSpan p0 p1 z).1 = 0 ∨ (m_X0_plusSpan p0 p1 z).1 = 1 ∨ (m_X0_plusSpan p0 p1 z).1 = 3 := by
  unfold m_X0_plusSpan
  have h0 := at_01 p0 z
  have h1 := oc_requireSpan p1
  have h2 := oc_monthsOfSpan p1 z
  have h3 := give_o p0 (m_X0_daysLater (m_X0_monthsLater ((m_X0_dateAt p0 z).2) (((m_X0_monthsOfSpan p1 z).2).toInt64)) ((z.2.2.2.1 p1.toNatClampNeg).toInt64)) z
  with_reducible repeat' split
  all_goals with_reducible (try dsimp only; first | omega | simp_all)
theorem iv_plusSpan (p0 : Int32) (p1 : Int32) (z : CS) (h : cIv z) : cIv (m_X0_plusSpan p0 p1 z).2.2 := by
  unfold m_X0_plusSpan
  with_reducible repeat' split
  all_goals with_reducible first | exact h | exact give_iv h | exact civ_e h rfl | exact civ_e (iv_putSpan _ _ _ _ _ h) rfl | exact civ_e (iv_giveSpan _ _ _ _ _ h) rfl | exact iv_of _ _ _ _ _ h | exact iv_giveYearDay _ _ _ _ h | exact iv_ofYearDay _ _ _ _ h | exact iv_withDay _ _ _ h | exact iv_withDayOfYear _ _ _ h | exact iv_move _ _ _ _ h | exact iv_plusDays _ _ _ h | exact iv_plusWeeks _ _ _ h | exact iv_plusMonths _ _ _ h | exact iv_plusYears _ _ _ h | exact iv_minusDays _ _ _ h | exact iv_minusWeeks _ _ _ h | exact iv_minusMonths _ _ _ h | exact iv_minusYears _ _ _ h | exact iv_putSpan _ _ _ _ _ h | exact iv_giveSpan _ _ _ _ _ h | exact iv_span _ _ _ _ _ h | exact iv_until _ _ _ _ h | exact iv_addSpan _ _ _ h | fail
theorem oc_minusSpan (p0 : Int32) (p1 : Int32) (z : CS) : (m_X0_minusSpan p0 p1 z).1 = 0 ∨ (m_X0_minusSpan p0 p1 z).1 = 1 ∨ (m_X0_minusSpan p0 p1 z).1 = 3 := by
  unfold m_X0_minusSpan
  have h0 := at_01 p0 z
  have h1 := oc_requireSpan p1
  have h2 := oc_monthsOfSpan p1 z
  have h3 := give_o p0 (m_X0_daysLater (m_X0_monthsLater ((m_X0_dateAt p0 z).2) ((-((m_X0_monthsOfSpan p1 z).2)).toInt64)) ((-(z.2.2.2.1 p1.toNatClampNeg)).toInt64)) z
  with_reducible repeat' split
  all_goals with_reducible (try dsimp only; first | omega | simp_all)
theorem iv_minusSpan (p0 : Int32) (p1 : Int32) (z : CS) (h : cIv z) : cIv (m_X0_minusSpan p0 p1 z).2.2 := by
  unfold m_X0_minusSpan
  with_reducible repeat' split
  all_goals with_reducible first | exact h | exact give_iv h | exact civ_e h rfl | exact civ_e (iv_putSpan _ _ _ _ _ h) rfl | exact civ_e (iv_giveSpan _ _ _ _ _ h) rfl | exact iv_of _ _ _ _ _ h | exact iv_giveYearDay _ _ _ _ h | exact iv_ofYearDay _ _ _ _ h | exact iv_withDay _ _ _ h | exact iv_withDayOfYear _ _ _ h | exact iv_move _ _ _ _ h | exact iv_plusDays _ _ _ h | exact iv_plusWeeks _ _ _ h | exact iv_plusMonths _ _ _ h | exact iv_plusYears _ _ _ h | exact iv_minusDays _ _ _ h | exact iv_minusWeeks _ _ _ h | exact iv_minusMonths _ _ _ h | exact iv_minusYears _ _ _ h | exact iv_putSpan _ _ _ _ _ h | exact iv_giveSpan _ _ _ _ _ h | exact iv_span _ _ _ _ _ h | exact iv_until _ _ _ _ h | exact iv_addSpan _ _ _ h | exact iv_plusSpan _ _ _ h | fail
theorem oc_year (p0 : Int32) (z : CS) : (m_X0_year p0 z).1 = 0 ∨ (m_X0_year p0 z).1 = 1 := by
  unfold m_X0_year
  have h0 := at_01 p0 z
  with_reducible repeat' split
  all_goals with_reducible (try dsimp only; first | omega | simp_all)
theorem oc_month (p0 : Int32) (z : CS) : (m_X0_month p0 z).1 = 0 ∨ (m_X0_month p0 z).1 = 1 := by
  unfold m_X0_month
  have h0 := at_01 p0 z
  with_reducible repeat' split
  all_goals with_reducible (try dsimp only; first | omega | simp_all)
theorem oc_day (p0 : Int32) (z : CS) : (m_X0_day p0 z).1 = 0 ∨ (m_X0_day p0 z).1 = 1 := by
  unfold m_X0_day
  have h0 := at_01 p0 z
  with_reducible repeat' split
  all_goals with_reducible (try dsimp only; first | omega | simp_all)
theorem oc_dayOfYear (p0 : Int32) (z : CS) : (m_X0_dayOfYear p0 z).1 = 0 ∨ (m_X0_dayOfYear p0 z).1 = 1 := by
  unfold m_X0_dayOfYear
  have h0 := at_01 p0 z
  with_reducible repeat' split
  all_goals with_reducible (try dsimp only; first | omega | simp_all)
theorem oc_dayOfWeek (p0 : Int32) (z : CS) : (m_X0_dayOfWeek p0 z).1 = 0 ∨ (m_X0_dayOfWeek p0 z).1 = 1 := by
  unfold m_X0_dayOfWeek
  have h0 := oc_toDay p0 z
  with_reducible repeat' split
  all_goals with_reducible (try dsimp only; first | omega | simp_all)
theorem oc_laterDayOfWeek (p0 : Int32) (p1 : Int32) (z : CS) : (m_X0_laterDayOfWeek p0 p1 z).1 = 0 ∨ (m_X0_laterDayOfWeek p0 p1 z).1 = 1 ∨ (m_X0_laterDayOfWeek p0 p1 z).1 = 2 := by
  unfold m_X0_laterDayOfWeek
  have h0 := pl_01 p0
  have h1 := oc_requireAmount p1
  have h2 := oc_toDay p0 z
  with_reducible repeat' split
  all_goals with_reducible (try dsimp only; first | omega | simp_all)
theorem oc_lengthOfMonth (p0 : Int32) (z : CS) : (m_X0_lengthOfMonth p0 z).1 = 0 ∨ (m_X0_lengthOfMonth p0 z).1 = 1 := by
  unfold m_X0_lengthOfMonth
  have h0 := at_01 p0 z
  with_reducible repeat' split
  all_goals with_reducible (try dsimp only; first | omega | simp_all)
theorem oc_lengthOfYear (p0 : Int32) (z : CS) : (m_X0_lengthOfYear p0 z).1 = 0 ∨ (m_X0_lengthOfYear p0 z).1 = 1 := by
  unfold m_X0_lengthOfYear
  have h0 := at_01 p0 z
  with_reducible repeat' split
  all_goals with_reducible (try dsimp only; first | omega | simp_all)
theorem oc_isLeapYear (p0 : Int32) (z : CS) : (m_X0_isLeapYear p0 z).1 = 0 ∨ (m_X0_isLeapYear p0 z).1 = 1 := by
  unfold m_X0_isLeapYear
  have h0 := at_01 p0 z
  with_reducible repeat' split
  all_goals with_reducible (try dsimp only; first | omega | simp_all)
theorem oc_field (p0 : Int32) (p1 : Int32) (z : CS) : (m_X0_field p0 p1 z).1 = 0 ∨ (m_X0_field p0 p1 z).1 = 1 ∨ (m_X0_field p0 p1 z).1 = 2 := by
  unfold m_X0_field
  have h0 := at_01 p0 z
  have h1 := oc_requireWithin p1 (0 : Int32) (5 : Int32)
  with_reducible repeat' split
  all_goals with_reducible (try dsimp only; first | omega | simp_all)
theorem oc_isDate (p0 : Int32) (p1 : Int32) (p2 : Int32) (z : CS) : (m_X0_isDate p0 p1 p2 z).1 = 0 ∨ (m_X0_isDate p0 p1 p2 z).1 = 2 := by
  unfold m_X0_isDate
  have h0 := oc_requireYearMonthDay p0 p1 p2
  with_reducible repeat' split
  all_goals with_reducible (try dsimp only; first | omega | simp_all)
theorem oc_requireUnit (p0 : Int32) : m_X0_requireUnit p0 = 0 ∨ m_X0_requireUnit p0 = 2 := by
  unfold m_X0_requireUnit
  have h0 := oc_requireWithin p0 (0 : Int32) (6 : Int32)
  with_reducible repeat' split
  all_goals with_reducible (first | omega | simp_all)
theorem oc_wouldBe (p0 : Int32) (p1 : Int32) (p2 : Int32) (z : CS) : (m_X0_wouldBe p0 p1 p2 z).1 = 0 ∨ (m_X0_wouldBe p0 p1 p2 z).1 = 1 ∨ (m_X0_wouldBe p0 p1 p2 z).1 = 2 ∨ (m_X0_wouldBe p0 p1 p2 z).1 = 3 := by
  unfold m_X0_wouldBe
  have h0 := at_01 p0 z
  have h1 := oc_requireUnit p1
  have h2 := oc_requireAmount p2
  have h3 := oc_requireDate (m_X0_unitsLater ((m_X0_dateAt p0 z).2) p1 p2)
  with_reducible repeat' split
  all_goals with_reducible (try dsimp only; first | omega | simp_all)
theorem oc_compare (p0 : Int32) (p1 : Int32) (z : CS) : (m_X0_compare p0 p1 z).1 = 0 ∨ (m_X0_compare p0 p1 z).1 = 1 := by
  unfold m_X0_compare
  have h0 := at_01 p0 z
  have h1 := at_01 p1 z
  with_reducible repeat' split
  all_goals with_reducible (try dsimp only; first | omega | simp_all)
theorem oc_isBefore (p0 : Int32) (p1 : Int32) (z : CS) : (m_X0_isBefore p0 p1 z).1 = 0 ∨ (m_X0_isBefore p0 p1 z).1 = 1 := by
  unfold m_X0_isBefore
  have h0 := at_01 p0 z
  have h1 := at_01 p1 z
  with_reducible repeat' split
  all_goals with_reducible (try dsimp only; first | omega | simp_all)
theorem oc_isAfter (p0 : Int32) (p1 : Int32) (z : CS) : (m_X0_isAfter p0 p1 z).1 = 0 ∨ (m_X0_isAfter p0 p1 z).1 = 1 := by
  unfold m_X0_isAfter
  have h0 := at_01 p0 z
  have h1 := at_01 p1 z
  with_reducible repeat' split
  all_goals with_reducible (try dsimp only; first | omega | simp_all)
theorem oc_isSame (p0 : Int32) (p1 : Int32) (z : CS) : (m_X0_isSame p0 p1 z).1 = 0 ∨ (m_X0_isSame p0 p1 z).1 = 1 := by
  unfold m_X0_isSame
  have h0 := at_01 p0 z
  have h1 := at_01 p1 z
  with_reducible repeat' split
  all_goals with_reducible (try dsimp only; first | omega | simp_all)
theorem oc_between (p0 : Int32) (p1 : Int32) (p2 : Int32) (z : CS) : (m_X0_between p0 p1 p2 z).1 = 0 ∨ (m_X0_between p0 p1 p2 z).1 = 1 ∨ (m_X0_between p0 p1 p2 z).1 = 2 := by
  unfold m_X0_between
  have h0 := at_01 p0 z
  have h1 := at_01 p1 z
  have h2 := oc_requireUnit p2
  with_reducible repeat' split
  all_goals with_reducible (try dsimp only; first | omega | simp_all)
theorem oc_apart (p0 : Int32) (p1 : Int32) (p2 : Int32) (z : CS) : (m_X0_apart p0 p1 p2 z).1 = 0 ∨ (m_X0_apart p0 p1 p2 z).1 = 1 ∨ (m_X0_apart p0 p1 p2 z).1 = 2 ∨ (m_X0_apart p0 p1 p2 z).1 = 3 := by
  unfold m_X0_apart
  have h0 := at_01 p0 z
  have h1 := at_01 p1 z
  have h2 := oc_requireWithin p2 (0 : Int32) (2 : Int32)
  have h3 := oc_requireNotAhead ((m_X0_dateAt p1 z).2) ((m_X0_dateAt p0 z).2)
  with_reducible repeat' split
  all_goals with_reducible (try dsimp only; first | omega | simp_all)
theorem oc_daysToYearEnd (p0 : Int32) (z : CS) : (m_X0_daysToYearEnd p0 z).1 = 0 ∨ (m_X0_daysToYearEnd p0 z).1 = 1 := by
  unfold m_X0_daysToYearEnd
  have h0 := at_01 p0 z
  with_reducible repeat' split
  all_goals with_reducible (try dsimp only; first | omega | simp_all)
theorem oc_sameDay (p0 : Int32) (p1 : Int32) (z : CS) : (m_X0_sameDay p0 p1 z).1 = 0 ∨ (m_X0_sameDay p0 p1 z).1 = 1 ∨ (m_X0_sameDay p0 p1 z).1 = 2 := by
  unfold m_X0_sameDay
  have h0 := at_01 p0 z
  have h1 := oc_requireWithin p1 (-9999 : Int32) (9999 : Int32)
  with_reducible repeat' split
  all_goals with_reducible (try dsimp only; first | omega | simp_all)
theorem oc_knock  (z : CS) : (m_X0_knock  z).1 = 0 := by
  unfold m_X0_knock
  rfl
theorem iv_knock  (z : CS) (h : cIv z) : cIv (m_X0_knock  z).2.2 := by
  unfold m_X0_knock
  all_goals with_reducible first | exact h | exact give_iv h | exact civ_e h rfl | exact civ_e (iv_putSpan _ _ _ _ _ h) rfl | exact civ_e (iv_giveSpan _ _ _ _ _ h) rfl | exact iv_of _ _ _ _ _ h | exact iv_giveYearDay _ _ _ _ h | exact iv_ofYearDay _ _ _ _ h | exact iv_withDay _ _ _ h | exact iv_withDayOfYear _ _ _ h | exact iv_move _ _ _ _ h | exact iv_plusDays _ _ _ h | exact iv_plusWeeks _ _ _ h | exact iv_plusMonths _ _ _ h | exact iv_plusYears _ _ _ h | exact iv_minusDays _ _ _ h | exact iv_minusWeeks _ _ _ h | exact iv_minusMonths _ _ _ h | exact iv_minusYears _ _ _ h | exact iv_putSpan _ _ _ _ _ h | exact iv_giveSpan _ _ _ _ _ h | exact iv_span _ _ _ _ _ h | exact iv_until _ _ _ _ h | exact iv_addSpan _ _ _ h | exact iv_plusSpan _ _ _ h | exact iv_minusSpan _ _ _ h | fail
theorem rw_iff {p a b : Int32} : m_X0_requireWithin p a b = 0 ↔ a.toInt ≤ p.toInt ∧ p.toInt ≤ b.toInt := by
  unfold m_X0_requireWithin
  have h1 : p < a ↔ p.toInt < a.toInt := Int32.lt_iff_toInt_lt
  have h2 : p ≤ b ↔ p.toInt ≤ b.toInt := Int32.le_iff_toInt_le
  split
  · rename_i g; rw [h1] at g
    exact ⟨fun h => absurd h (by decide), fun h => by omega⟩
  · rename_i g; rw [h1] at g
    split
    · rename_i g2; rw [h2] at g2
      exact ⟨fun h => by omega, fun h => rfl⟩
    · rename_i g2; rw [h2] at g2
      exact ⟨fun h => absurd h (by decide), fun h => by omega⟩
theorem ep_y : yOK (1008673 : Int64) := by rw [yOK_iff]; decide
theorem oc_copy (p0 p1 : Int32) (z : CS) (h : cIv z) : (m_X0_copy p0 p1 z).1 = 0 ∨ (m_X0_copy p0 p1 z).1 = 1 := by
  unfold m_X0_copy
  have h0 := pl_01 p0
  have h1 := at_01 p1 z
  have h2 : (m_X0_dateAt p1 z).1 = 0 → _ := fun hb => give_y (p := p0) (z := z) (at_y h hb)
  with_reducible repeat' split
  all_goals with_reducible (try dsimp only; first | omega | simp_all)
theorem iv_copy (p0 p1 : Int32) (z : CS) (h : cIv z) : cIv (m_X0_copy p0 p1 z).2.2 := by
  unfold m_X0_copy
  with_reducible repeat' split
  all_goals with_reducible first | exact h | exact give_iv h
theorem oc_epoch (p0 : Int32) (z : CS) (h : cIv z) : (m_X0_epoch p0 z).1 = 0 ∨ (m_X0_epoch p0 z).1 = 1 := by
  unfold m_X0_epoch
  have h1 := oc_toDay p0 z
  have h2 := give_y (p := p0) (z := z) ep_y
  with_reducible repeat' split
  all_goals with_reducible (try dsimp only; first | omega | simp_all)
theorem iv_epoch (p0 : Int32) (z : CS) (h : cIv z) : cIv (m_X0_epoch p0 z).2.2 := by
  unfold m_X0_epoch
  with_reducible repeat' split
  all_goals with_reducible first | exact h | exact give_iv h
theorem oc_swap (p0 p1 : Int32) (z : CS) (h : cIv z) : (m_X0_swap p0 p1 z).1 = 0 ∨ (m_X0_swap p0 p1 z).1 = 1 := by
  unfold m_X0_swap
  have h0 := at_01 p0 z
  have h1 := at_01 p1 z
  have h2 := put_01 p1 (m_X0_dateAt p0 z).2 z
  have h3 : (m_X0_dateAt p1 z).1 = 0 → _ := fun hb => give_y (p := p0) (z := (m_X0_put p1 ((m_X0_dateAt p0 z).2) z).2) (at_y h hb)
  with_reducible repeat' split
  all_goals with_reducible (try dsimp only; first | omega | simp_all)
theorem iv_swap (p0 p1 : Int32) (z : CS) (h : cIv z) : cIv (m_X0_swap p0 p1 z).2.2 := by
  unfold m_X0_swap
  have h3 : (m_X0_dateAt p0 z).1 = 0 → _ := fun hb => put_iv (p := p1) h (at_y h hb)
  with_reducible repeat' split
  all_goals with_reducible first | exact h | exact give_iv (h3 (by assumption)) | exact h3 (by assumption)
theorem ym {d : Int64} (h : yOK d) : ∃ a b c : Int, (m_X0_yearIn d).toInt = a ∧ (m_X0_monthIn d).toInt = b ∧ (m_X0_dayIn d).toInt = c ∧ (-9999 ≤ a ∧ a ≤ 9999) ∧ (0 ≤ b ∧ b ≤ 15) ∧ 0 ≤ c ∧ c ≤ 31 := by
  obtain ⟨b, hb⟩ := ma_monthIn d
  obtain ⟨c, hc⟩ := ma_dayIn d
  exact ⟨d.toInt / 512, b, c, ma_yearIn d, hb.1, hc.1, yOK_iff.mp h, hb.2, hc.2⟩
theorem oc_withYear (p0 p1 : Int32) (z : CS) (h : cIv z) : (m_X0_withYear p0 p1 z).1 = 0 ∨ (m_X0_withYear p0 p1 z).1 = 1 ∨ (m_X0_withYear p0 p1 z).1 = 2 := by
  unfold m_X0_withYear
  have h1 := at_01 p0 z
  have h0 := oc_requireWithin p1 (-9999) 9999
  have h2 : (m_X0_dateAt p0 z).1 = 0 → m_X0_requireWithin p1 (-9999) 9999 = 0 → _ := fun hb hw => give_y (p := p0) (z := z) (d := m_X0_fittedDate p1.toInt64 (m_X0_monthIn ((m_X0_dateAt p0 z).2)) (m_X0_dayIn ((m_X0_dateAt p0 z).2))) (by
    obtain ⟨a, b, c, e1, e2, e3, e4, e5, e6⟩ := ym (at_y h hb)
    exact yOK_fit (ma_l rfl) e2 e3 (rw_iff.mp hw) e5 e6)
  with_reducible repeat' split
  all_goals with_reducible (try dsimp only; first | omega | simp_all)
theorem iv_withYear (p0 p1 : Int32) (z : CS) (h : cIv z) : cIv (m_X0_withYear p0 p1 z).2.2 := by
  unfold m_X0_withYear
  with_reducible repeat' split
  all_goals with_reducible first | exact h | exact give_iv h
theorem oc_withMonth (p0 p1 : Int32) (z : CS) (h : cIv z) : (m_X0_withMonth p0 p1 z).1 = 0 ∨ (m_X0_withMonth p0 p1 z).1 = 1 ∨ (m_X0_withMonth p0 p1 z).1 = 2 := by
  unfold m_X0_withMonth
  have h1 := at_01 p0 z
  have h0 := oc_requireWithin p1 1 12
  have h2 : (m_X0_dateAt p0 z).1 = 0 → m_X0_requireWithin p1 1 12 = 0 → _ := fun hb hw => give_y (p := p0) (z := z) (d := m_X0_fittedDate (m_X0_yearIn ((m_X0_dateAt p0 z).2)) p1 (m_X0_dayIn ((m_X0_dateAt p0 z).2))) (by
    obtain ⟨a, b, c, e1, e2, e3, e4, e5, e6⟩ := ym (at_y h hb)
    have hw2 : 1 ≤ p1.toInt ∧ p1.toInt ≤ 12 := rw_iff.mp hw
    exact yOK_fit e1 rfl e3 e4 (by omega) e6)
  with_reducible repeat' split
  all_goals with_reducible (try dsimp only; first | omega | simp_all)
theorem iv_withMonth (p0 p1 : Int32) (z : CS) (h : cIv z) : cIv (m_X0_withMonth p0 p1 z).2.2 := by
  unfold m_X0_withMonth
  with_reducible repeat' split
  all_goals with_reducible first | exact h | exact give_iv h
theorem oc_toFirst (p0 : Int32) (z : CS) (h : cIv z) : (m_X0_toFirst p0 z).1 = 0 ∨ (m_X0_toFirst p0 z).1 = 1 := by
  unfold m_X0_toFirst
  have h1 := at_01 p0 z
  have h2 : (m_X0_dateAt p0 z).1 = 0 → _ := fun hb => give_y (p := p0) (z := z) (d := m_X0_dateOf (m_X0_yearIn ((m_X0_dateAt p0 z).2)) (m_X0_monthIn ((m_X0_dateAt p0 z).2)) (1 : Int32)) (by
    obtain ⟨a, b, c, e1, e2, e3, e4, e5, e6⟩ := ym (at_y h hb)
    exact yOK_of e1 e2 (show (1 : Int32).toInt = 1 from rfl) e4 e5 (by omega))
  with_reducible repeat' split
  all_goals with_reducible (try dsimp only; first | omega | simp_all)
theorem iv_toFirst (p0 : Int32) (z : CS) (h : cIv z) : cIv (m_X0_toFirst p0 z).2.2 := by
  unfold m_X0_toFirst
  with_reducible repeat' split
  all_goals with_reducible first | exact h | exact give_iv h
theorem oc_toLast (p0 : Int32) (z : CS) (h : cIv z) : (m_X0_toLast p0 z).1 = 0 ∨ (m_X0_toLast p0 z).1 = 1 := by
  unfold m_X0_toLast
  have h1 := at_01 p0 z
  have h2 : (m_X0_dateAt p0 z).1 = 0 → _ := fun hb => give_y (p := p0) (z := z) (d := m_X0_fittedDate (m_X0_yearIn ((m_X0_dateAt p0 z).2)) (m_X0_monthIn ((m_X0_dateAt p0 z).2)) (31 : Int32)) (by
    obtain ⟨a, b, c, e1, e2, e3, e4, e5, e6⟩ := ym (at_y h hb)
    exact yOK_fit e1 e2 (show (31 : Int32).toInt = 31 from rfl) e4 e5 (by omega))
  with_reducible repeat' split
  all_goals with_reducible (try dsimp only; first | omega | simp_all)
theorem iv_toLast (p0 : Int32) (z : CS) (h : cIv z) : cIv (m_X0_toLast p0 z).2.2 := by
  unfold m_X0_toLast
  with_reducible repeat' split
  all_goals with_reducible first | exact h | exact give_iv h
-- constant places
theorem at_c {c : Int32} (h : m_X0_requirePlace c = 0) (z : CS) : (m_X0_dateAt c z).1 = 0 := by
  unfold m_X0_dateAt; rw [if_pos h]
theorem pc0 : m_X0_requirePlace 0 = 0 := pl_iff.mpr (by decide)
theorem pc1 : m_X0_requirePlace 1 = 0 := pl_iff.mpr (by decide)
theorem pc2 : m_X0_requirePlace 2 = 0 := pl_iff.mpr (by decide)
theorem pc3 : m_X0_requirePlace 3 = 0 := pl_iff.mpr (by decide)
theorem pc4 : m_X0_requirePlace 4 = 0 := pl_iff.mpr (by decide)
theorem pc5 : m_X0_requirePlace 5 = 0 := pl_iff.mpr (by decide)
theorem td_c {c : Int32} (h : m_X0_requirePlace c = 0) (z : CS) : (m_X0_toDay c z).1 = 0 := by
  unfold m_X0_toDay; rw [if_pos (at_c h z)]
theorem oc_sumOfNumbers (z : CS) : (m_X0_sumOfNumbers z).1 = 0 := by
  unfold m_X0_sumOfNumbers
  rw [if_pos (td_c pc0 z), if_pos (td_c pc1 z), if_pos (td_c pc2 z), if_pos (td_c pc3 z), if_pos (td_c pc4 z), if_pos (td_c pc5 z)]
theorem oc_house (p0 : Int32) (z : CS) : (m_X0_house p0 z).1 = 0 ∨ (m_X0_house p0 z).1 = 2 := by
  unfold m_X0_house
  have h0 := oc_requireWithin p0 0 2
  have h1 := oc_sumOfNumbers z
  with_reducible repeat' split
  all_goals with_reducible (try dsimp only; first | omega | simp_all)
