theorem ma_b64 {x : Int} (h : -9223372036854775808 ≤ x) (h2 : x < 9223372036854775808) : x.bmod (2 ^ 64) = x := by
  apply Int.bmod_eq_of_le <;> omega
theorem ma_add {a b : Int64} {x y : Int} (ha : a.toInt = x) (hb : b.toInt = y) (h : -9223372036854775808 ≤ x + y) (h2 : x + y < 9223372036854775808) : (a + b).toInt = x + y := by
  rw [Int64.toInt_add, ha, hb]; exact ma_b64 h h2
theorem ma_sub {a b : Int64} {x y : Int} (ha : a.toInt = x) (hb : b.toInt = y) (h : -9223372036854775808 ≤ x - y) (h2 : x - y < 9223372036854775808) : (a - b).toInt = x - y := by
  rw [Int64.toInt_sub, ha, hb]; exact ma_b64 h h2
theorem ma_mul {a b : Int64} {x y : Int} (ha : a.toInt = x) (hb : b.toInt = y) (h : -9223372036854775808 ≤ x * y) (h2 : x * y < 9223372036854775808) : (a * b).toInt = x * y := by
  rw [Int64.toInt_mul, ha, hb]; exact ma_b64 h h2
theorem ma_shr (a s : Int64) (k : Nat) (hs : (s.toBitVec.smod 64).toNat = k) : (a >>> s).toInt = a.toInt / 2 ^ k := by
  show (a.toBitVec.sshiftRight (s.toBitVec.smod 64).toNat).toInt = _
  rw [hs, BitVec.toInt_sshiftRight, Int.shiftRight_eq_div_pow]
  rfl
theorem ma_shl (a s : Int64) (k : Nat) (hs : (s.toBitVec.smod 64).toNat = k) (c : Int64) (hc : BitVec.twoPow 64 k = c.toBitVec) : a <<< s = a * c := by
  apply Int64.toBitVec_inj.mp
  show a.toBitVec <<< (s.toBitVec.smod 64).toNat = _
  rw [hs, BitVec.shiftLeft_eq_mul_twoPow, hc]
  rfl
theorem ma_xor (p c : Int64) (hc : 0 ≤ c.toInt) : (0 ≤ p ^^^ c) ↔ 0 ≤ p.toInt := by
  have e : (p ^^^ c).toInt < 0 ↔ p.toInt < 0 := by
    show (p ^^^ c).toBitVec.toInt < 0 ↔ p.toBitVec.toInt < 0
    rw [Int64.toBitVec_xor]
    have h1 := BitVec.msb_eq_toInt (x := p.toBitVec ^^^ c.toBitVec)
    have h2 := BitVec.msb_eq_toInt (x := p.toBitVec)
    have h3 := BitVec.msb_eq_toInt (x := c.toBitVec)
    rw [BitVec.msb_xor, h2, h3] at h1
    have h4 : ¬ c.toBitVec.toInt < 0 := Int.not_lt.mpr hc
    rw [decide_eq_false h4, Bool.xor_false] at h1
    exact (decide_eq_decide.mp h1).symm
  rw [Int64.le_iff_toInt_le]
  show 0 ≤ (p ^^^ c).toInt ↔ _
  omega
theorem ma_fdiv {p c : Int64} {x y : Int} (hp : p.toInt = x) (hc : c.toInt = y) (h0 : 1 < y) : (m_J9_floorDiv_f86c9 p c).toInt = x / y := by
  have hr1 := Int64.le_toInt p
  have hr2 := Int64.toInt_lt p
  have hy := Int64.toInt_lt c
  rw [hp] at hr1 hr2
  rw [hc] at hy
  have ht := Int.natAbs_tdiv_le_natAbs x y
  have hd : (p / c).toInt = x.tdiv y := by
    rw [Int64.toInt_div, hp, hc]
    by_cases hx : x.tdiv y = 9223372036854775808
    · have e := Int.mul_tdiv_add_tmod x y
      have h9 := Int.tdiv_eq_ediv (a := x) (b := y)
      have hs : y.sign = 1 := Int.sign_eq_one_of_pos (by omega)
      have h8 : x / y ≤ 9223372036854775807 := by
        apply Int.ediv_le_of_le_mul (by omega)
        omega
      have h7 : x / y < 0 ∨ 0 ≤ x := by
        by_cases hx0 : 0 ≤ x
        · exact Or.inr hx0
        · exact Or.inl (Int.ediv_neg_of_neg_of_pos (by omega) (by omega))
      rw [hs] at h9
      split at h9 <;> omega
    · exact ma_b64 (by omega) (by omega)
  have hs : y.sign = 1 := Int.sign_eq_one_of_pos (by omega)
  unfold m_J9_floorDiv_f86c9
  by_cases hx : 0 ≤ x
  · rw [if_pos ((lg_cmp_ge _ _).mpr ((ma_xor p c (by omega)).mpr (by omega))), hd]
    exact Int.tdiv_eq_ediv_of_nonneg hx
  · rw [if_neg (fun h => hx (by have := (ma_xor p c (by omega)).mp ((lg_cmp_ge _ _).mp h); omega))]
    have h9 := Int.tdiv_eq_ediv (a := x) (b := y)
    rw [hs] at h9
    have hm := Int.mul_ediv_add_emod x y
    have hm1 := Int.emod_nonneg x (show y ≠ 0 by omega)
    have hm2 := Int.emod_lt_of_pos x (show 0 < y by omega)
    by_cases hdv : y ∣ x
    · rw [if_pos (Or.inr hdv), Int.add_zero] at h9
      have e : (p / c) * c = p := by
        apply Int64.toInt_inj.mp
        rw [Int64.toInt_mul, hd, hc, hp, h9, Int.mul_comm]
        have := Int.emod_eq_zero_of_dvd hdv
        rw [ma_b64 (by omega) (by omega)]
        omega
      rw [if_pos ((lg_cmp_eq _ _).mpr e), hd, h9]
    · rw [if_neg (fun h => h.elim hx hdv)] at h9
      have hne : x % y ≠ 0 := fun h => hdv (Int.dvd_of_emod_eq_zero h)
      have e : ¬ (p / c) * c = p := fun h => by
        have h2 : ((p / c) * c).toInt = x := by rw [h, hp]
        rw [Int64.toInt_mul, hd, hc, h9, Int.mul_comm, Int.mul_add, Int.mul_one, ma_b64 (by omega) (by omega)] at h2
        omega
      rw [if_neg (fun h => e ((lg_cmp_eq _ _).mp h))]
      have h5 : -4611686018427387904 ≤ x / y := Int.le_ediv_of_mul_le (by omega) (by omega)
      have h6 : x / y < 0 := Int.ediv_neg_of_neg_of_pos (by omega) (by omega)
      rw [ma_sub hd (show (1 : Int64).toInt = 1 by decide) (by omega) (by omega), h9]
      omega

-- years in a packed date
theorem ma_yearIn (d : Int64) : (m_X0_yearIn d).toInt = d.toInt / 512 := ma_shr d _ 9 (by decide)
theorem ma_l {a : Int32} {x : Int} (h : a.toInt = x) : a.toInt64.toInt = x := by rw [Int32.toInt_toInt64, h]
theorem ma_dateOf {y : Int64} {m d : Int32} {a b c : Int} (hy : y.toInt = a) (hm : m.toInt = b) (hd : d.toInt = c) (h1 : -1000000000 ≤ a ∧ a ≤ 1000000000) (h2 : 0 ≤ b ∧ b ≤ 15) : (m_X0_dateOf y m d).toInt = a * 512 + b * 32 + c := by
  have hc := Int32.le_toInt d
  have hc2 := Int32.toInt_lt d
  rw [hd] at hc hc2
  unfold m_X0_dateOf
  have e1 : (y <<< ((9 : Int32).toInt64 &&& 63)) = y * 512 := ma_shl y _ 9 (by decide) 512 (by decide)
  have e2 : (m <<< ((5 : Int32) &&& 31)).toInt = b * 32 := by
    have h9 : m = nI b.toNat := Int32.toInt_inj.mp (by rw [nI_toInt (by omega)]; omega)
    rw [h9, pk_shlN _ 5 (by decide) (by omega), nI_toInt (by omega)]
    omega
  rw [e1]
  exact ma_add (ma_add (ma_mul hy (by decide) (by omega) (by omega)) (ma_l e2) (by omega) (by omega)) (ma_l hd) (by omega) (by omega)
def yOK (d : Int64) : Prop := m_X0_requireDate d = 0
theorem yOK_iff {d : Int64} : yOK d ↔ -9999 ≤ d.toInt / 512 ∧ d.toInt / 512 ≤ 9999 := by
  have e := ma_yearIn d
  unfold yOK m_X0_requireDate
  have h1 : lg_cmp (m_X0_yearIn d) (-9999) < 0 ↔ d.toInt / 512 < -9999 := by
    rw [lg_cmp_lt, Int64.lt_iff_toInt_lt, e]; rfl
  have h2 : lg_cmp (m_X0_yearIn d) 9999 ≤ 0 ↔ d.toInt / 512 ≤ 9999 := by
    rw [lg_cmp_le, Int64.le_iff_toInt_le, e]; rfl
  split
  · rename_i g; rw [h1] at g
    constructor
    · intro h; exact absurd h (by decide)
    · intro h; omega
  · rename_i g; rw [h1] at g
    split
    · rename_i g2; rw [h2] at g2
      constructor
      · intro h; omega
      · intro h; rfl
    · rename_i g2; rw [h2] at g2
      constructor
      · intro h; exact absurd h (by decide)
      · intro h; omega
theorem yOK_of {y : Int64} {m d : Int32} {a b c : Int} (hy : y.toInt = a) (hm : m.toInt = b) (hd : d.toInt = c) (h1 : -9999 ≤ a ∧ a ≤ 9999) (h2 : 0 ≤ b ∧ b ≤ 15) (h3 : 0 ≤ c ∧ b * 32 + c ≤ 511) : yOK (m_X0_dateOf y m d) := by
  rw [yOK_iff, ma_dateOf hy hm hd (by omega) (by omega)]
  omega

theorem ma_monthIn (d : Int64) : ∃ b : Int, (m_X0_monthIn d).toInt = b ∧ 0 ≤ b ∧ b ≤ 15 := by
  obtain ⟨j, hj, e⟩ := pk_andE ((d >>> ((5 : Int32).toInt64 &&& 63)).toInt32) (m := 15) 4 (by decide)
  exact ⟨j, by unfold m_X0_monthIn; rw [e, nI_toInt (by omega)], by omega, by omega⟩
theorem ma_dayIn (d : Int64) : ∃ b : Int, (m_X0_dayIn d).toInt = b ∧ 0 ≤ b ∧ b ≤ 31 := by
  obtain ⟨j, hj, e⟩ := pk_andE d.toInt32 (m := 31) 5 (by decide)
  exact ⟨j, by unfold m_X0_dayIn; rw [e, nI_toInt (by omega)], by omega, by omega⟩
theorem ma_mLen (m f : Int32) : 28 ≤ (m_X0_monthLength m f).toInt ∧ (m_X0_monthLength m f).toInt ≤ 31 := by
  unfold m_X0_monthLength
  repeat' split
  all_goals decide
theorem yOK_fit {y : Int64} {m d : Int32} {a b c : Int} (hy : y.toInt = a) (hm : m.toInt = b) (hd : d.toInt = c) (h1 : -9999 ≤ a ∧ a ≤ 9999) (h2 : 0 ≤ b ∧ b ≤ 15) (h3 : 0 ≤ c ∧ c ≤ 31) : yOK (m_X0_fittedDate y m d) := by
  unfold m_X0_fittedDate
  have := ma_mLen m (m_X0_isLeap y)
  split
  · exact yOK_of hy hm rfl h1 h2 (by omega)
  · exact yOK_of hy hm hd h1 h2 (by omega)
-- the outcomes of the class
def cIv (z : CS) : Prop := ∀ i, i < 6 → yOK (z.1 i)
theorem pl_iff {p : Int32} : m_X0_requirePlace p = 0 ↔ 0 ≤ p.toInt ∧ p.toInt < 6 := by
  unfold m_X0_requirePlace
  have h1 : p < 0 ↔ p.toInt < 0 := Int32.lt_iff_toInt_lt
  have h2 : p < 6 ↔ p.toInt < 6 := Int32.lt_iff_toInt_lt
  split
  · rename_i g; rw [h1] at g
    constructor
    · intro h; exact absurd h (by decide)
    · intro h; omega
  · rename_i g; rw [h1] at g
    split
    · rename_i g2; rw [h2] at g2
      constructor
      · intro h; omega
      · intro h; rfl
    · rename_i g2; rw [h2] at g2
      constructor
      · intro h; exact absurd h (by decide)
      · intro h; omega
theorem pl_cl {p : Int32} (h : m_X0_requirePlace p = 0) : p.toNatClampNeg < 6 := by
  have := pl_iff.mp h
  have e : p.toNatClampNeg = p.toInt.toNat := rfl
  omega
theorem pl_01 (p : Int32) : m_X0_requirePlace p = 0 ∨ m_X0_requirePlace p = 1 := by
  unfold m_X0_requirePlace; repeat' split
  all_goals simp
theorem at_01 (p : Int32) (z : CS) : (m_X0_dateAt p z).1 = 0 ∨ (m_X0_dateAt p z).1 = 1 := by
  unfold m_X0_dateAt
  split
  · exact Or.inl rfl
  · exact pl_01 p
theorem at_y {p : Int32} {z : CS} (h : cIv z) (h0 : (m_X0_dateAt p z).1 = 0) : yOK (m_X0_dateAt p z).2 := by
  unfold m_X0_dateAt at h0 ⊢
  split at h0
  · rename_i h1; rw [if_pos h1]; exact h _ (pl_cl h1)
  · rename_i h1; exact absurd h0 h1
theorem put_01 (p : Int32) (d : Int64) (z : CS) : (m_X0_put p d z).1 = 0 ∨ (m_X0_put p d z).1 = 1 := by
  unfold m_X0_put
  split
  · exact Or.inl rfl
  · exact pl_01 p
theorem put_iv {p : Int32} {d : Int64} {z : CS} (h : cIv z) (hd : yOK d) : cIv (m_X0_put p d z).2 := by
  unfold m_X0_put
  split
  · intro i hi
    show yOK (vp_updL z.1 p.toNatClampNeg d i)
    by_cases e : i = p.toNatClampNeg
    · subst e; rw [pk_uLs]; exact hd
    · rw [pk_uLn e]; exact h i hi
  · exact h
theorem give_iv {p : Int32} {d : Int64} {z : CS} (h : cIv z) : cIv (m_X0_give p d z).2.2 := by
  unfold m_X0_give
  split
  · rename_i h1
    split
    · exact put_iv (d := d) h h1
    · exact put_iv (d := d) h h1
  · exact h
theorem give_o (p : Int32) (d : Int64) (z : CS) : (m_X0_give p d z).1 = 0 ∨ (m_X0_give p d z).1 = 1 ∨ (m_X0_give p d z).1 = 3 := by
  unfold m_X0_give
  split
  · split
    · exact Or.inl rfl
    · rename_i h; exact (put_01 p d z).elim (fun e => absurd e h) (fun e => Or.inr (Or.inl e))
  · rename_i h
    refine Or.inr (Or.inr ?_)
    show m_X0_requireDate d = 3
    unfold m_X0_requireDate at h ⊢
    split
    · rfl
    · rename_i h1
      rw [if_neg h1] at h
      split
      · rename_i h2; exact absurd (if_pos h2) h
      · rfl
theorem give_y {p : Int32} {d : Int64} {z : CS} (hd : yOK d) : (m_X0_give p d z).1 = 0 ∨ (m_X0_give p d z).1 = 1 := by
  unfold m_X0_give
  rw [if_pos (show m_X0_requireDate d = 0 from hd)]
  split
  · exact Or.inl rfl
  · exact put_01 p d z
theorem oc_requireDate (d : Int64) : m_X0_requireDate d = 0 ∨ m_X0_requireDate d = 3 := by
  unfold m_X0_requireDate
  split
  · exact Or.inr rfl
  · split
    · exact Or.inl rfl
    · exact Or.inr rfl
