theorem fill2m : ∀ k, k < 16 → o_X0_appendFilled (nI k) 10 5 = some ((), 7) := by decide +kernel
theorem fill2d : ∀ k, k < 32 → o_X0_appendFilled (nI k) 10 8 = some ((), 10) := by decide +kernel
theorem fill4a : ∀ k, k < 100 → o_X0_appendFilled (nI k) 1000 0 = some ((), 4) := by decide +kernel
theorem digs2 : ∀ k, k < 32 → o_X3_digits (nI k) 2 = some 2 := by decide +kernel
theorem digs4a : ∀ k, k < 100 → o_X3_digits (nI k) 4 = some 4 := by decide +kernel
-- a number of three or four digits, whatever its digits are
theorem b4 {α β : Type} {x : Option α} {a : α} {f : α → Option β} {y : Option β} (h : x = some a) (h2 : f a = y) : x.bind f = y := by subst h; exact h2
theorem i4_b {x : Int} (h : -2147483648 ≤ x) (h2 : x < 2147483648) : x.bmod (2 ^ 32) = x := by
  apply Int.bmod_eq_of_le <;> omega
theorem i4_t {k : Nat} (h : k < 10000) : (-(nI k)).toInt = -(k : Int) := by
  rw [Int32.toInt_neg, nI_toInt (by omega)]; exact i4_b (by omega) (by omega)
theorem i4_n {k : Nat} (h : k < 10000) : (-(-(nI k))).toInt = (k : Int) := by
  rw [Int32.toInt_neg, i4_t h, Int.neg_neg]; exact i4_b (by omega) (by omega)
theorem i4_q {k : Nat} (h : k < 10000) : -(nI k) / 100 = -(nI (k / 100)) := by
  apply Int32.toInt_inj.mp
  rw [Int32.toInt_div, i4_t h, i4_t (by omega)]
  show ((-(k : Int)).tdiv 100).bmod (2 ^ 32) = _
  rw [Int.neg_tdiv, Int.tdiv_eq_ediv_of_nonneg (by omega), show -((k : Int) / 100) = -((k / 100 : Nat) : Int) by omega]
  exact i4_b (by omega) (by omega)
theorem i4_r {k : Nat} (h : k < 10000) : (-(nI k) / 100 * 100 - -(nI k)).toInt = ((k % 100 : Nat) : Int) := by
  rw [i4_q h, Int32.toInt_sub, Int32.toInt_mul, i4_t h, i4_t (by omega)]
  show ((-((k / 100 : Nat) : Int) * 100).bmod (2 ^ 32) - -(k : Int)).bmod (2 ^ 32) = _
  rw [i4_b (x := -((k / 100 : Nat) : Int) * 100) (by omega) (by omega), show -((k / 100 : Nat) : Int) * 100 - -(k : Int) = ((k % 100 : Nat) : Int) by omega]
  exact i4_b (by omega) (by omega)
theorem i4_c {p : Int32} {n : Nat} (h : 0 ≤ p.toInt ∧ p.toInt < n) : ¬ (p < 0 ∨ n ≤ p.toNatClampNeg) := by
  have e : p.toNatClampNeg = p.toInt.toNat := rfl
  have e2 : p < 0 ↔ p.toInt < 0 := Int32.lt_iff_toInt_lt
  rw [e2]
  omega
theorem i4_l {k : Nat} (h : k < 10000) {c : Int32} {x : Int} (hc : c.toInt = x) : -(nI k) ≤ c ↔ -(k : Int) ≤ x := by rw [Int32.le_iff_toInt_le, i4_t h, hc]
theorem i4_g {k : Nat} (h : k < 10000) {c : Int32} {x : Int} (hc : c.toInt = x) : c < -(nI k) ↔ x < -(k : Int) := by rw [Int32.lt_iff_toInt_lt, i4_t h, hc]
theorem i4_g2 {k : Nat} (h : k < 10000) {c : Int32} {x : Int} (hc : c.toInt = x) : c ≤ -(nI k) ↔ x ≤ -(k : Int) := by rw [Int32.le_iff_toInt_le, i4_t h, hc]
theorem gc_s {k : Nat} (h1 : 100 ≤ k) (h2 : k < 10000) (p c0 : Int32) (n : Nat) (c z : Int32) (q1 : ¬ (c + (-1) < 0 ∨ 16 ≤ (c + (-1)).toNatClampNeg)) (q2 : ¬ ((c + (-1)) + (-1) < 0 ∨ 16 ≤ ((c + (-1)) + (-1)).toNatClampNeg)) : l22_1_J6_getChars_ba4f3 p c0 (n + 1) (-(nI k)) c z = l22_1_J6_getChars_ba4f3 p c0 n (-(nI (k / 100))) ((c + (-1)) + (-1)) z := by
  have a : ¬ ((-100 : Int32) < -(nI k)) := fun g => by have := (i4_g h2 (c := -100) (x := -100) (by decide)).mp g; omega
  have b : ¬ (-(nI k) / 100 * 100 - -(nI k) < 0 ∨ 100 ≤ (-(nI k) / 100 * 100 - -(nI k)).toNatClampNeg) := i4_c ⟨by rw [i4_r h2]; omega, by rw [i4_r h2]; omega⟩
  show (if (-100 : Int32) < -(nI k) then _ else _) = _
  rw [if_neg a, if_neg b, if_neg q1, if_neg b, if_neg q2, i4_q h2]
theorem gc_2 {k : Nat} (h1 : 10 ≤ k) (h2 : k < 100) (p c0 : Int32) (n : Nat) (c z : Int32) (q1 : ¬ (c + (-1) < 0 ∨ 16 ≤ (c + (-1)).toNatClampNeg)) (q2 : ¬ ((c + (-1)) + (-1) < 0 ∨ 16 ≤ ((c + (-1)) + (-1)).toNatClampNeg)) : l22_1_J6_getChars_ba4f3 p c0 (n + 1) (-(nI k)) c z = some ((c + (-1)) + (-1), z) := by
  have a : (-100 : Int32) < -(nI k) := (i4_g (by omega) (c := -100) (x := -100) (by decide)).mpr (by omega)
  have b : ¬ (-(-(nI k)) < 0 ∨ 100 ≤ (-(-(nI k))).toNatClampNeg) := i4_c ⟨by rw [i4_n (by omega)]; omega, by rw [i4_n (by omega)]; omega⟩
  have d : ¬ ((-9 : Int32) ≤ -(nI k)) := fun g => by have := (i4_g2 (show k < 10000 by omega) (c := -9) (x := -9) (by decide)).mp g; omega
  show (if (-100 : Int32) < -(nI k) then _ else _) = _
  rw [if_pos a, if_neg b, if_neg q1, if_neg d, if_neg b, if_neg q2]
theorem gc_1 {k : Nat} (h2 : k < 10) (p c0 : Int32) (n : Nat) (c z : Int32) (q1 : ¬ (c + (-1) < 0 ∨ 16 ≤ (c + (-1)).toNatClampNeg)) : l22_1_J6_getChars_ba4f3 p c0 (n + 1) (-(nI k)) c z = some (c + (-1), z) := by
  have a : (-100 : Int32) < -(nI k) := (i4_g (by omega) (c := -100) (x := -100) (by decide)).mpr (by omega)
  have b : ¬ (-(-(nI k)) < 0 ∨ 100 ≤ (-(-(nI k))).toNatClampNeg) := i4_c ⟨by rw [i4_n (by omega)]; omega, by rw [i4_n (by omega)]; omega⟩
  have d : (-9 : Int32) ≤ -(nI k) := (i4_g2 (show k < 10000 by omega) (c := -9) (x := -9) (by decide)).mpr (by omega)
  show (if (-100 : Int32) < -(nI k) then _ else _) = _
  rw [if_pos a, if_neg b, if_neg q1, if_pos d]
theorem sz_s (p : Int32) (n : Nat) (x0 x1 x2 x3 : Int32) : l_J6_stringSize_0f7a4 p (n + 1) x0 x1 x2 x3 = (if (10 : Int32) ≤ x3 then some ((10 : Int32) + x1) else (if x0 ≤ x2 then l_J6_stringSize_0f7a4 p n x0 x1 ((10 : Int32) * x2) (x3 + 1) else some (x3 + x1))) := rfl
theorem nn_0 {k : Nat} (h : k < 10000) : ¬ (nI k < 0) := fun g => by
  have := Int32.lt_iff_toInt_lt.mp g
  rw [nI_toInt (by omega)] at this
  have e : (0 : Int32).toInt = 0 := rfl
  omega
theorem sz_4 {k : Nat} (h1 : 1000 ≤ k) (h2 : k < 10000) : o_J6_stringSize_0f7a4 (nI k) = some 4 := by
  have c1 : -(nI k) ≤ (-10 : Int32) := (i4_l h2 (x := -10) (by decide)).mpr (by omega)
  have c2 : -(nI k) ≤ (10 : Int32) * (-10 : Int32) := (i4_l h2 (x := -100) (by decide)).mpr (by omega)
  have c3 : -(nI k) ≤ (10 : Int32) * ((10 : Int32) * (-10 : Int32)) := (i4_l h2 (x := -1000) (by decide)).mpr (by omega)
  have c4 : ¬ (-(nI k) ≤ (10 : Int32) * ((10 : Int32) * ((10 : Int32) * (-10 : Int32)))) := fun g => by have := (i4_l h2 (x := -10000) (by decide)).mp g; omega
  unfold o_J6_stringSize_0f7a4
  rw [if_neg (nn_0 h2), sz_s, if_neg (by decide), if_pos c1, sz_s, if_neg (by decide), if_pos c2, sz_s, if_neg (by decide), if_pos c3, sz_s, if_neg (by decide), if_neg c4]
  rfl
theorem sz_3 {k : Nat} (h1 : 100 ≤ k) (h2 : k < 1000) : o_J6_stringSize_0f7a4 (nI k) = some 3 := by
  have c1 : -(nI k) ≤ (-10 : Int32) := (i4_l (by omega) (x := -10) (by decide)).mpr (by omega)
  have c2 : -(nI k) ≤ (10 : Int32) * (-10 : Int32) := (i4_l (by omega) (x := -100) (by decide)).mpr (by omega)
  have c3 : ¬ (-(nI k) ≤ (10 : Int32) * ((10 : Int32) * (-10 : Int32))) := fun g => by have := (i4_l (show k < 10000 by omega) (x := -1000) (by decide)).mp g; omega
  unfold o_J6_stringSize_0f7a4
  rw [if_neg (nn_0 (by omega)), sz_s, if_neg (by decide), if_pos c1, sz_s, if_neg (by decide), if_pos c2, sz_s, if_neg (by decide), if_neg c3]
  rfl
theorem nn_p {k : Nat} (h : k < 10000) : (0 : Int32) ≤ nI k := nI_le (a := 0) (b := k) (by omega) (by omega)
theorem bf4 {k : Nat} (h1 : 1000 ≤ k) (h2 : k < 10000) : o_J4_append_bf812 (nI k) 0 = some ((), 4) := by
  have g : o_J6_getChars_ba4f3 (nI k) (0 + 4) 0 = some (0, 0) := by
    unfold o_J6_getChars_ba4f3
    rw [if_pos (nn_p h2), gc_s (by omega) h2 _ _ 7 _ _ (by decide) (by decide), gc_2 (by omega) (by omega) _ _ 6 _ _ (by decide) (by decide)]
    rfl
  have h5 : o_J5_append_c97b9 (nI k) 0 = some ((), 4) := by
    unfold o_J5_append_c97b9
    exact b4 (sz_4 h1 h2) (b4 (a := ((), 0)) (by decide +kernel) (b4 (a := (1, 0)) rfl ((if_neg (show ¬ ((1 : Int32) = 0) by decide)).trans (b4 g rfl))))
  unfold o_J4_append_bf812
  exact b4 h5 rfl
theorem bf3 {k : Nat} (h1 : 100 ≤ k) (h2 : k < 1000) : o_J4_append_bf812 (nI k) 0 = some ((), 3) := by
  have g : o_J6_getChars_ba4f3 (nI k) (0 + 3) 0 = some (0, 0) := by
    unfold o_J6_getChars_ba4f3
    rw [if_pos (nn_p (by omega)), gc_s (by omega) (by omega) _ _ 7 _ _ (by decide) (by decide), gc_1 (by omega) _ _ 6 _ _ (by decide)]
    rfl
  have h5 : o_J5_append_c97b9 (nI k) 0 = some ((), 3) := by
    unfold o_J5_append_c97b9
    exact b4 (sz_3 h1 h2) (b4 (a := ((), 0)) (by decide +kernel) (b4 (a := (1, 0)) rfl ((if_neg (show ¬ ((1 : Int32) = 0) by decide)).trans (b4 g rfl))))
  unfold o_J4_append_bf812
  exact b4 h5 rfl
theorem bf3b {k : Nat} (h1 : 100 ≤ k) (h2 : k < 1000) : o_J4_append_bf812 (nI k) 1 = some ((), 4) := by
  have g : o_J6_getChars_ba4f3 (nI k) (1 + 3) 1 = some (1, 1) := by
    unfold o_J6_getChars_ba4f3
    rw [if_pos (nn_p (by omega)), gc_s (by omega) (by omega) _ _ 7 _ _ (by decide) (by decide), gc_1 (by omega) _ _ 6 _ _ (by decide)]
    rfl
  have h5 : o_J5_append_c97b9 (nI k) 1 = some ((), 4) := by
    unfold o_J5_append_c97b9
    exact b4 (sz_3 h1 h2) (b4 (a := ((), 1)) (by decide +kernel) (b4 (a := (1, 1)) rfl ((if_neg (show ¬ ((1 : Int32) = 0) by decide)).trans (b4 g rfl))))
  unfold o_J4_append_bf812
  exact b4 h5 rfl
theorem fill4 {k : Nat} (h2 : k < 10000) : o_X0_appendFilled (nI k) 1000 0 = some ((), 4) := by
  by_cases h0 : k < 100
  · exact fill4a k h0
  by_cases h : k < 1000
  · unfold o_X0_appendFilled
    have e := bf3b (k := k) (by omega) h
    have e2 : o_J4_append_cf468 48 0 = some ((), 1) := by decide +kernel
    have n : ¬ ((1000 : Int32) ≤ nI k) := fun g => by
      have := Int32.le_iff_toInt_le.mp g
      rw [nI_toInt (by omega)] at this
      have e3 : (1000 : Int32).toInt = 1000 := rfl
      omega
    show (if (1000 : Int32) ≤ 1 then _ else (if (1000 : Int32) ≤ nI k then _ else ((o_J4_append_cf468 (48 : Int32) 0).bind fun x_3 => (if (1000 : Int32) / (10 : Int32) ≤ 1 then _ else (if (1000 : Int32) / (10 : Int32) ≤ nI k then ((o_J4_append_bf812 (nI k) x_3.2).bind fun x_2 => some ((), x_2.2)) else _))))) = _
    have p : (1000 : Int32) / (10 : Int32) ≤ nI k := nI_le (a := 100) (b := k) (by omega) (by omega)
    rw [if_neg (by decide), if_neg n]
    exact b4 e2 ((if_neg (show ¬ ((1000 : Int32) / (10 : Int32) ≤ 1) by decide)).trans ((if_pos p).trans (b4 e rfl)))
  · unfold o_X0_appendFilled
    have e := bf4 (k := k) (by omega) h2
    show (if (1000 : Int32) ≤ 1 then _ else (if (1000 : Int32) ≤ nI k then ((o_J4_append_bf812 (nI k) 0).bind fun x_2 => some ((), x_2.2)) else _)) = _
    rw [if_neg (by decide), if_pos (show (1000 : Int32) ≤ nI k from nI_le (a := 1000) (b := k) (by omega) (by omega)), e]
    rfl
theorem digs4 {k : Nat} (h2 : k < 10000) : o_X3_digits (nI k) 4 = some 4 := by
  have e0 : o_J4_append_15ec4 0 0 = some ((), 0) := by decide +kernel
  by_cases h0 : k < 100
  · exact digs4a k h0
  by_cases h : k < 1000
  · unfold o_X3_digits
    have e := bf3 (k := k) (by omega) h
    rw [e0]
    show (o_J4_append_bf812 (nI k) 0).bind _ = _
    rw [e]
    decide +kernel
  · unfold o_X3_digits
    have e := bf4 (k := k) (by omega) h2
    rw [e0]
    show (o_J4_append_bf812 (nI k) 0).bind _ = _
    rw [e]
    decide +kernel
