-- Int32
theorem ia_b {x : Int} (h : -2147483648 ≤ x) (h2 : x < 2147483648) : x.bmod (2 ^ 32) = x := by
  apply Int.bmod_eq_of_le <;> omega
theorem ia_add {a b : Int32} {x y : Int} (ha : a.toInt = x) (hb : b.toInt = y) (h : -2147483648 ≤ x + y) (h2 : x + y < 2147483648) : (a + b).toInt = x + y := by
  rw [Int32.toInt_add, ha, hb]; exact ia_b h h2
theorem ia_sub {a b : Int32} {x y : Int} (ha : a.toInt = x) (hb : b.toInt = y) (h : -2147483648 ≤ x - y) (h2 : x - y < 2147483648) : (a - b).toInt = x - y := by
  rw [Int32.toInt_sub, ha, hb]; exact ia_b h h2
theorem ia_mul {a b : Int32} {x y : Int} (ha : a.toInt = x) (hb : b.toInt = y) (h : -2147483648 ≤ x * y) (h2 : x * y < 2147483648) : (a * b).toInt = x * y := by
  rw [Int32.toInt_mul, ha, hb]; exact ia_b h h2
theorem ia_div {p c : Int32} {x y : Int} (hp : p.toInt = x) (hc : c.toInt = y) (h0 : 1 < y) : (p / c).toInt = x.tdiv y := by
  have hr1 := Int32.le_toInt p
  have hr2 := Int32.toInt_lt p
  have hy := Int32.toInt_lt c
  rw [hp] at hr1 hr2
  rw [hc] at hy
  have ht := Int.natAbs_tdiv_le_natAbs x y
  rw [Int32.toInt_div, hp, hc]
  by_cases hx : x.tdiv y = 2147483648
  · have h9 := Int.tdiv_eq_ediv (a := x) (b := y)
    have hs : y.sign = 1 := Int.sign_eq_one_of_pos (by omega)
    have h8 : x / y ≤ 2147483647 := by
      apply Int.ediv_le_of_le_mul (by omega)
      omega
    have h7 : x / y < 0 ∨ 0 ≤ x := by
      by_cases hx0 : 0 ≤ x
      · exact Or.inr hx0
      · exact Or.inl (Int.ediv_neg_of_neg_of_pos (by omega) (by omega))
    rw [hs] at h9
    split at h9 <;> omega
  · exact ia_b (by omega) (by omega)
theorem ia_rem {p c : Int32} {x y : Int} (hp : p.toInt = x) (hc : c.toInt = y) (h0 : 1 < y) : (p - p / c * c).toInt = x.tmod y := by
  have hr1 := Int32.le_toInt p
  have hr2 := Int32.toInt_lt p
  rw [hp] at hr1 hr2
  have e := Int.mul_tdiv_add_tmod x y
  have hd := ia_div hp hc h0
  have h1 : (x.tmod y).natAbs ≤ x.natAbs := by rw [Int.natAbs_tmod]; exact Nat.mod_le _ _
  have h2 : 0 ≤ x → 0 ≤ x.tmod y := fun h => Int.tmod_nonneg y h
  have h3 : x ≤ 0 → x.tmod y ≤ 0 := fun h => by
    have := Int.tmod_nonneg y (show 0 ≤ -x by omega)
    rw [Int.neg_tmod] at this; omega
  have em : (x.tdiv y) * y = x - x.tmod y := by rw [Int.mul_comm]; omega
  have hm : (p / c * c).toInt = x.tdiv y * y := ia_mul hd hc (by omega) (by omega)
  rw [ia_sub hp hm (by omega) (by omega), em]; omega
theorem ia_rem0 {p c : Int32} {x y : Int} (hp : p.toInt = x) (hc : c.toInt = y) (h0 : 1 < y) : p - p / c * c = 0 ↔ x % y = 0 := by
  rw [← Int32.toInt_inj, ia_rem hp hc h0]
  show x.tmod y = 0 ↔ _
  rw [← Int.dvd_iff_tmod_eq_zero, Int.dvd_iff_emod_eq_zero]
theorem ia_le {a b : Int32} {x y : Int} (ha : a.toInt = x) (hb : b.toInt = y) : a ≤ b ↔ x ≤ y := by rw [Int32.le_iff_toInt_le, ha, hb]
theorem ia_lt {a b : Int32} {x y : Int} (ha : a.toInt = x) (hb : b.toInt = y) : a < b ↔ x < y := by rw [Int32.lt_iff_toInt_lt, ha, hb]
theorem nI_t {k : Nat} (h : k < 2147483648) : (nI k).toInt = k := nI_toInt (by omega)
-- the class: year and day of the year to a date
theorem dl_F {p0 : Int64} {p1 : Int32} {a k : Int} (hy : p0.toInt = a) (hk : k ≤ yl a) : ∀ (n j : Nat) (x : Int32), 11 ≤ n + j → j < 12 → x.toInt = k - db a j → db a j < k →
    ∃ i, i < 12 ∧ db a i < k ∧ k ≤ db a (i + 1) ∧ l_X0_dateOfYearDay p0 p1 (n + 1) (nI (j + 1)) x = some (m_X0_dateOf p0 (nI (i + 1)) (nI (k - db a i).toNat)) := by
  intro n
  induction n with
  | zero =>
    intro j x h1 h2 h3 h4
    obtain rfl : j = 11 := by omega
    have e : x = nI (k - db a 11).toNat := nI_at h3 (by omega)
    subst e
    exact ⟨11, by omega, h4, by rw [db_12]; exact hk, if_pos (by decide)⟩
  | succ n ih =>
    intro j x h1 h2 h3 h4
    have e : x = nI (k - db a j).toNat := nI_at h3 (by omega)
    by_cases hj : j = 11
    · subst hj e
      exact ⟨11, by omega, h4, by rw [db_12]; exact hk, if_pos (by decide)⟩
    · have hm := mo_F hy (nI_t (k := j + 1) (by omega))
      have hb := ml_b a ((j + 1 : Nat) : Int)
      have hd : db a (j + 1) = db a j + ml a ((j + 1 : Nat) : Int) := rfl
      have hx0 : ¬ (12 : Int32) ≤ nI (j + 1) := fun h => by
        have := (ia_le (show (12 : Int32).toInt = 12 from rfl) (nI_t (k := j + 1) (by omega))).mp h
        omega
      have hk2 := yl_b a
      by_cases hc : x ≤ m_X0_monthLength (nI (j + 1)) (m_X0_isLeap p0)
      · have := (ia_le h3 hm).mp hc
        subst e
        exact ⟨j, by omega, h4, by omega, (if_neg hx0).trans (if_pos hc)⟩
      · have hc2 : ¬ k - db a j ≤ ml a ((j + 1 : Nat) : Int) := fun h => hc ((ia_le h3 hm).mpr h)
        have hb2 := db_b (y := a) j
        obtain ⟨i, q1, q2, q3, q4⟩ := ih (j + 1) (x - m_X0_monthLength (nI (j + 1)) (m_X0_isLeap p0)) (by omega) (by omega) (by rw [ia_sub h3 hm (by omega) (by omega)]; omega) (by omega)
        refine ⟨i, q1, q2, q3, (if_neg hx0).trans ((if_neg hc).trans ?_)⟩
        rw [nI_1]; exact q4
theorem dd_F {p0 : Int64} {p1 : Int32} {a k : Int} (hy : p0.toInt = a) (hp : p1.toInt = k) (h0 : 1 ≤ k) (hk : k ≤ yl a) :
    ∃ i, i < 12 ∧ db a i < k ∧ k ≤ db a (i + 1) ∧ m_X0_dateOfYearDay p0 p1 = m_X0_dateOf p0 (nI (i + 1)) (nI (k - db a i).toNat) := by
  obtain ⟨i, q1, q2, q3, q4⟩ := dl_F (p1 := p1) hy hk 19 0 p1 (by omega) (by omega) (by rw [hp]; show k = k - 0; omega) (by show 0 < k; omega)
  refine ⟨i, q1, q2, q3, ?_⟩
  unfold m_X0_dateOfYearDay
  rw [show o_X0_dateOfYearDay p0 p1 = _ from q4]
  rfl
theorem dn_F {p : Int64} {q : Int} (h : p.toInt = q) (h1 : -1000000000 ≤ q) (h2 : q ≤ 1000000000) : ∃ (y : Int) (i : Nat), (m_X0_yearOfNumber p).toInt = y ∧ nF y ≤ q ∧ q < nF (y + 1) ∧ -3000000 ≤ y ∧ y ≤ 3000000 ∧ i < 12 ∧ db y i < q - nF y + 1 ∧ q - nF y + 1 ≤ db y (i + 1) ∧ m_X0_dateOfNumber p = m_X0_dateOf (m_X0_yearOfNumber p) (nI (i + 1)) (nI (q - nF y + 1 - db y i).toNat) := by
  obtain ⟨y, e, b1, b2, b3, b4⟩ := yn_F h h1 h2
  have hs := nF_succ y
  have hb := yl_b y
  have ed := ia_add (ma_i (ma_sub h (fn_F e (by omega) (by omega)) (by omega) (by omega)) (by omega) (by omega)) (show (1 : Int32).toInt = 1 from rfl) (by omega) (by omega)
  obtain ⟨i, q1, q2, q3, q4⟩ := dd_F e ed (by omega) (by omega)
  exact ⟨y, i, e, b1, b2, b3, b4, q1, q2, q3, q4⟩
theorem yr_in {y q : Int} (b1 : nF y ≤ q) (b2 : q < nF (y + 1)) (h1 : -4371587 ≤ q) (h2 : q ≤ 2932896) : -9999 ≤ y ∧ y ≤ 9999 := by
  have l := nF_lo; have u := nF_hi
  constructor
  · by_cases h : y + 1 ≤ -9999
    · by_cases e : y + 1 = -9999
      · rw [e] at b2; omega
      · have := nF_lt (show y + 1 < -9999 by omega); omega
    · omega
  · by_cases h : 10000 ≤ y
    · by_cases e : y = 10000
      · rw [e] at b1; omega
      · have := nF_lt (show 10000 < y by omega); omega
    · omega
theorem nd_y {p : Int64} {q : Int} (h : p.toInt = q) (h1 : -4371587 ≤ q) (h2 : q ≤ 2932896) : yOK (m_X0_dateOfNumber p) := by
  obtain ⟨y, i, e, b1, b2, b3, b4, q1, q2, q3, q4⟩ := dn_F h (by omega) (by omega)
  have hd : db y (i + 1) = db y i + ml y ((i + 1 : Nat) : Int) := rfl
  have hm := ml_b y ((i + 1 : Nat) : Int)
  rw [q4]
  exact yOK_of e (nI_t (by omega)) (nI_t (by omega)) (yr_in b1 b2 h1 h2) (by omega) (by omega)
theorem oc_ofDay (p0 p1 : Int32) (z : CS) : (m_X0_ofDay p0 p1 z).1 = 0 ∨ (m_X0_ofDay p0 p1 z).1 = 1 ∨ (m_X0_ofDay p0 p1 z).1 = 2 := by
  unfold m_X0_ofDay
  have h0 := pl_01 p0
  have h1 := oc_requireWithin p1 (-4371587) 2932896
  have h2 : m_X0_requireWithin p1 (-4371587) 2932896 = 0 → _ := fun hw => give_y (p := p0) (z := z) (d := m_X0_dateOfNumber p1.toInt64) (nd_y (ma_l rfl) (rw_iff.mp hw).1 (rw_iff.mp hw).2)
  with_reducible repeat' split
  all_goals with_reducible (try dsimp only; first | omega | simp_all)
theorem iv_ofDay (p0 p1 : Int32) (z : CS) (h : cIv z) : cIv (m_X0_ofDay p0 p1 z).2.2 := by
  unfold m_X0_ofDay
  with_reducible repeat' split
  all_goals with_reducible first | exact h | exact give_iv h
