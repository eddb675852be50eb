-- the calendar's numbers
abbrev leap (y : Int) : Prop := y % 4 = 0 ∧ (y % 100 ≠ 0 ∨ y % 400 = 0)
def yl (y : Int) : Int := if leap y then 366 else 365
def ml (y m : Int) : Int := if m = 2 then (if leap y then 29 else 28) else if m = 4 ∨ m = 6 ∨ m = 9 ∨ m = 11 then 30 else 31
def nF (y : Int) : Int := 365 * (y - 1970) + (y - 1) / 4 - (y - 1) / 100 + (y - 1) / 400 - 477
def db (y : Int) : Nat → Int
  | 0 => 0
  | k + 1 => db y k + ml y (k + 1)
theorem nF_succ (y : Int) : nF (y + 1) = nF y + yl y := by
  unfold nF yl
  by_cases h : leap y
  · rw [if_pos h]; unfold leap at h; omega
  · rw [if_neg h]; unfold leap at h; omega
theorem nF_lt {x y : Int} (h : x < y) : nF x < nF y := by
  unfold nF; omega
theorem nF_uniq {x y q : Int} (h1 : nF x ≤ q) (h2 : q < nF (x + 1)) (h3 : nF y ≤ q) (h4 : q < nF (y + 1)) : x = y := by
  rcases Int.lt_trichotomy x y with h | h | h
  · by_cases e : x + 1 = y
    · subst e; omega
    · have := nF_lt (show x + 1 < y by omega); omega
  · exact h
  · by_cases e : y + 1 = x
    · subst e; omega
    · have := nF_lt (show y + 1 < x by omega); omega
theorem yl_b (y : Int) : 365 ≤ yl y ∧ yl y ≤ 366 := by unfold yl; split <;> omega
theorem ml_b (y m : Int) : 28 ≤ ml y m ∧ ml y m ≤ 31 := by unfold ml; repeat' split
                                                           all_goals omega
theorem db_12 (y : Int) : db y 12 = yl y := by
  unfold yl
  by_cases h : leap y
  · simp [db, ml, if_pos h]
  · simp [db, ml, if_neg h]
theorem db_lt {y : Int} {i j : Nat} (h : i < j) : db y i + 28 ≤ db y j := by
  induction j with
  | zero => omega
  | succ j ih =>
    have := ml_b y (j + 1)
    show _ ≤ db y j + ml y (j + 1)
    by_cases e : i = j
    · subst e; omega
    · have := ih (by omega); omega
theorem db_b {y : Int} : ∀ j : Nat, 0 ≤ db y j ∧ db y j ≤ 31 * j
  | 0 => by show 0 ≤ (0 : Int) ∧ (0 : Int) ≤ _; omega
  | j + 1 => by
    have := ml_b y (j + 1); have := db_b (y := y) j
    show 0 ≤ db y j + ml y (j + 1) ∧ db y j + ml y (j + 1) ≤ _
    omega
theorem db_uniq {y k : Int} {i j : Nat} (h1 : db y i < k) (h2 : k ≤ db y (i + 1)) (h3 : db y j < k) (h4 : k ≤ db y (j + 1)) : i = j := by
  rcases Nat.lt_trichotomy i j with h | h | h
  · by_cases e : i + 1 = j
    · subst e; omega
    · have := db_lt (y := y) (show i + 1 < j by omega); omega
  · exact h
  · by_cases e : j + 1 = i
    · subst e; omega
    · have := db_lt (y := y) (show j + 1 < i by omega); omega
-- Int64: division's rest
theorem ma_div {p c : Int64} {x y : Int} (hp : p.toInt = x) (hc : c.toInt = y) (h0 : 1 < y) : (p / c).toInt = x.tdiv y := by
  have hr1 := Int64.le_toInt p
  have hr2 := Int64.toInt_lt p
  have hy := Int64.toInt_lt c
  rw [hp] at hr1 hr2
  rw [hc] at hy
  have ht := Int.natAbs_tdiv_le_natAbs x y
  rw [Int64.toInt_div, hp, hc]
  by_cases hx : x.tdiv y = 9223372036854775808
  · have h9 := Int.tdiv_eq_ediv (a := x) (b := y)
    have hs : y.sign = 1 := Int.sign_eq_one_of_pos (by omega)
    have h8 : x / y ≤ 9223372036854775807 := by
      apply Int.ediv_le_of_le_mul (by omega)
      omega
    have h7 : x / y < 0 ∨ 0 ≤ x := by
      by_cases hx0 : 0 ≤ x
      · exact Or.inr hx0
      · exact Or.inl (Int.ediv_neg_of_neg_of_pos (by omega) (by omega))
    rw [hs] at h9
    split at h9 <;> omega
  · exact ma_b64 (by omega) (by omega)
theorem ma_rem {p c : Int64} {x y : Int} (hp : p.toInt = x) (hc : c.toInt = y) (h0 : 1 < y) : (p - p / c * c).toInt = x.tmod y := by
  have hr1 := Int64.le_toInt p
  have hr2 := Int64.toInt_lt p
  rw [hp] at hr1 hr2
  have e := Int.mul_tdiv_add_tmod x y
  have hd := ma_div hp hc h0
  have h1 : (x.tmod y).natAbs ≤ x.natAbs := by rw [Int.natAbs_tmod]; exact Nat.mod_le _ _
  have h2 : 0 ≤ x → 0 ≤ x.tmod y := fun h => Int.tmod_nonneg y h
  have h3 : x ≤ 0 → x.tmod y ≤ 0 := fun h => by
    have := Int.tmod_nonneg y (show 0 ≤ -x by omega)
    rw [Int.neg_tmod] at this; omega
  have em : (x.tdiv y) * y = x - x.tmod y := by rw [Int.mul_comm]; omega
  have hm : (p / c * c).toInt = x.tdiv y * y := ma_mul hd hc (by omega) (by omega)
  rw [ma_sub hp hm (by omega) (by omega), em]; omega
theorem ma_rem0 {p c : Int64} {x y : Int} (hp : p.toInt = x) (hc : c.toInt = y) (h0 : 1 < y) : lg_cmp (p - p / c * c) 0 = 0 ↔ x % y = 0 := by
  rw [lg_cmp_eq, ← Int64.toInt_inj, ma_rem hp hc h0]
  show x.tmod y = 0 ↔ _
  rw [← Int.dvd_iff_tmod_eq_zero, Int.dvd_iff_emod_eq_zero]
theorem lp_F {y : Int64} {a : Int} (h : y.toInt = a) : m_X0_isLeap y = if leap a then 1 else 0 := by
  unfold m_X0_isLeap
  have h4 := ma_rem0 h (show (4 : Int64).toInt = 4 from rfl) (by decide)
  have h1 := ma_rem0 h (show (100 : Int64).toInt = 100 from rfl) (by decide)
  have h2 := ma_rem0 h (show (400 : Int64).toInt = 400 from rfl) (by decide)
  simp only [h4, h1, h2]
  by_cases h : leap a
  · rw [if_pos h]; unfold leap at h
    repeat' split
    all_goals first | rfl | omega
  · rw [if_neg h]; unfold leap at h
    repeat' split
    all_goals first | rfl | omega
theorem i32_eq {p : Int32} {b : Int} (h : p.toInt = b) (k : Int32) : p = k ↔ b = k.toInt := by rw [← h]; exact Int32.toInt_inj.symm
theorem mo_F {y : Int64} {m : Int32} {a b : Int} (h : y.toInt = a) (hm : m.toInt = b) : (m_X0_monthLength m (m_X0_isLeap y)).toInt = ml a b := by
  have hk := i32_eq hm
  have hl : m_X0_isLeap y = 0 ↔ ¬ leap a := by
    rw [lp_F h]
    by_cases g : leap a
    · rw [if_pos g]; exact ⟨fun q => absurd q (by decide), fun q => absurd g q⟩
    · rw [if_neg g]; exact ⟨fun _ => g, fun _ => rfl⟩
  unfold m_X0_monthLength ml
  simp only [hk, hl, show (2 : Int32).toInt = 2 from rfl, show (3 : Int32).toInt = 3 from rfl, show (4 : Int32).toInt = 4 from rfl, show (5 : Int32).toInt = 5 from rfl, show (6 : Int32).toInt = 6 from rfl, show (7 : Int32).toInt = 7 from rfl, show (8 : Int32).toInt = 8 from rfl, show (9 : Int32).toInt = 9 from rfl, show (10 : Int32).toInt = 10 from rfl, show (11 : Int32).toInt = 11 from rfl]
  by_cases hp : leap a
  · simp only [if_pos hp, if_neg (fun g : ¬ leap a => g hp)]
    repeat' split
    all_goals first | rfl | omega
  · simp only [if_neg hp, if_pos hp]
    repeat' split
    all_goals first | rfl | omega
theorem yl_F {y : Int64} {a : Int} (h : y.toInt = a) : (m_X0_yearLength y).toInt = yl a := by
  unfold m_X0_yearLength yl
  rw [lp_F h]
  by_cases g : leap a
  · rw [if_pos g, if_pos g]; rfl
  · rw [if_neg g, if_neg g]; rfl
theorem fn_F {y : Int64} {a : Int} (h : y.toInt = a) (h1 : -1000000000 ≤ a) (h2 : a ≤ 1000000000) : (m_X0_firstNumberOf y).toInt = nF a := by
  have s := ma_sub h (show (1 : Int64).toInt = 1 from rfl) (by omega) (by omega)
  have f4 := ma_fdiv s (show (4 : Int64).toInt = 4 from rfl) (by decide)
  have f1 := ma_fdiv s (show (100 : Int64).toInt = 100 from rfl) (by decide)
  have f2 := ma_fdiv s (show (400 : Int64).toInt = 400 from rfl) (by decide)
  have e1 := ma_mul (show (365 : Int64).toInt = 365 from rfl) (ma_sub h (show (1970 : Int64).toInt = 1970 from rfl) (by omega) (by omega)) (by omega) (by omega)
  have e2 := ma_add (ma_sub f4 f1 (by omega) (by omega)) f2 (by omega) (by omega)
  have e3 := ma_sub (ma_add e1 e2 (by omega) (by omega)) (show (477 : Int64).toInt = 477 from rfl) (by omega) (by omega)
  unfold m_X0_firstNumberOf nF
  rw [e3]; omega
theorem yn_F {p : Int64} {q : Int} (h : p.toInt = q) (h1 : -1000000000 ≤ q) (h2 : q ≤ 1000000000) : ∃ y : Int, (m_X0_yearOfNumber p).toInt = y ∧ nF y ≤ q ∧ q < nF (y + 1) ∧ -3000000 ≤ y ∧ y ≤ 3000000 := by
  have e0 := ma_fdiv (ma_mul h (show (400 : Int64).toInt = 400 from rfl) (by omega) (by omega)) (show (146097 : Int64).toInt = 146097 from rfl) (by decide)
  have eg := ma_add (show (1970 : Int64).toInt = 1970 from rfl) e0 (by omega) (by omega)
  have eg1 := ma_add eg (show (1 : Int64).toInt = 1 from rfl) (by omega) (by omega)
  have eg2 := ma_sub eg (show (1 : Int64).toInt = 1 from rfl) (by omega) (by omega)
  have f0 := fn_F eg (by omega) (by omega)
  have f1 := fn_F eg1 (by omega) (by omega)
  generalize hk : q * 400 / 146097 = k at *
  have c0 : (0 ≤ lg_cmp p (m_X0_firstNumberOf ((1970 : Int64) + (m_J9_floorDiv_f86c9 (p * (400 : Int64)) (146097 : Int64))))) ↔ nF (1970 + k) ≤ q := by
    rw [lg_cmp_ge, Int64.le_iff_toInt_le, f0, h]
  have c1 : (0 ≤ lg_cmp p (m_X0_firstNumberOf (((1970 : Int64) + (m_J9_floorDiv_f86c9 (p * (400 : Int64)) (146097 : Int64))) + (1 : Int64)))) ↔ nF (1970 + k + 1) ≤ q := by
    rw [lg_cmp_ge, Int64.le_iff_toInt_le, f1, h]
  unfold m_X0_yearOfNumber
  simp only [c0, c1]
  split
  · split
    · refine ⟨_, eg1, ?_, ?_, by omega, by omega⟩
      · assumption
      · unfold nF; omega
    · refine ⟨_, eg, ?_, ?_, by omega, by omega⟩
      · assumption
      · omega
  · rename_i hn
    refine ⟨_, eg2, ?_, ?_, by omega, by omega⟩
    · unfold nF; omega
    · rw [show 1970 + k - 1 + 1 = 1970 + k by omega]; omega
theorem nF_lo : nF (-9999) = -4371587 := by decide
theorem nF_hi : nF 10000 = 2932897 := by decide
