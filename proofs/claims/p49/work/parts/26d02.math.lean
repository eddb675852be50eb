theorem ma_i {a : Int64} {x : Int} (h : a.toInt = x) (h1 : -2147483648 ≤ x) (h2 : x < 2147483648) : a.toInt32.toInt = x := by
  rw [Int64.toInt_toInt32, h]
  apply Int.bmod_eq_of_le <;> omega
theorem nI_at {a : Int32} {x : Int} (h : a.toInt = x) (h1 : 0 ≤ x) : a = nI x.toNat := by
  have := Int32.toInt_lt a
  exact Int32.toInt_inj.mp (by rw [nI_toInt (by omega)]; omega)
theorem tx_X0 {p0 : Int32} {z : CS} (h : cIv z) (h0 : (m_X0_dateAt p0 z).1 = 0) : ∃ n, o_X0_text p0 z = some (0, n) := by
  have hy := at_y h h0
  unfold o_X0_text
  rw [if_pos h0]
  by_cases hp : 0 ≤ (m_X0_yearIn (m_X0_dateAt p0 z).2).toInt32
  · rw [if_pos hp]
    have e := ma_yearIn (m_X0_dateAt p0 z).2
    have hr := yOK_iff.mp hy
    have e2 := ma_i e (by omega) (by omega)
    have hp2 : 0 ≤ (m_X0_yearIn (m_X0_dateAt p0 z).2).toInt32.toInt := Int32.le_iff_toInt_le.mp hp
    rw [e2] at hp2
    have e3 := nI_at e2 hp2
    obtain ⟨b, hb, eb⟩ := pk_andE ((((m_X0_dateAt p0 z).2) >>> ((5 : Int32).toInt64 &&& 63)).toInt32) (m := 15) 4 (by decide)
    obtain ⟨c, hc, ec⟩ := pk_andE (((m_X0_dateAt p0 z).2)).toInt32 (m := 31) 5 (by decide)
    have eb2 : m_X0_monthIn (m_X0_dateAt p0 z).2 = nI b := eb
    have ec2 : m_X0_dayIn (m_X0_dateAt p0 z).2 = nI c := ec
    have a1 : o_J4_append_cf468 45 4 = some ((), 5) := by decide +kernel
    have a2 : o_J4_append_cf468 45 7 = some ((), 8) := by decide +kernel
    rw [e3, eb2, ec2, fill4 (by omega)]
    simp only [Option.bind_some, a1, fill2m b (by omega), a2, fill2d c (by omega)]
    exact ⟨10, rfl⟩
  · rw [if_neg hp]; exact ⟨1, rfl⟩
theorem tx_any {p0 : Int32} {z : CS} (h : cIv z) : ∃ r n, o_X0_text p0 z = some (r, n) ∧ (r = 0 ∨ r = 1) := by
  by_cases h0 : (m_X0_dateAt p0 z).1 = 0
  · obtain ⟨n, hn⟩ := tx_X0 h h0
    exact ⟨0, n, hn, Or.inl rfl⟩
  · refine ⟨(m_X0_dateAt p0 z).1, 0, ?_, at_01 p0 z⟩
    unfold o_X0_text
    rw [if_neg h0]
theorem q_td {c : Int32} {z : CS} (h : (m_X0_dateAt c z).1 = 0) : (m_X0_toDay c z).1 = 0 := by unfold m_X0_toDay; rw [if_pos h]
theorem q_ye {c : Int32} {z : CS} (h : (m_X0_dateAt c z).1 = 0) : (m_X0_year c z).1 = 0 := by unfold m_X0_year; rw [if_pos h]
theorem q_mo {c : Int32} {z : CS} (h : (m_X0_dateAt c z).1 = 0) : (m_X0_month c z).1 = 0 := by unfold m_X0_month; rw [if_pos h]
theorem q_da {c : Int32} {z : CS} (h : (m_X0_dateAt c z).1 = 0) : (m_X0_day c z).1 = 0 := by unfold m_X0_day; rw [if_pos h]
theorem q_dy {c : Int32} {z : CS} (h : (m_X0_dateAt c z).1 = 0) : (m_X0_dayOfYear c z).1 = 0 := by unfold m_X0_dayOfYear; rw [if_pos h]
theorem q_dw {c : Int32} {z : CS} (h : (m_X0_dateAt c z).1 = 0) : (m_X0_dayOfWeek c z).1 = 0 := by unfold m_X0_dayOfWeek; rw [if_pos (q_td h)]
theorem q_lm {c : Int32} {z : CS} (h : (m_X0_dateAt c z).1 = 0) : (m_X0_lengthOfMonth c z).1 = 0 := by unfold m_X0_lengthOfMonth; rw [if_pos h]
theorem q_ly {c : Int32} {z : CS} (h : (m_X0_dateAt c z).1 = 0) : (m_X0_lengthOfYear c z).1 = 0 := by unfold m_X0_lengthOfYear; rw [if_pos h]
theorem q_lp {c : Int32} {z : CS} (h : (m_X0_dateAt c z).1 = 0) : (m_X0_isLeapYear c z).1 = 0 := by unfold m_X0_isLeapYear; rw [if_pos h]
theorem q_fi {c i : Int32} {z : CS} (h : (m_X0_dateAt c z).1 = 0) (hi : m_X0_requireWithin i 0 5 = 0) : (m_X0_field c i z).1 = 0 := by
  unfold m_X0_field; rw [if_pos h, if_pos hi]; repeat' split
  all_goals rfl
theorem q_co {c i : Int32} {z : CS} (h : (m_X0_dateAt c z).1 = 0) (hi : (m_X0_dateAt i z).1 = 0) : (m_X0_compare c i z).1 = 0 := by unfold m_X0_compare; rw [if_pos h, if_pos hi]
theorem q_be {c i u : Int32} {z : CS} (h : (m_X0_dateAt c z).1 = 0) (hi : (m_X0_dateAt i z).1 = 0) (hu : m_X0_requireUnit u = 0) : (m_X0_between c i u z).1 = 0 := by
  unfold m_X0_between; rw [if_pos h, if_pos hi, if_pos hu]; repeat' split
  all_goals rfl
theorem q_os {c i : Int32} {z : CS} (h : m_X0_requireSpan c = 0) (hi : m_X0_requireWithin i 0 2 = 0) : (m_X0_ofSpan c i z).1 = 0 := by
  unfold m_X0_ofSpan; rw [if_pos h, if_pos hi]; repeat' split
  all_goals rfl
theorem q_dp {v : Int64} {c i : Int32} {z : CS} (h : (m_X0_dateAt c z).1 = 0) (hi : (m_X0_dateAt i z).1 = 0) : (m_X0_digestPair v c i z).1 = 0 := by
  unfold m_X0_digestPair
  have hu : ∀ u : Int32, 0 ≤ u.toInt → u.toInt ≤ 6 → m_X0_requireUnit u = 0 := fun u a b => by
    have : m_X0_requireWithin u 0 6 = 0 := rw_iff.mpr ⟨a, b⟩
    unfold m_X0_requireUnit; rw [if_pos this]
  rw [if_pos (q_co h hi), if_pos (q_be h hi (hu 0 (by decide) (by decide))), if_pos (q_be h hi (hu 1 (by decide) (by decide))), if_pos (q_be h hi (hu 2 (by decide) (by decide))), if_pos (q_be h hi (hu 3 (by decide) (by decide))), if_pos (q_be h hi (hu 4 (by decide) (by decide))), if_pos (q_be h hi (hu 5 (by decide) (by decide))), if_pos (q_be h hi (hu 6 (by decide) (by decide)))]
theorem q_dg {v : Int64} {c : Int32} {z : CS} (hz : cIv z) (h : (m_X0_dateAt c z).1 = 0) : ∃ w, o_X0_digestPlace v c z = some (0, w) := by
  obtain ⟨n, hn⟩ := tx_X0 hz h
  have hf : ∀ i : Int32, 0 ≤ i.toInt → i.toInt ≤ 5 → (m_X0_field c i z).1 = 0 := fun i a b => q_fi h (rw_iff.mpr ⟨a, b⟩)
  unfold o_X0_digestPlace
  rw [if_pos (q_td h), if_pos (q_ye h), if_pos (q_mo h), if_pos (q_da h), if_pos (q_dy h), if_pos (q_dw h), if_pos (q_lm h), if_pos (q_ly h), if_pos (q_lp h)]
  split <;>
  · rw [if_pos (hf 0 (by decide) (by decide)), if_pos (hf 1 (by decide) (by decide)), if_pos (hf 2 (by decide) (by decide)), if_pos (hf 3 (by decide) (by decide)), if_pos (hf 4 (by decide) (by decide)), if_pos (hf 5 (by decide) (by decide)), hn]
    exact ⟨_, rfl⟩
theorem bs {α β : Type} {x : Option α} {a : α} {f : α → Option β} {y : Option β} (h : x = some a) (h2 : f a = y) : x.bind f = y := by subst h; exact h2
theorem bt {α β : Type} {x : Option α} {f : α → Option β} {P : β → Prop} (h : ∃ a, x = some a ∧ ∃ b, f a = some b ∧ P b) : ∃ b, x.bind f = some b ∧ P b := by
  obtain ⟨a, rfl, h2⟩ := h; exact h2
theorem i1 {α : Type} {c : Prop} [Decidable c] {A B : Option α} {P : α → Prop} (hc : c) (h : ∃ b, A = some b ∧ P b) : ∃ b, (if c then A else B) = some b ∧ P b := by rw [if_pos hc]; exact h
theorem i1p {α : Type} {c : Prop} [Decidable c] {A B : Nat × α} (hc : c) (h : A.1 = 0) : (if c then A else B).1 = 0 := by rw [if_pos hc]; exact h
theorem i2p {α : Type} {c : Prop} [Decidable c] {A B : Nat × α} (h : A.1 = 0) (h2 : B.1 = 0) : (if c then A else B).1 = 0 := by split <;> assumption
theorem sp0 : m_X0_requireSpan 0 = 0 := by decide
theorem sp1 : m_X0_requireSpan 1 = 0 := by decide
theorem oc_isSound (z : CS) : (m_X0_isSound z).1 = 0 := by
  have c0 := at_c pc0 z
  have c1 := at_c pc1 z
  have c2 := at_c pc2 z
  have c3 := at_c pc3 z
  have c4 := at_c pc4 z
  have c5 := at_c pc5 z
  unfold m_X0_isSound
  with_reducible repeat (first | exact rfl | refine i1p c0 ?_ | refine i1p c1 ?_ | refine i1p c2 ?_ | refine i1p c3 ?_ | refine i1p c4 ?_ | refine i1p c5 ?_ | refine i2p rfl ?_)
theorem dg_X0 {z : CS} (hz : cIv z) : ∃ r, o_X0_digest z = some r ∧ r.1 = 0 := by
  have ho0 : (m_X0_house 0 z).1 = 0 := by unfold m_X0_house; rw [if_pos (rw_iff.mpr (by decide))]; rfl
  have ho1 : (m_X0_house 1 z).1 = 0 := by unfold m_X0_house; rw [if_pos (rw_iff.mpr (by decide))]; rfl
  have ho2 : (m_X0_house 2 z).1 = 0 := by unfold m_X0_house; rw [if_pos (rw_iff.mpr (by decide)), if_neg (by decide), if_neg (by decide), if_pos (oc_sumOfNumbers z)]
  have hs : ∀ c i : Int32, m_X0_requireSpan c = 0 → 0 ≤ i.toInt → i.toInt ≤ 2 → (m_X0_ofSpan c i z).1 = 0 := fun c i h a b => q_os h (rw_iff.mpr ⟨a, b⟩)
  have c0 := at_c pc0 z
  have c1 := at_c pc1 z
  have c2 := at_c pc2 z
  have c3 := at_c pc3 z
  have c4 := at_c pc4 z
  have c5 := at_c pc5 z
  have d1 : (0 : Int32) + 1 = 1 := rfl
  have d2 : (1 : Int32) + 1 = 2 := rfl
  have d3 : (2 : Int32) + 1 = 3 := rfl
  have d4 : (3 : Int32) + 1 = 4 := rfl
  have d5 : (4 : Int32) + 1 = 5 := rfl
  unfold o_X0_digest
  refine bt ((q_dg hz c0).elim fun w hw => ⟨_, hw, ?_⟩)
  refine i1 rfl ?_
  refine bt ((q_dg hz c1).elim fun w hw => ⟨_, hw, ?_⟩)
  refine i1 rfl ?_
  refine bt ((q_dg hz c2).elim fun w hw => ⟨_, hw, ?_⟩)
  refine i1 rfl ?_
  refine bt ((q_dg hz c3).elim fun w hw => ⟨_, hw, ?_⟩)
  refine i1 rfl ?_
  refine bt ((q_dg hz c4).elim fun w hw => ⟨_, hw, ?_⟩)
  refine i1 rfl ?_
  refine bt ((q_dg hz c5).elim fun w hw => ⟨_, hw, ?_⟩)
  refine i1 rfl ?_
  simp only [d1, d2, d3, d4, d5]
  refine i1 (hs 0 0 sp0 (by decide) (by decide)) ?_
  refine i1 (hs 0 1 sp0 (by decide) (by decide)) ?_
  refine i1 (hs 0 2 sp0 (by decide) (by decide)) ?_
  refine i1 (hs 1 0 sp1 (by decide) (by decide)) ?_
  refine i1 (hs 1 1 sp1 (by decide) (by decide)) ?_
  refine i1 (hs 1 2 sp1 (by decide) (by decide)) ?_
  with_reducible repeat (first | refine i1 (q_dp c0 c1) ?_ | refine i1 (q_dp c1 c2) ?_ | refine i1 (q_dp c2 c3) ?_ | refine i1 (q_dp c3 c4) ?_ | refine i1 (q_dp c4 c5) ?_ | refine i1 (q_dp c5 c0) ?_)
  refine i1 ho0 (i1 ho1 (i1 ho2 (i1 (oc_isSound z) ?_)))
  split <;> exact ⟨_, rfl, rfl⟩
theorem ps_0 {c : Int32} (h : m_X0_requireSpan c = 0) (a b d : Int32) (z : CS) : (m_X0_putSpan c a b d z).1 = 0 := by unfold m_X0_putSpan; rw [if_pos h]
theorem ps_iv {c : Int32} {a b d : Int32} {z : CS} (h : cIv z) : cIv (m_X0_putSpan c a b d z).2 := by
  unfold m_X0_putSpan; split
  · exact h
  · exact h
def rsP (r : Nat × Int32 × CS) : Prop := r.1 = 0 ∧ cIv r.2.2
theorem rs_i {c : Prop} [Decidable c] {A B : Nat × Int32 × CS} (h1 : rsP A) (h2 : rsP B) : rsP (if c then A else B) := by split <;> assumption
theorem rs_l {w : CS} (h : cIv w) {v : Int32} {B C : Nat × Int32 × CS} : rsP (if (m_X0_putSpan 0 0 0 0 w).1 = 0 then (if (m_X0_putSpan 1 0 0 0 (m_X0_putSpan 0 0 0 0 w).2).1 = 0 then (0, v, (m_X0_putSpan 1 0 0 0 (m_X0_putSpan 0 0 0 0 w).2).2) else B) else C) := by
  rw [if_pos (ps_0 sp0 ..), if_pos (ps_0 sp1 ..)]
  exact ⟨rfl, ps_iv (ps_iv h)⟩
theorem rs_u {f : Nat → Int64} {n : Nat} {g : (Nat → Int32) × (Nat → Int32) × (Nat → Int32) × Int32 × Int32} (h : cIv (f, g)) : cIv (vp_updL f n (1008673 : Int64), g) := by
  intro i hi
  show yOK (vp_updL f n (1008673 : Int64) i)
  by_cases e : i = n
  · subst e; rw [pk_uLs]; exact ep_y
  · rw [pk_uLn e]; exact h i hi
theorem rs_reset {z : CS} (h : cIv z) : rsP (m_X0_reset z) := by
  unfold m_X0_reset
  refine rs_i ?_ ?_ <;> refine rs_i ?_ ?_ <;> refine rs_i ?_ ?_ <;> refine rs_i ?_ ?_ <;> refine rs_i ?_ ?_ <;> refine rs_i ?_ ?_ <;> (with_reducible refine rs_l ?_; with_reducible repeat (first | exact h | refine rs_u ?_))
-- the calendar's numbers
abbrev leap (y : Int) : Prop := y % 4 = 0 ∧ (y % 100 ≠ 0 ∨ y % 400 = 0)
def yl (y : Int) : Int := if leap y then 366 else 365
def ml (y m : Int) : Int := if m = 2 then (if leap y then 29 else 28) else if m = 4 ∨ m = 6 ∨ m = 9 ∨ m = 11 then 30 else 31
def nF (y : Int) : Int := 365 * (y - 1970) + (y - 1) / 4 - (y - 1) / 100 + (y - 1) / 400 - 477
def db (y : Int) : Nat → Int
  | 0 => 0
  | k + 1 => db y k + ml y (k + 1)
theorem nF_succ (y : Int) : nF (y + 1) = nF y + yl y := by
  unfold nF yl
  by_cases h : leap y
  · rw [if_pos h]; unfold leap at h; omega
  · rw [if_neg h]; unfold leap at h; omega
theorem nF_lt {x y : Int} (h : x < y) : nF x < nF y := by
  unfold nF; omega
theorem nF_uniq {x y q : Int} (h1 : nF x ≤ q) (h2 : q < nF (x + 1)) (h3 : nF y ≤ q) (h4 : q < nF (y + 1)) : x = y := by
  rcases Int.lt_trichotomy x y with h | h | h
  · by_cases e : x + 1 = y
    · subst e; omega
    · have := nF_lt (show x + 1 < y by omega); omega
  · exact h
  · by_cases e : y + 1 = x
    · subst e; omega
    · have := nF_lt (show y + 1 < x by omega); omega
theorem yl_b (y : Int) : 365 ≤ yl y ∧ yl y ≤ 366 := by unfold yl; split <;> omega
theorem ml_b (y m : Int) : 28 ≤ ml y m ∧ ml y m ≤ 31 := by unfold ml; repeat' split
                                                           all_goals omega
theorem db_12 (y : Int) : db y 12 = yl y := by
  unfold yl
  by_cases h : leap y
  · simp [db, ml, if_pos h]
  · simp [db, ml, if_neg h]
theorem db_lt {y : Int} {i j : Nat} (h : i < j) : db y i + 28 ≤ db y j := by
  induction j with
  | zero => omega
  | succ j ih =>
    have := ml_b y (j + 1)
    show _ ≤ db y j + ml y (j + 1)
    by_cases e : i = j
    · subst e; omega
    · have := ih (by omega); omega
theorem db_b {y : Int} : ∀ j : Nat, 0 ≤ db y j ∧ db y j ≤ 31 * j
  | 0 => by show 0 ≤ (0 : Int) ∧ (0 : Int) ≤ _; omega
  | j + 1 => by
    have := ml_b y (j + 1); have := db_b (y := y) j
    show 0 ≤ db y j + ml y (j + 1) ∧ db y j + ml y (j + 1) ≤ _
    omega
theorem db_uniq {y k : Int} {i j : Nat} (h1 : db y i < k) (h2 : k ≤ db y (i + 1)) (h3 : db y j < k) (h4 : k ≤ db y (j + 1)) : i = j := by
  rcases Nat.lt_trichotomy i j with h | h | h
  · by_cases e : i + 1 = j
    · subst e; omega
    · have := db_lt (y := y) (show i + 1 < j by omega); omega
  · exact h
  · by_cases e : j + 1 = i
    · subst e; omega
    · have := db_lt (y := y) (show j + 1 < i by omega); omega
-- Int64: division's rest
theorem ma_div {p c : Int64} {x y : Int} (hp : p.toInt = x) (hc : c.toInt = y) (h0 : 1 < y) : (p / c).toInt = x.tdiv y := by
  have hr1 := Int64.le_toInt p
  have hr2 := Int64.toInt_lt p
  have hy := Int64.toInt_lt c
  rw [hp] at hr1 hr2
  rw [hc] at hy
  have ht := Int.natAbs_tdiv_le_natAbs x y
  rw [Int64.toInt_div, hp, hc]
  by_cases hx : x.tdiv y = 9223372036854775808
  · have h9 := Int.tdiv_eq_ediv (a := x) (b := y)
    have hs : y.sign = 1 := Int.sign_eq_one_of_pos (by omega)
    have h8 : x / y ≤ 9223372036854775807 := by
      apply Int.ediv_le_of_le_mul (by omega)
      omega
    have h7 : x / y < 0 ∨ 0 ≤ x := by
      by_cases hx0 : 0 ≤ x
      · exact Or.inr hx0
      · exact Or.inl (Int.ediv_neg_of_neg_of_pos (by omega) (by omega))
    rw [hs] at h9
    split at h9 <;> omega
  · exact ma_b64 (by omega) (by omega)
theorem ma_rem {p c : Int64} {x y : Int} (hp : p.toInt = x) (hc : c.toInt = y) (h0 : 1 < y) : (p - p / c * c).toInt = x.tmod y := by
  have hr1 := Int64.le_toInt p
  have hr2 := Int64.toInt_lt p
  rw [hp] at hr1 hr2
  have e := Int.mul_tdiv_add_tmod x y
  have hd := ma_div hp hc h0
  have h1 : (x.tmod y).natAbs ≤ x.natAbs := by rw [Int.natAbs_tmod]; exact Nat.mod_le _ _
  have h2 : 0 ≤ x → 0 ≤ x.tmod y := fun h => Int.tmod_nonneg y h
  have h3 : x ≤ 0 → x.tmod y ≤ 0 := fun h => by
    have := Int.tmod_nonneg y (show 0 ≤ -x by omega)
    rw [Int.neg_tmod] at this; omega
  have em : (x.tdiv y) * y = x - x.tmod y := by rw [Int.mul_comm]; omega
  have hm : (p / c * c).toInt = x.tdiv y * y := ma_mul hd hc (by omega) (by omega)
  rw [ma_sub hp hm (by omega) (by omega), em]; omega
theorem ma_rem0 {p c : Int64} {x y : Int} (hp : p.toInt = x) (hc : c.toInt = y) (h0 : 1 < y) : lg_cmp (p - p / c * c) 0 = 0 ↔ x % y = 0 := by
  rw [lg_cmp_eq, ← Int64.toInt_inj, ma_rem hp hc h0]
  show x.tmod y = 0 ↔ _
  rw [← Int.dvd_iff_tmod_eq_zero, Int.dvd_iff_emod_eq_zero]
theorem lp_F {y : Int64} {a : Int} (h : y.toInt = a) : m_X0_isLeap y = if leap a then 1 else 0 := by
  unfold m_X0_isLeap
  have h4 := ma_rem0 h (show (4 : Int64).toInt = 4 from rfl) (by decide)
  have h1 := ma_rem0 h (show (100 : Int64).toInt = 100 from rfl) (by decide)
  have h2 := ma_rem0 h (show (400 : Int64).toInt = 400 from rfl) (by decide)
  simp only [h4, h1, h2]
  by_cases h : leap a
  · rw [if_pos h]; unfold leap at h
    repeat' split
    all_goals first | rfl | omega
  · rw [if_neg h]; unfold leap at h
    repeat' split
    all_goals first | rfl | omega
theorem i32_eq {p : Int32} {b : Int} (h : p.toInt = b) (k : Int32) : p = k ↔ b = k.toInt := by rw [← h]; exact Int32.toInt_inj.symm
theorem mo_F {y : Int64} {m : Int32} {a b : Int} (h : y.toInt = a) (hm : m.toInt = b) : (m_X0_monthLength m (m_X0_isLeap y)).toInt = ml a b := by
  have hk := i32_eq hm
  have hl : m_X0_isLeap y = 0 ↔ ¬ leap a := by
    rw [lp_F h]
    by_cases g : leap a
    · rw [if_pos g]; exact ⟨fun q => absurd q (by decide), fun q => absurd g q⟩
    · rw [if_neg g]; exact ⟨fun _ => g, fun _ => rfl⟩
  unfold m_X0_monthLength ml
  simp only [hk, hl, show (2 : Int32).toInt = 2 from rfl, show (3 : Int32).toInt = 3 from rfl, show (4 : Int32).toInt = 4 from rfl, show (5 : Int32).toInt = 5 from rfl, show (6 : Int32).toInt = 6 from rfl, show (7 : Int32).toInt = 7 from rfl, show (8 : Int32).toInt = 8 from rfl, show (9 : Int32).toInt = 9 from rfl, show (10 : Int32).toInt = 10 from rfl, show (11 : Int32).toInt = 11 from rfl]
  by_cases hp : leap a
  · simp only [if_pos hp, if_neg (fun g : ¬ leap a => g hp)]
    repeat' split
    all_goals first | rfl | omega
  · simp only [if_neg hp, if_pos hp]
    repeat' split
    all_goals first | rfl | omega
theorem yl_F {y : Int64} {a : Int} (h : y.toInt = a) : (m_X0_yearLength y).toInt = yl a := by
  unfold m_X0_yearLength yl
  rw [lp_F h]
  by_cases g : leap a
  · rw [if_pos g, if_pos g]; rfl
  · rw [if_neg g, if_neg g]; rfl
theorem fn_F {y : Int64} {a : Int} (h : y.toInt = a) (h1 : -1000000000 ≤ a) (h2 : a ≤ 1000000000) : (m_X0_firstNumberOf y).toInt = nF a := by
  have s := ma_sub h (show (1 : Int64).toInt = 1 from rfl) (by omega) (by omega)
  have f4 := ma_fdiv s (show (4 : Int64).toInt = 4 from rfl) (by decide)
  have f1 := ma_fdiv s (show (100 : Int64).toInt = 100 from rfl) (by decide)
  have f2 := ma_fdiv s (show (400 : Int64).toInt = 400 from rfl) (by decide)
  have e1 := ma_mul (show (365 : Int64).toInt = 365 from rfl) (ma_sub h (show (1970 : Int64).toInt = 1970 from rfl) (by omega) (by omega)) (by omega) (by omega)
  have e2 := ma_add (ma_sub f4 f1 (by omega) (by omega)) f2 (by omega) (by omega)
  have e3 := ma_sub (ma_add e1 e2 (by omega) (by omega)) (show (477 : Int64).toInt = 477 from rfl) (by omega) (by omega)
  unfold m_X0_firstNumberOf nF
  rw [e3]; omega
theorem yn_F {p : Int64} {q : Int} (h : p.toInt = q) (h1 : -1000000000 ≤ q) (h2 : q ≤ 1000000000) : ∃ y : Int, (m_X0_yearOfNumber p).toInt = y ∧ nF y ≤ q ∧ q < nF (y + 1) ∧ -3000000 ≤ y ∧ y ≤ 3000000 := by
  have e0 := ma_fdiv (ma_mul h (show (400 : Int64).toInt = 400 from rfl) (by omega) (by omega)) (show (146097 : Int64).toInt = 146097 from rfl) (by decide)
  have eg := ma_add (show (1970 : Int64).toInt = 1970 from rfl) e0 (by omega) (by omega)
  have eg1 := ma_add eg (show (1 : Int64).toInt = 1 from rfl) (by omega) (by omega)
  have eg2 := ma_sub eg (show (1 : Int64).toInt = 1 from rfl) (by omega) (by omega)
  have f0 := fn_F eg (by omega) (by omega)
  have f1 := fn_F eg1 (by omega) (by omega)
  generalize hk : q * 400 / 146097 = k at *
  have c0 : (0 ≤ lg_cmp p (m_X0_firstNumberOf ((1970 : Int64) + (m_J9_floorDiv_f86c9 (p * (400 : Int64)) (146097 : Int64))))) ↔ nF (1970 + k) ≤ q := by
    rw [lg_cmp_ge, Int64.le_iff_toInt_le, f0, h]
  have c1 : (0 ≤ lg_cmp p (m_X0_firstNumberOf (((1970 : Int64) + (m_J9_floorDiv_f86c9 (p * (400 : Int64)) (146097 : Int64))) + (1 : Int64)))) ↔ nF (1970 + k + 1) ≤ q := by
    rw [lg_cmp_ge, Int64.le_iff_toInt_le, f1, h]
  unfold m_X0_yearOfNumber
  simp only [c0, c1]
  split
  · split
    · refine ⟨_, eg1, ?_, ?_, by omega, by omega⟩
      · assumption
      · unfold nF; omega
    · refine ⟨_, eg, ?_, ?_, by omega, by omega⟩
      · assumption
      · omega
  · rename_i hn
    refine ⟨_, eg2, ?_, ?_, by omega, by omega⟩
    · unfold nF; omega
    · rw [show 1970 + k - 1 + 1 = 1970 + k by omega]; omega
theorem nF_lo : nF (-9999) = -4371587 := by decide
theorem nF_hi : nF 10000 = 2932897 := by decide
-- Int32
theorem ia_b {x : Int} (h : -2147483648 ≤ x) (h2 : x < 2147483648) : x.bmod (2 ^ 32) = x := by
  apply Int.bmod_eq_of_le <;> omega
theorem ia_add {a b : Int32} {x y : Int} (ha : a.toInt = x) (hb : b.toInt = y) (h : -2147483648 ≤ x + y) (h2 : x + y < 2147483648) : (a + b).toInt = x + y := by
  rw [Int32.toInt_add, ha, hb]; exact ia_b h h2
theorem ia_sub {a b : Int32} {x y : Int} (ha : a.toInt = x) (hb : b.toInt = y) (h : -2147483648 ≤ x - y) (h2 : x - y < 2147483648) : (a - b).toInt = x - y := by
  rw [Int32.toInt_sub, ha, hb]; exact ia_b h h2
theorem ia_mul {a b : Int32} {x y : Int} (ha : a.toInt = x) (hb : b.toInt = y) (h : -2147483648 ≤ x * y) (h2 : x * y < 2147483648) : (a * b).toInt = x * y := by
  rw [Int32.toInt_mul, ha, hb]; exact ia_b h h2
theorem ia_div {p c : Int32} {x y : Int} (hp : p.toInt = x) (hc : c.toInt = y) (h0 : 1 < y) : (p / c).toInt = x.tdiv y := by
  have hr1 := Int32.le_toInt p
  have hr2 := Int32.toInt_lt p
  have hy := Int32.toInt_lt c
  rw [hp] at hr1 hr2
  rw [hc] at hy
  have ht := Int.natAbs_tdiv_le_natAbs x y
  rw [Int32.toInt_div, hp, hc]
  by_cases hx : x.tdiv y = 2147483648
  · have h9 := Int.tdiv_eq_ediv (a := x) (b := y)
    have hs : y.sign = 1 := Int.sign_eq_one_of_pos (by omega)
    have h8 : x / y ≤ 2147483647 := by
      apply Int.ediv_le_of_le_mul (by omega)
      omega
    have h7 : x / y < 0 ∨ 0 ≤ x := by
      by_cases hx0 : 0 ≤ x
      · exact Or.inr hx0
      · exact Or.inl (Int.ediv_neg_of_neg_of_pos (by omega) (by omega))
    rw [hs] at h9
    split at h9 <;> omega
  · exact ia_b (by omega) (by omega)
theorem ia_rem {p c : Int32} {x y : Int} (hp : p.toInt = x) (hc : c.toInt = y) (h0 : 1 < y) : (p - p / c * c).toInt = x.tmod y := by
  have hr1 := Int32.le_toInt p
  have hr2 := Int32.toInt_lt p
  rw [hp] at hr1 hr2
  have e := Int.mul_tdiv_add_tmod x y
  have hd := ia_div hp hc h0
  have h1 : (x.tmod y).natAbs ≤ x.natAbs := by rw [Int.natAbs_tmod]; exact Nat.mod_le _ _
  have h2 : 0 ≤ x → 0 ≤ x.tmod y := fun h => Int.tmod_nonneg y h
  have h3 : x ≤ 0 → x.tmod y ≤ 0 := fun h => by
    have := Int.tmod_nonneg y (show 0 ≤ -x by omega)
    rw [Int.neg_tmod] at this; omega
  have em : (x.tdiv y) * y = x - x.tmod y := by rw [Int.mul_comm]; omega
  have hm : (p / c * c).toInt = x.tdiv y * y := ia_mul hd hc (by omega) (by omega)
  rw [ia_sub hp hm (by omega) (by omega), em]; omega
theorem ia_rem0 {p c : Int32} {x y : Int} (hp : p.toInt = x) (hc : c.toInt = y) (h0 : 1 < y) : p - p / c * c = 0 ↔ x % y = 0 := by
  rw [← Int32.toInt_inj, ia_rem hp hc h0]
  show x.tmod y = 0 ↔ _
  rw [← Int.dvd_iff_tmod_eq_zero, Int.dvd_iff_emod_eq_zero]
theorem ia_le {a b : Int32} {x y : Int} (ha : a.toInt = x) (hb : b.toInt = y) : a ≤ b ↔ x ≤ y := by rw [Int32.le_iff_toInt_le, ha, hb]
theorem ia_lt {a b : Int32} {x y : Int} (ha : a.toInt = x) (hb : b.toInt = y) : a < b ↔ x < y := by rw [Int32.lt_iff_toInt_lt, ha, hb]
theorem nI_t {k : Nat} (h : k < 2147483648) : (nI k).toInt = k := nI_toInt (by omega)
-- the class: year and day of the year to a date
theorem dl_F {p0 : Int64} {p1 : Int32} {a k : Int} (hy : p0.toInt = a) (hk : k ≤ yl a) : ∀ (n j : Nat) (x : Int32), 11 ≤ n + j → j < 12 → x.toInt = k - db a j → db a j < k →
    ∃ i, i < 12 ∧ db a i < k ∧ k ≤ db a (i + 1) ∧ l_X0_dateOfYearDay p0 p1 (n + 1) (nI (j + 1)) x = some (m_X0_dateOf p0 (nI (i + 1)) (nI (k - db a i).toNat)) := by
  intro n
  induction n with
  | zero =>
    intro j x h1 h2 h3 h4
    obtain rfl : j = 11 := by omega
    have e : x = nI (k - db a 11).toNat := nI_at h3 (by omega)
    subst e
    exact ⟨11, by omega, h4, by rw [db_12]; exact hk, if_pos (by decide)⟩
  | succ n ih =>
    intro j x h1 h2 h3 h4
    have e : x = nI (k - db a j).toNat := nI_at h3 (by omega)
    by_cases hj : j = 11
    · subst hj e
      exact ⟨11, by omega, h4, by rw [db_12]; exact hk, if_pos (by decide)⟩
    · have hm := mo_F hy (nI_t (k := j + 1) (by omega))
      have hb := ml_b a ((j + 1 : Nat) : Int)
      have hd : db a (j + 1) = db a j + ml a ((j + 1 : Nat) : Int) := rfl
      have hx0 : ¬ (12 : Int32) ≤ nI (j + 1) := fun h => by
        have := (ia_le (show (12 : Int32).toInt = 12 from rfl) (nI_t (k := j + 1) (by omega))).mp h
        omega
      have hk2 := yl_b a
      by_cases hc : x ≤ m_X0_monthLength (nI (j + 1)) (m_X0_isLeap p0)
      · have := (ia_le h3 hm).mp hc
        subst e
        exact ⟨j, by omega, h4, by omega, (if_neg hx0).trans (if_pos hc)⟩
      · have hc2 : ¬ k - db a j ≤ ml a ((j + 1 : Nat) : Int) := fun h => hc ((ia_le h3 hm).mpr h)
        have hb2 := db_b (y := a) j
        obtain ⟨i, q1, q2, q3, q4⟩ := ih (j + 1) (x - m_X0_monthLength (nI (j + 1)) (m_X0_isLeap p0)) (by omega) (by omega) (by rw [ia_sub h3 hm (by omega) (by omega)]; omega) (by omega)
        refine ⟨i, q1, q2, q3, (if_neg hx0).trans ((if_neg hc).trans ?_)⟩
        rw [nI_1]; exact q4
theorem dd_F {p0 : Int64} {p1 : Int32} {a k : Int} (hy : p0.toInt = a) (hp : p1.toInt = k) (h0 : 1 ≤ k) (hk : k ≤ yl a) :
    ∃ i, i < 12 ∧ db a i < k ∧ k ≤ db a (i + 1) ∧ m_X0_dateOfYearDay p0 p1 = m_X0_dateOf p0 (nI (i + 1)) (nI (k - db a i).toNat) := by
  obtain ⟨i, q1, q2, q3, q4⟩ := dl_F (p1 := p1) hy hk 19 0 p1 (by omega) (by omega) (by rw [hp]; show k = k - 0; omega) (by show 0 < k; omega)
  refine ⟨i, q1, q2, q3, ?_⟩
  unfold m_X0_dateOfYearDay
  rw [show o_X0_dateOfYearDay p0 p1 = _ from q4]
  rfl
theorem dn_F {p : Int64} {q : Int} (h : p.toInt = q) (h1 : -1000000000 ≤ q) (h2 : q ≤ 1000000000) : ∃ (y : Int) (i : Nat), (m_X0_yearOfNumber p).toInt = y ∧ nF y ≤ q ∧ q < nF (y + 1) ∧ -3000000 ≤ y ∧ y ≤ 3000000 ∧ i < 12 ∧ db y i < q - nF y + 1 ∧ q - nF y + 1 ≤ db y (i + 1) ∧ m_X0_dateOfNumber p = m_X0_dateOf (m_X0_yearOfNumber p) (nI (i + 1)) (nI (q - nF y + 1 - db y i).toNat) := by
  obtain ⟨y, e, b1, b2, b3, b4⟩ := yn_F h h1 h2
  have hs := nF_succ y
  have hb := yl_b y
  have ed := ia_add (ma_i (ma_sub h (fn_F e (by omega) (by omega)) (by omega) (by omega)) (by omega) (by omega)) (show (1 : Int32).toInt = 1 from rfl) (by omega) (by omega)
  obtain ⟨i, q1, q2, q3, q4⟩ := dd_F e ed (by omega) (by omega)
  exact ⟨y, i, e, b1, b2, b3, b4, q1, q2, q3, q4⟩
theorem yr_in {y q : Int} (b1 : nF y ≤ q) (b2 : q < nF (y + 1)) (h1 : -4371587 ≤ q) (h2 : q ≤ 2932896) : -9999 ≤ y ∧ y ≤ 9999 := by
  have l := nF_lo; have u := nF_hi
  constructor
  · by_cases h : y + 1 ≤ -9999
    · by_cases e : y + 1 = -9999
      · rw [e] at b2; omega
      · have := nF_lt (show y + 1 < -9999 by omega); omega
    · omega
  · by_cases h : 10000 ≤ y
    · by_cases e : y = 10000
      · rw [e] at b1; omega
      · have := nF_lt (show 10000 < y by omega); omega
    · omega
theorem nd_y {p : Int64} {q : Int} (h : p.toInt = q) (h1 : -4371587 ≤ q) (h2 : q ≤ 2932896) : yOK (m_X0_dateOfNumber p) := by
  obtain ⟨y, i, e, b1, b2, b3, b4, q1, q2, q3, q4⟩ := dn_F h (by omega) (by omega)
  have hd : db y (i + 1) = db y i + ml y ((i + 1 : Nat) : Int) := rfl
  have hm := ml_b y ((i + 1 : Nat) : Int)
  rw [q4]
  exact yOK_of e (nI_t (by omega)) (nI_t (by omega)) (yr_in b1 b2 h1 h2) (by omega) (by omega)
theorem oc_ofDay (p0 p1 : Int32) (z : CS) : (m_X0_ofDay p0 p1 z).1 = 0 ∨ (m_X0_ofDay p0 p1 z).1 = 1 ∨ (m_X0_ofDay p0 p1 z).1 = 2 := by
  unfold m_X0_ofDay
  have h0 := pl_01 p0
  have h1 := oc_requireWithin p1 (-4371587) 2932896
  have h2 : m_X0_requireWithin p1 (-4371587) 2932896 = 0 → _ := fun hw => give_y (p := p0) (z := z) (d := m_X0_dateOfNumber p1.toInt64) (nd_y (ma_l rfl) (rw_iff.mp hw).1 (rw_iff.mp hw).2)
  with_reducible repeat' split
  all_goals with_reducible (try dsimp only; first | omega | simp_all)
theorem iv_ofDay (p0 p1 : Int32) (z : CS) (h : cIv z) : cIv (m_X0_ofDay p0 p1 z).2.2 := by
  unfold m_X0_ofDay
  with_reducible repeat' split
  all_goals with_reducible first | exact h | exact give_iv h
