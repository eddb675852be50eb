-- the reference's numbers
theorem ma_neg {a : Int64} {x : Int} (ha : a.toInt = x) (h : -9223372036854775808 ≤ -x) (h2 : -x < 9223372036854775808) : (-a).toInt = -x := by
  rw [Int64.toInt_neg, ha]; exact ma_b64 h h2
theorem ia_neg {a : Int32} {x : Int} (ha : a.toInt = x) (h : -2147483648 ≤ -x) (h2 : -x < 2147483648) : (-a).toInt = -x := by
  rw [Int32.toInt_neg, ha]; exact ia_b h h2
theorem sh_F {p c : Int64} {x y : Int} (hp : p.toInt = x) (hc : c.toInt = y) (h0 : 1 < y) (h1 : -2000000000000000000 ≤ x) (h2 : x ≤ 2000000000000000000) (h3 : y ≤ 1000000000) : (m_X3_share p c).toInt = x / y := by
  unfold m_X3_share
  have e0 : lg_cmp p 0 < 0 ↔ x < 0 := by rw [lg_cmp_lt, Int64.lt_iff_toInt_lt, hp]; rfl
  simp only [e0]
  split
  · have s := ma_sub (ma_sub hc (show (1 : Int64).toInt = 1 from rfl) (by omega) (by omega)) hp (by omega) (by omega)
    have d := ma_div s hc h0
    have e : (y - 1 - x).tdiv y = -(x / y) := by
      rw [Int.tdiv_eq_ediv_of_nonneg (by omega)]
      have hm := Int.mul_ediv_add_emod x y
      have hm1 := Int.emod_nonneg x (show y ≠ 0 by omega)
      have hm2 := Int.emod_lt_of_pos x (show 0 < y by omega)
      exact ((Int.ediv_emod_unique (r := y - 1 - x % y) (show 0 < y by omega)).mpr ⟨by rw [Int.mul_neg]; omega, by omega, by omega⟩).1
    rw [e] at d
    have b1 : x / y < 0 := Int.ediv_neg_of_neg_of_pos (by omega) (by omega)
    have b2 : -2000000000000000000 ≤ x / y := Int.le_ediv_of_mul_le (by omega) (by omega)
    rw [ma_neg d (by omega) (by omega)]; omega
  · rw [ma_div hp hc h0, Int.tdiv_eq_ediv_of_nonneg (by omega)]
theorem re_F {p c : Int64} {x y : Int} (hp : p.toInt = x) (hc : c.toInt = y) (h0 : 1 < y) (h1 : -2000000000000000000 ≤ x) (h2 : x ≤ 2000000000000000000) (h3 : y ≤ 1000000000) : (m_X3_rest p c).toInt = x % y := by
  have hs := sh_F hp hc h0 h1 h2 h3
  have hm := Int.mul_ediv_add_emod x y
  have hm1 := Int.emod_nonneg x (show y ≠ 0 by omega)
  have hm2 := Int.emod_lt_of_pos x (show 0 < y by omega)
  unfold m_X3_rest
  rw [ma_sub hp (ma_mul hc hs (by omega) (by omega)) (by omega) (by omega)]
  omega
theorem isin_F {p a b : Int64} {x y w : Int} (hp : p.toInt = x) (ha : a.toInt = y) (hb : b.toInt = w) : m_X3_isIn p a b = 0 ↔ ¬ (y ≤ x ∧ x ≤ w) := by
  unfold m_X3_isIn
  have e0 : lg_cmp p a < 0 ↔ x < y := by rw [lg_cmp_lt, Int64.lt_iff_toInt_lt, hp, ha]
  have e1 : 0 < lg_cmp p b ↔ w < x := by rw [lg_cmp_gt, Int64.lt_iff_toInt_lt, hp, hb]
  simp only [e0, e1]
  split
  · exact ⟨fun _ => by omega, fun _ => rfl⟩
  · split
    · exact ⟨fun _ => by omega, fun _ => rfl⟩
    · exact ⟨fun h => absurd h (by decide), fun h => absurd (show y ≤ x ∧ x ≤ w by omega) h⟩
theorem lr_F {p : Int32} {a : Int} (h : p.toInt = a) : m_X3_isLeap p = if leap a then 1 else 0 := by
  unfold m_X3_isLeap
  have h4 := ia_rem0 h (show (4 : Int32).toInt = 4 from rfl) (by decide)
  have h1 := ia_rem0 h (show (100 : Int32).toInt = 100 from rfl) (by decide)
  have h2 := ia_rem0 h (show (400 : Int32).toInt = 400 from rfl) (by decide)
  simp only [h4, h1, h2]
  by_cases h : leap a
  · rw [if_pos h]; unfold leap at h
    repeat' split
    all_goals first | rfl | omega
  · rw [if_neg h]; unfold leap at h
    repeat' split
    all_goals first | rfl | omega
theorem lr_0 {p : Int32} {a : Int} (h : p.toInt = a) : m_X3_isLeap p = 0 ↔ ¬ leap a := by
  rw [lr_F h]
  by_cases g : leap a
  · rw [if_pos g]; exact ⟨fun q => absurd q (by decide), fun q => absurd g q⟩
  · rw [if_neg g]; exact ⟨fun _ => g, fun _ => rfl⟩
theorem lw_F {p : Int32} {a : Int} (h : p.toInt = a) : (m_X3_lengthOf p).toInt = yl a := by
  unfold m_X3_lengthOf yl
  simp only [lr_0 h]
  by_cases hp : leap a
  · simp only [if_pos hp, if_neg (fun g : ¬ leap a => g hp)]; rfl
  · simp only [if_neg hp, if_pos hp]; rfl
theorem gl_F : ∀ k, k < 12 → ((0 : Nat) ≤ k ∧ (k ≠ 1 → ∀ l : Bool, (gLong.getD k 0).toInt = if k + 1 = 4 ∨ k + 1 = 6 ∨ k + 1 = 9 ∨ k + 1 = 11 then 30 else 31) ∧ (k = 1 → (gLong.getD k 0).toInt = 28)) := by decide
theorem lo_F {y m : Int32} {a b : Int} (hy : y.toInt = a) (hm : m.toInt = b) (h1 : 1 ≤ b) (h2 : b ≤ 12) : ∃ v, o_X3_lengthOf_ y m = some v ∧ v.toInt = ml a b := by
  have s := ia_sub hm (show (1 : Int32).toInt = 1 from rfl) (by omega) (by omega)
  have es : m - 1 = nI (b - 1).toNat := nI_at s (by omega)
  have hg : ¬ (m - 1 < 0 ∨ 12 ≤ (b - 1).toNat) := by
    rw [show (m - 1 < 0) ↔ _ from ia_lt s (show (0 : Int32).toInt = 0 from rfl)]
    omega
  have hcl : (m - 1).toNatClampNeg = (b - 1).toNat := by show (m - 1).toInt.toNat = _; rw [s]
  have g := gl_F (b - 1).toNat (by omega)
  have hk := i32_eq hm 2
  unfold o_X3_lengthOf_
  simp only [hk, show (2 : Int32).toInt = 2 from rfl, lr_0 hy, if_neg hg, hcl]
  unfold ml
  by_cases hb : b = 2
  · simp only [hb, if_true]
    by_cases hp : leap a
    · simp only [if_pos hp, if_neg (fun g : ¬ leap a => g hp)]; exact ⟨_, rfl, rfl⟩
    · simp only [if_neg hp, if_pos hp]; exact ⟨_, rfl, rfl⟩
  · simp only [hb, if_false]
    refine ⟨_, rfl, ?_⟩
    rw [g.2.1 (by omega) true]
    congr 1
    exact propext (by omega)
-- a date of the reference
def dV (d : DT) : Prop := 1 ≤ d.2.1.toInt ∧ d.2.1.toInt ≤ 12 ∧ 1 ≤ d.2.2.toInt ∧ d.2.2.toInt ≤ ml d.1.toInt d.2.1.toInt ∧ -300000 ≤ d.1.toInt ∧ d.1.toInt ≤ 300000
def dY (d : DT) : Int := db d.1.toInt (d.2.1.toInt.toNat - 1) + d.2.2.toInt
def dN (d : DT) : Int := nF d.1.toInt + dY d - 1
theorem dY_b {d : DT} (h : dV d) : 1 ≤ dY d ∧ dY d ≤ yl d.1.toInt := by
  obtain ⟨h1, h2, h3, h4, _, _⟩ := h
  unfold dY
  have b0 := db_b (y := d.1.toInt) (d.2.1.toInt.toNat - 1)
  have e : db d.1.toInt (d.2.1.toInt.toNat - 1 + 1) = db d.1.toInt (d.2.1.toInt.toNat - 1) + ml d.1.toInt ((d.2.1.toInt.toNat - 1 : Nat) + 1 : Int) := rfl
  rw [show ((d.2.1.toInt.toNat - 1 : Nat) + 1 : Int) = d.2.1.toInt by omega] at e
  have b1 : db d.1.toInt (d.2.1.toInt.toNat - 1 + 1) ≤ db d.1.toInt 12 := by
    by_cases q : d.2.1.toInt.toNat - 1 + 1 = 12
    · rw [q]; omega
    · have := db_lt (y := d.1.toInt) (show d.2.1.toInt.toNat - 1 + 1 < 12 by omega); omega
  rw [db_12] at b1
  omega
theorem dN_b {d : DT} (h : dV d) : nF d.1.toInt ≤ dN d ∧ dN d < nF (d.1.toInt + 1) := by
  have := dY_b h
  have := nF_succ d.1.toInt
  unfold dN; omega
theorem nF_r {y : Int} (h1 : -300000 ≤ y) (h2 : y ≤ 300001) : -111000000 ≤ nF y ∧ nF y ≤ 111000000 := by unfold nF; omega
theorem dN_inj {d e : DT} (hd : dV d) (he : dV e) (h : dN d = dN e) : d = e := by
  have b1 := dN_b hd
  have b2 := dN_b he
  have ey : d.1.toInt = e.1.toInt := nF_uniq b1.1 b1.2 (by omega) (by omega)
  have eY : dY d = dY e := by unfold dN at h; rw [ey] at h; omega
  obtain ⟨h1, h2, h3, h4, _, _⟩ := hd
  obtain ⟨g1, g2, g3, g4, _, _⟩ := he
  unfold dY at eY
  rw [ey] at eY h4
  have r1 : db e.1.toInt (d.2.1.toInt.toNat - 1 + 1) = db e.1.toInt (d.2.1.toInt.toNat - 1) + ml e.1.toInt ((d.2.1.toInt.toNat - 1 : Nat) + 1 : Int) := rfl
  have r2 : db e.1.toInt (e.2.1.toInt.toNat - 1 + 1) = db e.1.toInt (e.2.1.toInt.toNat - 1) + ml e.1.toInt ((e.2.1.toInt.toNat - 1 : Nat) + 1 : Int) := rfl
  rw [show ((d.2.1.toInt.toNat - 1 : Nat) + 1 : Int) = d.2.1.toInt by omega] at r1
  rw [show ((e.2.1.toInt.toNat - 1 : Nat) + 1 : Int) = e.2.1.toInt by omega] at r2
  have em : d.2.1.toInt.toNat - 1 = e.2.1.toInt.toNat - 1 := db_uniq (y := e.1.toInt) (k := db e.1.toInt (d.2.1.toInt.toNat - 1) + d.2.2.toInt) (by omega) (by omega) (by omega) (by omega)
  have em2 : d.2.1 = e.2.1 := Int32.toInt_inj.mp (by omega)
  rw [em] at eY
  have ed : d.2.2 = e.2.2 := Int32.toInt_inj.mp (by omega)
  exact Prod.ext (Int32.toInt_inj.mp ey) (Prod.ext em2 ed)
theorem iy_F {d : DT} (h : dV d) : ∃ v, o_X2_inYear d = some v ∧ v.toInt = dY d := by
  have hb := dY_b h
  have hyl := yl_b d.1.toInt
  obtain ⟨h1, h2, h3, h4, _, _⟩ := h
  have key : ∀ (n j : Nat) (x : Int32), 11 ≤ n + j → j < 12 → (j : Int) + 1 ≤ d.2.1.toInt → x.toInt = db d.1.toInt j + d.2.2.toInt → ∃ v, l7_X2_inYear d (n + 1) x (nI (j + 1)) = some v ∧ v.toInt = dY d := by
    intro n
    induction n with
    | zero =>
      intro j x q1 q2 q3 q4
      refine ⟨x, if_pos ((ia_le rfl (nI_t (by omega))).mpr (by omega)), ?_⟩
      unfold dY; rw [q4, show d.2.1.toInt.toNat - 1 = j by omega]
    | succ n ih =>
      intro j x q1 q2 q3 q4
      by_cases hc : d.2.1 ≤ nI (j + 1)
      · have := (ia_le rfl (nI_t (k := j + 1) (by omega))).mp hc
        refine ⟨x, if_pos hc, ?_⟩
        unfold dY; rw [q4, show d.2.1.toInt.toNat - 1 = j by omega]
      · have hc2 : ¬ d.2.1.toInt ≤ ((j + 1 : Nat) : Int) := fun g => hc ((ia_le rfl (nI_t (k := j + 1) (by omega))).mpr g)
        obtain ⟨v, e1, e2⟩ := lo_F (y := d.1) rfl (nI_t (k := j + 1) (by omega)) (by omega) (by omega)
        have hm := ml_b d.1.toInt ((j + 1 : Nat) : Int)
        have hdb := db_b (y := d.1.toInt) j
        have hm2 := ml_b d.1.toInt d.2.1.toInt
        obtain ⟨w, e3, e4⟩ := ih (j + 1) (x + v) (by omega) (by omega) (by omega) (by rw [ia_add q4 e2 (by omega) (by omega)]; show _ = db d.1.toInt j + ml d.1.toInt ((j + 1 : Nat) : Int) + _; omega)
        refine ⟨w, (if_neg hc).trans ?_, e4⟩
        rw [e1]; show l7_X2_inYear d (n + 1) (x + v) (nI (j + 1) + 1) = _
        rw [nI_1]; exact e3
  exact key 19 0 d.2.2 (by omega) (by omega) (by omega) (by show _ = 0 + _; omega)
theorem nF_400 (k : Int) : nF (400 * k) = 146097 * k - 719528 := by unfold nF; omega
theorem nu_F {d : DT} (h : dV d) : ∃ v, o_X2_number d = some v ∧ v.toInt = dN d := by
  obtain ⟨v, e1, e2⟩ := iy_F h
  have hb := dY_b h
  have hyl := yl_b d.1.toInt
  obtain ⟨h1, h2, h3, h4, h5, h6⟩ := h
  have key : ∀ (n : Nat) (x c : Int32) (a : Int), c.toInt = a → a ≤ d.1.toInt → d.1.toInt ≤ a + n → -300400 ≤ a → x.toInt = nF a → ∃ v, l27_X2_number d (n + 1) x c = some v ∧ v.toInt = dN d := by
    intro n
    induction n with
    | zero =>
      intro x c a q1 q2 q3 q4 q5
      obtain rfl : a = d.1.toInt := by omega
      have hr := nF_r h5 (by omega)
      refine ⟨_, (if_pos ((ia_le rfl q1).mpr (by omega))).trans (by rw [e1]; rfl), ?_⟩
      rw [ia_sub (ia_add q5 e2 (by omega) (by omega)) (show (1 : Int32).toInt = 1 from rfl) (by omega) (by omega)]
      unfold dN; omega
    | succ n ih =>
      intro x c a q1 q2 q3 q4 q5
      by_cases hc : d.1.toInt ≤ a
      · obtain rfl : a = d.1.toInt := by omega
        have hr := nF_r h5 (by omega)
        refine ⟨_, (if_pos ((ia_le rfl q1).mpr (by omega))).trans (by rw [e1]; rfl), ?_⟩
        rw [ia_sub (ia_add q5 e2 (by omega) (by omega)) (show (1 : Int32).toInt = 1 from rfl) (by omega) (by omega)]
        unfold dN; omega
      · have hs := nF_succ a
        have hy := yl_b a
        have hr : -120000000 ≤ nF a ∧ nF a ≤ 120000000 := by unfold nF; omega
        obtain ⟨w, e3, e4⟩ := ih (x + m_X3_lengthOf c) (c + 1) (a + 1) (ia_add q1 (show (1 : Int32).toInt = 1 from rfl) (by omega) (by omega)) (by omega) (by omega) (by omega) (by rw [ia_add q5 (lw_F q1) (by omega) (by omega)]; omega)
        exact ⟨w, (if_neg (fun g => hc ((ia_le rfl q1).mp g))).trans e3, e4⟩
  have es := ma_i (sh_F (ma_l (a := d.1) rfl) (show (400 : Int64).toInt = 400 from rfl) (by decide) (by omega) (by omega) (by omega)) (by omega) (by omega)
  have ec := ia_mul (show (400 : Int32).toInt = 400 from rfl) es (by omega) (by omega)
  refine key 401 _ _ _ ec (by omega) (by omega) (by omega) ?_
  rw [nF_400, ia_sub (ia_mul es (show (146097 : Int32).toInt = 146097 from rfl) (by omega) (by omega)) (show (719528 : Int32).toInt = 719528 from rfl) (by omega) (by omega)]
  omega
