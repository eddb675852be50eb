-- the reference's numbers
theorem ma_neg {a : Int64} {x : Int} (ha : a.toInt = x) (h : -9223372036854775808 ≤ -x) (h2 : -x < 9223372036854775808) : (-a).toInt = -x := by
  rw [Int64.toInt_neg, ha]; exact ma_b64 h h2
theorem ia_neg {a : Int32} {x : Int} (ha : a.toInt = x) (h : -2147483648 ≤ -x) (h2 : -x < 2147483648) : (-a).toInt = -x := by
  rw [Int32.toInt_neg, ha]; exact ia_b h h2
theorem sh_F {p c : Int64} {x y : Int} (hp : p.toInt = x) (hc : c.toInt = y) (h0 : 1 < y) (h1 : -2000000000000000000 ≤ x) (h2 : x ≤ 2000000000000000000) (h3 : y ≤ 1000000000) : (m_X3_share p c).toInt = x / y := by
  unfold m_X3_share
  have e0 : lg_cmp p 0 < 0 ↔ x < 0 := by rw [lg_cmp_lt, Int64.lt_iff_toInt_lt, hp]; rfl
  simp only [e0]
  split
  · have s := ma_sub (ma_sub hc (show (1 : Int64).toInt = 1 from rfl) (by omega) (by omega)) hp (by omega) (by omega)
    have d := ma_div s hc h0
    have e : (y - 1 - x).tdiv y = -(x / y) := by
      rw [Int.tdiv_eq_ediv_of_nonneg (by omega)]
      have hm := Int.mul_ediv_add_emod x y
      have hm1 := Int.emod_nonneg x (show y ≠ 0 by omega)
      have hm2 := Int.emod_lt_of_pos x (show 0 < y by omega)
      exact ((Int.ediv_emod_unique (r := y - 1 - x % y) (show 0 < y by omega)).mpr ⟨by rw [Int.mul_neg]; omega, by omega, by omega⟩).1
    rw [e] at d
    have b1 : x / y < 0 := Int.ediv_neg_of_neg_of_pos (by omega) (by omega)
    have b2 : -2000000000000000000 ≤ x / y := Int.le_ediv_of_mul_le (by omega) (by omega)
    rw [ma_neg d (by omega) (by omega)]; omega
  · rw [ma_div hp hc h0, Int.tdiv_eq_ediv_of_nonneg (by omega)]
theorem re_F {p c : Int64} {x y : Int} (hp : p.toInt = x) (hc : c.toInt = y) (h0 : 1 < y) (h1 : -2000000000000000000 ≤ x) (h2 : x ≤ 2000000000000000000) (h3 : y ≤ 1000000000) : (m_X3_rest p c).toInt = x % y := by
  have hs := sh_F hp hc h0 h1 h2 h3
  have hm := Int.mul_ediv_add_emod x y
  have hm1 := Int.emod_nonneg x (show y ≠ 0 by omega)
  have hm2 := Int.emod_lt_of_pos x (show 0 < y by omega)
  unfold m_X3_rest
  rw [ma_sub hp (ma_mul hc hs (by omega) (by omega)) (by omega) (by omega)]
  omega
theorem isin_F {p a b : Int64} {x y w : Int} (hp : p.toInt = x) (ha : a.toInt = y) (hb : b.toInt = w) : m_X3_isIn p a b = 0 ↔ ¬ (y ≤ x ∧ x ≤ w) := by
  unfold m_X3_isIn
  have e0 : lg_cmp p a < 0 ↔ x < y := by rw [lg_cmp_lt, Int64.lt_iff_toInt_lt, hp, ha]
  have e1 : 0 < lg_cmp p b ↔ w < x := by rw [lg_cmp_gt, Int64.lt_iff_toInt_lt, hp, hb]
  simp only [e0, e1]
  split
  · exact ⟨fun _ => by omega, fun _ => rfl⟩
  · split
    · exact ⟨fun _ => by omega, fun _ => rfl⟩
    · exact ⟨fun h => absurd h (by decide), fun h => absurd (show y ≤ x ∧ x ≤ w by omega) h⟩
theorem lr_F {p : Int32} {a : Int} (h : p.toInt = a) : m_X3_isLeap p = if leap a then 1 else 0 := by
  unfold m_X3_isLeap
  have h4 := ia_rem0 h (show (4 : Int32).toInt = 4 from rfl) (by decide)
  have h1 := ia_rem0 h (show (100 : Int32).toInt = 100 from rfl) (by decide)
  have h2 := ia_rem0 h (show (400 : Int32).toInt = 400 from rfl) (by decide)
  simp only [h4, h1, h2]
  by_cases h : leap a
  · rw [if_pos h]; unfold leap at h
    repeat' split
    all_goals first | rfl | omega
  · rw [if_neg h]; unfold leap at h
    repeat' split
    all_goals first | rfl | omega
theorem lr_0 {p : Int32} {a : Int} (h : p.toInt = a) : m_X3_isLeap p = 0 ↔ ¬ leap a := by
  rw [lr_F h]
  by_cases g : leap a
  · rw [if_pos g]; exact ⟨fun q => absurd q (by decide), fun q => absurd g q⟩
  · rw [if_neg g]; exact ⟨fun _ => g, fun _ => rfl⟩
theorem lw_F {p : Int32} {a : Int} (h : p.toInt = a) : (m_X3_lengthOf p).toInt = yl a := by
  unfold m_X3_lengthOf yl
  simp only [lr_0 h]
  by_cases hp : leap a
  · simp only [if_pos hp, if_neg (fun g : ¬ leap a => g hp)]; rfl
  · simp only [if_neg hp, if_pos hp]; rfl
theorem gl_F : ∀ k, k < 12 → ((0 : Nat) ≤ k ∧ (k ≠ 1 → ∀ l : Bool, (gLong.getD k 0).toInt = if k + 1 = 4 ∨ k + 1 = 6 ∨ k + 1 = 9 ∨ k + 1 = 11 then 30 else 31) ∧ (k = 1 → (gLong.getD k 0).toInt = 28)) := by decide
theorem lo_F {y m : Int32} {a b : Int} (hy : y.toInt = a) (hm : m.toInt = b) (h1 : 1 ≤ b) (h2 : b ≤ 12) : ∃ v, o_X3_lengthOf_ y m = some v ∧ v.toInt = ml a b := by
  have s := ia_sub hm (show (1 : Int32).toInt = 1 from rfl) (by omega) (by omega)
  have es : m - 1 = nI (b - 1).toNat := nI_at s (by omega)
  have hg : ¬ (m - 1 < 0 ∨ 12 ≤ (b - 1).toNat) := by
    rw [show (m - 1 < 0) ↔ _ from ia_lt s (show (0 : Int32).toInt = 0 from rfl)]
    omega
  have hcl : (m - 1).toNatClampNeg = (b - 1).toNat := by show (m - 1).toInt.toNat = _; rw [s]
  have g := gl_F (b - 1).toNat (by omega)
  have hk := i32_eq hm 2
  unfold o_X3_lengthOf_
  simp only [hk, show (2 : Int32).toInt = 2 from rfl, lr_0 hy, if_neg hg, hcl]
  unfold ml
  by_cases hb : b = 2
  · simp only [hb, if_true]
    by_cases hp : leap a
    · simp only [if_pos hp, if_neg (fun g : ¬ leap a => g hp)]; exact ⟨_, rfl, rfl⟩
    · simp only [if_neg hp, if_pos hp]; exact ⟨_, rfl, rfl⟩
  · simp only [hb, if_false]
    refine ⟨_, rfl, ?_⟩
    rw [g.2.1 (by omega) true]
    congr 1
    exact propext (by omega)
-- a date of the reference
def dV (d : DT) : Prop := 1 ≤ d.2.1.toInt ∧ d.2.1.toInt ≤ 12 ∧ 1 ≤ d.2.2.toInt ∧ d.2.2.toInt ≤ ml d.1.toInt d.2.1.toInt ∧ -300000 ≤ d.1.toInt ∧ d.1.toInt ≤ 300000
def dY (d : DT) : Int := db d.1.toInt (d.2.1.toInt.toNat - 1) + d.2.2.toInt
def dN (d : DT) : Int := nF d.1.toInt + dY d - 1
theorem dY_b {d : DT} (h : dV d) : 1 ≤ dY d ∧ dY d ≤ yl d.1.toInt := by
  obtain ⟨h1, h2, h3, h4, _, _⟩ := h
  unfold dY
  have b0 := db_b (y := d.1.toInt) (d.2.1.toInt.toNat - 1)
  have e : db d.1.toInt (d.2.1.toInt.toNat - 1 + 1) = db d.1.toInt (d.2.1.toInt.toNat - 1) + ml d.1.toInt ((d.2.1.toInt.toNat - 1 : Nat) + 1 : Int) := rfl
  rw [show ((d.2.1.toInt.toNat - 1 : Nat) + 1 : Int) = d.2.1.toInt by omega] at e
  have b1 : db d.1.toInt (d.2.1.toInt.toNat - 1 + 1) ≤ db d.1.toInt 12 := by
    by_cases q : d.2.1.toInt.toNat - 1 + 1 = 12
    · rw [q]; omega
    · have := db_lt (y := d.1.toInt) (show d.2.1.toInt.toNat - 1 + 1 < 12 by omega); omega
  rw [db_12] at b1
  omega
theorem dN_b {d : DT} (h : dV d) : nF d.1.toInt ≤ dN d ∧ dN d < nF (d.1.toInt + 1) := by
  have := dY_b h
  have := nF_succ d.1.toInt
  unfold dN; omega
theorem nF_r {y : Int} (h1 : -300000 ≤ y) (h2 : y ≤ 300001) : -111000000 ≤ nF y ∧ nF y ≤ 111000000 := by unfold nF; omega
theorem dN_inj {d e : DT} (hd : dV d) (he : dV e) (h : dN d = dN e) : d = e := by
  have b1 := dN_b hd
  have b2 := dN_b he
  have ey : d.1.toInt = e.1.toInt := nF_uniq b1.1 b1.2 (by omega) (by omega)
  have eY : dY d = dY e := by unfold dN at h; rw [ey] at h; omega
  obtain ⟨h1, h2, h3, h4, _, _⟩ := hd
  obtain ⟨g1, g2, g3, g4, _, _⟩ := he
  unfold dY at eY
  rw [ey] at eY h4
  have r1 : db e.1.toInt (d.2.1.toInt.toNat - 1 + 1) = db e.1.toInt (d.2.1.toInt.toNat - 1) + ml e.1.toInt ((d.2.1.toInt.toNat - 1 : Nat) + 1 : Int) := rfl
  have r2 : db e.1.toInt (e.2.1.toInt.toNat - 1 + 1) = db e.1.toInt (e.2.1.toInt.toNat - 1) + ml e.1.toInt ((e.2.1.toInt.toNat - 1 : Nat) + 1 : Int) := rfl
  rw [show ((d.2.1.toInt.toNat - 1 : Nat) + 1 : Int) = d.2.1.toInt by omega] at r1
  rw [show ((e.2.1.toInt.toNat - 1 : Nat) + 1 : Int) = e.2.1.toInt by omega] at r2
  have em : d.2.1.toInt.toNat - 1 = e.2.1.toInt.toNat - 1 := db_uniq (y := e.1.toInt) (k := db e.1.toInt (d.2.1.toInt.toNat - 1) + d.2.2.toInt) (by omega) (by omega) (by omega) (by omega)
  have em2 : d.2.1 = e.2.1 := Int32.toInt_inj.mp (by omega)
  rw [em] at eY
  have ed : d.2.2 = e.2.2 := Int32.toInt_inj.mp (by omega)
  exact Prod.ext (Int32.toInt_inj.mp ey) (Prod.ext em2 ed)
theorem iy_F {d : DT} (h : dV d) : ∃ v, o_X2_inYear d = some v ∧ v.toInt = dY d := by
  have hb := dY_b h
  have hyl := yl_b d.1.toInt
  obtain ⟨h1, h2, h3, h4, _, _⟩ := h
  have key : ∀ (n j : Nat) (x : Int32), 11 ≤ n + j → j < 12 → (j : Int) + 1 ≤ d.2.1.toInt → x.toInt = db d.1.toInt j + d.2.2.toInt → ∃ v, l7_X2_inYear d (n + 1) x (nI (j + 1)) = some v ∧ v.toInt = dY d := by
    intro n
    induction n with
    | zero =>
      intro j x q1 q2 q3 q4
      refine ⟨x, if_pos ((ia_le rfl (nI_t (by omega))).mpr (by omega)), ?_⟩
      unfold dY; rw [q4, show d.2.1.toInt.toNat - 1 = j by omega]
    | succ n ih =>
      intro j x q1 q2 q3 q4
      by_cases hc : d.2.1 ≤ nI (j + 1)
      · have := (ia_le rfl (nI_t (k := j + 1) (by omega))).mp hc
        refine ⟨x, if_pos hc, ?_⟩
        unfold dY; rw [q4, show d.2.1.toInt.toNat - 1 = j by omega]
      · have hc2 : ¬ d.2.1.toInt ≤ ((j + 1 : Nat) : Int) := fun g => hc ((ia_le rfl (nI_t (k := j + 1) (by omega))).mpr g)
        obtain ⟨v, e1, e2⟩ := lo_F (y := d.1) rfl (nI_t (k := j + 1) (by omega)) (by omega) (by omega)
        have hm := ml_b d.1.toInt ((j + 1 : Nat) : Int)
        have hdb := db_b (y := d.1.toInt) j
        have hm2 := ml_b d.1.toInt d.2.1.toInt
        obtain ⟨w, e3, e4⟩ := ih (j + 1) (x + v) (by omega) (by omega) (by omega) (by rw [ia_add q4 e2 (by omega) (by omega)]; show _ = db d.1.toInt j + ml d.1.toInt ((j + 1 : Nat) : Int) + _; omega)
        refine ⟨w, (if_neg hc).trans ?_, e4⟩
        rw [e1]; show l7_X2_inYear d (n + 1) (x + v) (nI (j + 1) + 1) = _
        rw [nI_1]; exact e3
  exact key 19 0 d.2.2 (by omega) (by omega) (by omega) (by show _ = 0 + _; omega)
theorem nF_400 (k : Int) : nF (400 * k) = 146097 * k - 719528 := by unfold nF; omega
theorem nu_F {d : DT} (h : dV d) : ∃ v, o_X2_number d = some v ∧ v.toInt = dN d := by
  obtain ⟨v, e1, e2⟩ := iy_F h
  have hb := dY_b h
  have hyl := yl_b d.1.toInt
  obtain ⟨h1, h2, h3, h4, h5, h6⟩ := h
  have key : ∀ (n : Nat) (x c : Int32) (a : Int), c.toInt = a → a ≤ d.1.toInt → d.1.toInt ≤ a + n → -300400 ≤ a → x.toInt = nF a → ∃ v, l27_X2_number d (n + 1) x c = some v ∧ v.toInt = dN d := by
    intro n
    induction n with
    | zero =>
      intro x c a q1 q2 q3 q4 q5
      obtain rfl : a = d.1.toInt := by omega
      have hr := nF_r h5 (by omega)
      refine ⟨_, (if_pos ((ia_le rfl q1).mpr (by omega))).trans (by rw [e1]; rfl), ?_⟩
      rw [ia_sub (ia_add q5 e2 (by omega) (by omega)) (show (1 : Int32).toInt = 1 from rfl) (by omega) (by omega)]
      unfold dN; omega
    | succ n ih =>
      intro x c a q1 q2 q3 q4 q5
      by_cases hc : d.1.toInt ≤ a
      · obtain rfl : a = d.1.toInt := by omega
        have hr := nF_r h5 (by omega)
        refine ⟨_, (if_pos ((ia_le rfl q1).mpr (by omega))).trans (by rw [e1]; rfl), ?_⟩
        rw [ia_sub (ia_add q5 e2 (by omega) (by omega)) (show (1 : Int32).toInt = 1 from rfl) (by omega) (by omega)]
        unfold dN; omega
      · have hs := nF_succ a
        have hy := yl_b a
        have hr : -120000000 ≤ nF a ∧ nF a ≤ 120000000 := by unfold nF; omega
        obtain ⟨w, e3, e4⟩ := ih (x + m_X3_lengthOf c) (c + 1) (a + 1) (ia_add q1 (show (1 : Int32).toInt = 1 from rfl) (by omega) (by omega)) (by omega) (by omega) (by omega) (by rw [ia_add q5 (lw_F q1) (by omega) (by omega)]; omega)
        exact ⟨w, (if_neg (fun g => hc ((ia_le rfl q1).mp g))).trans e3, e4⟩
  have es := ma_i (sh_F (ma_l (a := d.1) rfl) (show (400 : Int64).toInt = 400 from rfl) (by decide) (by omega) (by omega) (by omega)) (by omega) (by omega)
  have ec := ia_mul (show (400 : Int32).toInt = 400 from rfl) es (by omega) (by omega)
  refine key 401 _ _ _ ec (by omega) (by omega) (by omega) ?_
  rw [nF_400, ia_sub (ia_mul es (show (146097 : Int32).toInt = 146097 from rfl) (by omega) (by omega)) (show (719528 : Int32).toInt = 719528 from rfl) (by omega) (by omega)]
  omega
-- the reference's dates
theorem od_F {p0 p1 : Int32} {c k q y : Int} (hc : p0.toInt = c) (hk : p1.toInt = k) (h1 : 1 ≤ k) (hq : q = nF c + k - 1) (h2 : c ≤ y) (h3 : y ≤ c + 401) (h4 : nF y ≤ q) (h5 : q < nF (y + 1)) (h6 : -300400 ≤ c) (h7 : y ≤ 300000) (h8 : -300000 ≤ y) : ∃ d, o_X3_ofYearAndDay p0 p1 = some d ∧ dV d ∧ dN d = q ∧ d.1.toInt = y := by
  have inner : ∀ (Y : Int32), Y.toInt = y → ∀ (n j : Nat) (x : Int32) (K : Int), 11 ≤ n + j → j < 12 → x.toInt = K - db y j → db y j < K → K ≤ yl y → ∃ d, l28_X3_ofYearAndDay p0 p1 (n + 1) Y x (nI (j + 1)) = some d ∧ dV d ∧ dN d = nF y + K - 1 ∧ d.1.toInt = y := by
    intro Y hY n
    induction n with
    | zero =>
      intro j x K q1 q2 q3 q4 q5
      obtain rfl : j = 11 := by omega
      obtain ⟨v, e1, e2⟩ := lo_F hY (nI_t (k := 12) (by omega)) (by omega) (by omega)
      have e12 : db y 12 = db y 11 + ml y 12 := rfl
      rw [db_12] at e12
      have e2' : v.toInt = ml y 12 := e2
      refine ⟨(Y, nI 12, x), ?_, ⟨by show 1 ≤ (nI 12).toInt; decide, by show (nI 12).toInt ≤ 12; decide, by show 1 ≤ x.toInt; omega, ?_, by show -300000 ≤ Y.toInt; omega, by show Y.toInt ≤ 300000; omega⟩, ?_, hY⟩
      · show (o_X3_lengthOf_ Y (nI 12)).bind _ = _
        rw [e1]; exact if_pos ((ia_le rfl rfl).mpr (by omega))
      · show x.toInt ≤ ml Y.toInt (nI 12).toInt
        rw [hY, show (nI 12).toInt = 12 by decide]; omega
      · show nF Y.toInt + (db Y.toInt ((nI 12).toInt.toNat - 1) + x.toInt) - 1 = _
        rw [hY, show (nI 12).toInt.toNat - 1 = 11 by decide]; omega
    | succ n ih =>
      intro j x K q1 q2 q3 q4 q5
      obtain ⟨v, e1, e2⟩ := lo_F hY (nI_t (k := j + 1) (by omega)) (by omega) (by omega)
      have hj : (nI (j + 1)).toInt = j + 1 := nI_t (by omega)
      have hdb : db y (j + 1) = db y j + ml y ((j + 1 : Nat) : Int) := rfl
      have hb := db_b (y := y) j
      have hm := ml_b y ((j + 1 : Nat) : Int)
      have hyl := yl_b y
      by_cases hcmp : x ≤ v
      · have hc2 := (ia_le q3 e2).mp hcmp
        refine ⟨(Y, nI (j + 1), x), ?_, ⟨by show 1 ≤ (nI (j + 1)).toInt; omega, by show (nI (j + 1)).toInt ≤ 12; omega, by show 1 ≤ x.toInt; omega, ?_, by show -300000 ≤ Y.toInt; omega, by show Y.toInt ≤ 300000; omega⟩, ?_, hY⟩
        · show (o_X3_lengthOf_ Y (nI (j + 1))).bind _ = _
          rw [e1]; exact if_pos hcmp
        · show x.toInt ≤ ml Y.toInt (nI (j + 1)).toInt
          rw [hY, q3, show ((nI (j + 1)).toInt) = ((j + 1 : Nat) : Int) from hj]; exact hc2
        · show nF Y.toInt + (db Y.toInt ((nI (j + 1)).toInt.toNat - 1) + x.toInt) - 1 = _
          rw [hY, show (nI (j + 1)).toInt.toNat - 1 = j by omega]; omega
      · have hc2 : ¬ K - db y j ≤ ml y ((j + 1 : Nat) : Int) := fun g => hcmp ((ia_le q3 e2).mpr g)
        have hj11 : j ≠ 11 := fun g => by
          subst g
          have e12 : db y 12 = db y 11 + ml y ((11 + 1 : Nat) : Int) := rfl
          rw [db_12] at e12; omega
        obtain ⟨d, g1, g2⟩ := ih (j + 1) (x - v) K (by omega) (by omega) (by rw [ia_sub q3 e2 (by omega) (by omega)]; omega) (by omega) q5
        refine ⟨d, ?_, g2⟩
        show (o_X3_lengthOf_ Y (nI (j + 1))).bind _ = _
        rw [e1]
        refine (if_neg hcmp).trans ?_
        show l28_X3_ofYearAndDay p0 p1 (n + 1) Y (x - v) (nI (j + 1) + 1) = _
        rw [nI_1]; exact g1
  have outer : ∀ (n : Nat) (C x : Int32) (c k : Int), C.toInt = c → x.toInt = k → 1 ≤ k → q = nF c + k - 1 → c ≤ y → y ≤ c + n → -300400 ≤ c → ∃ d, l4_X3_ofYearAndDay p0 p1 (n + 1) C x = some d ∧ dV d ∧ dN d = q ∧ d.1.toInt = y := by
    intro n
    induction n with
    | zero =>
      intro C x c k q1 q2 q3 q4 q5 q6 q7
      obtain rfl : c = y := by omega
      have hs := nF_succ c
      obtain ⟨d, g1, g2, g3, g4⟩ := inner C q1 19 0 x k (by omega) (by omega) (by rw [q2]; show k = k - 0; omega) (by show 0 < k; omega) (by omega)
      exact ⟨d, (if_pos ((ia_le q2 (lw_F q1)).mpr (by omega))).trans g1, g2, by omega, g4⟩
    | succ n ih =>
      intro C x c k q1 q2 q3 q4 q5 q6 q7
      have hs := nF_succ c
      by_cases hcy : c = y
      · subst hcy
        obtain ⟨d, g1, g2, g3, g4⟩ := inner C q1 19 0 x k (by omega) (by omega) (by rw [q2]; show k = k - 0; omega) (by show 0 < k; omega) (by omega)
        exact ⟨d, (if_pos ((ia_le q2 (lw_F q1)).mpr (by omega))).trans g1, g2, by omega, g4⟩
      · have hlt : nF (c + 1) ≤ nF y := by
          by_cases e : c + 1 = y
          · rw [e]; omega
          · have := nF_lt (show c + 1 < y by omega); omega
        have hx := Int32.toInt_lt x
        have hyl := yl_b c
        obtain ⟨d, g1, g2⟩ := ih (C + 1) (x - m_X3_lengthOf C) (c + 1) (k - yl c) (ia_add q1 (show (1 : Int32).toInt = 1 from rfl) (by omega) (by omega)) (ia_sub q2 (lw_F q1) (by omega) (by omega)) (by omega) (by omega) (by omega) (by omega) (by omega)
        exact ⟨d, (if_neg (fun g => by have := (ia_le q2 (lw_F q1)).mp g; omega)).trans g1, g2⟩
  exact outer 401 p0 p1 c k hc hk h1 hq h2 (by omega) h6
theorem y_ex {q : Int} (h1 : -1000000000 ≤ q) (h2 : q ≤ 1000000000) : ∃ y : Int, nF y ≤ q ∧ q < nF (y + 1) := by
  have e : (Int64.ofInt q).toInt = q := by
    rw [Int64.toInt_ofInt]; exact ma_b64 (by omega) (by omega)
  obtain ⟨y, _, b1, b2, _⟩ := yn_F e h1 h2
  exact ⟨y, b1, b2⟩
theorem y_r {y q : Int} (h1 : -105000000 ≤ q) (h2 : q ≤ 105000000) (h3 : nF y ≤ q) (h4 : q < nF (y + 1)) : -299000 ≤ y ∧ y ≤ 299000 := by
  unfold nF at h3 h4; omega
theorem c_lo {y s q : Int} (b2 : q < nF (y + 1)) (h : 146097 * s - 719528 ≤ q) : 400 * s ≤ y := by
  rw [← nF_400] at h
  refine Int.not_lt.mp fun g => ?_
  by_cases e : y + 1 = 400 * s
  · rw [e] at b2; exact absurd (Int.lt_of_le_of_lt h b2) (Int.lt_irrefl _)
  · exact absurd (Int.lt_of_le_of_lt h (Int.lt_trans b2 (nF_lt (show y + 1 < 400 * s by omega)))) (Int.lt_irrefl _)
theorem c_hi {y s q : Int} (b1 : nF y ≤ q) (h : q < 146097 * (s + 1) - 719528) : y < 400 * (s + 1) := by
  rw [← nF_400] at h
  refine Int.not_le.mp fun g => ?_
  by_cases e : y = 400 * (s + 1)
  · rw [e] at b1; exact absurd (Int.lt_of_le_of_lt b1 h) (Int.lt_irrefl _)
  · exact absurd (Int.lt_of_le_of_lt b1 (Int.lt_trans h (nF_lt (show 400 * (s + 1) < y by omega)))) (Int.lt_irrefl _)
theorem on_A {q : Int} (h1 : -100000000 ≤ q) (h2 : q ≤ 100000000) : ∃ s r y : Int, (q + 719528) / 146097 = s ∧ (q + 719528) % 146097 = r ∧ nF y ≤ q ∧ q < nF (y + 1) ∧ 400 * s ≤ y ∧ y ≤ 400 * s + 401 ∧ q = nF (400 * s) + (r + 1) - 1 ∧ -300400 ≤ 400 * s ∧ 1 ≤ r + 1 ∧ -300000 ≤ y ∧ y ≤ 300000 ∧ -2147483648 ≤ 400 * s ∧ 400 * s < 2147483648 ∧ -2147483648 ≤ r + 1 ∧ r + 1 < 2147483648 := by
  obtain ⟨y, b1, b2⟩ := y_ex (q := q) (by omega) (by omega)
  have hy := y_r (by omega) (by omega) b1 b2
  obtain ⟨s, r, hs, hr, hdm, hm1, hm2⟩ : ∃ s r, (q + 719528) / 146097 = s ∧ (q + 719528) % 146097 = r ∧ 146097 * s + r = q + 719528 ∧ 0 ≤ r ∧ r < 146097 := ⟨_, _, rfl, rfl, Int.mul_ediv_add_emod _ _, by omega, by omega⟩
  have f0 := nF_400 s
  have c1 : 400 * s ≤ y := c_lo b2 (by omega)
  have c2 : y < 400 * (s + 1) := c_hi b1 (by omega)
  exact ⟨s, r, y, hs, hr, b1, b2, c1, by omega, by omega, by omega, by omega, by omega, by omega, by omega, by omega, by omega, by omega⟩
theorem on_F {p : Int32} {q : Int} (hp : p.toInt = q) (h1 : -100000000 ≤ q) (h2 : q ≤ 100000000) : ∃ d, o_X3_ofNumber p = some d ∧ dV d ∧ dN d = q := by
  have e0 := ma_l (ia_add hp (show (719528 : Int32).toInt = 719528 from rfl) (by omega) (by omega))
  have es := ma_i (sh_F e0 (show (146097 : Int64).toInt = 146097 from rfl) (by decide) (by omega) (by omega) (by omega)) (by omega) (by omega)
  have er := ma_i (re_F e0 (show (146097 : Int64).toInt = 146097 from rfl) (by decide) (by omega) (by omega) (by omega)) (by omega) (by omega)
  obtain ⟨s, r, y, hs, hr, b1, b2, c1, c4, c3, c5, c6, c7, c8, k1, k2, k3, k4⟩ := on_A h1 h2
  rw [hs] at es
  rw [hr] at er
  have ec := ia_mul (show (400 : Int32).toInt = 400 from rfl) es k1 k2
  have ek := ia_add er (show (1 : Int32).toInt = 1 from rfl) k3 k4
  obtain ⟨d, g1, g2, g3, _⟩ := od_F ec ek c6 (q := q) (y := y) c3 c1 c4 b1 b2 c5 c8 c7
  refine ⟨d, ?_, g2, g3⟩
  unfold o_X3_ofNumber
  rw [g1]; rfl
theorem nr_F {p0 p1 p2 : Int32} {y m : Int} (h0 : p0.toInt = y) (hm : p1.toInt = m) (h1 : 1 ≤ m) (h2 : m ≤ 12) (h3 : 1 ≤ p2.toInt) (h5 : -300000 ≤ y) (h6 : y ≤ 300000) : ∃ d, o_X3_near p0 p1 p2 = some d ∧ dV d ∧ d.1 = p0 ∧ d.2.1 = p1 ∧ d.2.2.toInt = if p2.toInt ≤ ml y m then p2.toInt else ml y m := by
  obtain ⟨v, e1, e2⟩ := lo_F h0 hm h1 h2
  have hb := ml_b y m
  unfold o_X3_near
  rw [e1]
  by_cases hc : p2 ≤ v
  · have hc2 := (ia_le rfl e2).mp hc
    refine ⟨(p0, p1, p2), if_pos hc, ⟨by show 1 ≤ p1.toInt; omega, by show p1.toInt ≤ 12; omega, h3, ?_, by show _ ≤ p0.toInt; omega, by show p0.toInt ≤ _; omega⟩, rfl, rfl, (if_pos hc2).symm⟩
    show p2.toInt ≤ ml p0.toInt p1.toInt
    rw [h0, hm]; exact hc2
  · have hc2 : ¬ p2.toInt ≤ ml y m := fun g => hc ((ia_le rfl e2).mpr g)
    refine ⟨(p0, p1, v), if_neg hc, ⟨by show 1 ≤ p1.toInt; omega, by show p1.toInt ≤ 12; omega, by show 1 ≤ v.toInt; omega, ?_, by show _ ≤ p0.toInt; omega, by show p0.toInt ≤ _; omega⟩, rfl, rfl, by rw [if_neg hc2]; exact e2⟩
    show v.toInt ≤ ml p0.toInt p1.toInt
    rw [h0, hm, e2]; omega
theorem la_F {d : DT} (h : dV d) {p : Int64} {x : Int} (hp : p.toInt = x) (h1 : -100000000000 ≤ x) (h2 : x ≤ 100000000000) :
    (¬ (-200000 ≤ (12 * d.1.toInt + d.2.1.toInt - 1 + x) / 12 ∧ (12 * d.1.toInt + d.2.1.toInt - 1 + x) / 12 ≤ 200000) ∧ o_X3_later d p = some none) ∨
    ((-200000 ≤ (12 * d.1.toInt + d.2.1.toInt - 1 + x) / 12 ∧ (12 * d.1.toInt + d.2.1.toInt - 1 + x) / 12 ≤ 200000) ∧ ∃ e : DT, o_X3_later d p = some (some e) ∧ dV e ∧ e.1.toInt = (12 * d.1.toInt + d.2.1.toInt - 1 + x) / 12 ∧ e.2.1.toInt = (12 * d.1.toInt + d.2.1.toInt - 1 + x) % 12 + 1 ∧ e.2.2.toInt = if d.2.2.toInt ≤ ml ((12 * d.1.toInt + d.2.1.toInt - 1 + x) / 12) ((12 * d.1.toInt + d.2.1.toInt - 1 + x) % 12 + 1) then d.2.2.toInt else ml ((12 * d.1.toInt + d.2.1.toInt - 1 + x) / 12) ((12 * d.1.toInt + d.2.1.toInt - 1 + x) % 12 + 1)) := by
  obtain ⟨v1, v2, v3, v4, v5, v6⟩ := h
  have e0 := ma_add (ma_sub (ma_add (ma_mul (show (12 : Int64).toInt = 12 from rfl) (ma_l (a := d.1) rfl) (by omega) (by omega)) (ma_l (a := d.2.1) rfl) (by omega) (by omega)) (show (1 : Int64).toInt = 1 from rfl) (by omega) (by omega)) hp (by omega) (by omega)
  have es := sh_F e0 (show (12 : Int64).toInt = 12 from rfl) (by decide) (by omega) (by omega) (by omega)
  have er := re_F e0 (show (12 : Int64).toInt = 12 from rfl) (by decide) (by omega) (by omega) (by omega)
  have hi := isin_F es (show (-200000 : Int64).toInt = -200000 from rfl) (show (200000 : Int64).toInt = 200000 from rfl)
  generalize hY : (12 * d.1.toInt + d.2.1.toInt - 1 + x) / 12 = Y at *
  generalize hM : (12 * d.1.toInt + d.2.1.toInt - 1 + x) % 12 = M at *
  unfold o_X3_later
  by_cases hc : -200000 ≤ Y ∧ Y ≤ 200000
  · refine Or.inr ⟨hc, ?_⟩
    rw [if_neg (fun g => hi.mp g hc)]
    obtain ⟨e, g1, g2, g3, g4, g5⟩ := nr_F (p2 := d.2.2) (ma_i es (by omega) (by omega)) (ia_add (ma_i er (by omega) (by omega)) (show (1 : Int32).toInt = 1 from rfl) (by omega) (by omega)) (by omega) (by omega) v3 (by omega) (by omega)
    rw [g1]
    exact ⟨e, rfl, g2, by rw [g3, ma_i es (by omega) (by omega)], by rw [g4, ia_add (ma_i er (by omega) (by omega)) (show (1 : Int32).toInt = 1 from rfl) (by omega) (by omega)], g5⟩
  · exact Or.inl ⟨hc, if_pos (hi.mpr hc)⟩
theorem ld_F {d : DT} (h : dV d) {p : Int64} {x : Int} (hp : p.toInt = x) (h1 : -100000000000 ≤ x) (h2 : x ≤ 100000000000) :
    (¬ (-100000000 ≤ dN d + x ∧ dN d + x ≤ 100000000) ∧ o_X3_laterByDays d p = some none) ∨
    ((-100000000 ≤ dN d + x ∧ dN d + x ≤ 100000000) ∧ ∃ e : DT, o_X3_laterByDays d p = some (some e) ∧ dV e ∧ dN e = dN d + x) := by
  obtain ⟨v, e1, e2⟩ := nu_F h
  have hv := Int32.le_toInt v
  have hv2 := Int32.toInt_lt v
  rw [e2] at hv hv2
  have e0 := ma_add (ma_l e2) hp (by omega) (by omega)
  have hi := isin_F e0 (show (-100000000 : Int64).toInt = -100000000 from rfl) (show (100000000 : Int64).toInt = 100000000 from rfl)
  unfold o_X3_laterByDays
  rw [e1]
  by_cases hc : -100000000 ≤ dN d + x ∧ dN d + x ≤ 100000000
  · obtain ⟨e, g1, g2, g3⟩ := on_F (ma_i e0 (by omega) (by omega)) (by omega) (by omega)
    refine Or.inr ⟨hc, e, ?_, g2, g3⟩
    refine (if_neg (fun g => hi.mp g hc)).trans ?_
    rw [g1]; rfl
  · exact Or.inl ⟨hc, if_pos (hi.mpr hc)⟩
-- the reference never stops: what its methods need of the state
def T {α : Type} (P : α → Prop) (x : Option α) : Prop := ∃ a, x = some a ∧ P a
def rK (kn : Int32) (z : MS) : Prop := (∀ i, i < 6 → dV (z.2.1 i) ∧ -9999 ≤ (z.2.1 i).1.toInt ∧ (z.2.1 i).1.toInt ≤ 9999) ∧ z.2.2.2.2.2 = kn
theorem T_s {α : Type} {P : α → Prop} {a : α} (h : P a) : T P (some a) := ⟨a, rfl, h⟩
theorem T_b {α β : Type} {P : β → Prop} {Q : α → Prop} {x : Option α} {f : α → Option β} (h : T Q x) (h2 : ∀ a, Q a → T P (f a)) : T P (x.bind f) := by
  obtain ⟨a, rfl, q⟩ := h; exact h2 a q
theorem T_i {α : Type} {P : α → Prop} {c : Prop} [Decidable c] {A B : Option α} (h1 : c → T P A) (h2 : ¬ c → T P B) : T P (if c then A else B) := by
  split
  · exact h1 (by assumption)
  · exact h2 (by assumption)
theorem T_ip {α : Type} {P : α → Prop} {c : Prop} [Decidable c] {A B : Option α} (hc : c) (h1 : T P A) : T P (if c then A else B) := by rw [if_pos hc]; exact h1
theorem T_in {α : Type} {P : α → Prop} {c : Prop} [Decidable c] {A B : Option α} (hc : ¬ c) (h1 : T P B) : T P (if c then A else B) := by rw [if_neg hc]; exact h1
theorem T_en {α β : Type} {P : β → Prop} {A : Option β} {f : α → Option β} (h : T P A) : T P (Option.elim none A f) := h
theorem T_es {α β : Type} {P : β → Prop} {A : Option β} {f : α → Option β} {a : α} (h : T P (f a)) : T P (Option.elim (some a) A f) := h
theorem pr_F {p : Int32} : m_X3_isNo p = 0 ↔ 0 ≤ p.toInt ∧ p.toInt ≤ 5 := by
  have := isin_F (ma_l (a := p) rfl) (show (0 : Int64).toInt = 0 from rfl) (show (5 : Int64).toInt = 5 from rfl)
  unfold m_X3_isNo
  split
  · rename_i h; exact ⟨fun g => absurd g (by decide), fun g => absurd g (this.mp h)⟩
  · rename_i h; exact ⟨fun _ => Classical.byContradiction fun g => h (this.mpr g), fun _ => rfl⟩
theorem ps_F {p : Int32} : m_X3_isNoSpan p = 0 ↔ 0 ≤ p.toInt ∧ p.toInt ≤ 1 := by
  have := isin_F (ma_l (a := p) rfl) (show (0 : Int64).toInt = 0 from rfl) (show (1 : Int64).toInt = 1 from rfl)
  unfold m_X3_isNoSpan
  split
  · rename_i h; exact ⟨fun g => absurd g (by decide), fun g => absurd g (this.mp h)⟩
  · rename_i h; exact ⟨fun _ => Classical.byContradiction fun g => h (this.mpr g), fun _ => rfl⟩
theorem py_F {p : Int32} : m_X3_isNoYear p = 0 ↔ -9999 ≤ p.toInt ∧ p.toInt ≤ 9999 := by
  have := isin_F (ma_l (a := p) rfl) (show (-9999 : Int64).toInt = -9999 from rfl) (show (9999 : Int64).toInt = 9999 from rfl)
  unfold m_X3_isNoYear
  split
  · rename_i h; exact ⟨fun g => absurd g (by decide), fun g => absurd g (this.mp h)⟩
  · rename_i h; exact ⟨fun _ => Classical.byContradiction fun g => h (this.mpr g), fun _ => rfl⟩
theorem cl_F {p : Int32} {n : Nat} (h : 0 ≤ p.toInt ∧ p.toInt < n) : ¬ (p < 0 ∨ n ≤ p.toNatClampNeg) := by
  have e : p.toNatClampNeg = p.toInt.toNat := rfl
  rw [show (p < 0) ↔ _ from ia_lt rfl (show (0 : Int32).toInt = 0 from rfl)]
  omega
theorem T_g6 {α : Type} {P : α → Prop} {p : Int32} {A B : Option α} (h : m_X3_isNo p = 0) (h1 : T P B) : T P (if p < 0 ∨ 6 ≤ p.toNatClampNeg then A else B) := by
  have := pr_F.mp h
  rw [if_neg (cl_F (n := 6) (by omega))]; exact h1
theorem T_g2 {α : Type} {P : α → Prop} {p : Int32} {A B : Option α} (h : m_X3_isNoSpan p = 0) (h1 : T P B) : T P (if p < 0 ∨ 2 ≤ p.toNatClampNeg then A else B) := by
  have := ps_F.mp h
  rw [if_neg (cl_F (n := 2) (by omega))]; exact h1
theorem T_g3 {α : Type} {P : α → Prop} {p : Int32} {A B : Option α} (h : ¬ m_X3_isIn p.toInt64 0 2 = 0) (h1 : T P B) : T P (if p < 0 ∨ 3 ≤ p.toNatClampNeg then A else B) := by
  have := isin_F (ma_l (a := p) rfl) (show (0 : Int64).toInt = 0 from rfl) (show (2 : Int64).toInt = 2 from rfl)
  have h2 : 0 ≤ p.toInt ∧ p.toInt ≤ 2 := Classical.byContradiction fun g => h (this.mpr g)
  rw [if_neg (cl_F (n := 3) (by omega))]; exact h1
theorem rK_d {kn : Int32} {z : MS} {p : Int32} (h : rK kn z) (hp : m_X3_isNo p = 0) : dV (z.2.1 p.toNatClampNeg) ∧ -9999 ≤ (z.2.1 p.toNatClampNeg).1.toInt ∧ (z.2.1 p.toNatClampNeg).1.toInt ≤ 9999 := by
  have := pr_F.mp hp
  have e : p.toNatClampNeg = p.toInt.toNat := rfl
  exact h.1 _ (by omega)
theorem rK_dv {kn : Int32} {z : MS} {p : Int32} (h : rK kn z) (hp : m_X3_isNo p = 0) : dV (z.2.1 p.toNatClampNeg) := (rK_d h hp).1
theorem rK_dc {kn : Int32} {z : MS} (h : rK kn z) (i : Nat) (hi : i < 6) : dV (z.2.1 i) := (h.1 i hi).1
def dR (d : DT) : Prop := dV d ∧ -9999 ≤ d.1.toInt ∧ d.1.toInt ≤ 9999
theorem rK_dr {kn : Int32} {z : MS} {p : Int32} (h : rK kn z) (hp : m_X3_isNo p = 0) : dR (z.2.1 p.toNatClampNeg) := rK_d h hp
theorem T_fl {β : Type} {P : β → Prop} {kn : Int32} {a b c : Int32} {z : MS} {f : Int32 × MS → Option β} (hz : rK kn z) (h1 : a = 0 → b = 0 → c = 0 → ∀ w, rK kn w → w.2 = z.2 → T P (f (0, w))) (h2 : ∀ w, rK kn w → T P (f (1, w))) : T P ((o_X3_fails a b c z).bind f) := by
  have i0 : (0 : Int32) ≤ 0 := by decide
  have i1 : ¬ (1 : Int32) ≤ 0 := by decide
  have i2 : ¬ (2 : Int32) ≤ 0 := by decide
  have i3 : ¬ (3 : Int32) ≤ 0 := by decide
  unfold o_X3_fails
  by_cases ha : a = 0
  · by_cases hb : b = 0
    · by_cases hc : c = 0
      · simp only [ha, hb, hc, i0, if_true, Option.bind_some]; exact h1 ha hb hc _ hz rfl
      · simp only [ha, hb, hc, i3, if_true, if_false, Option.bind_some]; exact h2 _ hz
    · simp only [ha, hb, i2, if_true, if_false, Option.bind_some]; exact h2 _ hz
  · simp only [ha, i1, if_false, Option.bind_some]; exact h2 _ hz
theorem T_an {β : Type} {P : β → Prop} {kn : Int32} {a b : Int32} {z : MS} {f : Int32 × MS → Option β} (hz : rK kn z) (h1 : m_X3_isNo a = 0 → m_X3_isNo b = 0 → ∀ w, rK kn w → T P (f (0, w))) (h2 : ∀ w, rK kn w → T P (f (1, w))) : T P ((o_X3_areNot a b z).bind f) := by
  unfold o_X3_areNot
  by_cases ha : m_X3_isNo a = 0
  · by_cases hb : m_X3_isNo b = 0
    · rw [if_pos ha, if_pos hb, Option.bind_assoc]
      exact T_fl hz (fun _ _ _ w hw _ => h1 ha hb w hw) (fun w hw => h2 w hw)
    · rw [if_pos ha, if_neg hb, Option.bind_assoc]
      exact T_fl hz (fun h => absurd h (by decide)) (fun w hw => h2 w hw)
  · rw [if_neg ha, Option.bind_assoc]
    exact T_fl hz (fun h => absurd h (by decide)) (fun w hw => h2 w hw)
theorem T_nu {β : Type} {P : β → Prop} {d : DT} {f : Int32 → Option β} (hd : dV d) (h : ∀ v, T P (f v)) : T P ((o_X2_number d).bind f) := by
  obtain ⟨v, e, _⟩ := nu_F hd; rw [e]; exact h v
theorem T_iy {β : Type} {P : β → Prop} {d : DT} {f : Int32 → Option β} (hd : dV d) (h : ∀ v, T P (f v)) : T P ((o_X2_inYear d).bind f) := by
  obtain ⟨v, e, _⟩ := iy_F hd; rw [e]; exact h v
theorem T_lo {β : Type} {P : β → Prop} {d : DT} {f : Int32 → Option β} (hd : dV d) (h : ∀ v, v.toInt = ml d.1.toInt d.2.1.toInt → T P (f v)) : T P ((o_X3_lengthOf_ d.1 d.2.1).bind f) := by
  obtain ⟨v, e, e2⟩ := lo_F rfl rfl hd.1 hd.2.1; rw [e]; exact h v e2
theorem T_lm {β : Type} {P : β → Prop} {y m : Int32} {f : Int32 → Option β} (hm : ¬ m_X3_isIn m.toInt64 1 12 = 0) (h : ∀ v, v.toInt = ml y.toInt m.toInt → T P (f v)) : T P ((o_X3_lengthOf_ y m).bind f) := by
  have := isin_F (ma_l (a := m) rfl) (show (1 : Int64).toInt = 1 from rfl) (show (12 : Int64).toInt = 12 from rfl)
  have h2 : 1 ≤ m.toInt ∧ m.toInt ≤ 12 := Classical.byContradiction fun g => hm (this.mpr g)
  obtain ⟨v, e, e2⟩ := lo_F (y := y) rfl (m := m) rfl h2.1 h2.2; rw [e]; exact h v e2
theorem rK_put {kn : Int32} {z : MS} {n : Nat} {d : DT} (h : rK kn z) (hd : dR d) : rK kn (dput z n d) := by
  refine ⟨fun i hi => ?_, h.2⟩
  show dV (va_up z.2.1 n d i) ∧ _
  by_cases e : i = n
  · subst e; unfold dput; simp only [va_up, if_true]; exact hd
  · unfold dput; simp only [va_up, e, if_false]; exact h.1 i hi
theorem rK_sput {kn : Int32} {z : MS} {n j : Nat} {v : Int32} (h : rK kn z) : rK kn (sput z n j v) := h
theorem T_gi {β : Type} {P : β → Prop} {kn : Int32} {p : Int32} {d : DT} {z : MS} {f : Int32 × MS → Option β} (hz : rK kn z) (hp : m_X3_isNo p = 0) (hd : dR d) (h : ∀ v w, rK kn w → T P (f (v, w))) : T P ((o_X3_gives p d z).bind f) := by
  have := pr_F.mp hp
  obtain ⟨v, e, _⟩ := nu_F hd.1
  unfold o_X3_gives
  rw [if_neg (cl_F (n := 6) (by omega)), e]
  exact h _ _ (rK_put hz hd)
theorem T_te {β : Type} {P : β → Prop} {kn : Int32} {p a b c : Int32} {z : MS} {f : Int32 × MS → Option β} (hz : rK kn z) (hp : m_X3_isNoSpan p = 0) (h : ∀ v w, rK kn w → T P (f (v, w))) : T P ((o_X3_tells p a b c z).bind f) := by
  have := ps_F.mp hp
  unfold o_X3_tells
  rw [if_neg (cl_F (n := 2) (by omega)), if_neg (cl_F (n := 2) (by omega)), if_neg (cl_F (n := 2) (by omega))]
  exact h _ _ hz
theorem T_id {β : Type} {P : β → Prop} {d : DT} {f : Int32 → Option β} (h : -9999 ≤ d.1.toInt ∧ d.1.toInt ≤ 9999 → T P (f 1)) (h2 : T P (f 0)) : T P ((o_X3_isDate d).bind f) := by
  have := isin_F (ma_l (a := d.1) rfl) (show (-9999 : Int64).toInt = -9999 from rfl) (show (9999 : Int64).toInt = 9999 from rfl)
  unfold o_X3_isDate
  split
  · exact h2
  · rename_i g; exact h (Classical.byContradiction fun q => g (this.mpr q))
theorem T_dn {β : Type} {P : β → Prop} {f : Int32 → Option β} (h : T P (f 0)) : T P ((o_X3_isDateN).bind f) := h
theorem T_nr {β : Type} {P : β → Prop} {y m d : Int32} {f : DT → Option β} (h0 : -9999 ≤ y.toInt ∧ y.toInt ≤ 9999) (h1 : 1 ≤ m.toInt ∧ m.toInt ≤ 12) (h2 : 1 ≤ d.toInt) (h : ∀ e, dR e → T P (f e)) : T P ((o_X3_near y m d).bind f) := by
  obtain ⟨e, g1, g2, g3, g4, _⟩ := nr_F (p0 := y) rfl (p1 := m) rfl h1.1 h1.2 h2 (by omega) (by omega)
  rw [g1]; exact h e ⟨g2, by rw [g3]; exact h0⟩
theorem T_la {β : Type} {P : β → Prop} {d : DT} {p : Int64} {f : Option DT → Option β} (hd : dV d) (hp : -100000000000 ≤ p.toInt ∧ p.toInt ≤ 100000000000) (h1 : T P (f none)) (h2 : ∀ e, dV e → T P (f (some e))) : T P ((o_X3_later d p).bind f) := by
  rcases la_F hd rfl hp.1 hp.2 with ⟨_, e⟩ | ⟨_, g, e, e2, _⟩
  · rw [e]; exact h1
  · rw [e]; exact h2 g e2
theorem T_ld {β : Type} {P : β → Prop} {d : DT} {p : Int64} {f : Option DT → Option β} (hd : dV d) (hp : -100000000000 ≤ p.toInt ∧ p.toInt ≤ 100000000000) (h1 : T P (f none)) (h2 : ∀ e, dV e → T P (f (some e))) : T P ((o_X3_laterByDays d p).bind f) := by
  rcases ld_F hd rfl hp.1 hp.2 with ⟨_, e⟩ | ⟨_, g, e, e2, _⟩
  · rw [e]; exact h1
  · rw [e]; exact h2 g e2
theorem T_lb {d : DT} {p : Int64} (hd : dV d) (hp : -100000000000 ≤ p.toInt ∧ p.toInt ≤ 100000000000) : T (fun r : Option DT => ∀ e, r = some e → dV e) (o_X3_laterByDays d p) := by
  rcases ld_F hd rfl hp.1 hp.2 with ⟨_, e⟩ | ⟨_, g, e, e2, _⟩
  · exact ⟨none, e, fun e h => nomatch h⟩
  · exact ⟨some g, e, fun e h => by cases h; exact e2⟩
theorem T_lt {d : DT} {p : Int64} (hd : dV d) (hp : -100000000000 ≤ p.toInt ∧ p.toInt ≤ 100000000000) : T (fun r : Option DT => ∀ e, r = some e → dV e) (o_X3_later d p) := by
  rcases la_F hd rfl hp.1 hp.2 with ⟨_, e⟩ | ⟨_, g, e, e2, _⟩
  · exact ⟨none, e, fun e h => nomatch h⟩
  · exact ⟨some g, e, fun e h => by cases h; exact e2⟩
-- order, months, units of the reference
abbrev dL (a b : DT) : Prop := a.1.toInt < b.1.toInt ∨ (a.1.toInt = b.1.toInt ∧ (a.2.1.toInt < b.2.1.toInt ∨ (a.2.1.toInt = b.2.1.toInt ∧ a.2.2.toInt < b.2.2.toInt)))
theorem ah_F (a b : DT) : o_X3_isAhead a b = some (if dL a b then 1 else 0) := by
  have e1 := i32_eq (p := a.1) rfl b.1
  have e2 := i32_eq (p := a.2.1) rfl b.2.1
  have l1 := ia_le (a := b.1) (b := a.1) rfl rfl
  have l2 := ia_le (a := b.2.1) (b := a.2.1) rfl rfl
  have l3 := ia_le (a := b.2.2) (b := a.2.2) rfl rfl
  unfold o_X3_isAhead
  simp only [e1, e2, l1, l2, l3]
  by_cases h : dL a b
  · rw [if_pos h]; unfold dL at h
    repeat' split
    all_goals first | rfl | omega
  · rw [if_neg h]; unfold dL at h
    repeat' split
    all_goals first | rfl | omega
theorem dL_asym {a b : DT} (h : dL a b) : ¬ dL b a := by unfold dL at *; omega
theorem mo_R {d e : DT} (hd : dR d) (he : dR e) : ∃ v, o_X3_monthsOf d e = some v ∧ v.toInt = 12 * (e.1.toInt - d.1.toInt) + e.2.1.toInt - d.2.1.toInt - (if d.2.2.toInt ≤ e.2.2.toInt then 0 else 1) := by
  obtain ⟨⟨h1, h2, h3, h4, _, _⟩, h5, h6⟩ := hd
  obtain ⟨⟨g1, g2, g3, g4, _, _⟩, g5, g6⟩ := he
  have l := ia_le (a := d.2.2) (b := e.2.2) rfl rfl
  have m1 := ia_mul (show (12 : Int32).toInt = 12 from rfl) (ia_sub (a := e.1) (b := d.1) rfl rfl (by omega) (by omega)) (by omega) (by omega)
  have m2 := ia_sub (ia_add m1 (b := e.2.1) rfl (by omega) (by omega)) (b := d.2.1) rfl (by omega) (by omega)
  unfold o_X3_monthsOf
  by_cases hc : d.2.2.toInt ≤ e.2.2.toInt
  · rw [if_pos (l.mpr hc), if_pos hc]
    exact ⟨_, rfl, ia_sub m2 (show (m_X3_one 0).toInt = 0 from rfl) (by omega) (by omega)⟩
  · rw [if_neg (fun g => hc (l.mp g)), if_neg hc]
    exact ⟨_, rfl, ia_sub m2 (show (m_X3_one 1).toInt = 1 from rfl) (by omega) (by omega)⟩
theorem eb {α β : Type} {x : Option α} {a : α} {f : α → Option β} (h : x = some a) (h2 : ∃ v, f a = some v) : ∃ v, x.bind f = some v := by subst h; exact h2
theorem dO_F {d e : DT} (hd : dR d) (he : dR e) : ∃ v, o_X3_daysOf d e = some v := by
  obtain ⟨n1, a1, _⟩ := nu_F he.1
  obtain ⟨m, a2, b2⟩ := mo_R hd he
  obtain ⟨⟨h1, h2, h3, h4, _, _⟩, h5, h6⟩ := id hd
  obtain ⟨⟨g1, g2, g3, g4, _, _⟩, g5, g6⟩ := id he
  have hq : -1 ≤ -(if d.2.2.toInt ≤ e.2.2.toInt then (0 : Int) else 1) ∧ -(if d.2.2.toInt ≤ e.2.2.toInt then (0 : Int) else 1) ≤ 0 := by split <;> omega
  generalize (if d.2.2.toInt ≤ e.2.2.toInt then (0 : Int) else 1) = w at *
  unfold o_X3_daysOf
  refine eb a1 (eb a2 ?_)
  rcases la_F hd.1 (ma_l b2) (by omega) (by omega) with ⟨c, _⟩ | ⟨_, f, e1, f1, _⟩
  · exact absurd ⟨by omega, by omega⟩ c
  · obtain ⟨n2, a3, _⟩ := nu_F f1
    exact eb e1 (eb a3 ⟨_, rfl⟩)
theorem u_06 {u : Int32} (h : ¬ m_X3_isIn u.toInt64 0 6 = 0) : u = 0 ∨ u = 1 ∨ u = 2 ∨ u = 3 ∨ u = 4 ∨ u = 5 ∨ u = 6 := by
  have := isin_F (ma_l (a := u) rfl) (show (0 : Int64).toInt = 0 from rfl) (show (6 : Int64).toInt = 6 from rfl)
  have h2 : 0 ≤ u.toInt ∧ u.toInt ≤ 6 := Classical.byContradiction fun g => h (this.mpr g)
  have e : ∀ k : Int32, u = k ↔ u.toInt = k.toInt := fun k => i32_eq rfl k
  rw [e, e, e, e, e, e, e]
  show u.toInt = 0 ∨ u.toInt = 1 ∨ u.toInt = 2 ∨ u.toInt = 3 ∨ u.toInt = 4 ∨ u.toInt = 5 ∨ u.toInt = 6
  omega
def muF (u : Int32) : Int32 := if u = 2 then 1 else if u = 3 then 12 else if u = 4 then 120 else if u = 5 then 1200 else 12000
theorem w57 (d e : DT) {u : Int32} (h : u = 2 ∨ u = 3 ∨ u = 4 ∨ u = 5 ∨ u = 6) : (if u = 2 then l57_X3_whole d e u 8 1 3 else l57_X3_whole d e u 8 12 3) = (o_X3_monthsOf d e).bind fun x => some (x / muF u) := by
  rcases h with rfl | rfl | rfl | rfl | rfl <;> simp [l57_X3_whole, muF]
theorem w570 (d e : DT) {u : Int32} (h : u = 2 ∨ u = 3 ∨ u = 4 ∨ u = 5 ∨ u = 6) : (if u = 2 then l57_X3_whole0 d e u 8 1 3 else l57_X3_whole0 d e u 8 12 3) = (o_X3_monthsOf d e).bind fun x => some (x / muF u) := by
  rcases h with rfl | rfl | rfl | rfl | rfl <;> simp [l57_X3_whole0, muF]
theorem u_26 {u : Int32} (hu : u = 0 ∨ u = 1 ∨ u = 2 ∨ u = 3 ∨ u = 4 ∨ u = 5 ∨ u = 6) (hc : (2 : Int32) ≤ u) : u = 2 ∨ u = 3 ∨ u = 4 ∨ u = 5 ∨ u = 6 := by
  rcases hu with rfl | rfl | h
  · exact absurd hc (by decide)
  · exact absurd hc (by decide)
  · exact h
theorem ei {α : Type} {c : Prop} [Decidable c] {A B : Option α} (h1 : c → ∃ v, A = some v) (h2 : ¬ c → ∃ v, B = some v) : ∃ v, (if c then A else B) = some v := by
  split
  · exact h1 (by assumption)
  · exact h2 (by assumption)
theorem wh0_F {d e : DT} {u : Int32} (hd : dR d) (he : dR e) (hu : u = 0 ∨ u = 1 ∨ u = 2 ∨ u = 3 ∨ u = 4 ∨ u = 5 ∨ u = 6) (ho : ¬ dL e d) : ∃ v, o_X3_whole0 d e u = some v := by
  obtain ⟨n1, a1, _⟩ := nu_F he.1
  obtain ⟨n0, a0, _⟩ := nu_F hd.1
  obtain ⟨m, a2, b2⟩ := mo_R hd he
  have ha := ah_F e d
  rw [if_neg ho] at ha
  unfold o_X3_whole0
  refine eb ha (ei (fun _ => ei (fun hc => ?_) (fun _ => eb a1 (eb a0 (ei (fun _ => ⟨_, rfl⟩) (fun _ => ⟨_, rfl⟩))))) (fun g => absurd rfl g))
  rw [w570 d e (u_26 hu hc)]
  exact eb a2 ⟨_, rfl⟩
theorem wh_F {d e : DT} {u : Int32} (hd : dR d) (he : dR e) (hu : u = 0 ∨ u = 1 ∨ u = 2 ∨ u = 3 ∨ u = 4 ∨ u = 5 ∨ u = 6) : ∃ v, o_X3_whole d e u = some v := by
  obtain ⟨n1, a1, _⟩ := nu_F he.1
  obtain ⟨n0, a0, _⟩ := nu_F hd.1
  obtain ⟨m, a2, b2⟩ := mo_R hd he
  have ha := ah_F e d
  unfold o_X3_whole
  by_cases ho : dL e d
  · rw [if_pos ho] at ha
    obtain ⟨v, hv⟩ := wh0_F he hd hu (dL_asym ho)
    exact eb ha (ei (fun g => absurd g (by decide)) (fun _ => eb hv ⟨_, rfl⟩))
  rw [if_neg ho] at ha
  refine eb ha (ei (fun _ => ei (fun hc => ?_) (fun _ => eb a1 (eb a0 (ei (fun _ => ⟨_, rfl⟩) (fun _ => ⟨_, rfl⟩))))) (fun g => absurd rfl g))
  rw [w57 d e (u_26 hu hc)]
  exact eb a2 ⟨_, rfl⟩
def mvF (u : Int32) : Int64 := if u = 2 then 1 else if u = 3 then 12 else if u = 4 then 120 else if u = 5 then 1200 else 12000
theorem elimid (x : Option DT) : (Option.elim x (some none) fun d => some (some d)) = some x := by cases x <;> rfl
theorem m40 (d : DT) (p : Int64) {u : Int32} (h : u = 2 ∨ u = 3 ∨ u = 4 ∨ u = 5 ∨ u = 6) : (if u = 2 then l40_X3_moved d u p 8 1 3 else l40_X3_moved d u p 8 12 3) = o_X3_later d (mvF u * p) := by
  have hb : ∀ x : Option (Option DT), (x.bind fun r => (Option.elim r (some none) fun d => some (some d))) = x := fun x => by cases x <;> simp [elimid]
  rcases h with rfl | rfl | rfl | rfl | rfl <;> simp [l40_X3_moved, mvF, hb]
theorem mv_F {d : DT} {u : Int32} {p : Int64} (hu : u = 0 ∨ u = 1 ∨ u = 2 ∨ u = 3 ∨ u = 4 ∨ u = 5 ∨ u = 6) : o_X3_moved d u p = if u = 0 then o_X3_laterByDays d p else if u = 1 then o_X3_laterByDays d (7 * p) else o_X3_later d (mvF u * p) := by
  have hb : ∀ x : Option (Option DT), (x.bind fun r => (Option.elim r (some none) fun d => some (some d))) = x := fun x => by cases x <;> simp [elimid]
  unfold o_X3_moved
  by_cases hc : (2 : Int32) ≤ u
  · have h5 : u = 2 ∨ u = 3 ∨ u = 4 ∨ u = 5 ∨ u = 6 := by
      rcases hu with rfl | rfl | h
      · exact absurd hc (by decide)
      · exact absurd hc (by decide)
      · exact h
    rw [if_pos hc, m40 d p h5]
    have h0 : ¬ u = 0 := fun g => by subst g; exact absurd hc (by decide)
    have h1 : ¬ u = 1 := fun g => by subst g; exact absurd hc (by decide)
    rw [if_neg h0, if_neg h1]
  · rw [if_neg hc, hb, hb]
    by_cases h0 : u = 0
    · rw [if_pos h0, if_pos h0]
    · have h1 : u = 1 := by
        rcases hu with rfl | rfl | rfl | rfl | rfl | rfl | rfl
        · exact absurd rfl h0
        · rfl
        all_goals exact absurd (by decide) hc
      rw [if_neg h0, if_neg h0, if_pos h1]
theorem mvF_b (u : Int32) : 1 ≤ (mvF u).toInt ∧ (mvF u).toInt ≤ 12000 := by
  unfold mvF
  repeat' split
  all_goals decide
theorem T_mv {β : Type} {P : β → Prop} {d : DT} {u : Int32} {p : Int64} {f : Option DT → Option β} (hu : u = 0 ∨ u = 1 ∨ u = 2 ∨ u = 3 ∨ u = 4 ∨ u = 5 ∨ u = 6) (hd : dV d) (hp : -200000 ≤ p.toInt ∧ p.toInt ≤ 200000) (h1 : T P (f none)) (h2 : ∀ e, dV e → T P (f (some e))) : T P ((o_X3_moved d u p).bind f) := by
  rw [mv_F hu]
  split
  · exact T_ld hd (by omega) h1 h2
  · split
    · exact T_ld hd (by rw [ma_mul (show (7 : Int64).toInt = 7 from rfl) rfl (by omega) (by omega)]; omega) h1 h2
    · have hb := mvF_b u
      have hm : -100000000000 ≤ (mvF u).toInt * p.toInt ∧ (mvF u).toInt * p.toInt ≤ 100000000000 := by
        generalize (mvF u).toInt = a at hb
        generalize p.toInt = b at hp
        have k1 : (a * b).natAbs ≤ 12000 * 200000 := by
          rw [Int.natAbs_mul]; exact Nat.mul_le_mul (by omega) (by omega)
        omega
      exact T_la hd (by rw [ma_mul rfl rfl (by omega) (by omega)]; exact hm) h1 h2
