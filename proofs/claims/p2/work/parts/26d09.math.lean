-- the reference's dates
theorem od_F {p0 p1 : Int32} {c k q y : Int} (hc : p0.toInt = c) (hk : p1.toInt = k) (h1 : 1 ≤ k) (hq : q = nF c + k - 1) (h2 : c ≤ y) (h3 : y ≤ c + 401) (h4 : nF y ≤ q) (h5 : q < nF (y + 1)) (h6 : -300400 ≤ c) (h7 : y ≤ 300000) (h8 : -300000 ≤ y) : ∃ d, o_X3_ofYearAndDay p0 p1 = some d ∧ dV d ∧ dN d = q ∧ d.1.toInt = y := by
  have inner : ∀ (Y : Int32), Y.toInt = y → ∀ (n j : Nat) (x : Int32) (K : Int), 11 ≤ n + j → j < 12 → x.toInt = K - db y j → db y j < K → K ≤ yl y → ∃ d, l28_X3_ofYearAndDay p0 p1 (n + 1) Y x (nI (j + 1)) = some d ∧ dV d ∧ dN d = nF y + K - 1 ∧ d.1.toInt = y := by
    intro Y hY n
    induction n with
    | zero =>
      intro j x K q1 q2 q3 q4 q5
      obtain rfl : j = 11 := by omega
      obtain ⟨v, e1, e2⟩ := lo_F hY (nI_t (k := 12) (by omega)) (by omega) (by omega)
      have e12 : db y 12 = db y 11 + ml y 12 := rfl
      rw [db_12] at e12
      have e2' : v.toInt = ml y 12 := e2
      refine ⟨(Y, nI 12, x), ?_, ⟨by show 1 ≤ (nI 12).toInt; decide, by show (nI 12).toInt ≤ 12; decide, by show 1 ≤ x.toInt; omega, ?_, by show -300000 ≤ Y.toInt; omega, by show Y.toInt ≤ 300000; omega⟩, ?_, hY⟩
      · show (o_X3_lengthOf_ Y (nI 12)).bind _ = _
        rw [e1]; exact if_pos ((ia_le rfl rfl).mpr (by omega))
      · show x.toInt ≤ ml Y.toInt (nI 12).toInt
        rw [hY, show (nI 12).toInt = 12 by decide]; omega
      · show nF Y.toInt + (db Y.toInt ((nI 12).toInt.toNat - 1) + x.toInt) - 1 = _
        rw [hY, show (nI 12).toInt.toNat - 1 = 11 by decide]; omega
    | succ n ih =>
      intro j x K q1 q2 q3 q4 q5
      obtain ⟨v, e1, e2⟩ := lo_F hY (nI_t (k := j + 1) (by omega)) (by omega) (by omega)
      have hj : (nI (j + 1)).toInt = j + 1 := nI_t (by omega)
      have hdb : db y (j + 1) = db y j + ml y ((j + 1 : Nat) : Int) := rfl
      have hb := db_b (y := y) j
      have hm := ml_b y ((j + 1 : Nat) : Int)
      have hyl := yl_b y
      by_cases hcmp : x ≤ v
      · have hc2 := (ia_le q3 e2).mp hcmp
        refine ⟨(Y, nI (j + 1), x), ?_, ⟨by show 1 ≤ (nI (j + 1)).toInt; omega, by show (nI (j + 1)).toInt ≤ 12; omega, by show 1 ≤ x.toInt; omega, ?_, by show -300000 ≤ Y.toInt; omega, by show Y.toInt ≤ 300000; omega⟩, ?_, hY⟩
        · show (o_X3_lengthOf_ Y (nI (j + 1))).bind _ = _
          rw [e1]; exact if_pos hcmp
        · show x.toInt ≤ ml Y.toInt (nI (j + 1)).toInt
          rw [hY, q3, show ((nI (j + 1)).toInt) = ((j + 1 : Nat) : Int) from hj]; exact hc2
        · show nF Y.toInt + (db Y.toInt ((nI (j + 1)).toInt.toNat - 1) + x.toInt) - 1 = _
          rw [hY, show (nI (j + 1)).toInt.toNat - 1 = j by omega]; omega
      · have hc2 : ¬ K - db y j ≤ ml y ((j + 1 : Nat) : Int) := fun g => hcmp ((ia_le q3 e2).mpr g)
        have hj11 : j ≠ 11 := fun g => by
          subst g
          have e12 : db y 12 = db y 11 + ml y ((11 + 1 : Nat) : Int) := rfl
          rw [db_12] at e12; omega
        obtain ⟨d, g1, g2⟩ := ih (j + 1) (x - v) K (by omega) (by omega) (by rw [ia_sub q3 e2 (by omega) (by omega)]; omega) (by omega) q5
        refine ⟨d, ?_, g2⟩
        show (o_X3_lengthOf_ Y (nI (j + 1))).bind _ = _
        rw [e1]
        refine (if_neg hcmp).trans ?_
        show l28_X3_ofYearAndDay p0 p1 (n + 1) Y (x - v) (nI (j + 1) + 1) = _
        rw [nI_1]; exact g1
  have outer : ∀ (n : Nat) (C x : Int32) (c k : Int), C.toInt = c → x.toInt = k → 1 ≤ k → q = nF c + k - 1 → c ≤ y → y ≤ c + n → -300400 ≤ c → ∃ d, l4_X3_ofYearAndDay p0 p1 (n + 1) C x = some d ∧ dV d ∧ dN d = q ∧ d.1.toInt = y := by
    intro n
    induction n with
    | zero =>
      intro C x c k q1 q2 q3 q4 q5 q6 q7
      obtain rfl : c = y := by omega
      have hs := nF_succ c
      obtain ⟨d, g1, g2, g3, g4⟩ := inner C q1 19 0 x k (by omega) (by omega) (by rw [q2]; show k = k - 0; omega) (by show 0 < k; omega) (by omega)
      exact ⟨d, (if_pos ((ia_le q2 (lw_F q1)).mpr (by omega))).trans g1, g2, by omega, g4⟩
    | succ n ih =>
      intro C x c k q1 q2 q3 q4 q5 q6 q7
      have hs := nF_succ c
      by_cases hcy : c = y
      · subst hcy
        obtain ⟨d, g1, g2, g3, g4⟩ := inner C q1 19 0 x k (by omega) (by omega) (by rw [q2]; show k = k - 0; omega) (by show 0 < k; omega) (by omega)
        exact ⟨d, (if_pos ((ia_le q2 (lw_F q1)).mpr (by omega))).trans g1, g2, by omega, g4⟩
      · have hlt : nF (c + 1) ≤ nF y := by
          by_cases e : c + 1 = y
          · rw [e]; omega
          · have := nF_lt (show c + 1 < y by omega); omega
        have hx := Int32.toInt_lt x
        have hyl := yl_b c
        obtain ⟨d, g1, g2⟩ := ih (C + 1) (x - m_X3_lengthOf C) (c + 1) (k - yl c) (ia_add q1 (show (1 : Int32).toInt = 1 from rfl) (by omega) (by omega)) (ia_sub q2 (lw_F q1) (by omega) (by omega)) (by omega) (by omega) (by omega) (by omega) (by omega)
        exact ⟨d, (if_neg (fun g => by have := (ia_le q2 (lw_F q1)).mp g; omega)).trans g1, g2⟩
  exact outer 401 p0 p1 c k hc hk h1 hq h2 (by omega) h6
theorem y_ex {q : Int} (h1 : -1000000000 ≤ q) (h2 : q ≤ 1000000000) : ∃ y : Int, nF y ≤ q ∧ q < nF (y + 1) := by
  have e : (Int64.ofInt q).toInt = q := by
    rw [Int64.toInt_ofInt]; exact ma_b64 (by omega) (by omega)
  obtain ⟨y, _, b1, b2, _⟩ := yn_F e h1 h2
  exact ⟨y, b1, b2⟩
theorem y_r {y q : Int} (h1 : -105000000 ≤ q) (h2 : q ≤ 105000000) (h3 : nF y ≤ q) (h4 : q < nF (y + 1)) : -299000 ≤ y ∧ y ≤ 299000 := by
  unfold nF at h3 h4; omega
theorem c_lo {y s q : Int} (b2 : q < nF (y + 1)) (h : 146097 * s - 719528 ≤ q) : 400 * s ≤ y := by
  rw [← nF_400] at h
  refine Int.not_lt.mp fun g => ?_
  by_cases e : y + 1 = 400 * s
  · rw [e] at b2; exact absurd (Int.lt_of_le_of_lt h b2) (Int.lt_irrefl _)
  · exact absurd (Int.lt_of_le_of_lt h (Int.lt_trans b2 (nF_lt (show y + 1 < 400 * s by omega)))) (Int.lt_irrefl _)
theorem c_hi {y s q : Int} (b1 : nF y ≤ q) (h : q < 146097 * (s + 1) - 719528) : y < 400 * (s + 1) := by
  rw [← nF_400] at h
  refine Int.not_le.mp fun g => ?_
  by_cases e : y = 400 * (s + 1)
  · rw [e] at b1; exact absurd (Int.lt_of_le_of_lt b1 h) (Int.lt_irrefl _)
  · exact absurd (Int.lt_of_le_of_lt b1 (Int.lt_trans h (nF_lt (show 400 * (s + 1) < y by omega)))) (Int.lt_irrefl _)
theorem on_A {q : Int} (h1 : -100000000 ≤ q) (h2 : q ≤ 100000000) : ∃ s r y : Int, (q + 719528) / 146097 = s ∧ (q + 719528) % 146097 = r ∧ nF y ≤ q ∧ q < nF (y + 1) ∧ 400 * s ≤ y ∧ y ≤ 400 * s + 401 ∧ q = nF (400 * s) + (r + 1) - 1 ∧ -300400 ≤ 400 * s ∧ 1 ≤ r + 1 ∧ -300000 ≤ y ∧ y ≤ 300000 ∧ -2147483648 ≤ 400 * s ∧ 400 * s < 2147483648 ∧ -2147483648 ≤ r + 1 ∧ r + 1 < 2147483648 := by
  obtain ⟨y, b1, b2⟩ := y_ex (q := q) (by omega) (by omega)
  have hy := y_r (by omega) (by omega) b1 b2
  obtain ⟨s, r, hs, hr, hdm, hm1, hm2⟩ : ∃ s r, (q + 719528) / 146097 = s ∧ (q + 719528) % 146097 = r ∧ 146097 * s + r = q + 719528 ∧ 0 ≤ r ∧ r < 146097 := ⟨_, _, rfl, rfl, Int.mul_ediv_add_emod _ _, by omega, by omega⟩
  have f0 := nF_400 s
  have c1 : 400 * s ≤ y := c_lo b2 (by omega)
  have c2 : y < 400 * (s + 1) := c_hi b1 (by omega)
  exact ⟨s, r, y, hs, hr, b1, b2, c1, by omega, by omega, by omega, by omega, by omega, by omega, by omega, by omega, by omega, by omega⟩
theorem on_F {p : Int32} {q : Int} (hp : p.toInt = q) (h1 : -100000000 ≤ q) (h2 : q ≤ 100000000) : ∃ d, o_X3_ofNumber p = some d ∧ dV d ∧ dN d = q := by
  have e0 := ma_l (ia_add hp (show (719528 : Int32).toInt = 719528 from rfl) (by omega) (by omega))
  have es := ma_i (sh_F e0 (show (146097 : Int64).toInt = 146097 from rfl) (by decide) (by omega) (by omega) (by omega)) (by omega) (by omega)
  have er := ma_i (re_F e0 (show (146097 : Int64).toInt = 146097 from rfl) (by decide) (by omega) (by omega) (by omega)) (by omega) (by omega)
  obtain ⟨s, r, y, hs, hr, b1, b2, c1, c4, c3, c5, c6, c7, c8, k1, k2, k3, k4⟩ := on_A h1 h2
  rw [hs] at es
  rw [hr] at er
  have ec := ia_mul (show (400 : Int32).toInt = 400 from rfl) es k1 k2
  have ek := ia_add er (show (1 : Int32).toInt = 1 from rfl) k3 k4
  obtain ⟨d, g1, g2, g3, _⟩ := od_F ec ek c6 (q := q) (y := y) c3 c1 c4 b1 b2 c5 c8 c7
  refine ⟨d, ?_, g2, g3⟩
  unfold o_X3_ofNumber
  rw [g1]; rfl
theorem nr_F {p0 p1 p2 : Int32} {y m : Int} (h0 : p0.toInt = y) (hm : p1.toInt = m) (h1 : 1 ≤ m) (h2 : m ≤ 12) (h3 : 1 ≤ p2.toInt) (h5 : -300000 ≤ y) (h6 : y ≤ 300000) : ∃ d, o_X3_near p0 p1 p2 = some d ∧ dV d ∧ d.1 = p0 ∧ d.2.1 = p1 ∧ d.2.2.toInt = if p2.toInt ≤ ml y m then p2.toInt else ml y m := by
  obtain ⟨v, e1, e2⟩ := lo_F h0 hm h1 h2
  have hb := ml_b y m
  unfold o_X3_near
  rw [e1]
  by_cases hc : p2 ≤ v
  · have hc2 := (ia_le rfl e2).mp hc
    refine ⟨(p0, p1, p2), if_pos hc, ⟨by show 1 ≤ p1.toInt; omega, by show p1.toInt ≤ 12; omega, h3, ?_, by show _ ≤ p0.toInt; omega, by show p0.toInt ≤ _; omega⟩, rfl, rfl, (if_pos hc2).symm⟩
    show p2.toInt ≤ ml p0.toInt p1.toInt
    rw [h0, hm]; exact hc2
  · have hc2 : ¬ p2.toInt ≤ ml y m := fun g => hc ((ia_le rfl e2).mpr g)
    refine ⟨(p0, p1, v), if_neg hc, ⟨by show 1 ≤ p1.toInt; omega, by show p1.toInt ≤ 12; omega, by show 1 ≤ v.toInt; omega, ?_, by show _ ≤ p0.toInt; omega, by show p0.toInt ≤ _; omega⟩, rfl, rfl, by rw [if_neg hc2]; exact e2⟩
    show v.toInt ≤ ml p0.toInt p1.toInt
    rw [h0, hm, e2]; omega
theorem la_F {d : DT} (h : dV d) {p : Int64} {x : Int} (hp : p.toInt = x) (h1 : -100000000000 ≤ x) (h2 : x ≤ 100000000000) :
    (¬ (-200000 ≤ (12 * d.1.toInt + d.2.1.toInt - 1 + x) / 12 ∧ (12 * d.1.toInt + d.2.1.toInt - 1 + x) / 12 ≤ 200000) ∧ o_X3_later d p = some none) ∨
    ((-200000 ≤ (12 * d.1.toInt + d.2.1.toInt - 1 + x) / 12 ∧ (12 * d.1.toInt + d.2.1.toInt - 1 + x) / 12 ≤ 200000) ∧ ∃ e : DT, o_X3_later d p = some (some e) ∧ dV e ∧ e.1.toInt = (12 * d.1.toInt + d.2.1.toInt - 1 + x) / 12 ∧ e.2.1.toInt = (12 * d.1.toInt + d.2.1.toInt - 1 + x) % 12 + 1 ∧ e.2.2.toInt = if d.2.2.toInt ≤ ml ((12 * d.1.toInt + d.2.1.toInt - 1 + x) / 12) ((12 * d.1.toInt + d.2.1.toInt - 1 + x) % 12 + 1) then d.2.2.toInt else ml ((12 * d.1.toInt + d.2.1.toInt - 1 + x) / 12) ((12 * d.1.toInt + d.2.1.toInt - 1 + x) % 12 + 1)) := by
  obtain ⟨v1, v2, v3, v4, v5, v6⟩ := h
  have e0 := ma_add (ma_sub (ma_add (ma_mul (show (12 : Int64).toInt = 12 from rfl) (ma_l (a := d.1) rfl) (by omega) (by omega)) (ma_l (a := d.2.1) rfl) (by omega) (by omega)) (show (1 : Int64).toInt = 1 from rfl) (by omega) (by omega)) hp (by omega) (by omega)
  have es := sh_F e0 (show (12 : Int64).toInt = 12 from rfl) (by decide) (by omega) (by omega) (by omega)
  have er := re_F e0 (show (12 : Int64).toInt = 12 from rfl) (by decide) (by omega) (by omega) (by omega)
  have hi := isin_F es (show (-200000 : Int64).toInt = -200000 from rfl) (show (200000 : Int64).toInt = 200000 from rfl)
  generalize hY : (12 * d.1.toInt + d.2.1.toInt - 1 + x) / 12 = Y at *
  generalize hM : (12 * d.1.toInt + d.2.1.toInt - 1 + x) % 12 = M at *
  unfold o_X3_later
  by_cases hc : -200000 ≤ Y ∧ Y ≤ 200000
  · refine Or.inr ⟨hc, ?_⟩
    rw [if_neg (fun g => hi.mp g hc)]
    obtain ⟨e, g1, g2, g3, g4, g5⟩ := nr_F (p2 := d.2.2) (ma_i es (by omega) (by omega)) (ia_add (ma_i er (by omega) (by omega)) (show (1 : Int32).toInt = 1 from rfl) (by omega) (by omega)) (by omega) (by omega) v3 (by omega) (by omega)
    rw [g1]
    exact ⟨e, rfl, g2, by rw [g3, ma_i es (by omega) (by omega)], by rw [g4, ia_add (ma_i er (by omega) (by omega)) (show (1 : Int32).toInt = 1 from rfl) (by omega) (by omega)], g5⟩
  · exact Or.inl ⟨hc, if_pos (hi.mpr hc)⟩
theorem ld_F {d : DT} (h : dV d) {p : Int64} {x : Int} (hp : p.toInt = x) (h1 : -100000000000 ≤ x) (h2 : x ≤ 100000000000) :
    (¬ (-100000000 ≤ dN d + x ∧ dN d + x ≤ 100000000) ∧ o_X3_laterByDays d p = some none) ∨
    ((-100000000 ≤ dN d + x ∧ dN d + x ≤ 100000000) ∧ ∃ e : DT, o_X3_laterByDays d p = some (some e) ∧ dV e ∧ dN e = dN d + x) := by
  obtain ⟨v, e1, e2⟩ := nu_F h
  have hv := Int32.le_toInt v
  have hv2 := Int32.toInt_lt v
  rw [e2] at hv hv2
  have e0 := ma_add (ma_l e2) hp (by omega) (by omega)
  have hi := isin_F e0 (show (-100000000 : Int64).toInt = -100000000 from rfl) (show (100000000 : Int64).toInt = 100000000 from rfl)
  unfold o_X3_laterByDays
  rw [e1]
  by_cases hc : -100000000 ≤ dN d + x ∧ dN d + x ≤ 100000000
  · obtain ⟨e, g1, g2, g3⟩ := on_F (ma_i e0 (by omega) (by omega)) (by omega) (by omega)
    refine Or.inr ⟨hc, e, ?_, g2, g3⟩
    refine (if_neg (fun g => hi.mp g hc)).trans ?_
    rw [g1]; rfl
  · exact Or.inl ⟨hc, if_pos (hi.mpr hc)⟩
