theorem T_e {α β : Type} {P : β → Prop} {x : Option α} {f : α → Option β} (h : ∃ v, x = some v) (h2 : ∀ v, T P (f v)) : T P (x.bind f) := by
  obtain ⟨v, e⟩ := h; subst e; exact h2 v
theorem T_ah {β : Type} {P : β → Prop} {a b : DT} {f : Int32 → Option β} (h : ∀ v, T P (f v)) : T P ((o_X3_isAhead a b).bind f) := T_e ⟨_, ah_F a b⟩ h
theorem T_mo {β : Type} {P : β → Prop} {a b : DT} {f : Int32 → Option β} (ha : dR a) (hb : dR b) (h : ∀ v, T P (f v)) : T P ((o_X3_monthsOf a b).bind f) := by
  obtain ⟨v, e, _⟩ := mo_R ha hb; exact T_e ⟨v, e⟩ h
theorem T_do {β : Type} {P : β → Prop} {a b : DT} {f : Int32 → Option β} (ha : dR a) (hb : dR b) (h : ∀ v, T P (f v)) : T P ((o_X3_daysOf a b).bind f) := T_e (dO_F ha hb) h
theorem T_wh {β : Type} {P : β → Prop} {a b : DT} {u : Int32} {f : Int32 → Option β} (ha : dR a) (hb : dR b) (hu : u = 0 ∨ u = 1 ∨ u = 2 ∨ u = 3 ∨ u = 4 ∨ u = 5 ∨ u = 6) (h : ∀ v, T P (f v)) : T P ((o_X3_whole a b u).bind f) := T_e (wh_F ha hb hu) h
theorem cp_F (a b : DT) : ∃ v, o_X3_compared a b = some v := by
  unfold o_X3_compared
  exact eb (ah_F a b) (ei (fun _ => eb (ah_F b a) ⟨_, rfl⟩) (fun _ => ⟨_, rfl⟩))
theorem T_cp {β : Type} {P : β → Prop} {a b : DT} {f : Int32 → Option β} (h : ∀ v, T P (f v)) : T P ((o_X3_compared a b).bind f) := T_e (cp_F a b) h
theorem lk_F (a b : DT) : ∃ v, o_X2_isLike a b = some v := by
  unfold o_X2_isLike
  exact ei (fun _ => ei (fun _ => ei (fun _ => ⟨_, rfl⟩) (fun _ => ⟨_, rfl⟩)) (fun _ => ⟨_, rfl⟩)) (fun _ => ⟨_, rfl⟩)
theorem T_lk {β : Type} {P : β → Prop} {a b : DT} {f : Int32 → Option β} (h : ∀ v, T P (f v)) : T P ((o_X2_isLike a b).bind f) := T_e (lk_F a b) h
theorem fo_F {a : DT} (h : dV a) (i : Int32) : ∃ v, o_X3_fieldOf a i = some v := by
  obtain ⟨v, e, _⟩ := iy_F h
  unfold o_X3_fieldOf
  refine ei (fun _ => eb e ?_) (fun _ => ?_)
  · exact ei (fun _ => ei (fun _ => ei (fun _ => ⟨_, rfl⟩) (fun _ => ⟨_, rfl⟩)) (fun _ => ei (fun _ => ⟨_, rfl⟩) (fun _ => ⟨_, rfl⟩))) (fun _ => ei (fun _ => ⟨_, rfl⟩) (fun _ => ⟨_, rfl⟩))
  · exact ei (fun _ => ei (fun _ => ei (fun _ => ⟨_, rfl⟩) (fun _ => ⟨_, rfl⟩)) (fun _ => ei (fun _ => ⟨_, rfl⟩) (fun _ => ⟨_, rfl⟩))) (fun _ => ei (fun _ => ⟨_, rfl⟩) (fun _ => ⟨_, rfl⟩))
theorem T_fo {β : Type} {P : β → Prop} {a : DT} {i : Int32} {f : Int32 → Option β} (ha : dV a) (h : ∀ v, T P (f v)) : T P ((o_X3_fieldOf a i).bind f) := T_e (fo_F ha i) h
theorem xt_F {a : DT} (h : dR a) : o_X3_textOf a = some (if 0 ≤ a.1.toInt then 10 else 1) := by
  obtain ⟨⟨h1, h2, h3, h4, _, _⟩, h5, h6⟩ := h
  have hm := ml_b a.1.toInt a.2.1.toInt
  unfold o_X3_textOf
  have e0 : (0 : Int32) ≤ a.1 ↔ 0 ≤ a.1.toInt := ia_le rfl rfl
  by_cases hc : 0 ≤ a.1.toInt
  · rw [if_pos (e0.mpr hc), if_pos hc]
    have ey : a.1 = nI a.1.toInt.toNat := nI_at rfl hc
    have em : a.2.1 = nI a.2.1.toInt.toNat := nI_at rfl (by omega)
    have ed : a.2.2 = nI a.2.2.toInt.toNat := nI_at rfl (by omega)
    have p1 := digs4 (k := a.1.toInt.toNat) (by omega)
    have p2 := digs2 a.2.1.toInt.toNat (by omega)
    have p3 := digs2 a.2.2.toInt.toNat (by omega)
    rw [← ey] at p1
    rw [← em] at p2
    rw [← ed] at p3
    have q1 : o_J4_append_15ec4 4 0 = some ((), 4) := by decide +kernel
    have q2 : o_J4_append_15ec4 1 4 = some ((), 5) := by decide +kernel
    have q3 : o_J4_append_15ec4 2 5 = some ((), 7) := by decide +kernel
    have q4 : o_J4_append_15ec4 1 7 = some ((), 8) := by decide +kernel
    have q5 : o_J4_append_15ec4 2 8 = some ((), 10) := by decide +kernel
    refine bs p1 (bs q1 (bs q2 (bs p2 (bs q3 (bs q4 (bs p3 (bs q5 ?_)))))))
    decide +kernel
  · rw [if_neg (fun g => hc (e0.mp g)), if_neg hc]
theorem T_tx {β : Type} {P : β → Prop} {a : DT} {f : Nat → Option β} (ha : dR a) (h : ∀ v, T P (f v)) : T P ((o_X3_textOf a).bind f) := T_e ⟨_, xt_F ha⟩ h
theorem ad_F {v : Int64} {a : DT} (h : dR a) : ∃ w, o_X3_addDate v a = some w := by
  obtain ⟨n, e1, _⟩ := nu_F h.1
  obtain ⟨y, e2, _⟩ := iy_F h.1
  obtain ⟨l, e3, _⟩ := lo_F (y := a.1) rfl (m := a.2.1) rfl h.1.1 h.1.2.1
  obtain ⟨f0, g0⟩ := fo_F h.1 0
  obtain ⟨f1, g1⟩ := fo_F h.1 1
  obtain ⟨f2, g2⟩ := fo_F h.1 2
  obtain ⟨f3, g3⟩ := fo_F h.1 3
  obtain ⟨f4, g4⟩ := fo_F h.1 4
  obtain ⟨f5, g5⟩ := fo_F h.1 5
  unfold o_X3_addDate
  exact eb e1 (eb e2 (eb e1 (eb e3 (eb g0 (eb g1 (eb g2 (eb g3 (eb g4 (eb g5 (eb (xt_F h) ⟨_, rfl⟩))))))))))
theorem T_ad {β : Type} {P : β → Prop} {v : Int64} {a : DT} {f : Int64 → Option β} (ha : dR a) (h : ∀ v, T P (f v)) : T P ((o_X3_addDate v a).bind f) := T_e (ad_F ha) h
theorem T_on {β : Type} {P : β → Prop} {p : Int32} {f : DT → Option β} (hp : ¬ m_X3_isIn p.toInt64 (-4371587) 2932896 = 0) (h : ∀ e, dR e → T P (f e)) : T P ((o_X3_ofNumber p).bind f) := by
  have := isin_F (ma_l (a := p) rfl) (show (-4371587 : Int64).toInt = -4371587 from rfl) (show (2932896 : Int64).toInt = 2932896 from rfl)
  have h2 : -4371587 ≤ p.toInt ∧ p.toInt ≤ 2932896 := Classical.byContradiction fun g => hp (this.mpr g)
  obtain ⟨d, e, d1, d2⟩ := on_F (p := p) rfl (by omega) (by omega)
  have hb := dN_b d1
  rw [d2] at hb
  rw [e]; exact h d ⟨d1, yr_in hb.1 hb.2 h2.1 h2.2⟩
theorem T_oy {β : Type} {P : β → Prop} {y k : Int32} {f : DT → Option β} (hy : -9999 ≤ y.toInt ∧ y.toInt ≤ 9999) (hk : ¬ m_X3_isIn k.toInt64 1 366 = 0) (hl : k ≤ m_X3_lengthOf y) (h : ∀ e, dR e → T P (f e)) : T P ((o_X3_ofYearAndDay y k).bind f) := by
  have := isin_F (ma_l (a := k) rfl) (show (1 : Int64).toInt = 1 from rfl) (show (366 : Int64).toInt = 366 from rfl)
  have h2 : 1 ≤ k.toInt ∧ k.toInt ≤ 366 := Classical.byContradiction fun g => hk (this.mpr g)
  have hl2 := (ia_le rfl (lw_F (p := y) rfl)).mp hl
  have hs := nF_succ y.toInt
  obtain ⟨d, e, d1, d2, d3⟩ := od_F (p0 := y) (p1 := k) rfl rfl h2.1 rfl (y := y.toInt) (by omega) (by omega) (by omega) (by omega) (by omega) (by omega) (by omega)
  rw [e]; exact h d ⟨d1, by rw [d3]; exact hy⟩
theorem ny_F {p : Int32} (h : m_X3_isNoYear p = 0) : -9999 ≤ p.toInt ∧ p.toInt ≤ 9999 := py_F.mp h
theorem i2_F {p : Int32} {a b : Int64} (h : ¬ m_X3_isIn p.toInt64 a b = 0) : a.toInt ≤ p.toInt ∧ p.toInt ≤ b.toInt :=
  Classical.byContradiction fun g => h ((isin_F (ma_l (a := p) rfl) rfl rfl).mpr g)
theorem dR_ep : dR ((1970 : Int32), (1 : Int32), (1 : Int32)) := by
  refine ⟨⟨by decide, by decide, by decide, ?_, by decide, by decide⟩, by decide, by decide⟩
  have := ml_b (1970 : Int32).toInt (1 : Int32).toInt
  show (1 : Int) ≤ ml (1970 : Int32).toInt (1 : Int32).toInt
  omega
theorem rK_of {kn : Int32} {w z : MS} (h : rK kn z) (e : w.2 = z.2) : rK kn w := by
  unfold rK; rw [e]; exact h
theorem neg_b {p : Int32} (h : -200000 ≤ p.toInt ∧ p.toInt ≤ 200000) : -200000 ≤ ((-p).toInt64).toInt ∧ ((-p).toInt64).toInt ≤ 200000 := by
  rw [ma_l (ia_neg rfl (by omega) (by omega))]; omega
theorem pos_b {p : Int32} (h : -200000 ≤ p.toInt ∧ p.toInt ≤ 200000) : -200000 ≤ (p.toInt64).toInt ∧ (p.toInt64).toInt ≤ 200000 := by
  rw [ma_l rfl]; omega
theorem sp_b (a b : Int32) {c : Int32} (hc : c = 1 ∨ c = -1) : -100000000000 ≤ (c.toInt64 * ((12 : Int64) * a.toInt64 + b.toInt64)).toInt ∧ (c.toInt64 * ((12 : Int64) * a.toInt64 + b.toInt64)).toInt ≤ 100000000000 := by
  have a1 := Int32.le_toInt a; have a2 := Int32.toInt_lt a
  have b1 := Int32.le_toInt b; have b2 := Int32.toInt_lt b
  have e := ma_add (ma_mul (show (12 : Int64).toInt = 12 from rfl) (ma_l (a := a) rfl) (by omega) (by omega)) (ma_l (a := b) rfl) (by omega) (by omega)
  rcases hc with rfl | rfl
  · rw [ma_mul (ma_l (a := (1 : Int32)) (show (1 : Int32).toInt = 1 from rfl)) e (by omega) (by omega)]; omega
  · rw [ma_mul (ma_l (a := (-1 : Int32)) (show (-1 : Int32).toInt = -1 from rfl)) e (by omega) (by omega)]; omega
theorem sd_b (a : Int32) {c : Int32} (hc : c = 1 ∨ c = -1) : -100000000000 ≤ (c.toInt64 * a.toInt64).toInt ∧ (c.toInt64 * a.toInt64).toInt ≤ 100000000000 := by
  have a1 := Int32.le_toInt a; have a2 := Int32.toInt_lt a
  rcases hc with rfl | rfl
  · rw [ma_mul (ma_l (a := (1 : Int32)) (show (1 : Int32).toInt = 1 from rfl)) (ma_l (a := a) rfl) (by omega) (by omega)]; omega
  · rw [ma_mul (ma_l (a := (-1 : Int32)) (show (-1 : Int32).toInt = -1 from rfl)) (ma_l (a := a) rfl) (by omega) (by omega)]; omega
theorem dR_v {d : DT} (h : dR d) : dV d := h.1
theorem dR_y {d : DT} (h : dR d) : -9999 ≤ d.1.toInt ∧ d.1.toInt ≤ 9999 := h.2
theorem dR_i {d : DT} (h : dV d) (h2 : -9999 ≤ d.1.toInt ∧ d.1.toInt ≤ 9999) : dR d := ⟨h, h2⟩
theorem dV_m {d : DT} (h : dV d) : 1 ≤ d.2.1.toInt ∧ d.2.1.toInt ≤ 12 := ⟨h.1, h.2.1⟩
theorem dV_d {d : DT} (h : dV d) : 1 ≤ d.2.2.toInt := h.2.2.1
theorem i2_12 {m : Int32} (h : ¬ m_X3_isIn m.toInt64 1 12 = 0) : 1 ≤ m.toInt ∧ m.toInt ≤ 12 := i2_F h
theorem one_ne : ¬ (1 : Int32) = 0 := by decide
theorem i2_m {p : Int32} (h : ¬ m_X3_isIn p.toInt64 (-200000) 200000 = 0) : -200000 ≤ p.toInt ∧ p.toInt ≤ 200000 := by
  have := isin_F (ma_l (a := p) rfl) (show (-200000 : Int64).toInt = -200000 from rfl) (show (200000 : Int64).toInt = 200000 from rfl)
  exact Classical.byContradiction fun g => h (this.mpr g)
theorem rK_rc {kn : Int32} {z : MS} (h : rK kn z) (i : Nat) (hi : i < 6) : dR (z.2.1 i) := h.1 i hi
theorem u_c {u : Int32} (h : (u == 0 || u == 1 || u == 2 || u == 3 || u == 4 || u == 5 || u == 6) = true) : u = 0 ∨ u = 1 ∨ u = 2 ∨ u = 3 ∨ u = 4 ∨ u = 5 ∨ u = 6 := by
  simpa [or_assoc] using h
theorem dR_mk {y m d v : Int32} (h1 : m_X3_isNoYear y = 0) (h2 : ¬ m_X3_isIn m.toInt64 1 12 = 0) (h3 : ¬ m_X3_isIn d.toInt64 1 31 = 0) (hv : v.toInt = ml y.toInt m.toInt) (hl : d ≤ v) : dR (y, m, d) := by
  have a := ny_F h1
  have b : 1 ≤ m.toInt ∧ m.toInt ≤ 12 := i2_F h2
  have c : 1 ≤ d.toInt ∧ d.toInt ≤ 31 := i2_F h3
  have l := (ia_le rfl hv).mp hl
  exact ⟨⟨b.1, b.2, c.1, l, by show -300000 ≤ y.toInt; omega, by show y.toInt ≤ 300000; omega⟩, a⟩
theorem dR_wd {e : DT} {d v : Int32} (he : dR e) (h3 : ¬ m_X3_isIn d.toInt64 1 31 = 0) (hv : v.toInt = ml e.1.toInt e.2.1.toInt) (hl : d ≤ v) : dR (e.1, e.2.1, d) := by
  have c : 1 ≤ d.toInt ∧ d.toInt ≤ 31 := i2_F h3
  have l := (ia_le rfl hv).mp hl
  exact ⟨⟨he.1.1, he.1.2.1, c.1, l, he.1.2.2.2.2⟩, he.2⟩
theorem dR_fi {e : DT} (he : dR e) : dR (e.1, e.2.1, (1 : Int32)) := by
  have := ml_b e.1.toInt e.2.1.toInt
  exact ⟨⟨he.1.1, he.1.2.1, by show (1 : Int) ≤ 1; omega, by show (1 : Int) ≤ ml e.1.toInt e.2.1.toInt; omega, he.1.2.2.2.2⟩, he.2⟩
-- the class's packed date against the reference's date
def pkD (w : Int64) (d : DT) : Prop := w.toInt = d.1.toInt * 512 + d.2.1.toInt * 32 + d.2.2.toInt
theorem and15 (x : Int32) : x &&& 15 = nI (x.toInt % 16).toNat := by
  rw [pk_and x (m := 15) 4 (by decide)]
  have e : x.toInt = if 2 * x.toBitVec.toNat < 2 ^ 32 then (x.toBitVec.toNat : Int) else (x.toBitVec.toNat : Int) - (2 ^ 32 : Nat) := BitVec.toInt_eq_toNat_cond x.toBitVec
  congr 1
  split at e <;> omega
theorem and31 (x : Int32) : x &&& 31 = nI (x.toInt % 32).toNat := by
  rw [pk_and x (m := 31) 5 (by decide)]
  have e : x.toInt = if 2 * x.toBitVec.toNat < 2 ^ 32 then (x.toBitVec.toNat : Int) else (x.toBitVec.toNat : Int) - (2 ^ 32 : Nat) := BitVec.toInt_eq_toNat_cond x.toBitVec
  congr 1
  split at e <;> omega
theorem tI_16 (a : Int64) : a.toInt32.toInt % 16 = a.toInt % 16 := by
  rw [Int64.toInt_toInt32, Int.bmod_def]
  split <;> omega
theorem tI_32 (a : Int64) : a.toInt32.toInt % 32 = a.toInt % 32 := by
  rw [Int64.toInt_toInt32, Int.bmod_def]
  split <;> omega
theorem pk_yr {w : Int64} {d : DT} (h : pkD w d) (hd : dV d) : (m_X0_yearIn w).toInt = d.1.toInt := by
  have hm := ml_b d.1.toInt d.2.1.toInt
  obtain ⟨h1, h2, h3, h4, _, _⟩ := hd
  rw [ma_yearIn, h]; omega
theorem pk_mo {w : Int64} {d : DT} (h : pkD w d) (hd : dV d) : m_X0_monthIn w = d.2.1 := by
  have hm := ml_b d.1.toInt d.2.1.toInt
  obtain ⟨h1, h2, h3, h4, _, _⟩ := hd
  have e : (w >>> ((5 : Int32).toInt64 &&& 63)).toInt = w.toInt / 32 := ma_shr w _ 5 (by decide)
  unfold m_X0_monthIn
  rw [and15, tI_16, e, h, nI_at (x := d.2.1.toInt) rfl (by omega)]
  congr 1
  rw [nI_toInt (by omega)]
  omega
theorem pk_da {w : Int64} {d : DT} (h : pkD w d) (hd : dV d) : m_X0_dayIn w = d.2.2 := by
  have hm := ml_b d.1.toInt d.2.1.toInt
  obtain ⟨h1, h2, h3, h4, _, _⟩ := hd
  unfold m_X0_dayIn
  rw [and31, tI_32, h, nI_at (x := d.2.2.toInt) rfl (by omega)]
  congr 1
  rw [nI_toInt (by omega)]
  omega
theorem pk_of {y : Int64} {m a : Int32} {d : DT} (hd : dV d) (hy : y.toInt = d.1.toInt) (hm : m = d.2.1) (ha : a = d.2.2) : pkD (m_X0_dateOf y m a) d := by
  subst hm ha
  obtain ⟨h1, h2, h3, h4, h5, h6⟩ := hd
  exact ma_dateOf hy rfl rfl (by omega) (by omega)
theorem pk_rq {w : Int64} {d : DT} (h : pkD w d) (hd : dV d) : m_X0_requireDate w = 0 ↔ -9999 ≤ d.1.toInt ∧ d.1.toInt ≤ 9999 := by
  have e := pk_yr h hd
  rw [ma_yearIn] at e
  have := yOK_iff (d := w)
  rw [e] at this
  exact this
theorem pk_dy {w : Int64} {d : DT} (h : pkD w d) (hd : dV d) : (m_X0_dayInYear w).toInt = dY d := by
  have hb := dY_b hd
  have hyl := yl_b d.1.toInt
  have ey := pk_yr h hd
  have em := pk_mo h hd
  have ea := pk_da h hd
  obtain ⟨h1, h2, h3, h4, _, _⟩ := hd
  have hm2 := ml_b d.1.toInt d.2.1.toInt
  have key : ∀ (n j : Nat) (x : Int32), 11 ≤ n + j → j < 12 → (j : Int) + 1 ≤ d.2.1.toInt → x.toInt = db d.1.toInt j + d.2.2.toInt → ∃ v, l_X0_dayInYear w (n + 1) (nI (j + 1)) x = some v ∧ v.toInt = dY d := by
    intro n
    induction n with
    | zero =>
      intro j x q1 q2 q3 q4
      refine ⟨x, if_pos (by rw [em]; exact (ia_le rfl (nI_t (by omega))).mpr (by omega)), ?_⟩
      unfold dY; rw [q4, show d.2.1.toInt.toNat - 1 = j by omega]
    | succ n ih =>
      intro j x q1 q2 q3 q4
      by_cases hc : d.2.1 ≤ nI (j + 1)
      · have := (ia_le rfl (nI_t (k := j + 1) (by omega))).mp hc
        refine ⟨x, if_pos (by rw [em]; exact hc), ?_⟩
        unfold dY; rw [q4, show d.2.1.toInt.toNat - 1 = j by omega]
      · have hc2 : ¬ d.2.1.toInt ≤ ((j + 1 : Nat) : Int) := fun g => hc ((ia_le rfl (nI_t (k := j + 1) (by omega))).mpr g)
        have e2 := mo_F ey (nI_t (k := j + 1) (by omega))
        have hm := ml_b d.1.toInt ((j + 1 : Nat) : Int)
        have hdb := db_b (y := d.1.toInt) j
        obtain ⟨v, e3, e4⟩ := ih (j + 1) (x + m_X0_monthLength (nI (j + 1)) (m_X0_isLeap (m_X0_yearIn w))) (by omega) (by omega) (by omega) (by rw [ia_add q4 e2 (by omega) (by omega)]; show _ = db d.1.toInt j + ml d.1.toInt ((j + 1 : Nat) : Int) + _; omega)
        refine ⟨v, (if_neg (fun g => hc (by rw [em] at g; exact g))).trans ?_, e4⟩
        rw [nI_1]; exact e3
  obtain ⟨v, e1, e2⟩ := key 19 0 d.2.2 (by omega) (by omega) (by omega) (by show _ = 0 + _; omega)
  unfold m_X0_dayInYear o_X0_dayInYear
  rw [ea, show l_X0_dayInYear w 20 1 d.2.2 = some v from e1]
  exact e2
theorem pk_nu {w : Int64} {d : DT} (h : pkD w d) (hd : dV d) : (m_X0_numberOf w).toInt = dN d := by
  have ed := pk_dy h hd
  have hb := dY_b hd
  have hyl := yl_b d.1.toInt
  have hr := nF_r hd.2.2.2.2.1 (Int.le_trans hd.2.2.2.2.2 (by decide))
  have ef := fn_F (pk_yr h hd) (by have := hd.2.2.2.2.1; omega) (by have := hd.2.2.2.2.2; omega)
  unfold m_X0_numberOf
  rw [ma_sub (ma_add ef (ma_l ed) (by omega) (by omega)) (show (1 : Int64).toInt = 1 from rfl) (by omega) (by omega)]
  unfold dN; omega
theorem pk_nuI {w : Int64} {d : DT} {v : Int32} (h : pkD w d) (hd : dV d) (hv : v.toInt = dN d) : (m_X0_numberOf w).toInt32 = v := by
  have e := pk_nu h hd
  have h1 := Int32.le_toInt v
  have h2 := Int32.toInt_lt v
  rw [hv] at h1 h2
  exact Int32.toInt_inj.mp (by rw [ma_i e h1 h2, hv])
theorem pk_dn {p : Int64} {q : Int} (h : p.toInt = q) (h1 : -100000000 ≤ q) (h2 : q ≤ 100000000) {d : DT} (hd : dV d) (hn : dN d = q) : pkD (m_X0_dateOfNumber p) d := by
  obtain ⟨y, i, e, b1, b2, b3, b4, q1, q2, q3, q4⟩ := dn_F h (by omega) (by omega)
  have hb := dN_b hd
  rw [hn] at hb
  have ey : y = d.1.toInt := nF_uniq b1 b2 hb.1 hb.2
  subst ey
  have eY : dY d = q - nF d.1.toInt + 1 := by unfold dN at hn; omega
  obtain ⟨g1, g2, g3, g4, g5, g6⟩ := id hd
  have r1 : db d.1.toInt (d.2.1.toInt.toNat - 1 + 1) = db d.1.toInt (d.2.1.toInt.toNat - 1) + ml d.1.toInt ((d.2.1.toInt.toNat - 1 : Nat) + 1 : Int) := rfl
  rw [show ((d.2.1.toInt.toNat - 1 : Nat) + 1 : Int) = d.2.1.toInt by omega] at r1
  have ei : i = d.2.1.toInt.toNat - 1 := db_uniq (y := d.1.toInt) (k := q - nF d.1.toInt + 1) q2 q3 (by unfold dY at eY; omega) (by unfold dY at eY; omega)
  rw [q4]
  refine pk_of hd e ?_ ?_
  · exact Int32.toInt_inj.mp (by rw [nI_t (by omega)]; omega)
  · have hmb := ml_b d.1.toInt d.2.1.toInt
    have e9 : q - nF d.1.toInt + 1 - db d.1.toInt (d.2.1.toInt.toNat - 1) = d.2.2.toInt := by unfold dY at eY; omega
    rw [ei, e9]
    exact Int32.toInt_inj.mp (by rw [nI_t (by omega)]; omega)
theorem pk_dnO {p : Int64} {q : Int} (h : p.toInt = q) (h1 : -1000000000 ≤ q) (h2 : q ≤ 1000000000) (ho : ¬ (-100000000 ≤ q ∧ q ≤ 100000000)) : m_X0_requireDate (m_X0_dateOfNumber p) ≠ 0 := by
  obtain ⟨y, i, e, b1, b2, b3, b4, q1, q2, q3, q4⟩ := dn_F h h1 h2
  have hd : db y (i + 1) = db y i + ml y ((i + 1 : Nat) : Int) := rfl
  have hm := ml_b y ((i + 1 : Nat) : Int)
  have l := nF_lo; have u := nF_hi
  intro g
  have g2 := yOK_iff.mp g
  rw [q4, ma_dateOf e (nI_t (k := i + 1) (by omega)) (nI_t (k := (q - nF y + 1 - db y i).toNat) (by omega)) (by omega) (by omega)] at g2
  have g3 : -9999 ≤ y ∧ y ≤ 9999 := by omega
  by_cases hq : q ≤ 100000000
  · by_cases e9 : y = -9999
    · subst e9; omega
    · have := nF_lt (show -9999 < y by omega); omega
  · by_cases e9 : y + 1 = 10000
    · rw [e9] at b2; omega
    · have := nF_lt (show y + 1 < 10000 by omega); omega
theorem ma_fmod {p c : Int64} {x y : Int} (hp : p.toInt = x) (hc : c.toInt = y) (h0 : 1 < y) : (m_J9_floorMod_f86c9 p c).toInt = x % y := by
  have hy := Int64.toInt_lt c
  rw [hc] at hy
  have hr := ma_rem hp hc h0
  have e1 := Int.mul_tdiv_add_tmod x y
  have hm1 := Int.emod_nonneg x (show y ≠ 0 by omega)
  have hm2 := Int.emod_lt_of_pos x (show 0 < y by omega)
  unfold m_J9_floorMod_f86c9
  by_cases hx : 0 ≤ x
  · rw [if_pos ((lg_cmp_ge _ _).mpr ((ma_xor p c (by omega)).mpr (by omega))), hr]
    exact Int.tmod_eq_emod_of_nonneg hx
  · rw [if_neg (fun h => hx (by have := (ma_xor p c (by omega)).mp ((lg_cmp_ge _ _).mp h); omega))]
    have h9 := Int.tmod_eq_emod (a := x) (b := y)
    by_cases hz : lg_cmp (p - p / c * c) 0 = 0
    · rw [if_pos hz, hr]
      have := (ma_rem0 hp hc h0).mp hz
      have t0 : x.tmod y = 0 := by
        have := Int.dvd_of_emod_eq_zero this
        exact Int.tmod_eq_zero_of_dvd this
      rw [t0, this]
    · rw [if_neg hz]
      have hne : ¬ x % y = 0 := fun g => hz ((ma_rem0 hp hc h0).mpr g)
      have t1 : x.tmod y = x % y - y := by
        rw [h9, if_neg (fun g => g.elim hx (fun q => hne (Int.emod_eq_zero_of_dvd q)))]
        have : (y.natAbs : Int) = y := by omega
        rw [this]
      rw [ma_add hr hc (by omega) (by omega), t1]; omega
-- moves, order, months: class against reference
theorem pk_fi {y : Int64} {m a : Int32} {d : DT} (hy : y.toInt = d.1.toInt) (hm : m = d.2.1) (hd : dV d) (ha : d.2.2.toInt = if a.toInt ≤ ml d.1.toInt d.2.1.toInt then a.toInt else ml d.1.toInt d.2.1.toInt) : pkD (m_X0_fittedDate y m a) d := by
  have em := mo_F hy (show m.toInt = d.2.1.toInt by rw [hm])
  unfold m_X0_fittedDate
  refine pk_of hd hy hm ?_
  apply Int32.toInt_inj.mp
  rw [ha]
  by_cases hc : a.toInt ≤ ml d.1.toInt d.2.1.toInt
  · rw [if_pos hc, if_neg (fun g => by have := (ia_lt em rfl).mp g; omega)]
  · rw [if_neg hc, if_pos ((ia_lt em rfl).mpr (by omega)), em]
theorem pk_ml {w : Int64} {d : DT} (h : pkD w d) (hd : dV d) {p : Int64} {x : Int} (hp : p.toInt = x) (h1 : -100000000000 ≤ x) (h2 : x ≤ 100000000000) :
    (∃ e, o_X3_later d p = some (some e) ∧ dV e ∧ pkD (m_X0_monthsLater w p) e) ∨ (o_X3_later d p = some none ∧ (-3000000000 ≤ x → x ≤ 3000000000 → m_X0_requireDate (m_X0_monthsLater w p) ≠ 0)) := by
  have ey := pk_yr h hd
  have em := pk_mo h hd
  have ea := pk_da h hd
  obtain ⟨v1, v2, v3, v4, v5, v6⟩ := id hd
  have e0 := ma_add (ma_sub (ma_add (ma_mul (show (12 : Int64).toInt = 12 from rfl) ey (by omega) (by omega)) (ma_l (a := m_X0_monthIn w) (show _ = d.2.1.toInt by rw [em])) (by omega) (by omega)) (show (1 : Int64).toInt = 1 from rfl) (by omega) (by omega)) hp (by omega) (by omega)
  have ef := ma_fdiv e0 (show (12 : Int64).toInt = 12 from rfl) (by decide)
  have eg := ma_fmod e0 (show (12 : Int64).toInt = 12 from rfl) (by decide)
  rcases la_F hd hp h1 h2 with ⟨hc, e1⟩ | ⟨hc, e, e1, e2, e3, e4, e5⟩
  · refine Or.inr ⟨e1, fun k1 k2 g => ?_⟩
    generalize hY : (12 * d.1.toInt + d.2.1.toInt - 1 + x) / 12 = Y at *
    generalize hM : (12 * d.1.toInt + d.2.1.toInt - 1 + x) % 12 = M at *
    have g2 := yOK_iff.mp g
    unfold m_X0_monthsLater m_X0_fittedDate at g2
    have ed : ∃ c : Int32, (if m_X0_monthLength (((m_J9_floorMod_f86c9 (((((12 : Int64) * (m_X0_yearIn w)) + ((m_X0_monthIn w).toInt64)) - (1 : Int64)) + p) (12 : Int64)).toInt32) + (1 : Int32)) (m_X0_isLeap (m_J9_floorDiv_f86c9 (((((12 : Int64) * (m_X0_yearIn w)) + ((m_X0_monthIn w).toInt64)) - (1 : Int64)) + p) (12 : Int64))) < m_X0_dayIn w then m_X0_monthLength (((m_J9_floorMod_f86c9 (((((12 : Int64) * (m_X0_yearIn w)) + ((m_X0_monthIn w).toInt64)) - (1 : Int64)) + p) (12 : Int64)).toInt32) + (1 : Int32)) (m_X0_isLeap (m_J9_floorDiv_f86c9 (((((12 : Int64) * (m_X0_yearIn w)) + ((m_X0_monthIn w).toInt64)) - (1 : Int64)) + p) (12 : Int64))) else m_X0_dayIn w) = c ∧ 0 ≤ c.toInt ∧ c.toInt ≤ 31 := by
      refine ⟨_, rfl, ?_⟩
      split
      · have := ma_mLen (((m_J9_floorMod_f86c9 (((((12 : Int64) * (m_X0_yearIn w)) + ((m_X0_monthIn w).toInt64)) - (1 : Int64)) + p) (12 : Int64)).toInt32) + (1 : Int32)) (m_X0_isLeap (m_J9_floorDiv_f86c9 (((((12 : Int64) * (m_X0_yearIn w)) + ((m_X0_monthIn w).toInt64)) - (1 : Int64)) + p) (12 : Int64)))
        omega
      · have := ml_b d.1.toInt d.2.1.toInt
        rw [ea]; omega
    obtain ⟨c, ec, c1, c2⟩ := ed
    rw [ec, ma_dateOf ef (ia_add (ma_i eg (by omega) (by omega)) (show (1 : Int32).toInt = 1 from rfl) (by omega) (by omega)) rfl (by omega) (by omega)] at g2
    exact hc (by omega)
  · refine Or.inl ⟨e, e1, e2, ?_⟩
    unfold m_X0_monthsLater
    refine pk_fi (by rw [ef, e3]) ?_ e2 (by rw [ea, e3, e4]; exact e5)
    apply Int32.toInt_inj.mp
    rw [e4, ia_add (ma_i eg (by omega) (by omega)) (show (1 : Int32).toInt = 1 from rfl) (by omega) (by omega)]
theorem pk_dl {w : Int64} {d : DT} (h : pkD w d) (hd : dV d) {p : Int64} {x : Int} (hp : p.toInt = x) (h1 : -100000000000 ≤ x) (h2 : x ≤ 100000000000) :
    (∃ e, o_X3_laterByDays d p = some (some e) ∧ dV e ∧ pkD (m_X0_daysLater w p) e) ∨ (o_X3_laterByDays d p = some none ∧ (-800000000 ≤ x → x ≤ 800000000 → m_X0_requireDate (m_X0_daysLater w p) ≠ 0)) := by
  have hr := nF_r hd.2.2.2.2.1 (Int.le_trans hd.2.2.2.2.2 (by decide))
  have hb := dY_b hd
  have hyl := yl_b d.1.toInt
  have hN : dN d = nF d.1.toInt + dY d - 1 := rfl
  have en := ma_add (pk_nu h hd) hp (by omega) (by omega)
  rcases ld_F hd hp h1 h2 with ⟨hc, e1⟩ | ⟨hc, e, e1, e2, e3⟩
  · refine Or.inr ⟨e1, fun k1 k2 => ?_⟩
    unfold m_X0_daysLater
    exact pk_dnO en (by omega) (by omega) hc
  · refine Or.inl ⟨e, e1, e2, ?_⟩
    unfold m_X0_daysLater
    exact pk_dn en hc.1 hc.2 e2 e3
-- order
theorem pd_lt {w u : Int64} {d e : DT} (h : pkD w d) (g : pkD u e) (hd : dV d) (he : dV e) : w.toInt < u.toInt ↔ dL d e := by
  have m1 := ml_b d.1.toInt d.2.1.toInt
  have m2 := ml_b e.1.toInt e.2.1.toInt
  obtain ⟨h1, h2, h3, h4, _, _⟩ := hd
  obtain ⟨g1, g2, g3, g4, _, _⟩ := he
  rw [h, g]
  unfold dL
  omega
theorem pd_le {w u : Int64} {d e : DT} (h : pkD w d) (g : pkD u e) (hd : dV d) (he : dV e) : 0 ≤ lg_cmp w u ↔ ¬ dL d e := by
  rw [lg_cmp_ge, Int64.le_iff_toInt_le, ← pd_lt h g hd he]
  omega
theorem pd_eq {w u : Int64} {d e : DT} (h : pkD w d) (g : pkD u e) (hd : dV d) (he : dV e) : lg_cmp w u = 0 ↔ d = e := by
  have m1 := ml_b d.1.toInt d.2.1.toInt
  have m2 := ml_b e.1.toInt e.2.1.toInt
  obtain ⟨h1, h2, h3, h4, _, _⟩ := id hd
  obtain ⟨g1, g2, g3, g4, _, _⟩ := id he
  rw [lg_cmp_eq, ← Int64.toInt_inj, h, g]
  constructor
  · intro q
    exact Prod.ext (Int32.toInt_inj.mp (by omega)) (Prod.ext (Int32.toInt_inj.mp (by omega)) (Int32.toInt_inj.mp (by omega)))
  · intro q; subst q; rfl
theorem pd_mu {w u : Int64} {d e : DT} (h : pkD w d) (g : pkD u e) (hd : dR d) (he : dR e) : o_X3_monthsOf d e = some (m_X0_monthsUpTo w u) := by
  have e1 := pk_da h hd.1
  have e2 := pk_da g he.1
  have e3 := pk_mo h hd.1
  have e4 := pk_mo g he.1
  have b1 := hd.2; have b2 := he.2
  have e5 : ((m_X0_yearIn u) - (m_X0_yearIn w)).toInt32 = e.1 - d.1 := by
    apply Int32.toInt_inj.mp
    rw [ma_i (ma_sub (pk_yr g he.1) (pk_yr h hd.1) (by omega) (by omega)) (by omega) (by omega), ia_sub rfl rfl (by omega) (by omega)]
  unfold o_X3_monthsOf m_X0_monthsUpTo
  rw [e1, e2, e3, e4, e5]
  split
  · rw [show m_X3_one 0 = 0 from rfl, Int32.sub_zero]
  · rw [show m_X3_one 1 = 1 from rfl]
-- class and reference side by side
def spB (a : Int32) : Prop := -100000 ≤ a.toInt ∧ a.toInt ≤ 100000
def nSp (z : CS) (w : MS) : Prop := ∀ s : Nat, s < 2 → (z.2.1 s = sget w s 0 ∧ z.2.2.1 s = sget w s 1 ∧ z.2.2.2.1 s = sget w s 2) ∧ spB (z.2.1 s) ∧ spB (z.2.2.1 s) ∧ spB (z.2.2.2.1 s)
def sR (z : CS) (w : MS) : Prop := (∀ i, i < 6 → pkD (z.1 i) (w.2.1 i) ∧ dR (w.2.1 i)) ∧ nSp z w ∧ z.2.2.2.2.1 = w.2.2.2.2.1 ∧ z.2.2.2.2.2 = w.2.2.2.2.2
def sQ (k : Nat × Nat) (c : Nat) (v : Int32) (z : CS) (r : Int32 × MS) : Prop := sR z r.2 ∧ r.2.1 = wk k.1 k.2 c ∧ (c = 0 → v = r.1)
theorem sR_t {z : CS} {w : MS} {t : Int32} (h : sR z w) : sR z (t, w.2) := h
theorem s_code {k : Nat × Nat} {z : CS} {w : MS} {c : Nat} {v a : Int32} {t : Int32} (h : sR z w) (hc : ¬ c = 0) (ht : t = wk k.1 k.2 c) : T (sQ k c v z) (some (a, (t, w.2))) := ⟨_, rfl, h, ht, fun g => absurd g hc⟩
theorem s_val {k : Nat × Nat} {z : CS} {w : MS} {v a : Int32} (h : sR z w) (hv : v = a) : T (sQ k 0 v z) (some (a, ((0 : Int32), w.2))) := ⟨_, rfl, h, rfl, fun _ => hv⟩
theorem s_valw {k : Nat × Nat} {z : CS} {w : MS} {v a : Int32} (h : sR z w) (ht : w.1 = 0) (hv : v = a) : T (sQ k 0 v z) (some (a, w)) := ⟨_, rfl, h, ht, fun _ => hv⟩
-- conditions
theorem pl_no {p : Int32} : m_X0_requirePlace p = 0 ↔ m_X3_isNo p = 0 := by rw [pl_iff, pr_F]; omega
theorem pl_c {p : Int32} (h : ¬ m_X3_isNo p = 0) : m_X0_requirePlace p = 1 := (pl_01 p).elim (fun g => absurd (pl_no.mp g) h) id
theorem at_no {p : Int32} {z : CS} : (m_X0_dateAt p z).1 = 0 ↔ m_X3_isNo p = 0 := by
  rw [← pl_no]; unfold m_X0_dateAt
  by_cases h : m_X0_requirePlace p = 0
  · rw [if_pos h]; exact ⟨fun _ => h, fun _ => rfl⟩
  · rw [if_neg h]
theorem at_c1 {p : Int32} {z : CS} (h : ¬ m_X3_isNo p = 0) : (m_X0_dateAt p z).1 = 1 := (at_01 p z).elim (fun g => absurd (at_no.mp g) h) id
theorem at_R {p : Int32} {z : CS} {w : MS} (h : sR z w) (hp : m_X3_isNo p = 0) : pkD (m_X0_dateAt p z).2 (w.2.1 p.toNatClampNeg) ∧ dR (w.2.1 p.toNatClampNeg) := by
  have := pr_F.mp hp
  have e : p.toNatClampNeg = p.toInt.toNat := rfl
  unfold m_X0_dateAt
  rw [if_pos (pl_no.mpr hp)]
  exact h.1 _ (by omega)
theorem rs_iff {p : Int32} : m_X0_requireSpan p = 0 ↔ 0 ≤ p.toInt ∧ p.toInt < 2 := by
  unfold m_X0_requireSpan
  have h1 : p < 0 ↔ p.toInt < 0 := Int32.lt_iff_toInt_lt
  have h2 : p < 2 ↔ p.toInt < 2 := Int32.lt_iff_toInt_lt
  split
  · rename_i g; rw [h1] at g
    exact ⟨fun h => absurd h (by decide), fun h => by omega⟩
  · rename_i g; rw [h1] at g
    split
    · rename_i g2; rw [h2] at g2
      exact ⟨fun h => by omega, fun h => rfl⟩
    · rename_i g2; rw [h2] at g2
      exact ⟨fun h => absurd h (by decide), fun h => by omega⟩
theorem sp_no {p : Int32} : m_X0_requireSpan p = 0 ↔ m_X3_isNoSpan p = 0 := by rw [rs_iff, ps_F]; omega
theorem sp_c {p : Int32} (h : ¬ m_X3_isNoSpan p = 0) : m_X0_requireSpan p = 1 := (oc_requireSpan p).elim (fun g => absurd (sp_no.mp g) h) id
theorem rw_is {p a b : Int32} {A B : Int64} (hA : A.toInt = a.toInt) (hB : B.toInt = b.toInt) : m_X0_requireWithin p a b = 0 ↔ ¬ m_X3_isIn p.toInt64 A B = 0 := by
  rw [rw_iff, isin_F (ma_l (a := p) rfl) hA hB]
  exact ⟨fun h g => g h, fun h => Classical.byContradiction h⟩
theorem rw_c {p a b : Int32} (h : ¬ m_X0_requireWithin p a b = 0) : m_X0_requireWithin p a b = 2 := (oc_requireWithin p a b).elim (fun g => absurd g h) id
theorem ny_is {p : Int32} : m_X0_requireWithin p (-9999) 9999 = 0 ↔ m_X3_isNoYear p = 0 := by
  rw [rw_iff, py_F]; exact Iff.rfl
-- give and gives
theorem put_e {p : Int32} {D : Int64} {z : CS} (hp : m_X3_isNo p = 0) : m_X0_put p D z = (0, (vp_updL z.1 p.toNatClampNeg D, z.2.1, z.2.2.1, z.2.2.2.1, z.2.2.2.2.1, z.2.2.2.2.2)) := by
  unfold m_X0_put; rw [if_pos (pl_no.mpr hp)]
def putz (z : CS) (p : Int32) (D : Int64) : CS := (vp_updL z.1 p.toNatClampNeg D, z.2.1, z.2.2.1, z.2.2.2.1, z.2.2.2.2.1 + 1, z.2.2.2.2.2)
theorem give_e0 {p : Int32} {D : Int64} {z : CS} (hp : m_X3_isNo p = 0) (hd : m_X0_requireDate D = 0) : m_X0_give p D z = (0, (m_X0_numberOf D).toInt32, putz z p D) := by
  unfold m_X0_give; rw [if_pos hd, put_e hp]; rfl
theorem give_e3 {p : Int32} {D : Int64} {z : CS} (hd : ¬ m_X0_requireDate D = 0) : m_X0_give p D z = (3, 0, z) := by
  unfold m_X0_give; rw [if_neg hd, (oc_requireDate D).resolve_left hd]
theorem gives_e {p : Int32} {d : DT} {w : MS} (hp : m_X3_isNo p = 0) (hd : dV d) : ∃ v, v.toInt = dN d ∧ o_X3_gives p d w = some (v, dput (w.1, w.2.1, w.2.2.1, w.2.2.2.1, w.2.2.2.2.1 + (1 : Int32), w.2.2.2.2.2) p.toNatClampNeg d) := by
  have := pr_F.mp hp
  obtain ⟨v, e, e2⟩ := nu_F hd
  refine ⟨v, e2, ?_⟩
  unfold o_X3_gives
  rw [if_neg (cl_F (n := 6) (by omega)), e]; rfl
theorem sR_put {p : Int32} {D : Int64} {d : DT} {z : CS} {w : MS} (h : sR z w) (hD : pkD D d) (hd : dR d) : sR (putz z p D) (dput (w.1, w.2.1, w.2.2.1, w.2.2.2.1, w.2.2.2.2.1 + (1 : Int32), w.2.2.2.2.2) p.toNatClampNeg d) := by
  refine ⟨fun i hi => ?_, h.2.1, by show z.2.2.2.2.1 + 1 = w.2.2.2.2.1 + 1; rw [h.2.2.1], h.2.2.2⟩
  show pkD (vp_updL z.1 p.toNatClampNeg D i) (va_up w.2.1 p.toNatClampNeg d i) ∧ dR (va_up w.2.1 p.toNatClampNeg d i)
  by_cases e : i = p.toNatClampNeg
  · subst e; rw [pk_uLs]; simp only [va_up, if_true]; exact ⟨hD, hd⟩
  · rw [pk_uLn e]; simp only [va_up, e, if_false]; exact h.1 i hi
-- the class's give against the reference's gives, as they stand at a method's end
theorem s_give {k : Nat × Nat} {p : Int32} {D : Int64} {d : DT} {z : CS} {w : MS} (h : sR z w) (hp : m_X3_isNo p = 0) (hD : pkD D d) (hd : dR d) (ht : w.1 = 0) :
    T (sQ k (if (m_X0_give p D z).1 = 0 then (0, (m_X0_give p D z).2.1, (m_X0_give p D z).2.2) else ((m_X0_give p D z).1, 0, (m_X0_give p D z).2.2) : Nat × Int32 × CS).1 (if (m_X0_give p D z).1 = 0 then (0, (m_X0_give p D z).2.1, (m_X0_give p D z).2.2) else ((m_X0_give p D z).1, 0, (m_X0_give p D z).2.2) : Nat × Int32 × CS).2.1 (if (m_X0_give p D z).1 = 0 then (0, (m_X0_give p D z).2.1, (m_X0_give p D z).2.2) else ((m_X0_give p D z).1, 0, (m_X0_give p D z).2.2) : Nat × Int32 × CS).2.2) ((o_X3_gives p d w).bind fun x => some (x.1, x.2)) := by
  obtain ⟨v, e1, e2⟩ := gives_e (w := w) hp hd.1
  rw [give_e0 hp ((pk_rq hD hd.1).mpr hd.2), e2]
  exact ⟨_, rfl, sR_put h hD hd, ht, fun _ => pk_nuI hD hd.1 e1⟩
abbrev sX (k : Nat × Nat) (x : Nat × Int32 × CS) (y : Option (Int32 × MS)) : Prop := T (fun r => sQ k x.1 x.2.1 x.2.2 r) y
abbrev sO (k : Nat × Nat) (z : CS) (x : Nat × Int32) (y : Option (Int32 × MS)) : Prop := T (fun r => sQ k x.1 x.2 z r) y
-- the class's conditions
theorem X_pl {k : Nat × Nat} {p : Int32} {z : CS} {A : Nat × Int32 × CS} {y : Option (Int32 × MS)} (h1 : m_X3_isNo p = 0 → sX k A y) (h2 : ¬ m_X3_isNo p = 0 → sX k (1, 0, z) y) : sX k (if m_X0_requirePlace p = 0 then A else (m_X0_requirePlace p, 0, z)) y := by
  by_cases h : m_X3_isNo p = 0
  · rw [if_pos (pl_no.mpr h)]; exact h1 h
  · rw [if_neg (fun g => h (pl_no.mp g)), pl_c h]; exact h2 h
theorem X_at {k : Nat × Nat} {p : Int32} {z : CS} {A : Nat × Int32 × CS} {y : Option (Int32 × MS)} (h1 : m_X3_isNo p = 0 → sX k A y) (h2 : ¬ m_X3_isNo p = 0 → sX k (1, 0, z) y) : sX k (if (m_X0_dateAt p z).1 = 0 then A else ((m_X0_dateAt p z).1, 0, z)) y := by
  by_cases h : m_X3_isNo p = 0
  · rw [if_pos (at_no.mpr h)]; exact h1 h
  · rw [if_neg (fun g => h (at_no.mp g)), at_c1 h]; exact h2 h
theorem X_sp {k : Nat × Nat} {p : Int32} {z : CS} {A : Nat × Int32 × CS} {y : Option (Int32 × MS)} (h1 : m_X3_isNoSpan p = 0 → sX k A y) (h2 : ¬ m_X3_isNoSpan p = 0 → sX k (1, 0, z) y) : sX k (if m_X0_requireSpan p = 0 then A else (m_X0_requireSpan p, 0, z)) y := by
  by_cases h : m_X3_isNoSpan p = 0
  · rw [if_pos (sp_no.mpr h)]; exact h1 h
  · rw [if_neg (fun g => h (sp_no.mp g)), sp_c h]; exact h2 h
theorem X_rw {k : Nat × Nat} {p a b : Int32} {A B : Int64} {z : CS} {X : Nat × Int32 × CS} {y : Option (Int32 × MS)} (hA : A.toInt = a.toInt) (hB : B.toInt = b.toInt) (h1 : ¬ m_X3_isIn p.toInt64 A B = 0 → sX k X y) (h2 : m_X3_isIn p.toInt64 A B = 0 → sX k (2, 0, z) y) : sX k (if m_X0_requireWithin p a b = 0 then X else (m_X0_requireWithin p a b, 0, z)) y := by
  by_cases h : m_X3_isIn p.toInt64 A B = 0
  · have : ¬ m_X0_requireWithin p a b = 0 := fun g => (rw_is hA hB).mp g h
    rw [if_neg this, rw_c this]; exact h2 h
  · rw [if_pos ((rw_is hA hB).mpr h)]; exact h1 h
theorem X_ny {k : Nat × Nat} {p : Int32} {z : CS} {X : Nat × Int32 × CS} {y : Option (Int32 × MS)} (h1 : m_X3_isNoYear p = 0 → sX k X y) (h2 : ¬ m_X3_isNoYear p = 0 → sX k (2, 0, z) y) : sX k (if m_X0_requireWithin p (-9999) 9999 = 0 then X else (m_X0_requireWithin p (-9999) 9999, 0, z)) y := by
  by_cases h : m_X3_isNoYear p = 0
  · rw [if_pos (ny_is.mpr h)]; exact h1 h
  · have : ¬ m_X0_requireWithin p (-9999) 9999 = 0 := fun g => h (ny_is.mp g)
    rw [if_neg this, rw_c this]; exact h2 h
theorem O_at {k : Nat × Nat} {p : Int32} {z : CS} {A : Nat × Int32} {y : Option (Int32 × MS)} (h1 : m_X3_isNo p = 0 → sO k z A y) (h2 : ¬ m_X3_isNo p = 0 → sO k z (1, 0) y) : sO k z (if (m_X0_dateAt p z).1 = 0 then A else ((m_X0_dateAt p z).1, 0)) y := by
  by_cases h : m_X3_isNo p = 0
  · rw [if_pos (at_no.mpr h)]; exact h1 h
  · rw [if_neg (fun g => h (at_no.mp g)), at_c1 h]; exact h2 h
theorem O_pl {k : Nat × Nat} {p : Int32} {z : CS} {A : Nat × Int32} {y : Option (Int32 × MS)} (h1 : m_X3_isNo p = 0 → sO k z A y) (h2 : ¬ m_X3_isNo p = 0 → sO k z (1, 0) y) : sO k z (if m_X0_requirePlace p = 0 then A else (m_X0_requirePlace p, 0)) y := by
  by_cases h : m_X3_isNo p = 0
  · rw [if_pos (pl_no.mpr h)]; exact h1 h
  · rw [if_neg (fun g => h (pl_no.mp g)), pl_c h]; exact h2 h
theorem O_sp {k : Nat × Nat} {p : Int32} {z : CS} {A : Nat × Int32} {y : Option (Int32 × MS)} (h1 : m_X3_isNoSpan p = 0 → sO k z A y) (h2 : ¬ m_X3_isNoSpan p = 0 → sO k z (1, 0) y) : sO k z (if m_X0_requireSpan p = 0 then A else (m_X0_requireSpan p, 0)) y := by
  by_cases h : m_X3_isNoSpan p = 0
  · rw [if_pos (sp_no.mpr h)]; exact h1 h
  · rw [if_neg (fun g => h (sp_no.mp g)), sp_c h]; exact h2 h
theorem O_rw {k : Nat × Nat} {p a b : Int32} {A B : Int64} {z : CS} {X : Nat × Int32} {y : Option (Int32 × MS)} (hA : A.toInt = a.toInt) (hB : B.toInt = b.toInt) (h1 : ¬ m_X3_isIn p.toInt64 A B = 0 → sO k z X y) (h2 : m_X3_isIn p.toInt64 A B = 0 → sO k z (2, 0) y) : sO k z (if m_X0_requireWithin p a b = 0 then X else (m_X0_requireWithin p a b, 0)) y := by
  by_cases h : m_X3_isIn p.toInt64 A B = 0
  · have : ¬ m_X0_requireWithin p a b = 0 := fun g => (rw_is hA hB).mp g h
    rw [if_neg this, rw_c this]; exact h2 h
  · rw [if_pos ((rw_is hA hB).mpr h)]; exact h1 h
theorem O_ny {k : Nat × Nat} {p : Int32} {z : CS} {X : Nat × Int32} {y : Option (Int32 × MS)} (h1 : m_X3_isNoYear p = 0 → sO k z X y) (h2 : ¬ m_X3_isNoYear p = 0 → sO k z (2, 0) y) : sO k z (if m_X0_requireWithin p (-9999) 9999 = 0 then X else (m_X0_requireWithin p (-9999) 9999, 0)) y := by
  by_cases h : m_X3_isNoYear p = 0
  · rw [if_pos (ny_is.mpr h)]; exact h1 h
  · have : ¬ m_X0_requireWithin p (-9999) 9999 = 0 := fun g => h (ny_is.mp g)
    rw [if_neg this, rw_c this]; exact h2 h
-- the reference's answer to a failing: its code
theorem fx_0 {β : Type} {P : β → Prop} {a b c : Int32} {z : MS} {f : Int32 × MS → Option β} (ha : a = 0) (hb : b = 0) (hc : c = 0) (h : T P (f (0, (0, z.2)))) : T P ((o_X3_fails a b c z).bind f) := by
  have i0 : (0 : Int32) ≤ 0 := by decide
  unfold o_X3_fails
  simp only [ha, hb, hc, i0, if_true, Option.bind_some]; exact h
theorem fx_1 {β : Type} {P : β → Prop} {a b c : Int32} {z : MS} {f : Int32 × MS → Option β} (ha : ¬ a = 0) (h : T P (f (1, (1, z.2)))) : T P ((o_X3_fails a b c z).bind f) := by
  have i1 : ¬ (1 : Int32) ≤ 0 := by decide
  unfold o_X3_fails
  simp only [ha, i1, if_false, Option.bind_some]; exact h
theorem fx_2 {β : Type} {P : β → Prop} {a b c : Int32} {z : MS} {f : Int32 × MS → Option β} (ha : a = 0) (hb : ¬ b = 0) (h : T P (f (1, (2, z.2)))) : T P ((o_X3_fails a b c z).bind f) := by
  have i2 : ¬ (2 : Int32) ≤ 0 := by decide
  unfold o_X3_fails
  simp only [ha, hb, i2, if_true, if_false, Option.bind_some]; exact h
theorem fx_3 {β : Type} {P : β → Prop} {a b c : Int32} {z : MS} {f : Int32 × MS → Option β} (ha : a = 0) (hb : b = 0) (hc : ¬ c = 0) (h : T P (f (1, (3, z.2)))) : T P ((o_X3_fails a b c z).bind f) := by
  have i3 : ¬ (3 : Int32) ≤ 0 := by decide
  unfold o_X3_fails
  simp only [ha, hb, hc, i3, if_true, if_false, Option.bind_some]; exact h
theorem an_0 {β : Type} {P : β → Prop} {a b : Int32} {z : MS} {f : Int32 × MS → Option β} (ha : m_X3_isNo a = 0) (hb : m_X3_isNo b = 0) (h : T P (f (0, (0, z.2)))) : T P ((o_X3_areNot a b z).bind f) := by
  unfold o_X3_areNot
  rw [if_pos ha, if_pos hb, Option.bind_assoc]
  exact fx_0 rfl rfl rfl h
theorem an_1 {β : Type} {P : β → Prop} {a b : Int32} {z : MS} {f : Int32 × MS → Option β} (ha : ¬ m_X3_isNo a = 0) (h : T P (f (1, (1, z.2)))) : T P ((o_X3_areNot a b z).bind f) := by
  unfold o_X3_areNot
  rw [if_neg ha, Option.bind_assoc]
  exact fx_1 (by decide) h
theorem an_2 {β : Type} {P : β → Prop} {a b : Int32} {z : MS} {f : Int32 × MS → Option β} (ha : m_X3_isNo a = 0) (hb : ¬ m_X3_isNo b = 0) (h : T P (f (1, (1, z.2)))) : T P ((o_X3_areNot a b z).bind f) := by
  unfold o_X3_areNot
  rw [if_pos ha, if_neg hb, Option.bind_assoc]
  exact fx_1 (by decide) h
-- exact values
theorem v_nu {β : Type} {P : β → Prop} {d : DT} {f : Int32 → Option β} (hd : dV d) (h : ∀ v, v.toInt = dN d → T P (f v)) : T P ((o_X2_number d).bind f) := by
  obtain ⟨v, e, e2⟩ := nu_F hd; rw [e]; exact h v e2
theorem v_iy {β : Type} {P : β → Prop} {d : DT} {f : Int32 → Option β} (hd : dV d) (h : ∀ v, v.toInt = dY d → T P (f v)) : T P ((o_X2_inYear d).bind f) := by
  obtain ⟨v, e, e2⟩ := iy_F hd; rw [e]; exact h v e2
theorem v_ah {β : Type} {P : β → Prop} {a b : DT} {f : Int32 → Option β} (h1 : dL a b → T P (f 1)) (h0 : ¬ dL a b → T P (f 0)) : T P ((o_X3_isAhead a b).bind f) := by
  rw [ah_F]
  by_cases h : dL a b
  · rw [if_pos h]; exact h1 h
  · rw [if_neg h]; exact h0 h
