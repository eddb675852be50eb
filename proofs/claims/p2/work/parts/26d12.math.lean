theorem T_e {α β : Type} {P : β → Prop} {x : Option α} {f : α → Option β} (h : ∃ v, x = some v) (h2 : ∀ v, T P (f v)) : T P (x.bind f) := by
  obtain ⟨v, e⟩ := h; subst e; exact h2 v
theorem T_ah {β : Type} {P : β → Prop} {a b : DT} {f : Int32 → Option β} (h : ∀ v, T P (f v)) : T P ((o_X3_isAhead a b).bind f) := T_e ⟨_, ah_F a b⟩ h
theorem T_mo {β : Type} {P : β → Prop} {a b : DT} {f : Int32 → Option β} (ha : dR a) (hb : dR b) (h : ∀ v, T P (f v)) : T P ((o_X3_monthsOf a b).bind f) := by
  obtain ⟨v, e, _⟩ := mo_R ha hb; exact T_e ⟨v, e⟩ h
theorem T_do {β : Type} {P : β → Prop} {a b : DT} {f : Int32 → Option β} (ha : dR a) (hb : dR b) (h : ∀ v, T P (f v)) : T P ((o_X3_daysOf a b).bind f) := T_e (dO_F ha hb) h
theorem T_wh {β : Type} {P : β → Prop} {a b : DT} {u : Int32} {f : Int32 → Option β} (ha : dR a) (hb : dR b) (hu : u = 0 ∨ u = 1 ∨ u = 2 ∨ u = 3 ∨ u = 4 ∨ u = 5 ∨ u = 6) (h : ∀ v, T P (f v)) : T P ((o_X3_whole a b u).bind f) := T_e (wh_F ha hb hu) h
theorem cp_F (a b : DT) : ∃ v, o_X3_compared a b = some v := by
  unfold o_X3_compared
  exact eb (ah_F a b) (ei (fun _ => eb (ah_F b a) ⟨_, rfl⟩) (fun _ => ⟨_, rfl⟩))
theorem T_cp {β : Type} {P : β → Prop} {a b : DT} {f : Int32 → Option β} (h : ∀ v, T P (f v)) : T P ((o_X3_compared a b).bind f) := T_e (cp_F a b) h
theorem lk_F (a b : DT) : ∃ v, o_X2_isLike a b = some v := by
  unfold o_X2_isLike
  exact ei (fun _ => ei (fun _ => ei (fun _ => ⟨_, rfl⟩) (fun _ => ⟨_, rfl⟩)) (fun _ => ⟨_, rfl⟩)) (fun _ => ⟨_, rfl⟩)
theorem T_lk {β : Type} {P : β → Prop} {a b : DT} {f : Int32 → Option β} (h : ∀ v, T P (f v)) : T P ((o_X2_isLike a b).bind f) := T_e (lk_F a b) h
theorem fo_F {a : DT} (h : dV a) (i : Int32) : ∃ v, o_X3_fieldOf a i = some v := by
  obtain ⟨v, e, _⟩ := iy_F h
  unfold o_X3_fieldOf
  refine ei (fun _ => eb e ?_) (fun _ => ?_)
  · exact ei (fun _ => ei (fun _ => ei (fun _ => ⟨_, rfl⟩) (fun _ => ⟨_, rfl⟩)) (fun _ => ei (fun _ => ⟨_, rfl⟩) (fun _ => ⟨_, rfl⟩))) (fun _ => ei (fun _ => ⟨_, rfl⟩) (fun _ => ⟨_, rfl⟩))
  · exact ei (fun _ => ei (fun _ => ei (fun _ => ⟨_, rfl⟩) (fun _ => ⟨_, rfl⟩)) (fun _ => ei (fun _ => ⟨_, rfl⟩) (fun _ => ⟨_, rfl⟩))) (fun _ => ei (fun _ => ⟨_, rfl⟩) (fun _ => ⟨_, rfl⟩))
theorem T_fo {β : Type} {P : β → Prop} {a : DT} {i : Int32} {f : Int32 → Option β} (ha : dV a) (h : ∀ v, T P (f v)) : T P ((o_X3_fieldOf a i).bind f) := T_e (fo_F ha i) h
theorem xt_F {a : DT} (h : dR a) : o_X3_textOf a = some (if 0 ≤ a.1.toInt then 10 else 1) := by
  obtain ⟨⟨h1, h2, h3, h4, _, _⟩, h5, h6⟩ := h
  have hm := ml_b a.1.toInt a.2.1.toInt
  unfold o_X3_textOf
  have e0 : (0 : Int32) ≤ a.1 ↔ 0 ≤ a.1.toInt := ia_le rfl rfl
  by_cases hc : 0 ≤ a.1.toInt
  · rw [if_pos (e0.mpr hc), if_pos hc]
    have ey : a.1 = nI a.1.toInt.toNat := nI_at rfl hc
    have em : a.2.1 = nI a.2.1.toInt.toNat := nI_at rfl (by omega)
    have ed : a.2.2 = nI a.2.2.toInt.toNat := nI_at rfl (by omega)
    have p1 := digs4 (k := a.1.toInt.toNat) (by omega)
    have p2 := digs2 a.2.1.toInt.toNat (by omega)
    have p3 := digs2 a.2.2.toInt.toNat (by omega)
    rw [← ey] at p1
    rw [← em] at p2
    rw [← ed] at p3
    have q1 : o_J4_append_15ec4 4 0 = some ((), 4) := by decide +kernel
    have q2 : o_J4_append_15ec4 1 4 = some ((), 5) := by decide +kernel
    have q3 : o_J4_append_15ec4 2 5 = some ((), 7) := by decide +kernel
    have q4 : o_J4_append_15ec4 1 7 = some ((), 8) := by decide +kernel
    have q5 : o_J4_append_15ec4 2 8 = some ((), 10) := by decide +kernel
    refine bs p1 (bs q1 (bs q2 (bs p2 (bs q3 (bs q4 (bs p3 (bs q5 ?_)))))))
    decide +kernel
  · rw [if_neg (fun g => hc (e0.mp g)), if_neg hc]
theorem T_tx {β : Type} {P : β → Prop} {a : DT} {f : Nat → Option β} (ha : dR a) (h : ∀ v, T P (f v)) : T P ((o_X3_textOf a).bind f) := T_e ⟨_, xt_F ha⟩ h
theorem ad_F {v : Int64} {a : DT} (h : dR a) : ∃ w, o_X3_addDate v a = some w := by
  obtain ⟨n, e1, _⟩ := nu_F h.1
  obtain ⟨y, e2, _⟩ := iy_F h.1
  obtain ⟨l, e3, _⟩ := lo_F (y := a.1) rfl (m := a.2.1) rfl h.1.1 h.1.2.1
  obtain ⟨f0, g0⟩ := fo_F h.1 0
  obtain ⟨f1, g1⟩ := fo_F h.1 1
  obtain ⟨f2, g2⟩ := fo_F h.1 2
  obtain ⟨f3, g3⟩ := fo_F h.1 3
  obtain ⟨f4, g4⟩ := fo_F h.1 4
  obtain ⟨f5, g5⟩ := fo_F h.1 5
  unfold o_X3_addDate
  exact eb e1 (eb e2 (eb e1 (eb e3 (eb g0 (eb g1 (eb g2 (eb g3 (eb g4 (eb g5 (eb (xt_F h) ⟨_, rfl⟩))))))))))
theorem T_ad {β : Type} {P : β → Prop} {v : Int64} {a : DT} {f : Int64 → Option β} (ha : dR a) (h : ∀ v, T P (f v)) : T P ((o_X3_addDate v a).bind f) := T_e (ad_F ha) h
theorem T_on {β : Type} {P : β → Prop} {p : Int32} {f : DT → Option β} (hp : ¬ m_X3_isIn p.toInt64 (-4371587) 2932896 = 0) (h : ∀ e, dR e → T P (f e)) : T P ((o_X3_ofNumber p).bind f) := by
  have := isin_F (ma_l (a := p) rfl) (show (-4371587 : Int64).toInt = -4371587 from rfl) (show (2932896 : Int64).toInt = 2932896 from rfl)
  have h2 : -4371587 ≤ p.toInt ∧ p.toInt ≤ 2932896 := Classical.byContradiction fun g => hp (this.mpr g)
  obtain ⟨d, e, d1, d2⟩ := on_F (p := p) rfl (by omega) (by omega)
  have hb := dN_b d1
  rw [d2] at hb
  rw [e]; exact h d ⟨d1, yr_in hb.1 hb.2 h2.1 h2.2⟩
theorem T_oy {β : Type} {P : β → Prop} {y k : Int32} {f : DT → Option β} (hy : -9999 ≤ y.toInt ∧ y.toInt ≤ 9999) (hk : ¬ m_X3_isIn k.toInt64 1 366 = 0) (hl : k ≤ m_X3_lengthOf y) (h : ∀ e, dR e → T P (f e)) : T P ((o_X3_ofYearAndDay y k).bind f) := by
  have := isin_F (ma_l (a := k) rfl) (show (1 : Int64).toInt = 1 from rfl) (show (366 : Int64).toInt = 366 from rfl)
  have h2 : 1 ≤ k.toInt ∧ k.toInt ≤ 366 := Classical.byContradiction fun g => hk (this.mpr g)
  have hl2 := (ia_le rfl (lw_F (p := y) rfl)).mp hl
  have hs := nF_succ y.toInt
  obtain ⟨d, e, d1, d2, d3⟩ := od_F (p0 := y) (p1 := k) rfl rfl h2.1 rfl (y := y.toInt) (by omega) (by omega) (by omega) (by omega) (by omega) (by omega) (by omega)
  rw [e]; exact h d ⟨d1, by rw [d3]; exact hy⟩
theorem ny_F {p : Int32} (h : m_X3_isNoYear p = 0) : -9999 ≤ p.toInt ∧ p.toInt ≤ 9999 := py_F.mp h
theorem i2_F {p : Int32} {a b : Int64} (h : ¬ m_X3_isIn p.toInt64 a b = 0) : a.toInt ≤ p.toInt ∧ p.toInt ≤ b.toInt :=
  Classical.byContradiction fun g => h ((isin_F (ma_l (a := p) rfl) rfl rfl).mpr g)
theorem dR_ep : dR ((1970 : Int32), (1 : Int32), (1 : Int32)) := by
  refine ⟨⟨by decide, by decide, by decide, ?_, by decide, by decide⟩, by decide, by decide⟩
  have := ml_b (1970 : Int32).toInt (1 : Int32).toInt
  show (1 : Int) ≤ ml (1970 : Int32).toInt (1 : Int32).toInt
  omega
theorem rK_of {kn : Int32} {w z : MS} (h : rK kn z) (e : w.2 = z.2) : rK kn w := by
  unfold rK; rw [e]; exact h
theorem neg_b {p : Int32} (h : -200000 ≤ p.toInt ∧ p.toInt ≤ 200000) : -200000 ≤ ((-p).toInt64).toInt ∧ ((-p).toInt64).toInt ≤ 200000 := by
  rw [ma_l (ia_neg rfl (by omega) (by omega))]; omega
theorem pos_b {p : Int32} (h : -200000 ≤ p.toInt ∧ p.toInt ≤ 200000) : -200000 ≤ (p.toInt64).toInt ∧ (p.toInt64).toInt ≤ 200000 := by
  rw [ma_l rfl]; omega
theorem sp_b (a b : Int32) {c : Int32} (hc : c = 1 ∨ c = -1) : -100000000000 ≤ (c.toInt64 * ((12 : Int64) * a.toInt64 + b.toInt64)).toInt ∧ (c.toInt64 * ((12 : Int64) * a.toInt64 + b.toInt64)).toInt ≤ 100000000000 := by
  have a1 := Int32.le_toInt a; have a2 := Int32.toInt_lt a
  have b1 := Int32.le_toInt b; have b2 := Int32.toInt_lt b
  have e := ma_add (ma_mul (show (12 : Int64).toInt = 12 from rfl) (ma_l (a := a) rfl) (by omega) (by omega)) (ma_l (a := b) rfl) (by omega) (by omega)
  rcases hc with rfl | rfl
  · rw [ma_mul (ma_l (a := (1 : Int32)) (show (1 : Int32).toInt = 1 from rfl)) e (by omega) (by omega)]; omega
  · rw [ma_mul (ma_l (a := (-1 : Int32)) (show (-1 : Int32).toInt = -1 from rfl)) e (by omega) (by omega)]; omega
theorem sd_b (a : Int32) {c : Int32} (hc : c = 1 ∨ c = -1) : -100000000000 ≤ (c.toInt64 * a.toInt64).toInt ∧ (c.toInt64 * a.toInt64).toInt ≤ 100000000000 := by
  have a1 := Int32.le_toInt a; have a2 := Int32.toInt_lt a
  rcases hc with rfl | rfl
  · rw [ma_mul (ma_l (a := (1 : Int32)) (show (1 : Int32).toInt = 1 from rfl)) (ma_l (a := a) rfl) (by omega) (by omega)]; omega
  · rw [ma_mul (ma_l (a := (-1 : Int32)) (show (-1 : Int32).toInt = -1 from rfl)) (ma_l (a := a) rfl) (by omega) (by omega)]; omega
