theorem dm_e {y : Int64} {m d v : Int32} {a b : Int} (hy : y.toInt = a) (hm : m.toInt = b) (hv : v.toInt = ml a b) : m_X0_requireDayOfMonth y m d = if d ≤ v then 0 else 3 := by
  have e : m_X0_monthLength m (m_X0_isLeap y) = v := Int32.toInt_inj.mp (by rw [mo_F hy hm, hv])
  unfold m_X0_requireDayOfMonth
  rw [e]
theorem sm_of (p0 p1 p2 p3 : Int32) {z : CS} {w : MS} (h : sR z w) : sX (1, 2) (m_X0_of p0 p1 p2 p3 z) (o_X3_of p0 p1 p2 p3 w) := by
  unfold m_X0_of o_X3_of
  refine X_pl (fun hp => ?_) (fun hp => ?_)
  · by_cases hy : m_X3_isNoYear p1 = 0
    · by_cases hm : m_X3_isIn p2.toInt64 1 12 = 0
      · rw [ymd_m hy hm, if_neg nz2]
        exact T_ip hy (T_ip hm (fx_2 hp (by decide) (T_in one_ne (s_code h nz2 rfl))))
      · by_cases hd : m_X3_isIn p3.toInt64 1 31 = 0
        · rw [ymd_d hy hm hd, if_neg nz2]
          exact T_ip hy (T_in hm (T_ip hd (fx_2 hp (by decide) (T_in one_ne (s_code h nz2 rfl)))))
        · rw [ymd_0 hy hm hd, if_pos rfl]
          refine T_ip hy (T_in hm (T_in hd (T_lm hm (fun v hv => ?_))))
          rw [dm_e (ma_l (a := p1) rfl) (show p2.toInt = p2.toInt from rfl) hv]
          by_cases hl : p3 ≤ v
          · rw [if_pos hl, if_pos rfl]
            have hr := dR_mk hy hm hd hv hl
            refine T_ip hl (fx_0 hp rfl rfl (T_ip rfl ?_))
            exact s_give h hp (pk_of (d := (p1, p2, p3)) hr.1 (ma_l rfl) rfl rfl) hr rfl
          · rw [if_neg hl, if_neg nz3]
            exact T_in hl (fx_3 hp rfl one_ne (T_in one_ne (s_code h nz3 rfl)))
    · rw [ymd_2 hy, if_neg nz2]
      exact T_in hy (fx_2 hp (by decide) (T_in one_ne (s_code h nz2 rfl)))
  · refine T_i (fun _ => T_i (fun _ => fx_1 hp (T_in one_ne (s_code h nz1 rfl))) (fun hm => T_i (fun _ => fx_1 hp (T_in one_ne (s_code h nz1 rfl))) (fun _ => T_lm hm (fun v hv => T_i (fun _ => fx_1 hp (T_in one_ne (s_code h nz1 rfl))) (fun _ => fx_1 hp (T_in one_ne (s_code h nz1 rfl))))))) (fun _ => fx_1 hp (T_in one_ne (s_code h nz1 rfl)))
theorem sm_withDay (p0 p1 : Int32) {z : CS} {w : MS} (h : sR z w) : sX (1, 2) (m_X0_withDay p0 p1 z) (o_X3_withDay p0 p1 w) := by
  unfold m_X0_withDay o_X3_withDay
  refine X_at (fun hp => X_rw (A := 1) (B := 31) (by decide) (by decide) (fun hw => ?_) (fun hw => T_ip hw (fx_2 hp (by decide) (T_in one_ne (s_code h nz2 rfl))))) (fun hp => ?_)
  · obtain ⟨hD, hd⟩ := at_R h hp
    have hy := pk_yr hD hd.1
    have hm := pk_mo hD hd.1
    refine T_in hw (fx_0 hp rfl rfl (T_ip rfl (T_g6 hp (T_lo hd.1 (fun v hv => ?_)))))
    rw [dm_e hy (show (m_X0_monthIn (m_X0_dateAt p0 z).2).toInt = (w.2.1 p0.toNatClampNeg).2.1.toInt by rw [hm]) hv]
    by_cases hl : p1 ≤ v
    · have hr := dR_wd hd hw hv hl
      have hf : pkD (m_X0_dateOf (m_X0_yearIn (m_X0_dateAt p0 z).2) (m_X0_monthIn (m_X0_dateAt p0 z).2) p1) ((w.2.1 p0.toNatClampNeg).1, (w.2.1 p0.toNatClampNeg).2.1, p1) := pk_of (d := ((w.2.1 p0.toNatClampNeg).1, (w.2.1 p0.toNatClampNeg).2.1, p1)) hr.1 hy hm rfl
      rw [if_pos hl, if_pos rfl]
      refine T_ip hl (fx_0 rfl rfl rfl (T_ip rfl ?_))
      exact s_give h hp hf hr rfl
    · rw [if_neg hl, if_neg nz3]
      exact T_in hl (fx_3 rfl rfl one_ne (T_in one_ne (s_code h nz3 rfl)))
  · exact T_i (fun _ => fx_1 hp (T_in one_ne (s_code h nz1 rfl))) (fun _ => fx_1 hp (T_in one_ne (s_code h nz1 rfl)))
-- moves
theorem ul_E {D : Int64} {d : DT} (h : pkD D d) (hd : dV d) {u p : Int32} (hu : u = 0 ∨ u = 1 ∨ u = 2 ∨ u = 3 ∨ u = 4 ∨ u = 5 ∨ u = 6) {q : Int64} (hq : q.toInt = p.toInt) (hp : -200000 ≤ p.toInt ∧ p.toInt ≤ 200000) :
    (∃ e, o_X3_moved d u q = some (some e) ∧ dV e ∧ pkD (m_X0_unitsLater D u p) e) ∨ (o_X3_moved d u q = some none ∧ m_X0_requireDate (m_X0_unitsLater D u p) ≠ 0) := by
  have e0 : p.toInt64.toInt = p.toInt := ma_l rfl
  have key : ∀ (c : Int64) (k : Int), c.toInt = k → 1 ≤ k → k ≤ 12000 → (c * p.toInt64).toInt = k * p.toInt ∧ (c * q).toInt = k * p.toInt ∧ -2400000000 ≤ k * p.toInt ∧ k * p.toInt ≤ 2400000000 := fun c k hc h1 h2 => by
    have hm : -2400000000 ≤ k * p.toInt ∧ k * p.toInt ≤ 2400000000 := by
      generalize p.toInt = b at hp
      have k1 : (k * b).natAbs ≤ 12000 * 200000 := by
        rw [Int.natAbs_mul]; exact Nat.mul_le_mul (by omega) (by omega)
      omega
    exact ⟨ma_mul hc e0 (by omega) (by omega), ma_mul hc hq (by omega) (by omega), hm⟩
  rw [mv_F hu]
  unfold m_X0_unitsLater
  rcases hu with rfl | rfl | rfl | rfl | rfl | rfl | rfl
  · rw [if_pos rfl, if_pos rfl]
    have : q = p.toInt64 := Int64.toInt_inj.mp (by rw [hq, e0])
    rw [this]
    exact (pk_dl h hd e0 (by omega) (by omega)).imp id (fun g => ⟨g.1, g.2 (by omega) (by omega)⟩)
  · rw [if_neg (by decide), if_pos rfl, if_neg (by decide), if_pos rfl]
    have : q = p.toInt64 := Int64.toInt_inj.mp (by rw [hq, e0])
    rw [this]
    have k := key 7 7 rfl (by decide) (by decide)
    exact (pk_dl h hd k.1 (by omega) (by omega)).imp id (fun g => ⟨g.1, g.2 (by omega) (by omega)⟩)
  all_goals rw [if_neg (by decide), if_neg (by decide), if_neg (by decide), if_neg (by decide)]
  · rw [if_pos rfl]
    have k := key 1 1 rfl (by decide) (by decide)
    have : mvF 2 * q = p.toInt64 := Int64.toInt_inj.mp (by rw [show mvF 2 = 1 from rfl, k.2.1, e0]; omega)
    rw [this]
    exact (pk_ml h hd e0 (by omega) (by omega)).imp id (fun g => ⟨g.1, g.2 (by omega) (by omega)⟩)
  · rw [if_neg (by decide), if_pos rfl]
    have k := key 12 12 rfl (by decide) (by decide)
    have : mvF 3 * q = 12 * p.toInt64 := Int64.toInt_inj.mp (by rw [show mvF 3 = 12 from rfl, k.2.1, k.1])
    rw [this]
    exact (pk_ml h hd k.1 (by omega) (by omega)).imp id (fun g => ⟨g.1, g.2 (by omega) (by omega)⟩)
  · rw [if_neg (by decide), if_neg (by decide), if_pos rfl]
    have k := key 120 120 rfl (by decide) (by decide)
    have : mvF 4 * q = 120 * p.toInt64 := Int64.toInt_inj.mp (by rw [show mvF 4 = 120 from rfl, k.2.1, k.1])
    rw [this]
    exact (pk_ml h hd k.1 (by omega) (by omega)).imp id (fun g => ⟨g.1, g.2 (by omega) (by omega)⟩)
  · rw [if_neg (by decide), if_neg (by decide), if_neg (by decide), if_pos rfl]
    have k := key 1200 1200 rfl (by decide) (by decide)
    have : mvF 5 * q = 1200 * p.toInt64 := Int64.toInt_inj.mp (by rw [show mvF 5 = 1200 from rfl, k.2.1, k.1])
    rw [this]
    exact (pk_ml h hd k.1 (by omega) (by omega)).imp id (fun g => ⟨g.1, g.2 (by omega) (by omega)⟩)
  · rw [if_neg (by decide), if_neg (by decide), if_neg (by decide), if_neg (by decide)]
    have k := key 12000 12000 rfl (by decide) (by decide)
    have : mvF 6 * q = 12000 * p.toInt64 := Int64.toInt_inj.mp (by rw [show mvF 6 = 12000 from rfl, k.2.1, k.1])
    rw [this]
    exact (pk_ml h hd k.1 (by omega) (by omega)).imp id (fun g => ⟨g.1, g.2 (by omega) (by omega)⟩)
theorem v_id {β : Type} {P : β → Prop} {d : DT} {f : Int32 → Option β} (h : -9999 ≤ d.1.toInt ∧ d.1.toInt ≤ 9999 → T P (f 1)) (h2 : ¬ (-9999 ≤ d.1.toInt ∧ d.1.toInt ≤ 9999) → T P (f 0)) : T P ((o_X3_isDate d).bind f) := by
  have := isin_F (ma_l (a := d.1) rfl) (show (-9999 : Int64).toInt = -9999 from rfl) (show (9999 : Int64).toInt = 9999 from rfl)
  unfold o_X3_isDate
  split
  · rename_i g; exact h2 (this.mp g)
  · rename_i g; exact h (Classical.byContradiction fun q => g (this.mpr q))
theorem am_n {a b : Int32} (hb : b = a ∨ b = -a) : m_X0_requireWithin b (-200000) 200000 = 0 ↔ ¬ m_X3_isIn a.toInt64 (-200000) 200000 = 0 := by
  rcases hb with rfl | rfl
  · exact rw_is (by decide) (by decide)
  · have i := isin_F (ma_l (a := a) rfl) (show (-200000 : Int64).toInt = -200000 from rfl) (show (200000 : Int64).toInt = 200000 from rfl)
    have h1 := Int32.le_toInt a
    have h2 := Int32.toInt_lt a
    have e : m_X0_requireWithin (-a) (-200000) 200000 = 0 ↔ -200000 ≤ (-a).toInt ∧ (-a).toInt ≤ 200000 := rw_iff
    rw [e, i]
    by_cases hm : a.toInt = -2147483648
    · have : (-a).toInt = -2147483648 := by rw [Int32.toInt_neg, hm]; decide
      rw [this, hm]; omega
    · rw [ia_neg rfl (by omega) (by omega)]; omega
theorem mv_b {a b : Int32} (hb : b = a ∨ b = -a) (hw : ¬ m_X3_isIn a.toInt64 (-200000) 200000 = 0) : -200000 ≤ b.toInt ∧ b.toInt ≤ 200000 := rw_iff.mp ((am_n hb).mpr hw)
theorem mv_in {p0 u b : Int32} {z : CS} {w : MS} (h : sR z w) (hp : m_X3_isNo p0 = 0) (hu : u = 0 ∨ u = 1 ∨ u = 2 ∨ u = 3 ∨ u = 4 ∨ u = 5 ∨ u = 6) {q : Int64} (hq : q.toInt = b.toInt) (hb : -200000 ≤ b.toInt ∧ b.toInt ≤ 200000) {f : Option DT → Option (Int32 × MS)}
    (hn : T (sQ (1, 2) 3 0 z) (f none)) (ho : ∀ e, ¬ (-9999 ≤ e.1.toInt ∧ e.1.toInt ≤ 9999) → T (sQ (1, 2) 3 0 z) (f (some e))) (hi : ∀ e, dR e → pkD (m_X0_unitsLater (m_X0_dateAt p0 z).2 u b) e → T (sQ (1, 2) 0 (m_X0_numberOf (m_X0_unitsLater (m_X0_dateAt p0 z).2 u b)).toInt32 (putz z p0 (m_X0_unitsLater (m_X0_dateAt p0 z).2 u b))) (f (some e))) :
    sX (1, 2) (if (m_X0_give p0 (m_X0_unitsLater (m_X0_dateAt p0 z).2 u b) z).1 = 0 then (0, (m_X0_give p0 (m_X0_unitsLater (m_X0_dateAt p0 z).2 u b) z).2.1, (m_X0_give p0 (m_X0_unitsLater (m_X0_dateAt p0 z).2 u b) z).2.2) else ((m_X0_give p0 (m_X0_unitsLater (m_X0_dateAt p0 z).2 u b) z).1, 0, (m_X0_give p0 (m_X0_unitsLater (m_X0_dateAt p0 z).2 u b) z).2.2)) ((o_X3_moved (w.2.1 p0.toNatClampNeg) u q).bind f) := by
  obtain ⟨hD, hd⟩ := at_R h hp
  rcases ul_E hD hd.1 hu hq hb with ⟨e, e1, e2, e3⟩ | ⟨e1, e2⟩
  · by_cases g : -9999 ≤ e.1.toInt ∧ e.1.toInt ≤ 9999
    · rw [give_e0 hp ((pk_rq e3 e2).mpr g), if_pos rfl]
      exact T_b (Q := fun y => y = some e) ⟨_, e1, rfl⟩ (fun y hy => by subst hy; exact hi e ⟨e2, g⟩ e3)
    · rw [gT_3 (fun k => g ((pk_rq e3 e2).mp k))]
      exact T_b (Q := fun y => y = some e) ⟨_, e1, rfl⟩ (fun y hy => by subst hy; exact ho e g)
  · rw [gT_3 e2]
    exact T_b (Q := fun y => y = none) ⟨_, e1, rfl⟩ (fun y hy => by subst hy; exact hn)
theorem gv_in {p : Int32} {D : Int64} {d : DT} {z : CS} {w : MS} (h : sR z w) (hp : m_X3_isNo p = 0) (hD : pkD D d) (hd : dR d) (ht : w.1 = 0) : T (sQ (1, 2) 0 (m_X0_numberOf D).toInt32 (putz z p D)) ((o_X3_gives p d w).bind fun x => some (x.1, x.2)) := by
  obtain ⟨v, e1, e2⟩ := gives_e (w := w) hp hd.1
  rw [e2]
  exact ⟨_, rfl, sR_put h hD hd, ht, fun _ => pk_nuI hD hd.1 e1⟩
theorem sm_moves (p0 u a b p3 : Int32) {z : CS} {w : MS} (h : sR z w) (hu : u = 0 ∨ u = 1 ∨ u = 2 ∨ u = 3 ∨ u = 4 ∨ u = 5 ∨ u = 6) (hb : (b = a ∧ p3 = 0) ∨ (b = -a ∧ ¬ p3 = 0)) : sX (1, 2) (m_X0_move p0 u b z) (o_X3_moves p0 u a p3 w) := by
  have hb2 : b = a ∨ b = -a := hb.imp And.left And.left
  unfold m_X0_move o_X3_moves
  rw [am_e]
  refine X_at (fun hp => ?_) (fun hp => T_i (fun _ => fx_1 hp (T_in one_ne (s_code h nz1 rfl))) (fun _ => fx_1 hp (T_in one_ne (s_code h nz1 rfl))))
  by_cases hw : m_X3_isIn a.toInt64 (-200000) 200000 = 0
  · have n : ¬ m_X0_requireWithin b (-200000) 200000 = 0 := fun g => (am_n hb2).mp g hw
    rw [if_neg n, rw_c n]
    exact T_ip hw (fx_2 hp (by decide) (T_in one_ne (s_code h nz2 rfl)))
  · have r := mv_b hb2 hw
    rw [if_pos ((am_n hb2).mpr hw)]
    refine T_in hw (fx_0 hp rfl rfl (T_ip rfl (T_g6 hp ?_)))
    rcases hb with ⟨e, e3⟩ | ⟨e, e3⟩
    · subst e
      refine T_ip e3 ?_
      exact mv_in h hp hu (ma_l rfl) r (T_en (T_dn (T_ip rfl (fx_3 rfl rfl one_ne (T_in one_ne (s_code h nz3 rfl)))))) (fun e g => T_es (v_id (fun k => absurd k g) (fun _ => T_ip rfl (fx_3 rfl rfl one_ne (T_in one_ne (s_code h nz3 rfl)))))) (fun e he hE => T_es (v_id (fun _ => T_in one_ne (fx_0 rfl rfl rfl (T_ip rfl (gv_in h hp hE he rfl)))) (fun k => absurd he.2 k)))
    · subst e
      refine T_in e3 ?_
      exact mv_in h hp hu (ma_l rfl) r (T_en (T_dn (T_ip rfl (fx_3 rfl rfl one_ne (T_in one_ne (s_code h nz3 rfl)))))) (fun e g => T_es (v_id (fun k => absurd k g) (fun _ => T_ip rfl (fx_3 rfl rfl one_ne (T_in one_ne (s_code h nz3 rfl)))))) (fun e he hE => T_es (v_id (fun _ => T_in one_ne (fx_0 rfl rfl rfl (T_ip rfl (gv_in h hp hE he rfl)))) (fun k => absurd he.2 k)))
theorem X_w {k : Nat × Nat} {x : Nat × Int32 × CS} {y : Option (Int32 × MS)} (h : sX k x y) : sX k (if x.1 = 0 then (0, x.2.1, x.2.2) else (x.1, 0, x.2.2)) (y.bind fun r => some (r.1, r.2)) := by
  obtain ⟨r, rfl, h1, h2, h3⟩ := h
  by_cases g : x.1 = 0
  · rw [if_pos g]; exact ⟨_, rfl, h1, by rw [h2, g], fun _ => h3 g⟩
  · rw [if_neg g]; exact ⟨_, rfl, h1, h2, fun k => absurd k g⟩
theorem sm_plusDays (p0 p1 : Int32) {z : CS} {w : MS} (h : sR z w) : sX (1, 2) (m_X0_plusDays p0 p1 z) (o_X3_plusDays p0 p1 w) := X_w (sm_moves p0 0 p1 p1 0 h (u_c (by decide)) (Or.inl ⟨rfl, rfl⟩))
theorem sm_plusWeeks (p0 p1 : Int32) {z : CS} {w : MS} (h : sR z w) : sX (1, 2) (m_X0_plusWeeks p0 p1 z) (o_X3_plusWeeks p0 p1 w) := X_w (sm_moves p0 1 p1 p1 0 h (u_c (by decide)) (Or.inl ⟨rfl, rfl⟩))
theorem sm_plusMonths (p0 p1 : Int32) {z : CS} {w : MS} (h : sR z w) : sX (1, 2) (m_X0_plusMonths p0 p1 z) (o_X3_plusMonths p0 p1 w) := X_w (sm_moves p0 2 p1 p1 0 h (u_c (by decide)) (Or.inl ⟨rfl, rfl⟩))
theorem sm_plusYears (p0 p1 : Int32) {z : CS} {w : MS} (h : sR z w) : sX (1, 2) (m_X0_plusYears p0 p1 z) (o_X3_plusYears p0 p1 w) := X_w (sm_moves p0 3 p1 p1 0 h (u_c (by decide)) (Or.inl ⟨rfl, rfl⟩))
theorem sm_minusDays (p0 p1 : Int32) {z : CS} {w : MS} (h : sR z w) : sX (1, 2) (m_X0_minusDays p0 p1 z) (o_X3_minusDays p0 p1 w) := X_w (sm_moves p0 0 p1 (-p1) 1 h (u_c (by decide)) (Or.inr ⟨rfl, by decide⟩))
theorem sm_minusWeeks (p0 p1 : Int32) {z : CS} {w : MS} (h : sR z w) : sX (1, 2) (m_X0_minusWeeks p0 p1 z) (o_X3_minusWeeks p0 p1 w) := X_w (sm_moves p0 1 p1 (-p1) 1 h (u_c (by decide)) (Or.inr ⟨rfl, by decide⟩))
theorem sm_minusMonths (p0 p1 : Int32) {z : CS} {w : MS} (h : sR z w) : sX (1, 2) (m_X0_minusMonths p0 p1 z) (o_X3_minusMonths p0 p1 w) := X_w (sm_moves p0 2 p1 (-p1) 1 h (u_c (by decide)) (Or.inr ⟨rfl, by decide⟩))
theorem sm_minusYears (p0 p1 : Int32) {z : CS} {w : MS} (h : sR z w) : sX (1, 2) (m_X0_minusYears p0 p1 z) (o_X3_minusYears p0 p1 w) := X_w (sm_moves p0 3 p1 (-p1) 1 h (u_c (by decide)) (Or.inr ⟨rfl, by decide⟩))
theorem sm_wouldBe (p0 p1 p2 : Int32) {z : CS} {w : MS} (h : sR z w) : sO (1, 2) z (m_X0_wouldBe p0 p1 p2 z) (o_X3_wouldBe p0 p1 p2 w) := by
  unfold m_X0_wouldBe o_X3_wouldBe
  rw [un_e, am_e]
  refine O_at (fun hp => O_rw (A := 0) (B := 6) (by decide) (by decide) (fun hu => O_rw (A := -200000) (B := 200000) (by decide) (by decide) (fun hw => ?_) (fun hw => ?_)) (fun hu => ?_)) (fun hp => ?_)
  · obtain ⟨hD, hd⟩ := at_R h hp
    refine T_in hu (T_in hw (fx_0 hp rfl rfl (T_ip rfl (T_g6 hp ?_))))
    rcases ul_E hD hd.1 (u_06 hu) (q := p2.toInt64) (ma_l rfl) (i2_m hw) with ⟨e, e1, e2, e3⟩ | ⟨e1, e2⟩
    · by_cases g : -9999 ≤ e.1.toInt ∧ e.1.toInt ≤ 9999
      · rw [if_pos ((pk_rq e3 e2).mpr g)]
        refine T_b (Q := fun y => y = some e) ⟨_, e1, rfl⟩ (fun y hy => ?_)
        subst hy
        exact T_es (v_id (fun _ => T_in one_ne (fx_0 rfl rfl rfl (T_ip rfl (v_nu e2 (fun v hv => s_val h (pk_nuI e3 e2 hv)))))) (fun k => absurd g k))
      · have n : ¬ m_X0_requireDate (m_X0_unitsLater (m_X0_dateAt p0 z).2 p1 p2) = 0 := fun k => g ((pk_rq e3 e2).mp k)
        rw [if_neg n, (oc_requireDate _).resolve_left n]
        refine T_b (Q := fun y => y = some e) ⟨_, e1, rfl⟩ (fun y hy => ?_)
        subst hy
        exact T_es (v_id (fun k => absurd k g) (fun _ => T_ip rfl (fx_3 rfl rfl one_ne (T_in one_ne (s_code h nz3 rfl)))))
    · rw [if_neg e2, (oc_requireDate _).resolve_left e2]
      refine T_b (Q := fun y => y = none) ⟨_, e1, rfl⟩ (fun y hy => ?_)
      subst hy
      exact T_en (T_dn (T_ip rfl (fx_3 rfl rfl one_ne (T_in one_ne (s_code h nz3 rfl)))))
  · exact T_in hu (T_ip hw (fx_2 hp (by decide) (T_in one_ne (s_code h nz2 rfl))))
  · exact T_ip hu (fx_2 hp (by decide) (T_in one_ne (s_code h nz2 rfl)))
  · exact T_i (fun _ => fx_1 hp (T_in one_ne (s_code h nz1 rfl))) (fun _ => T_i (fun _ => fx_1 hp (T_in one_ne (s_code h nz1 rfl))) (fun _ => fx_1 hp (T_in one_ne (s_code h nz1 rfl))))
theorem sm_swap (p0 p1 : Int32) {z : CS} {w : MS} (h : sR z w) : sX (1, 2) (m_X0_swap p0 p1 z) (o_X3_swap p0 p1 w) := by
  unfold m_X0_swap o_X3_swap
  refine X_at (fun hp => X_at (fun hq => ?_) (fun hq => T_ip hp (T_in hq (fx_1 (by decide) (T_in one_ne (s_code h nz1 rfl)))))) (fun hp => T_in hp (fx_1 (by decide) (T_in one_ne (s_code h nz1 rfl))))
  obtain ⟨hD, hd⟩ := at_R h hp
  obtain ⟨hE, he⟩ := at_R h hq
  have e1 : m_X0_put p1 (m_X0_dateAt p0 z).2 z = _ := put_e hq
  rw [e1, if_pos rfl, give_e0 hp ((pk_rq hE he.1).mpr he.2), if_pos rfl]
  refine T_ip hp (T_ip hq (fx_0 rfl rfl rfl (T_ip rfl (T_g6 hp (T_g6 hq (T_g6 hp (T_g6 hq (T_g6 hp ?_))))))))
  have hn : (dput (dput ((0 : Int32), w.2) p0.toNatClampNeg (w.2.1 p1.toNatClampNeg)) p1.toNatClampNeg (w.2.1 p0.toNatClampNeg)).2.1 p0.toNatClampNeg = w.2.1 p1.toNatClampNeg := by
    unfold dput
    simp only [va_up]
    by_cases g : p0.toNatClampNeg = p1.toNatClampNeg
    · rw [if_pos g, g]
    · rw [if_neg g, if_pos trivial]
  have hR : ∀ i, i < 6 → pkD (vp_updL (vp_updL z.1 p1.toNatClampNeg (m_X0_dateAt p0 z).2) p0.toNatClampNeg (m_X0_dateAt p1 z).2 i) ((dput (dput ((0 : Int32), w.2) p0.toNatClampNeg (w.2.1 p1.toNatClampNeg)) p1.toNatClampNeg (w.2.1 p0.toNatClampNeg)).2.1 i) ∧ dR ((dput (dput ((0 : Int32), w.2) p0.toNatClampNeg (w.2.1 p1.toNatClampNeg)) p1.toNatClampNeg (w.2.1 p0.toNatClampNeg)).2.1 i) := fun i hi => by
    unfold dput
    simp only [va_up]
    by_cases g : i = p1.toNatClampNeg
    · rw [if_pos g]
      by_cases g2 : i = p0.toNatClampNeg
      · subst g2; rw [pk_uLs, g]; rw [g] at hd; exact ⟨hE, he⟩
      · rw [pk_uLn g2]; subst g; rw [pk_uLs]; exact ⟨hD, hd⟩
    · rw [if_neg g]
      by_cases g2 : i = p0.toNatClampNeg
      · subst g2; rw [if_pos rfl, pk_uLs]; exact ⟨hE, he⟩
      · rw [if_neg g2, pk_uLn g2, pk_uLn g]; exact h.1 i hi
  obtain ⟨v, a1, a2⟩ := nu_F he.1
  refine T_b (Q := fun x => x = v) ⟨v, (congrArg o_X2_number hn).trans a1, rfl⟩ (fun x hx => ?_)
  subst hx
  exact ⟨_, rfl, ⟨hR, h.2.1, by show z.2.2.2.2.1 + 1 = w.2.2.2.2.1 + 1; rw [h.2.2.1], h.2.2.2⟩, rfl, fun _ => pk_nuI hE he.1 a2⟩
