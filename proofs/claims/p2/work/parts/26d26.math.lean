theorem v_id {β : Type} {P : β → Prop} {d : DT} {f : Int32 → Option β} (h : -9999 ≤ d.1.toInt ∧ d.1.toInt ≤ 9999 → T P (f 1)) (h2 : ¬ (-9999 ≤ d.1.toInt ∧ d.1.toInt ≤ 9999) → T P (f 0)) : T P ((o_X3_isDate d).bind f) := by
  have := isin_F (ma_l (a := d.1) rfl) (show (-9999 : Int64).toInt = -9999 from rfl) (show (9999 : Int64).toInt = 9999 from rfl)
  unfold o_X3_isDate
  split
  · rename_i g; exact h2 (this.mp g)
  · rename_i g; exact h (Classical.byContradiction fun q => g (this.mpr q))
theorem am_n {a b : Int32} (hb : b = a ∨ b = -a) : m_X0_requireWithin b (-200000) 200000 = 0 ↔ ¬ m_X3_isIn a.toInt64 (-200000) 200000 = 0 := by
  rcases hb with rfl | rfl
  · exact rw_is (by decide) (by decide)
  · have i := isin_F (ma_l (a := a) rfl) (show (-200000 : Int64).toInt = -200000 from rfl) (show (200000 : Int64).toInt = 200000 from rfl)
    have h1 := Int32.le_toInt a
    have h2 := Int32.toInt_lt a
    have e : m_X0_requireWithin (-a) (-200000) 200000 = 0 ↔ -200000 ≤ (-a).toInt ∧ (-a).toInt ≤ 200000 := rw_iff
    rw [e, i]
    by_cases hm : a.toInt = -2147483648
    · have : (-a).toInt = -2147483648 := by rw [Int32.toInt_neg, hm]; decide
      rw [this, hm]; omega
    · rw [ia_neg rfl (by omega) (by omega)]; omega
theorem mv_b {a b : Int32} (hb : b = a ∨ b = -a) (hw : ¬ m_X3_isIn a.toInt64 (-200000) 200000 = 0) : -200000 ≤ b.toInt ∧ b.toInt ≤ 200000 := rw_iff.mp ((am_n hb).mpr hw)
theorem mv_in {p0 u b : Int32} {z : CS} {w : MS} (h : sR z w) (hp : m_X3_isNo p0 = 0) (hu : u = 0 ∨ u = 1 ∨ u = 2 ∨ u = 3 ∨ u = 4 ∨ u = 5 ∨ u = 6) {q : Int64} (hq : q.toInt = b.toInt) (hb : -200000 ≤ b.toInt ∧ b.toInt ≤ 200000) {f : Option DT → Option (Int32 × MS)}
    (hn : T (sQ (1, 2) 3 0 z) (f none)) (ho : ∀ e, ¬ (-9999 ≤ e.1.toInt ∧ e.1.toInt ≤ 9999) → T (sQ (1, 2) 3 0 z) (f (some e))) (hi : ∀ e, dR e → pkD (m_X0_unitsLater (m_X0_dateAt p0 z).2 u b) e → T (sQ (1, 2) 0 (m_X0_numberOf (m_X0_unitsLater (m_X0_dateAt p0 z).2 u b)).toInt32 (putz z p0 (m_X0_unitsLater (m_X0_dateAt p0 z).2 u b))) (f (some e))) :
    sX (1, 2) (if (m_X0_give p0 (m_X0_unitsLater (m_X0_dateAt p0 z).2 u b) z).1 = 0 then (0, (m_X0_give p0 (m_X0_unitsLater (m_X0_dateAt p0 z).2 u b) z).2.1, (m_X0_give p0 (m_X0_unitsLater (m_X0_dateAt p0 z).2 u b) z).2.2) else ((m_X0_give p0 (m_X0_unitsLater (m_X0_dateAt p0 z).2 u b) z).1, 0, (m_X0_give p0 (m_X0_unitsLater (m_X0_dateAt p0 z).2 u b) z).2.2)) ((o_X3_moved (w.2.1 p0.toNatClampNeg) u q).bind f) := by
  obtain ⟨hD, hd⟩ := at_R h hp
  rcases ul_E hD hd.1 hu hq hb with ⟨e, e1, e2, e3⟩ | ⟨e1, e2⟩
  · by_cases g : -9999 ≤ e.1.toInt ∧ e.1.toInt ≤ 9999
    · rw [give_e0 hp ((pk_rq e3 e2).mpr g), if_pos rfl]
      exact T_b (Q := fun y => y = some e) ⟨_, e1, rfl⟩ (fun y hy => by subst hy; exact hi e ⟨e2, g⟩ e3)
    · rw [gT_3 (fun k => g ((pk_rq e3 e2).mp k))]
      exact T_b (Q := fun y => y = some e) ⟨_, e1, rfl⟩ (fun y hy => by subst hy; exact ho e g)
  · rw [gT_3 e2]
    exact T_b (Q := fun y => y = none) ⟨_, e1, rfl⟩ (fun y hy => by subst hy; exact hn)
theorem gv_in {p : Int32} {D : Int64} {d : DT} {z : CS} {w : MS} (h : sR z w) (hp : m_X3_isNo p = 0) (hD : pkD D d) (hd : dR d) (ht : w.1 = 0) : T (sQ (1, 2) 0 (m_X0_numberOf D).toInt32 (putz z p D)) ((o_X3_gives p d w).bind fun x => some (x.1, x.2)) := by
  obtain ⟨v, e1, e2⟩ := gives_e (w := w) hp hd.1
  rw [e2]
  exact ⟨_, rfl, sR_put h hD hd, ht, fun _ => pk_nuI hD hd.1 e1⟩
theorem sm_moves (p0 u a b p3 : Int32) {z : CS} {w : MS} (h : sR z w) (hu : u = 0 ∨ u = 1 ∨ u = 2 ∨ u = 3 ∨ u = 4 ∨ u = 5 ∨ u = 6) (hb : (b = a ∧ p3 = 0) ∨ (b = -a ∧ ¬ p3 = 0)) : sX (1, 2) (m_X0_move p0 u b z) (o_X3_moves p0 u a p3 w) := by
  have hb2 : b = a ∨ b = -a := hb.imp And.left And.left
  unfold m_X0_move o_X3_moves
  rw [am_e]
  refine X_at (fun hp => ?_) (fun hp => T_i (fun _ => fx_1 hp (T_in one_ne (s_code h nz1 rfl))) (fun _ => fx_1 hp (T_in one_ne (s_code h nz1 rfl))))
  by_cases hw : m_X3_isIn a.toInt64 (-200000) 200000 = 0
  · have n : ¬ m_X0_requireWithin b (-200000) 200000 = 0 := fun g => (am_n hb2).mp g hw
    rw [if_neg n, rw_c n]
    exact T_ip hw (fx_2 hp (by decide) (T_in one_ne (s_code h nz2 rfl)))
  · have r := mv_b hb2 hw
    rw [if_pos ((am_n hb2).mpr hw)]
    refine T_in hw (fx_0 hp rfl rfl (T_ip rfl (T_g6 hp ?_)))
    rcases hb with ⟨e, e3⟩ | ⟨e, e3⟩
    · subst e
      refine T_ip e3 ?_
      exact mv_in h hp hu (ma_l rfl) r (T_en (T_dn (T_ip rfl (fx_3 rfl rfl one_ne (T_in one_ne (s_code h nz3 rfl)))))) (fun e g => T_es (v_id (fun k => absurd k g) (fun _ => T_ip rfl (fx_3 rfl rfl one_ne (T_in one_ne (s_code h nz3 rfl)))))) (fun e he hE => T_es (v_id (fun _ => T_in one_ne (fx_0 rfl rfl rfl (T_ip rfl (gv_in h hp hE he rfl)))) (fun k => absurd he.2 k)))
    · subst e
      refine T_in e3 ?_
      exact mv_in h hp hu (ma_l rfl) r (T_en (T_dn (T_ip rfl (fx_3 rfl rfl one_ne (T_in one_ne (s_code h nz3 rfl)))))) (fun e g => T_es (v_id (fun k => absurd k g) (fun _ => T_ip rfl (fx_3 rfl rfl one_ne (T_in one_ne (s_code h nz3 rfl)))))) (fun e he hE => T_es (v_id (fun _ => T_in one_ne (fx_0 rfl rfl rfl (T_ip rfl (gv_in h hp hE he rfl)))) (fun k => absurd he.2 k)))
