theorem X_w {k : Nat × Nat} {x : Nat × Int32 × CS} {y : Option (Int32 × MS)} (h : sX k x y) : sX k (if x.1 = 0 then (0, x.2.1, x.2.2) else (x.1, 0, x.2.2)) (y.bind fun r => some (r.1, r.2)) := by
  obtain ⟨r, rfl, h1, h2, h3⟩ := h
  by_cases g : x.1 = 0
  · rw [if_pos g]; exact ⟨_, rfl, h1, by rw [h2, g], fun _ => h3 g⟩
  · rw [if_neg g]; exact ⟨_, rfl, h1, h2, fun k => absurd k g⟩
theorem sm_plusDays (p0 p1 : Int32) {z : CS} {w : MS} (h : sR z w) : sX (1, 2) (m_X0_plusDays p0 p1 z) (o_X3_plusDays p0 p1 w) := X_w (sm_moves p0 0 p1 p1 0 h (u_c (by decide)) (Or.inl ⟨rfl, rfl⟩))
theorem sm_plusWeeks (p0 p1 : Int32) {z : CS} {w : MS} (h : sR z w) : sX (1, 2) (m_X0_plusWeeks p0 p1 z) (o_X3_plusWeeks p0 p1 w) := X_w (sm_moves p0 1 p1 p1 0 h (u_c (by decide)) (Or.inl ⟨rfl, rfl⟩))
theorem sm_plusMonths (p0 p1 : Int32) {z : CS} {w : MS} (h : sR z w) : sX (1, 2) (m_X0_plusMonths p0 p1 z) (o_X3_plusMonths p0 p1 w) := X_w (sm_moves p0 2 p1 p1 0 h (u_c (by decide)) (Or.inl ⟨rfl, rfl⟩))
theorem sm_plusYears (p0 p1 : Int32) {z : CS} {w : MS} (h : sR z w) : sX (1, 2) (m_X0_plusYears p0 p1 z) (o_X3_plusYears p0 p1 w) := X_w (sm_moves p0 3 p1 p1 0 h (u_c (by decide)) (Or.inl ⟨rfl, rfl⟩))
theorem sm_minusDays (p0 p1 : Int32) {z : CS} {w : MS} (h : sR z w) : sX (1, 2) (m_X0_minusDays p0 p1 z) (o_X3_minusDays p0 p1 w) := X_w (sm_moves p0 0 p1 (-p1) 1 h (u_c (by decide)) (Or.inr ⟨rfl, by decide⟩))
theorem sm_minusWeeks (p0 p1 : Int32) {z : CS} {w : MS} (h : sR z w) : sX (1, 2) (m_X0_minusWeeks p0 p1 z) (o_X3_minusWeeks p0 p1 w) := X_w (sm_moves p0 1 p1 (-p1) 1 h (u_c (by decide)) (Or.inr ⟨rfl, by decide⟩))
theorem sm_minusMonths (p0 p1 : Int32) {z : CS} {w : MS} (h : sR z w) : sX (1, 2) (m_X0_minusMonths p0 p1 z) (o_X3_minusMonths p0 p1 w) := X_w (sm_moves p0 2 p1 (-p1) 1 h (u_c (by decide)) (Or.inr ⟨rfl, by decide⟩))
theorem sm_minusYears (p0 p1 : Int32) {z : CS} {w : MS} (h : sR z w) : sX (1, 2) (m_X0_minusYears p0 p1 z) (o_X3_minusYears p0 p1 w) := X_w (sm_moves p0 3 p1 (-p1) 1 h (u_c (by decide)) (Or.inr ⟨rfl, by decide⟩))
theorem sm_wouldBe (p0 p1 p2 : Int32) {z : CS} {w : MS} (h : sR z w) : sO (1, 2) z (m_X0_wouldBe p0 p1 p2 z) (o_X3_wouldBe p0 p1 p2 w) := by
  unfold m_X0_wouldBe o_X3_wouldBe
  rw [un_e, am_e]
  refine O_at (fun hp => O_rw (A := 0) (B := 6) (by decide) (by decide) (fun hu => O_rw (A := -200000) (B := 200000) (by decide) (by decide) (fun hw => ?_) (fun hw => ?_)) (fun hu => ?_)) (fun hp => ?_)
  · obtain ⟨hD, hd⟩ := at_R h hp
    refine T_in hu (T_in hw (fx_0 hp rfl rfl (T_ip rfl (T_g6 hp ?_))))
    rcases ul_E hD hd.1 (u_06 hu) (q := p2.toInt64) (ma_l rfl) (i2_m hw) with ⟨e, e1, e2, e3⟩ | ⟨e1, e2⟩
    · by_cases g : -9999 ≤ e.1.toInt ∧ e.1.toInt ≤ 9999
      · rw [if_pos ((pk_rq e3 e2).mpr g)]
        refine T_b (Q := fun y => y = some e) ⟨_, e1, rfl⟩ (fun y hy => ?_)
        subst hy
        exact T_es (v_id (fun _ => T_in one_ne (fx_0 rfl rfl rfl (T_ip rfl (v_nu e2 (fun v hv => s_val h (pk_nuI e3 e2 hv)))))) (fun k => absurd g k))
      · have n : ¬ m_X0_requireDate (m_X0_unitsLater (m_X0_dateAt p0 z).2 p1 p2) = 0 := fun k => g ((pk_rq e3 e2).mp k)
        rw [if_neg n, (oc_requireDate _).resolve_left n]
        refine T_b (Q := fun y => y = some e) ⟨_, e1, rfl⟩ (fun y hy => ?_)
        subst hy
        exact T_es (v_id (fun k => absurd k g) (fun _ => T_ip rfl (fx_3 rfl rfl one_ne (T_in one_ne (s_code h nz3 rfl)))))
    · rw [if_neg e2, (oc_requireDate _).resolve_left e2]
      refine T_b (Q := fun y => y = none) ⟨_, e1, rfl⟩ (fun y hy => ?_)
      subst hy
      exact T_en (T_dn (T_ip rfl (fx_3 rfl rfl one_ne (T_in one_ne (s_code h nz3 rfl)))))
  · exact T_in hu (T_ip hw (fx_2 hp (by decide) (T_in one_ne (s_code h nz2 rfl))))
  · exact T_ip hu (fx_2 hp (by decide) (T_in one_ne (s_code h nz2 rfl)))
  · exact T_i (fun _ => fx_1 hp (T_in one_ne (s_code h nz1 rfl))) (fun _ => T_i (fun _ => fx_1 hp (T_in one_ne (s_code h nz1 rfl))) (fun _ => fx_1 hp (T_in one_ne (s_code h nz1 rfl))))
theorem sm_swap (p0 p1 : Int32) {z : CS} {w : MS} (h : sR z w) : sX (1, 2) (m_X0_swap p0 p1 z) (o_X3_swap p0 p1 w) := by
  unfold m_X0_swap o_X3_swap
  refine X_at (fun hp => X_at (fun hq => ?_) (fun hq => T_ip hp (T_in hq (fx_1 (by decide) (T_in one_ne (s_code h nz1 rfl)))))) (fun hp => T_in hp (fx_1 (by decide) (T_in one_ne (s_code h nz1 rfl))))
  obtain ⟨hD, hd⟩ := at_R h hp
  obtain ⟨hE, he⟩ := at_R h hq
  have e1 : m_X0_put p1 (m_X0_dateAt p0 z).2 z = _ := put_e hq
  rw [e1, if_pos rfl, give_e0 hp ((pk_rq hE he.1).mpr he.2), if_pos rfl]
  refine T_ip hp (T_ip hq (fx_0 rfl rfl rfl (T_ip rfl (T_g6 hp (T_g6 hq (T_g6 hp (T_g6 hq (T_g6 hp ?_))))))))
  have hn : (dput (dput ((0 : Int32), w.2) p0.toNatClampNeg (w.2.1 p1.toNatClampNeg)) p1.toNatClampNeg (w.2.1 p0.toNatClampNeg)).2.1 p0.toNatClampNeg = w.2.1 p1.toNatClampNeg := by
    unfold dput
    simp only [va_up]
    by_cases g : p0.toNatClampNeg = p1.toNatClampNeg
    · rw [if_pos g, g]
    · rw [if_neg g, if_pos trivial]
  have hR : ∀ i, i < 6 → pkD (vp_updL (vp_updL z.1 p1.toNatClampNeg (m_X0_dateAt p0 z).2) p0.toNatClampNeg (m_X0_dateAt p1 z).2 i) ((dput (dput ((0 : Int32), w.2) p0.toNatClampNeg (w.2.1 p1.toNatClampNeg)) p1.toNatClampNeg (w.2.1 p0.toNatClampNeg)).2.1 i) ∧ dR ((dput (dput ((0 : Int32), w.2) p0.toNatClampNeg (w.2.1 p1.toNatClampNeg)) p1.toNatClampNeg (w.2.1 p0.toNatClampNeg)).2.1 i) := fun i hi => by
    unfold dput
    simp only [va_up]
    by_cases g : i = p1.toNatClampNeg
    · rw [if_pos g]
      by_cases g2 : i = p0.toNatClampNeg
      · subst g2; rw [pk_uLs, g]; rw [g] at hd; exact ⟨hE, he⟩
      · rw [pk_uLn g2]; subst g; rw [pk_uLs]; exact ⟨hD, hd⟩
    · rw [if_neg g]
      by_cases g2 : i = p0.toNatClampNeg
      · subst g2; rw [if_pos rfl, pk_uLs]; exact ⟨hE, he⟩
      · rw [if_neg g2, pk_uLn g2, pk_uLn g]; exact h.1 i hi
  obtain ⟨v, a1, a2⟩ := nu_F he.1
  refine T_b (Q := fun x => x = v) ⟨v, (congrArg o_X2_number hn).trans a1, rfl⟩ (fun x hx => ?_)
  subst hx
  exact ⟨_, rfl, ⟨hR, h.2.1, by show z.2.2.2.2.1 + 1 = w.2.2.2.2.1 + 1; rw [h.2.2.1], h.2.2.2⟩, rfl, fun _ => pk_nuI hE he.1 a2⟩
