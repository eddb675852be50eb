-- spans
def spz (z : CS) (p a b c : Int32) : CS := (z.1, upd z.2.1 p.toNatClampNeg a, upd z.2.2.1 p.toNatClampNeg b, upd z.2.2.2.1 p.toNatClampNeg c, z.2.2.2.2.1 + 1, z.2.2.2.2.2)
theorem gS_e {p a b c : Int32} {z : CS} (hp : m_X3_isNoSpan p = 0) : m_X0_giveSpan p a b c z = (0, spz z p a b c) := by
  have e : m_X0_putSpan p a b c z = (0, (z.1, (upd z.2.1 p.toNatClampNeg a), (upd z.2.2.1 p.toNatClampNeg b), upd z.2.2.2.1 p.toNatClampNeg c, z.2.2.2.2.1, z.2.2.2.2.2)) := by
    unfold m_X0_putSpan; rw [if_pos (sp_no.mpr hp)]
  unfold m_X0_giveSpan
  rw [e]; rfl
def spw (w : MS) (p a b c : Int32) : MS := sput (sput (sput (w.1, w.2.1, w.2.2.1, w.2.2.2.1, w.2.2.2.2.1 + (1 : Int32), w.2.2.2.2.2) p.toNatClampNeg (0 : Int32).toNatClampNeg a) p.toNatClampNeg (1 : Int32).toNatClampNeg b) p.toNatClampNeg (2 : Int32).toNatClampNeg c
theorem tl_E {p a b c : Int32} {w : MS} (hp : m_X3_isNoSpan p = 0) : o_X3_tells p a b c w = some (c, spw w p a b c) := by
  have := ps_F.mp hp
  unfold o_X3_tells
  rw [if_neg (cl_F (n := 2) (by omega)), if_neg (cl_F (n := 2) (by omega)), if_neg (cl_F (n := 2) (by omega))]; rfl
theorem sg_s {W : MS} {n j : Nat} {v : Int32} : sget (sput W n j v) n j = v := by
  unfold sget sput
  by_cases g : n = 0 <;> simp [g, upd]
theorem sg_j {W : MS} {n j i : Nat} {v : Int32} (h : i ≠ j) : sget (sput W n j v) n i = sget W n i := by
  unfold sget sput
  by_cases g : n = 0 <;> simp [g, upd, h]
theorem sg_n {W : MS} {n m j i : Nat} {v : Int32} (hn : n < 2) (hm : m < 2) (h : m ≠ n) : sget (sput W n j v) m i = sget W m i := by
  unfold sget sput
  rcases (show n = 0 ∨ n = 1 by omega) with rfl | rfl <;> rcases (show m = 0 ∨ m = 1 by omega) with rfl | rfl
  · exact absurd rfl h
  · simp
  · simp
  · exact absurd rfl h
theorem sR_sp {p a b c : Int32} {z : CS} {w : MS} (h : sR z w) (hp : m_X3_isNoSpan p = 0) (ha : spB a) (hb : spB b) (hc : spB c) : sR (spz z p a b c) (spw w p a b c) := by
  have hp2 := ps_F.mp hp
  have e : p.toNatClampNeg = p.toInt.toNat := rfl
  have hn : p.toNatClampNeg < 2 := by omega
  have c0 : (0 : Int32).toNatClampNeg = 0 := by decide
  have c1 : (1 : Int32).toNatClampNeg = 1 := by decide
  have c2 : (2 : Int32).toNatClampNeg = 2 := by decide
  refine ⟨h.1, fun s hs => ?_, by show z.2.2.2.2.1 + 1 = w.2.2.2.2.1 + 1; rw [h.2.2.1], h.2.2.2⟩
  have k := h.2.1 s hs
  show (upd z.2.1 p.toNatClampNeg a s = sget (spw w p a b c) s 0 ∧ upd z.2.2.1 p.toNatClampNeg b s = sget (spw w p a b c) s 1 ∧ upd z.2.2.2.1 p.toNatClampNeg c s = sget (spw w p a b c) s 2) ∧ spB (upd z.2.1 p.toNatClampNeg a s) ∧ spB (upd z.2.2.1 p.toNatClampNeg b s) ∧ spB (upd z.2.2.2.1 p.toNatClampNeg c s)
  unfold spw
  rw [c0, c1, c2]
  by_cases g : s = p.toNatClampNeg
  · subst g
    rw [pk_us, pk_us, pk_us, sg_j (show (0 : Nat) ≠ 2 by decide), sg_j (show (0 : Nat) ≠ 1 by decide), sg_s, sg_j (show (1 : Nat) ≠ 2 by decide), sg_s, sg_s]
    exact ⟨⟨rfl, rfl, rfl⟩, ha, hb, hc⟩
  · rw [pk_un g, pk_un g, pk_un g, sg_n hn hs g, sg_n hn hs g, sg_n hn hs g, sg_n hn hs g, sg_n hn hs g, sg_n hn hs g, sg_n hn hs g, sg_n hn hs g, sg_n hn hs g]
    exact k
theorem O_nm {k : Nat × Nat} {p : Int32} {z : CS} {X : Nat × Int32 × CS} {y : Option (Int32 × MS)} (h1 : ¬ m_X3_isNumber p = 0 → spB p → sX k X y) (h2 : m_X3_isNumber p = 0 → sX k (2, 0, z) y) : sX k (if m_X0_requireWithin p (-100000) 100000 = 0 then X else (m_X0_requireWithin p (-100000) 100000, 0, z)) y := by
  have e : m_X0_requireWithin p (-100000) 100000 = 0 ↔ ¬ m_X3_isNumber p = 0 := rw_is (by decide) (by decide)
  by_cases g : m_X3_isNumber p = 0
  · have n : ¬ m_X0_requireWithin p (-100000) 100000 = 0 := fun q => e.mp q g
    rw [if_neg n, rw_c n]; exact h2 g
  · rw [if_pos (e.mpr g)]; exact h1 g (rw_iff.mp (e.mpr g))
theorem sm_span (p0 p1 p2 p3 : Int32) {z : CS} {w : MS} (h : sR z w) : sX (1, 2) (m_X0_span p0 p1 p2 p3 z) (o_X3_span p0 p1 p2 p3 w) := by
  unfold m_X0_span o_X3_span
  refine X_sp (fun hp => O_nm (fun n1 b1 => O_nm (fun n2 b2 => O_nm (fun n3 b3 => ?_) (fun n3 => T_in n1 (T_in n2 (T_ip n3 (fx_2 hp (by decide) (T_in one_ne (s_code h nz2 rfl))))))) (fun n2 => T_in n1 (T_ip n2 (fx_2 hp (by decide) (T_in one_ne (s_code h nz2 rfl)))))) (fun n1 => T_ip n1 (fx_2 hp (by decide) (T_in one_ne (s_code h nz2 rfl))))) (fun hp => ?_)
  · have e : m_X0_monthsOfSpan p0 (spz z p0 p1 p2 p3) = (0, 12 * p1 + p2) := by
      unfold m_X0_monthsOfSpan spz
      rw [if_pos (sp_no.mpr hp)]
      simp [upd]
    rw [gS_e hp, if_pos rfl]
    show sX (1, 2) (if (m_X0_monthsOfSpan p0 (spz z p0 p1 p2 p3)).1 = 0 then _ else _) _
    rw [e, if_pos rfl]
    refine T_in n1 (T_in n2 (T_in n3 (fx_0 hp rfl rfl (T_ip rfl ?_))))
    exact T_b (Q := fun x => x = (p3, spw ((0 : Int32), w.2) p0 p1 p2 p3)) ⟨_, tl_E hp, rfl⟩ (fun x hx => by subst hx; exact ⟨_, rfl, sR_sp (w := ((0 : Int32), w.2)) h hp b1 b2 b3, rfl, fun _ => rfl⟩)
  · exact T_i (fun _ => fx_1 hp (T_in one_ne (s_code h nz1 rfl))) (fun _ => T_i (fun _ => fx_1 hp (T_in one_ne (s_code h nz1 rfl))) (fun _ => T_i (fun _ => fx_1 hp (T_in one_ne (s_code h nz1 rfl))) (fun _ => fx_1 hp (T_in one_ne (s_code h nz1 rfl)))))
theorem dB_B {D E : Int64} {d e : DT} (hD : pkD D d) (hE : pkD E e) (hd : dR d) (he : dR e) : spB (m_X0_daysBehindMonths D E) := by
  obtain ⟨m, a2, b2⟩ := mo_R hd he
  have a3 := pd_mu hD hE hd he
  obtain ⟨⟨h1, h2, h3, h4, _, _⟩, h5, h6⟩ := id hd
  obtain ⟨⟨g1, g2, g3, g4, _, _⟩, g5, g6⟩ := id he
  have em : m_X0_monthsUpTo D E = m := Option.some.inj (a3.symm.trans a2)
  have hq : 0 ≤ (if d.2.2.toInt ≤ e.2.2.toInt then (0 : Int) else 1) ∧ (if d.2.2.toInt ≤ e.2.2.toInt then (0 : Int) else 1) ≤ 1 := by split <;> omega
  generalize (if d.2.2.toInt ≤ e.2.2.toInt then (0 : Int) else 1) = k at *
  unfold m_X0_daysBehindMonths
  rw [em]
  rcases la_F hd.1 (ma_l b2) (by omega) (by omega) with ⟨c, _⟩ | ⟨_, f, e2, f3, f4, _⟩
  · exact absurd ⟨by omega, by omega⟩ c
  · rcases pk_ml hD hd.1 (ma_l b2) (by omega) (by omega) with ⟨f', e1, f1, f2⟩ | ⟨e1, _⟩
    · have : f' = f := Option.some.inj (Option.some.inj (e1.symm.trans e2))
      subst this
      have hy : f'.1.toInt = e.1.toInt ∨ f'.1.toInt = e.1.toInt - 1 := by rw [f4]; omega
      have r1 := dN_b he.1
      have r2 := dN_b f1
      have s1 := nF_succ e.1.toInt
      have s2 := nF_succ (e.1.toInt - 1)
      have y1 := yl_b e.1.toInt
      have y2 := yl_b (e.1.toInt - 1)
      rw [show e.1.toInt - 1 + 1 = e.1.toInt by omega] at s2
      have hb : -1100 ≤ dN e - dN f' ∧ dN e - dN f' ≤ 1100 := by
        rcases hy with q | q
        · rw [q] at r2; omega
        · rw [q, show e.1.toInt - 1 + 1 = e.1.toInt by omega] at r2; omega
      have r3 := dN_r he
      unfold spB
      rw [ma_i (ma_sub (pk_nu hE he.1) (pk_nu f2 f1) (by omega) (by omega)) (by omega) (by omega)]
      omega
    · rw [e1] at e2; cases e2
theorem mu_B {D E : Int64} {d e : DT} (hD : pkD D d) (hE : pkD E e) (hd : dR d) (he : dR e) : spB (m_X0_monthsUpTo D E / 12) ∧ spB (m_X0_monthsUpTo D E - m_X0_monthsUpTo D E / 12 * 12) := by
  obtain ⟨m, a2, b2⟩ := mo_R hd he
  have a3 := pd_mu hD hE hd he
  obtain ⟨⟨h1, h2, h3, h4, _, _⟩, h5, h6⟩ := id hd
  obtain ⟨⟨g1, g2, g3, g4, _, _⟩, g5, g6⟩ := id he
  have em : m_X0_monthsUpTo D E = m := Option.some.inj (a3.symm.trans a2)
  have hq : 0 ≤ (if d.2.2.toInt ≤ e.2.2.toInt then (0 : Int) else 1) ∧ (if d.2.2.toInt ≤ e.2.2.toInt then (0 : Int) else 1) ≤ 1 := by split <;> omega
  generalize (if d.2.2.toInt ≤ e.2.2.toInt then (0 : Int) else 1) = k at *
  rw [em]
  unfold spB
  rw [ia_div b2 (show (12 : Int32).toInt = 12 from rfl) (by decide), ia_rem b2 (show (12 : Int32).toInt = 12 from rfl) (by decide)]
  have hx : -300000 ≤ 12 * (e.1.toInt - d.1.toInt) + e.2.1.toInt - d.2.1.toInt - k ∧ 12 * (e.1.toInt - d.1.toInt) + e.2.1.toInt - d.2.1.toInt - k ≤ 300000 := by omega
  generalize 12 * (e.1.toInt - d.1.toInt) + e.2.1.toInt - d.2.1.toInt - k = x at hx ⊢
  have e1 := Int.mul_tdiv_add_tmod x 12
  have t1 : (x.tmod 12).natAbs < 12 := by rw [Int.natAbs_tmod]; exact Nat.mod_lt _ (by decide)
  omega
theorem sm_until (p0 p1 p2 : Int32) {z : CS} {w : MS} (h : sR z w) : sX (1, 3) (m_X0_until p0 p1 p2 z) (o_X3_until p0 p1 p2 w) := by
  unfold m_X0_until o_X3_until
  refine X_sp (fun hs => X_at (fun hp => X_at (fun hq => ?_) (fun hq => T_ip hs (T_ip hp (T_in hq (fx_1 (by decide) (T_in one_ne (s_code h nz1 rfl))))))) (fun hp => T_ip hs (T_in hp (fx_1 (by decide) (T_in one_ne (s_code h nz1 rfl)))))) (fun hs => T_in hs (fx_1 (by decide) (T_in one_ne (s_code h nz1 rfl))))
  obtain ⟨hD, hd⟩ := at_R h hp
  obtain ⟨hE, he⟩ := at_R h hq
  have m := pd_mu hD hE hd he
  have dd := dO_E hD hE hd he
  have b1 := mu_B hD hE hd he
  have b2 := dB_B hD hE hd he
  rw [na_e hE hD he.1 hd.1]
  refine T_ip hs (T_ip hp (T_ip hq (fx_0 rfl rfl rfl (T_ip rfl (T_g6 hq (T_g6 hp (v_ah (fun g => ?_) (fun g => ?_))))))))
  · rw [if_pos g, if_neg nz3]
    exact fx_2 rfl one_ne (T_in one_ne (s_code h nz3 rfl))
  · rw [if_neg g, if_pos rfl, gS_e hs, if_pos rfl]
    refine fx_0 rfl rfl rfl (T_ip rfl (T_g6 hp (T_g6 hq (T_b (Q := fun v => v = m_X0_monthsUpTo (m_X0_dateAt p1 z).2 (m_X0_dateAt p2 z).2) ⟨_, m, rfl⟩ (fun v hv => ?_)))))
    subst hv
    refine T_g6 hp (T_g6 hq (T_b (Q := fun v => v = m_X0_daysBehindMonths (m_X0_dateAt p1 z).2 (m_X0_dateAt p2 z).2) ⟨_, dd, rfl⟩ (fun v hv => ?_)))
    subst hv
    exact T_b (Q := fun x => x = (_, spw ((0 : Int32), w.2) p0 _ _ _)) ⟨_, tl_E hs, rfl⟩ (fun x hx => by subst hx; exact ⟨_, rfl, sR_sp (w := ((0 : Int32), w.2)) h hs b1.1 b1.2 b2, rfl, fun _ => rfl⟩)
theorem sm_mbs (p0 p1 c : Int32) {z : CS} {w : MS} (h : sR z w) (hp : m_X3_isNo p0 = 0) (hs : m_X3_isNoSpan p1 = 0) {M N : Int64} {x y : Int} (hM : M.toInt = x) (hN : N.toInt = y) (hx : -1300000 ≤ x ∧ x ≤ 1300000) (hy : -100000 ≤ y ∧ y ≤ 100000)
    (q1 : (c.toInt64 * (((12 : Int64) * ((sget w p1.toNatClampNeg (0 : Int32).toNatClampNeg).toInt64)) + ((sget w p1.toNatClampNeg (1 : Int32).toNatClampNeg).toInt64))).toInt = x) (q2 : (c.toInt64 * ((sget w p1.toNatClampNeg (2 : Int32).toNatClampNeg).toInt64)).toInt = y) :
    sX (1, 3) (if (m_X0_give p0 (m_X0_daysLater (m_X0_monthsLater (m_X0_dateAt p0 z).2 M) N) z).1 = 0 then (0, (m_X0_give p0 (m_X0_daysLater (m_X0_monthsLater (m_X0_dateAt p0 z).2 M) N) z).2.1, (m_X0_give p0 (m_X0_daysLater (m_X0_monthsLater (m_X0_dateAt p0 z).2 M) N) z).2.2) else ((m_X0_give p0 (m_X0_daysLater (m_X0_monthsLater (m_X0_dateAt p0 z).2 M) N) z).1, 0, (m_X0_give p0 (m_X0_daysLater (m_X0_monthsLater (m_X0_dateAt p0 z).2 M) N) z).2.2)) (o_X3_movesBySpan p0 p1 c w) := by
  obtain ⟨hD, hd⟩ := at_R h hp
  have eM : M = c.toInt64 * (((12 : Int64) * ((sget w p1.toNatClampNeg (0 : Int32).toNatClampNeg).toInt64)) + ((sget w p1.toNatClampNeg (1 : Int32).toNatClampNeg).toInt64)) := Int64.toInt_inj.mp (by rw [hM, q1])
  have eN : N = c.toInt64 * ((sget w p1.toNatClampNeg (2 : Int32).toNatClampNeg).toInt64) := Int64.toInt_inj.mp (by rw [hN, q2])
  rw [← eM] at q1
  rw [← eN] at q2
  have hm := pk_ml hD hd.1 hM (by omega) (by omega)
  have hl := la_F hd.1 hM (by omega) (by omega)
  unfold o_X3_movesBySpan
  refine T_ip hp (T_ip hs (fx_0 rfl rfl rfl (T_ip rfl (T_g2 hs (T_g6 hp ?_)))))
  obtain ⟨e, e1, e2, e3⟩ : ∃ e, o_X3_later (w.2.1 p0.toNatClampNeg) M = some (some e) ∧ dV e ∧ pkD (m_X0_monthsLater (m_X0_dateAt p0 z).2 M) e := by
    rcases hm with g | ⟨g, _⟩
    · exact g
    · obtain ⟨⟨v1, v2, v3, v4, v5, v6⟩, v7, v8⟩ := hd
      rcases hl with ⟨k, _⟩ | ⟨_, f, k, _⟩
      · exact absurd ⟨by omega, by omega⟩ k
      · rw [g] at k; cases k
  refine T_b (Q := fun r => r = some e) ⟨some e, by rw [← e1, eM]; rfl, rfl⟩ (fun r hr => ?_)
  subst hr
  refine T_es ?_
  rcases pk_dl e3 e2 hN (by omega) (by omega) with ⟨f, f1, f2, f3⟩ | ⟨f1, f2⟩
  · refine T_b (Q := fun r => r = some f) ⟨some f, by rw [← f1, eN]; rfl, rfl⟩ (fun r hr => ?_)
    subst hr
    refine T_es (v_id (fun g => ?_) (fun g => ?_))
    · rw [give_e0 hp ((pk_rq f3 f2).mpr g), if_pos rfl]
      refine T_in one_ne (fx_0 rfl rfl rfl (T_ip rfl ?_))
      obtain ⟨v, a1, a2⟩ := gives_e (w := ((0 : Int32), w.2)) (d := f) hp f2
      exact T_b (Q := fun r => r = (v, _)) ⟨_, a2, rfl⟩ (fun r hr => by subst hr; exact ⟨_, rfl, sR_put (w := ((0 : Int32), w.2)) h f3 ⟨f2, g⟩, rfl, fun _ => pk_nuI f3 f2 a1⟩)
    · rw [gT_3 (fun k => g ((pk_rq f3 f2).mp k))]
      exact T_ip rfl (fx_2 rfl one_ne (T_in one_ne (s_code h nz3 rfl)))
  · rw [gT_3 (f2 (by omega) (by omega))]
    refine T_b (Q := fun r => r = none) ⟨none, by rw [← f1, eN]; rfl, rfl⟩ (fun r hr => ?_)
    subst hr
    exact T_en (T_dn (T_ip rfl (fx_2 rfl one_ne (T_in one_ne (s_code h nz3 rfl)))))
