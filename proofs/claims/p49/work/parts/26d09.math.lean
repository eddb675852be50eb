theorem X_b {k : Nat × Nat} {x : Nat × Int32 × CS} {y : Option (Int32 × MS)} (h : sX k x y) : sX k x (y.bind fun r => some (r.1, r.2)) := by
  obtain ⟨r, rfl, h1⟩ := h
  exact ⟨_, rfl, h1⟩
theorem mos_e {p : Int32} {z : CS} (hp : m_X3_isNoSpan p = 0) : m_X0_monthsOfSpan p z = (0, 12 * z.2.1 p.toNatClampNeg + z.2.2.1 p.toNatClampNeg) := by
  unfold m_X0_monthsOfSpan; rw [if_pos (sp_no.mpr hp)]
theorem sp_at {p : Int32} {z : CS} {w : MS} (h : sR z w) (hp : m_X3_isNoSpan p = 0) : (z.2.1 p.toNatClampNeg = sget w p.toNatClampNeg (0 : Int32).toNatClampNeg ∧ z.2.2.1 p.toNatClampNeg = sget w p.toNatClampNeg (1 : Int32).toNatClampNeg ∧ z.2.2.2.1 p.toNatClampNeg = sget w p.toNatClampNeg (2 : Int32).toNatClampNeg) ∧ spB (z.2.1 p.toNatClampNeg) ∧ spB (z.2.2.1 p.toNatClampNeg) ∧ spB (z.2.2.2.1 p.toNatClampNeg) := by
  have := ps_F.mp hp
  have e : p.toNatClampNeg = p.toInt.toNat := rfl
  exact h.2.1 _ (by omega)
theorem sm_plusSpan (p0 p1 : Int32) {z : CS} {w : MS} (h : sR z w) : sX (1, 3) (m_X0_plusSpan p0 p1 z) (o_X3_plusSpan p0 p1 w) := by
  unfold m_X0_plusSpan o_X3_plusSpan
  refine X_b (X_at (fun hp => X_sp (fun hs => ?_) (fun hs => ?_)) (fun hp => ?_))
  · obtain ⟨⟨k0, k1, k2⟩, b0, b1, b2⟩ := sp_at h hs
    rw [mos_e hs, if_pos rfl]
    unfold spB at b0 b1 b2
    have f1 := ia_add (ia_mul (show (12 : Int32).toInt = 12 from rfl) (b := z.2.1 p1.toNatClampNeg) rfl (by omega) (by omega)) (b := z.2.2.1 p1.toNatClampNeg) rfl (by omega) (by omega)
    have g1 := ma_add (ma_mul (show (12 : Int64).toInt = 12 from rfl) (ma_l (a := z.2.1 p1.toNatClampNeg) rfl) (by omega) (by omega)) (ma_l (a := z.2.2.1 p1.toNatClampNeg) rfl) (by omega) (by omega)
    refine sm_mbs p0 p1 1 h hp hs (x := 12 * (z.2.1 p1.toNatClampNeg).toInt + (z.2.2.1 p1.toNatClampNeg).toInt) (y := (z.2.2.2.1 p1.toNatClampNeg).toInt) (ma_l f1) (ma_l rfl) (by omega) (by omega) ?_ ?_
    · rw [← k0, ← k1, ma_mul (ma_l (a := (1 : Int32)) (show (1 : Int32).toInt = 1 from rfl)) g1 (by omega) (by omega)]; omega
    · rw [← k2, ma_mul (ma_l (a := (1 : Int32)) (show (1 : Int32).toInt = 1 from rfl)) (ma_l (a := z.2.2.2.1 p1.toNatClampNeg) rfl) (by omega) (by omega)]; omega
  · unfold o_X3_movesBySpan
    exact T_ip hp (T_in hs (fx_1 (by decide) (T_in one_ne (s_code h nz1 rfl))))
  · unfold o_X3_movesBySpan
    exact T_in hp (fx_1 (by decide) (T_in one_ne (s_code h nz1 rfl)))
theorem sm_minusSpan (p0 p1 : Int32) {z : CS} {w : MS} (h : sR z w) : sX (1, 3) (m_X0_minusSpan p0 p1 z) (o_X3_minusSpan p0 p1 w) := by
  unfold m_X0_minusSpan o_X3_minusSpan
  refine X_b (X_at (fun hp => X_sp (fun hs => ?_) (fun hs => ?_)) (fun hp => ?_))
  · obtain ⟨⟨k0, k1, k2⟩, b0, b1, b2⟩ := sp_at h hs
    rw [mos_e hs, if_pos rfl]
    unfold spB at b0 b1 b2
    have f1 := ia_add (ia_mul (show (12 : Int32).toInt = 12 from rfl) (b := z.2.1 p1.toNatClampNeg) rfl (by omega) (by omega)) (b := z.2.2.1 p1.toNatClampNeg) rfl (by omega) (by omega)
    have g1 := ma_add (ma_mul (show (12 : Int64).toInt = 12 from rfl) (ma_l (a := z.2.1 p1.toNatClampNeg) rfl) (by omega) (by omega)) (ma_l (a := z.2.2.1 p1.toNatClampNeg) rfl) (by omega) (by omega)
    refine sm_mbs p0 p1 (-1) h hp hs (x := -(12 * (z.2.1 p1.toNatClampNeg).toInt + (z.2.2.1 p1.toNatClampNeg).toInt)) (y := -(z.2.2.2.1 p1.toNatClampNeg).toInt) (ma_l (ia_neg f1 (by omega) (by omega))) (ma_l (ia_neg rfl (by omega) (by omega))) (by omega) (by omega) ?_ ?_
    · rw [← k0, ← k1, ma_mul (ma_l (a := ((-1) : Int32)) (show ((-1) : Int32).toInt = (-1) from rfl)) g1 (by omega) (by omega)]; omega
    · rw [← k2, ma_mul (ma_l (a := ((-1) : Int32)) (show ((-1) : Int32).toInt = (-1) from rfl)) (ma_l (a := z.2.2.2.1 p1.toNatClampNeg) rfl) (by omega) (by omega)]; omega
  · unfold o_X3_movesBySpan
    exact T_ip hp (T_in hs (fx_1 (by decide) (T_in one_ne (s_code h nz1 rfl))))
  · unfold o_X3_movesBySpan
    exact T_in hp (fx_1 (by decide) (T_in one_ne (s_code h nz1 rfl)))
theorem ho_e (x : Int32) : m_X0_requireSpanHolds x = if m_X3_isNumber x = 0 then 3 else 0 := by
  have e := isin_F (ma_l (a := x) rfl) (show (-100000 : Int64).toInt = -100000 from rfl) (show (100000 : Int64).toInt = 100000 from rfl)
  have e2 : m_X3_isNumber x = 0 ↔ ¬ (-100000 ≤ x.toInt ∧ x.toInt ≤ 100000) := e
  have l1 : x < -100000 ↔ x.toInt < -100000 := ia_lt rfl rfl
  have l2 : x ≤ 100000 ↔ x.toInt ≤ 100000 := ia_le rfl rfl
  unfold m_X0_requireSpanHolds
  by_cases g : m_X3_isNumber x = 0
  · rw [if_pos g]
    have q := e2.mp g
    by_cases k : x < -100000
    · rw [if_pos k]
    · have hk : ¬ x.toInt < -100000 := fun r => k (l1.mpr r)
      rw [if_neg k, if_neg (fun k2 => q ⟨by omega, l2.mp k2⟩)]
  · rw [if_neg g]
    have q : -100000 ≤ x.toInt ∧ x.toInt ≤ 100000 := Classical.byContradiction fun r => g (e2.mpr r)
    rw [if_neg (fun k => by have := l1.mp k; omega), if_pos (l2.mpr q.2)]
theorem nm_B {x : Int32} (g : ¬ m_X3_isNumber x = 0) : spB x := by
  have e := isin_F (ma_l (a := x) rfl) (show (-100000 : Int64).toInt = -100000 from rfl) (show (100000 : Int64).toInt = 100000 from rfl)
  exact Classical.byContradiction fun r => g (e.mpr r)
theorem sm_addSpan (p0 p1 : Int32) {z : CS} {w : MS} (h : sR z w) : sX (1, 3) (m_X0_addSpan p0 p1 z) (o_X3_addSpan p0 p1 w) := by
  unfold m_X0_addSpan o_X3_addSpan
  refine X_sp (fun hp => X_sp (fun hs => ?_) (fun hs => T_ip hp (T_in hs (fx_1 (by decide) (T_in one_ne (s_code h nz1 rfl)))))) (fun hp => T_in hp (fx_1 (by decide) (T_in one_ne (s_code h nz1 rfl))))
  obtain ⟨⟨k0, k1, k2⟩, _⟩ := sp_at (sR_t (t := 0) h) hp
  obtain ⟨⟨j0, j1, j2⟩, _⟩ := sp_at (sR_t (t := 0) h) hs
  rw [ho_e, ho_e, ho_e, k0, k1, k2, j0, j1, j2]
  refine T_ip hp (T_ip hs (fx_0 rfl rfl rfl (T_ip rfl (T_g2 hp (T_g2 hs ?_)))))
  have F : ∀ {b : Int32} {f : Int32 × MS → Option (Int32 × MS)}, ¬ b = 0 → T (sQ (1, 3) 3 0 z) ((o_X3_fails 0 b 0 ((0 : Int32), w.2)).bind fun x => if x.1 = 0 then f x else some ((0 : Int32), x.2)) := fun hb => fx_2 rfl hb (T_in one_ne (s_code h nz3 rfl))
  by_cases a0 : m_X3_isNumber (sget ((0 : Int32), w.2) p0.toNatClampNeg (0 : Int32).toNatClampNeg + sget ((0 : Int32), w.2) p1.toNatClampNeg (0 : Int32).toNatClampNeg) = 0
  · rw [if_pos a0, if_neg nz3]
    exact T_ip a0 (T_g2 hp (T_g2 hs (T_i (fun _ => T_g2 hp (T_g2 hs (T_i (fun _ => F (by decide)) (fun _ => F (by decide))))) (fun _ => T_g2 hp (T_g2 hs (T_i (fun _ => F (by decide)) (fun _ => F (by decide))))))))
  rw [if_neg a0, if_pos rfl]
  by_cases a1 : m_X3_isNumber (sget ((0 : Int32), w.2) p0.toNatClampNeg (1 : Int32).toNatClampNeg + sget ((0 : Int32), w.2) p1.toNatClampNeg (1 : Int32).toNatClampNeg) = 0
  · rw [if_pos a1, if_neg nz3]
    exact T_in a0 (T_g2 hp (T_g2 hs (T_ip a1 (T_g2 hp (T_g2 hs (T_i (fun _ => F (by decide)) (fun _ => F (by decide))))))))
  rw [if_neg a1, if_pos rfl]
  by_cases a2 : m_X3_isNumber (sget ((0 : Int32), w.2) p0.toNatClampNeg (2 : Int32).toNatClampNeg + sget ((0 : Int32), w.2) p1.toNatClampNeg (2 : Int32).toNatClampNeg) = 0
  · rw [if_pos a2, if_neg nz3]
    exact T_in a0 (T_g2 hp (T_g2 hs (T_in a1 (T_g2 hp (T_g2 hs (T_ip a2 (F (by decide))))))))
  rw [if_neg a2, if_pos rfl, gS_e hp, if_pos rfl]
  refine T_in a0 (T_g2 hp (T_g2 hs (T_in a1 (T_g2 hp (T_g2 hs (T_in a2 (fx_0 rfl (by decide) rfl (T_ip rfl ?_))))))))
  exact T_b (Q := fun x => x = (_, spw ((0 : Int32), w.2) p0 _ _ _)) ⟨_, tl_E hp, rfl⟩ (fun x hx => by subst hx; exact ⟨_, rfl, sR_sp (w := ((0 : Int32), w.2)) h hp (nm_B a0) (nm_B a1) (nm_B a2), rfl, fun _ => rfl⟩)
theorem sm_knock {z : CS} {w : MS} (h : sR z w) : sX (1, 2) (m_X0_knock z) (o_X3_knock w) := by
  refine ⟨_, rfl, ⟨h.1, h.2.1, h.2.2.1, ?_⟩, rfl, fun _ => ?_⟩
  · show z.2.2.2.2.2 + 1 = w.2.2.2.2.2 + 1; rw [h.2.2.2]
  · show z.2.2.2.2.2 + 1 = w.2.2.2.2.2 + 1; rw [h.2.2.2]
theorem cI_R {z : CS} {w : MS} (h : sR z w) : cIv z := fun i hi => (pk_rq (h.1 i hi).1 (h.1 i hi).2.1).mpr (h.1 i hi).2.2
theorem sm_text (p0 : Int32) {z : CS} {w : MS} (h : sR z w) : T (fun r : Nat × MS => sR z r.2) (o_X3_text p0 w) := by
  unfold o_X3_text
  by_cases hp : m_X3_isNo p0 = 0
  · obtain ⟨hD, hd⟩ := at_R h hp
    exact fx_0 hp rfl rfl (T_ip rfl (T_g6 hp (T_tx hd (fun v => T_s h))))
  · exact fx_1 hp (T_in one_ne (T_s h))
-- reset
theorem rz_i {P : Nat × Int32 × CS → Prop} {c : Prop} [Decidable c] {A B : Nat × Int32 × CS} (h1 : c → P A) (h2 : ¬ c → P B) : P (if c then A else B) := by
  split
  · exact h1 (by assumption)
  · exact h2 (by assumption)
theorem ps_e {c : Int32} (h : m_X0_requireSpan c = 0) (a b d : Int32) (z : CS) : m_X0_putSpan c a b d z = (0, (z.1, upd z.2.1 c.toNatClampNeg a, upd z.2.2.1 c.toNatClampNeg b, upd z.2.2.2.1 c.toNatClampNeg d, z.2.2.2.2.1, z.2.2.2.2.2)) := by unfold m_X0_putSpan; rw [if_pos h]
-- what a reset leaves: dates all 1970-01-01, spans 0, given and knocks as they were; its answer: how many dates differed
def rzQ (z : CS) (n : Int32) (r : Nat × Int32 × CS) : Prop := r.1 = 0 ∧ r.2.1 = n ∧ (∀ i, i < 6 → r.2.2.1 i = 1008673) ∧ (∀ s, s < 2 → r.2.2.2.1 s = 0 ∧ r.2.2.2.2.1 s = 0 ∧ r.2.2.2.2.2.1 s = 0) ∧ r.2.2.2.2.2.2.1 = z.2.2.2.2.1 ∧ r.2.2.2.2.2.2.2 = z.2.2.2.2.2
theorem rz_l {z u : CS} {v n : Int32} {B C : Nat × Int32 × CS} (hv : v = n) (h1 : ∀ i, i < 6 → u.1 i = 1008673) (h2 : u.2.2.2.2 = z.2.2.2.2) : rzQ z n (if (m_X0_putSpan 0 0 0 0 u).1 = 0 then (if (m_X0_putSpan 1 0 0 0 (m_X0_putSpan 0 0 0 0 u).2).1 = 0 then (0, v, (m_X0_putSpan 1 0 0 0 (m_X0_putSpan 0 0 0 0 u).2).2) else B) else C) := by
  rw [if_pos (ps_0 sp0 ..), if_pos (ps_0 sp1 ..), ps_e sp0, ps_e sp1]
  refine ⟨rfl, hv, h1, fun s hs => ?_, by show u.2.2.2.2.1 = _; rw [h2], by show u.2.2.2.2.2 = _; rw [h2]⟩
  have c0 : (0 : Int32).toNatClampNeg = 0 := by decide
  have c1 : (1 : Int32).toNatClampNeg = 1 := by decide
  show upd (upd u.2.1 (0 : Int32).toNatClampNeg 0) (1 : Int32).toNatClampNeg 0 s = 0 ∧ upd (upd u.2.2.1 (0 : Int32).toNatClampNeg 0) (1 : Int32).toNatClampNeg 0 s = 0 ∧ upd (upd u.2.2.2.1 (0 : Int32).toNatClampNeg 0) (1 : Int32).toNatClampNeg 0 s = 0
  rw [c0, c1]
  rcases (show s = 0 ∨ s = 1 by omega) with rfl | rfl <;> simp [upd]
-- reset, step by step
def cnt (z : CS) : Nat → Int32
  | 0 => 0
  | j + 1 => cnt z j + (if lg_cmp (z.1 j) 1008673 = 0 then 0 else 1)
def RZ (z : CS) (j : Nat) (n : Int32) (u : Nat → Int64) : Prop := (∀ i, i < j → u i = 1008673) ∧ (∀ i, j ≤ i → u i = z.1 i) ∧ n = cnt z j
theorem RZ_0 (z : CS) : RZ z 0 0 z.1 := ⟨fun _ h => absurd h (Nat.not_lt_zero _), fun _ _ => rfl, rfl⟩
theorem RZ_y {z : CS} {j : Nat} {n : Int32} {u : Nat → Int64} {c : Int32} (g : RZ z j n u) (hc : c.toNatClampNeg = j) (h : lg_cmp (u c.toNatClampNeg) 1008673 = 0) : RZ z (j + 1) n u := by
  rw [hc] at h
  have e : u j = 1008673 := (lg_cmp_eq _ _).mp h
  refine ⟨fun i hi => ?_, fun i hi => g.2.1 i (by omega), ?_⟩
  · by_cases k : i = j
    · rw [k]; exact e
    · exact g.1 i (by omega)
  · rw [g.2.1 _ (Nat.le_refl _)] at h
    show n = cnt z j + (if lg_cmp (z.1 j) 1008673 = 0 then 0 else 1)
    rw [if_pos h, g.2.2]; exact (Int32.add_zero _).symm
theorem RZ_n {z : CS} {j : Nat} {n : Int32} {u : Nat → Int64} {c : Int32} (g : RZ z j n u) (hc : c.toNatClampNeg = j) (h : ¬ lg_cmp (u c.toNatClampNeg) 1008673 = 0) : RZ z (j + 1) (n + 1) (vp_updL u c.toNatClampNeg 1008673) := by
  rw [hc] at h ⊢
  refine ⟨fun i hi => ?_, fun i hi => ?_, ?_⟩
  · by_cases k : i = j
    · rw [k, pk_uLs]
    · rw [pk_uLn k]; exact g.1 i (by omega)
  · rw [pk_uLn (show i ≠ j by omega)]; exact g.2.1 i (by omega)
  · rw [g.2.1 _ (Nat.le_refl _)] at h
    show n + 1 = cnt z j + (if lg_cmp (z.1 j) 1008673 = 0 then 0 else 1)
    rw [if_neg h, g.2.2]
theorem rz_c {z : CS} {n : Int32} {c : Prop} [Decidable c] {A B : Nat × Int32 × CS} (h1 : c → rzQ z n A) (h2 : ¬ c → rzQ z n B) : rzQ z n (if c then A else B) := by
  split
  · exact h1 (by assumption)
  · exact h2 (by assumption)
theorem rz_all (z : CS) : rzQ z (cnt z 6) (m_X0_reset z) := by
  unfold m_X0_reset
  have g := RZ_0 z
  refine rz_c (fun h => ?_) (fun h => ?_)
  all_goals (first | replace g := RZ_y (c := 0) g (by decide) h | replace g := RZ_n (c := 0) g (by decide) h)
  all_goals (clear h; refine rz_c (fun h => ?_) (fun h => ?_))
  all_goals (first | replace g := RZ_y (c := 1) g (by decide) h | replace g := RZ_n (c := 1) g (by decide) h)
  all_goals (clear h; refine rz_c (fun h => ?_) (fun h => ?_))
  all_goals (first | replace g := RZ_y (c := 2) g (by decide) h | replace g := RZ_n (c := 2) g (by decide) h)
  all_goals (clear h; refine rz_c (fun h => ?_) (fun h => ?_))
  all_goals (first | replace g := RZ_y (c := 3) g (by decide) h | replace g := RZ_n (c := 3) g (by decide) h)
  all_goals (clear h; refine rz_c (fun h => ?_) (fun h => ?_))
  all_goals (first | replace g := RZ_y (c := 4) g (by decide) h | replace g := RZ_n (c := 4) g (by decide) h)
  all_goals (clear h; refine rz_c (fun h => ?_) (fun h => ?_))
  all_goals (first | replace g := RZ_y (c := 5) g (by decide) h | replace g := RZ_n (c := 5) g (by decide) h)
  all_goals (clear h; exact rz_l (Eq.trans (by decide) g.2.2) g.1 rfl)
def cnR (w : MS) : Nat → Int32
  | 0 => 0
  | j + 1 => cnR w j + (if dN (w.2.1 j) = 0 then 0 else 1)
def RW (w0 : MS) (j : Nat) (w : MS) : Prop := (∀ i, i < j → w.2.1 i = ((1970 : Int32), (1 : Int32), (1 : Int32))) ∧ (∀ i, j ≤ i → w.2.1 i = w0.2.1 i) ∧ w.1 = 0 ∧ w.2.2 = w0.2.2
theorem RW_p {w0 w : MS} {j : Nat} {c : Int32} (g : RW w0 j w) (hc : c.toNatClampNeg = j) : RW w0 (j + 1) (dput w c.toNatClampNeg ((1970 : Int32), (1 : Int32), (1 : Int32))) := by
  rw [hc]
  refine ⟨fun i hi => ?_, fun i hi => ?_, g.2.2.1, g.2.2.2⟩
  · show va_up w.2.1 j ((1970 : Int32), (1 : Int32), (1 : Int32)) i = _
    by_cases k : i = j
    · subst k; simp only [va_up, if_true]
    · simp only [va_up, k, if_false]; exact g.1 i (by omega)
  · show va_up w.2.1 j ((1970 : Int32), (1 : Int32), (1 : Int32)) i = _
    have k : ¬ i = j := by omega
    simp only [va_up, k, if_false]; exact g.2.1 i (by omega)
theorem RW_n {w0 w : MS} {j : Nat} {c : Int32} {β : Type} {P : β → Prop} {f : Int32 → Option β} (g : RW w0 j w) (hd : dR (w0.2.1 j)) (hc : c.toNatClampNeg = j) (h : ∀ v, m_X3_one (if v = 0 then (0 : Int32) else 1) = (if dN (w0.2.1 j) = 0 then 0 else 1) → T P (f v)) : T P ((o_X2_number (w.2.1 c.toNatClampNeg)).bind f) := by
  rw [hc, g.2.1 j (Nat.le_refl _)]
  refine v_nu hd.1 (fun v hv => h v ?_)
  have z0 : v = 0 ↔ v.toInt = 0 := by rw [← Int32.toInt_inj]; exact Iff.rfl
  by_cases e : dN (w0.2.1 j) = 0
  · rw [if_pos e, if_pos (z0.mpr (by rw [hv, e]))]; decide
  · rw [if_neg e, if_neg (fun q => e (by rw [← hv]; exact z0.mp q))]; decide
theorem sg_0 (w : MS) (s j : Nat) (hs : s < 2) (hj : j < 3) : sget (sput (sput (sput (sput (sput (sput w ((0 : Int32).toNatClampNeg) (0 : Int32).toNatClampNeg (0 : Int32)) ((0 : Int32).toNatClampNeg) (1 : Int32).toNatClampNeg (0 : Int32)) ((0 : Int32).toNatClampNeg) (2 : Int32).toNatClampNeg (0 : Int32)) ((1 : Int32).toNatClampNeg) (0 : Int32).toNatClampNeg (0 : Int32)) ((1 : Int32).toNatClampNeg) (1 : Int32).toNatClampNeg (0 : Int32)) ((1 : Int32).toNatClampNeg) (2 : Int32).toNatClampNeg (0 : Int32)) s j = 0 := by
  rw [show (0 : Int32).toNatClampNeg = 0 by decide, show (1 : Int32).toNatClampNeg = 1 by decide, show (2 : Int32).toNatClampNeg = 2 by decide]
  rcases (show s = 0 ∨ s = 1 by omega) with rfl | rfl <;> rcases (show j = 0 ∨ j = 1 ∨ j = 2 by omega) with rfl | rfl | rfl <;> simp [sget, sput, upd]
def rrQ (w : MS) (r : Int32 × MS) : Prop := r.1 = cnR w 6 ∧ r.2.1 = 0 ∧ (∀ i, i < 6 → r.2.2.1 i = ((1970 : Int32), (1 : Int32), (1 : Int32))) ∧ (∀ s j, s < 2 → j < 3 → sget r.2 s j = 0) ∧ r.2.2.2.2.2.1 = w.2.2.2.2.1 ∧ r.2.2.2.2.2.2 = w.2.2.2.2.2
theorem rr_all {w : MS} (hd : ∀ i, i < 6 → dR (w.2.1 i)) : T (rrQ w) (o_X3_reset w) := by
  unfold o_X3_reset
  have g0 : RW w 0 ((0 : Int32), w.2.1, w.2.2.1, w.2.2.2.1, w.2.2.2.2.1, w.2.2.2.2.2) := ⟨fun _ h => absurd h (Nat.not_lt_zero _), fun _ _ => rfl, rfl, rfl⟩
  refine RW_n (w := ((0 : Int32), w.2.1, w.2.2.1, w.2.2.2.1, w.2.2.2.2.1, w.2.2.2.2.2)) g0 (hd 0 (by omega)) (c := 0) (by decide) (fun v0 e0 => ?_)
  generalize ((0 : Int32), w.2.1, w.2.2.1, w.2.2.2.1, w.2.2.2.2.1, w.2.2.2.2.2) = w0 at g0 ⊢
  have g1 := RW_p (c := 0) g0 (by decide)
  generalize dput w0 (0 : Int32).toNatClampNeg ((1970 : Int32), (1 : Int32), (1 : Int32)) = w1 at g1 ⊢
  refine RW_n g1 (hd 1 (by omega)) (c := 1) (by decide) (fun v1 e1 => ?_)
  have g2 := RW_p (c := 1) g1 (by decide)
  generalize dput w1 (1 : Int32).toNatClampNeg ((1970 : Int32), (1 : Int32), (1 : Int32)) = w2 at g2 ⊢
  refine RW_n g2 (hd 2 (by omega)) (c := 2) (by decide) (fun v2 e2 => ?_)
  have g3 := RW_p (c := 2) g2 (by decide)
  generalize dput w2 (2 : Int32).toNatClampNeg ((1970 : Int32), (1 : Int32), (1 : Int32)) = w3 at g3 ⊢
  refine RW_n g3 (hd 3 (by omega)) (c := 3) (by decide) (fun v3 e3 => ?_)
  have g4 := RW_p (c := 3) g3 (by decide)
  generalize dput w3 (3 : Int32).toNatClampNeg ((1970 : Int32), (1 : Int32), (1 : Int32)) = w4 at g4 ⊢
  refine RW_n g4 (hd 4 (by omega)) (c := 4) (by decide) (fun v4 e4 => ?_)
  have g5 := RW_p (c := 4) g4 (by decide)
  generalize dput w4 (4 : Int32).toNatClampNeg ((1970 : Int32), (1 : Int32), (1 : Int32)) = w5 at g5 ⊢
  refine RW_n g5 (hd 5 (by omega)) (c := 5) (by decide) (fun v5 e5 => ?_)
  have g6 := RW_p (c := 5) g5 (by decide)
  generalize dput w5 (5 : Int32).toNatClampNeg ((1970 : Int32), (1 : Int32), (1 : Int32)) = w6 at g6 ⊢
  refine T_s ⟨?_, g6.2.2.1, g6.1, fun s j hs hj => sg_0 w6 s j hs hj, ?_, ?_⟩
  · show _ = ((((((0 : Int32) + _) + _) + _) + _) + _) + _
    rw [e0, e1, e2, e3, e4, e5]
  · show w6.2.2.2.2.1 = _; rw [g6.2.2.2]
  · show w6.2.2.2.2.2 = _; rw [g6.2.2.2]
theorem ep_0 {u : Int64} {d : DT} (h : pkD u d) (hd : dR d) : lg_cmp u 1008673 = 0 ↔ dN d = 0 := by
  have n0 : dN ((1970 : Int32), (1 : Int32), (1 : Int32)) = 0 := by decide +kernel
  have n1 : dN ((1970 : Int32), (1 : Int32), (1 : Int32)) = dN ((1970 : Int32), (1 : Int32), (1 : Int32)) := rfl
  rw [pd_eq h pk_ep hd.1 dR_ep.1]
  constructor
  · intro e; rw [e]; exact n0
  · intro e
    have a := pk_dn (p := 0) (q := 0) rfl (by decide) (by decide) hd.1 e
    have b := pk_dn (p := 0) (q := 0) rfl (by decide) (by decide) dR_ep.1 n0
    exact (pd_eq a b hd.1 dR_ep.1).mp ((lg_cmp_eq _ _).mpr rfl)
theorem cnt_e {z : CS} {w : MS} (h : sR z w) : ∀ j, j ≤ 6 → cnt z j = cnR w j
  | 0, _ => rfl
  | j + 1, hj => by
    have e := ep_0 (h.1 j (by omega)).1 (h.1 j (by omega)).2
    show cnt z j + (if lg_cmp (z.1 j) 1008673 = 0 then 0 else 1) = cnR w j + (if dN (w.2.1 j) = 0 then 0 else 1)
    rw [cnt_e h j (by omega)]
    by_cases g : dN (w.2.1 j) = 0
    · rw [if_pos g, if_pos (e.mpr g)]
    · rw [if_neg g, if_neg (fun q => g (e.mp q))]
theorem sm_reset {z : CS} {w : MS} (h : sR z w) : sX (1, 2) (m_X0_reset z) (o_X3_reset w) := by
  have hz := rz_all z
  have hc := cnt_e h 6 (Nat.le_refl _)
  generalize m_X0_reset z = x at hz ⊢
  obtain ⟨a1, a2, a3, a4, a5, a6⟩ := hz
  obtain ⟨r, er, b1, b2, b3, b4, b5, b6⟩ := rr_all (fun i hi => (h.1 i hi).2)
  refine ⟨r, er, ⟨fun i hi => ?_, fun s hs => ?_, ?_, ?_⟩, ?_, fun _ => ?_⟩
  · rw [a3 i hi, b3 i hi]; exact ⟨pk_ep, dR_ep⟩
  · have s0 : spB 0 := ⟨by decide, by decide⟩
    obtain ⟨c0, c1, c2⟩ := a4 s hs
    rw [c0, c1, c2, b4 s 0 hs (by omega), b4 s 1 hs (by omega), b4 s 2 hs (by omega)]
    exact ⟨⟨rfl, rfl, rfl⟩, s0, s0, s0⟩
  · rw [a5, b5]; exact h.2.2.1
  · rw [a6, b6]; exact h.2.2.2
  · rw [b2, a1]; rfl
  · rw [a2, b1, hc]
theorem sm_isSound0 {z : CS} {w : MS} (h : sR z w) : T (fun r => sR z r.2 ∧ r.1 = 1) (o_X3_isSound w) := ⟨_, rfl, h, rfl⟩
theorem sm_digest0 {z : CS} {w : MS} (h : sR z w) : T (fun r => sR z r.2) (o_X3_digest w) := by
  unfold o_X3_digest
  have g0 : ¬ ((0 : Int32) + (1 : Int32) < 0 ∨ 6 ≤ ((0 : Int32) + (1 : Int32)).toNatClampNeg) := by decide
  have g1 : ¬ ((1 : Int32) + (1 : Int32) < 0 ∨ 6 ≤ ((1 : Int32) + (1 : Int32)).toNatClampNeg) := by decide
  have g2 : ¬ ((2 : Int32) + (1 : Int32) < 0 ∨ 6 ≤ ((2 : Int32) + (1 : Int32)).toNatClampNeg) := by decide
  have g3 : ¬ ((3 : Int32) + (1 : Int32) < 0 ∨ 6 ≤ ((3 : Int32) + (1 : Int32)).toNatClampNeg) := by decide
  have g4 : ¬ ((4 : Int32) + (1 : Int32) < 0 ∨ 6 ≤ ((4 : Int32) + (1 : Int32)).toNatClampNeg) := by decide
  have d0 : dR (w.2.1 (0 : Int32).toNatClampNeg) := (h.1 _ (by decide)).2
  have d1 : dR (w.2.1 (1 : Int32).toNatClampNeg) := (h.1 _ (by decide)).2
  have d2 : dR (w.2.1 (2 : Int32).toNatClampNeg) := (h.1 _ (by decide)).2
  have d3 : dR (w.2.1 (3 : Int32).toNatClampNeg) := (h.1 _ (by decide)).2
  have d4 : dR (w.2.1 (4 : Int32).toNatClampNeg) := (h.1 _ (by decide)).2
  have d5 : dR (w.2.1 (5 : Int32).toNatClampNeg) := (h.1 _ (by decide)).2
  have e0 : dR (w.2.1 ((0 : Int32) + (1 : Int32)).toNatClampNeg) := (h.1 _ (by decide)).2
  have e1 : dR (w.2.1 ((1 : Int32) + (1 : Int32)).toNatClampNeg) := (h.1 _ (by decide)).2
  have e2 : dR (w.2.1 ((2 : Int32) + (1 : Int32)).toNatClampNeg) := (h.1 _ (by decide)).2
  have e3 : dR (w.2.1 ((3 : Int32) + (1 : Int32)).toNatClampNeg) := (h.1 _ (by decide)).2
  have e4 : dR (w.2.1 ((4 : Int32) + (1 : Int32)).toNatClampNeg) := (h.1 _ (by decide)).2
  have u0 : (0 : Int32) = 0 ∨ (0 : Int32) = 1 ∨ (0 : Int32) = 2 ∨ (0 : Int32) = 3 ∨ (0 : Int32) = 4 ∨ (0 : Int32) = 5 ∨ (0 : Int32) = 6 := u_c (by decide)
  have u1 : (1 : Int32) = 0 ∨ (1 : Int32) = 1 ∨ (1 : Int32) = 2 ∨ (1 : Int32) = 3 ∨ (1 : Int32) = 4 ∨ (1 : Int32) = 5 ∨ (1 : Int32) = 6 := u_c (by decide)
  have u2 : (2 : Int32) = 0 ∨ (2 : Int32) = 1 ∨ (2 : Int32) = 2 ∨ (2 : Int32) = 3 ∨ (2 : Int32) = 4 ∨ (2 : Int32) = 5 ∨ (2 : Int32) = 6 := u_c (by decide)
  have u3 : (3 : Int32) = 0 ∨ (3 : Int32) = 1 ∨ (3 : Int32) = 2 ∨ (3 : Int32) = 3 ∨ (3 : Int32) = 4 ∨ (3 : Int32) = 5 ∨ (3 : Int32) = 6 := u_c (by decide)
  have u4 : (4 : Int32) = 0 ∨ (4 : Int32) = 1 ∨ (4 : Int32) = 2 ∨ (4 : Int32) = 3 ∨ (4 : Int32) = 4 ∨ (4 : Int32) = 5 ∨ (4 : Int32) = 6 := u_c (by decide)
  have u5 : (5 : Int32) = 0 ∨ (5 : Int32) = 1 ∨ (5 : Int32) = 2 ∨ (5 : Int32) = 3 ∨ (5 : Int32) = 4 ∨ (5 : Int32) = 5 ∨ (5 : Int32) = 6 := u_c (by decide)
  have u6 : (6 : Int32) = 0 ∨ (6 : Int32) = 1 ∨ (6 : Int32) = 2 ∨ (6 : Int32) = 3 ∨ (6 : Int32) = 4 ∨ (6 : Int32) = 5 ∨ (6 : Int32) = 6 := u_c (by decide)
  refine T_ad d0 (fun _ => ?_)
  refine T_ad d1 (fun _ => ?_)
  refine T_ad d2 (fun _ => ?_)
  refine T_ad d3 (fun _ => ?_)
  refine T_ad d4 (fun _ => ?_)
  refine T_ad d5 (fun _ => ?_)
  refine T_in g0 (T_cp (fun _ => ?_))
  refine T_in g0 (T_wh d0 e0 u0 (fun _ => ?_))
  refine T_in g0 (T_wh d0 e0 u1 (fun _ => ?_))
  refine T_in g0 (T_wh d0 e0 u2 (fun _ => ?_))
  refine T_in g0 (T_wh d0 e0 u3 (fun _ => ?_))
  refine T_in g0 (T_wh d0 e0 u4 (fun _ => ?_))
  refine T_in g0 (T_wh d0 e0 u5 (fun _ => ?_))
  refine T_in g0 (T_wh d0 e0 u6 (fun _ => ?_))
  refine T_in g1 (T_cp (fun _ => ?_))
  refine T_in g1 (T_wh d1 e1 u0 (fun _ => ?_))
  refine T_in g1 (T_wh d1 e1 u1 (fun _ => ?_))
  refine T_in g1 (T_wh d1 e1 u2 (fun _ => ?_))
  refine T_in g1 (T_wh d1 e1 u3 (fun _ => ?_))
  refine T_in g1 (T_wh d1 e1 u4 (fun _ => ?_))
  refine T_in g1 (T_wh d1 e1 u5 (fun _ => ?_))
  refine T_in g1 (T_wh d1 e1 u6 (fun _ => ?_))
  refine T_in g2 (T_cp (fun _ => ?_))
  refine T_in g2 (T_wh d2 e2 u0 (fun _ => ?_))
  refine T_in g2 (T_wh d2 e2 u1 (fun _ => ?_))
  refine T_in g2 (T_wh d2 e2 u2 (fun _ => ?_))
  refine T_in g2 (T_wh d2 e2 u3 (fun _ => ?_))
  refine T_in g2 (T_wh d2 e2 u4 (fun _ => ?_))
  refine T_in g2 (T_wh d2 e2 u5 (fun _ => ?_))
  refine T_in g2 (T_wh d2 e2 u6 (fun _ => ?_))
  refine T_in g3 (T_cp (fun _ => ?_))
  refine T_in g3 (T_wh d3 e3 u0 (fun _ => ?_))
  refine T_in g3 (T_wh d3 e3 u1 (fun _ => ?_))
  refine T_in g3 (T_wh d3 e3 u2 (fun _ => ?_))
  refine T_in g3 (T_wh d3 e3 u3 (fun _ => ?_))
  refine T_in g3 (T_wh d3 e3 u4 (fun _ => ?_))
  refine T_in g3 (T_wh d3 e3 u5 (fun _ => ?_))
  refine T_in g3 (T_wh d3 e3 u6 (fun _ => ?_))
  refine T_in g4 (T_cp (fun _ => ?_))
  refine T_in g4 (T_wh d4 e4 u0 (fun _ => ?_))
  refine T_in g4 (T_wh d4 e4 u1 (fun _ => ?_))
  refine T_in g4 (T_wh d4 e4 u2 (fun _ => ?_))
  refine T_in g4 (T_wh d4 e4 u3 (fun _ => ?_))
  refine T_in g4 (T_wh d4 e4 u4 (fun _ => ?_))
  refine T_in g4 (T_wh d4 e4 u5 (fun _ => ?_))
  refine T_in g4 (T_wh d4 e4 u6 (fun _ => ?_))
  exact T_b (Q := fun x => x.2 = ((0 : Int32), w.2)) ⟨_, hn_E _ h, rfl⟩ (fun x hx => by
    rw [hx]
    exact T_b (Q := fun x => x.2 = ((0 : Int32), w.2)) ⟨_, hn_E _ h, rfl⟩ (fun y hy => by
      rw [hy]
      exact T_b (Q := fun x => x.2 = ((0 : Int32), w.2)) ⟨_, hn_E _ h, rfl⟩ (fun u hu => T_s (by rw [hu]; exact h))))
