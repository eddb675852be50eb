-- spans
def spz (z : CS) (p a b c : Int32) : CS := (z.1, upd z.2.1 p.toNatClampNeg a, upd z.2.2.1 p.toNatClampNeg b, upd z.2.2.2.1 p.toNatClampNeg c, z.2.2.2.2.1 + 1, z.2.2.2.2.2)
theorem gS_e {p a b c : Int32} {z : CS} (hp : m_X3_isNoSpan p = 0) : m_X0_giveSpan p a b c z = (0, spz z p a b c) := by
  have e : m_X0_putSpan p a b c z = (0, (z.1, (upd z.2.1 p.toNatClampNeg a), (upd z.2.2.1 p.toNatClampNeg b), upd z.2.2.2.1 p.toNatClampNeg c, z.2.2.2.2.1, z.2.2.2.2.2)) := by
    unfold m_X0_putSpan; rw [if_pos (sp_no.mpr hp)]
  unfold m_X0_giveSpan
  rw [e]; rfl
def spw (w : MS) (p a b c : Int32) : MS := sput (sput (sput (w.1, w.2.1, w.2.2.1, w.2.2.2.1, w.2.2.2.2.1 + (1 : Int32), w.2.2.2.2.2) p.toNatClampNeg (0 : Int32).toNatClampNeg a) p.toNatClampNeg (1 : Int32).toNatClampNeg b) p.toNatClampNeg (2 : Int32).toNatClampNeg c
theorem tl_E {p a b c : Int32} {w : MS} (hp : m_X3_isNoSpan p = 0) : o_X3_tells p a b c w = some (c, spw w p a b c) := by
  have := ps_F.mp hp
  unfold o_X3_tells
  rw [if_neg (cl_F (n := 2) (by omega)), if_neg (cl_F (n := 2) (by omega)), if_neg (cl_F (n := 2) (by omega))]; rfl
theorem sg_s {W : MS} {n j : Nat} {v : Int32} : sget (sput W n j v) n j = v := by
  unfold sget sput
  by_cases g : n = 0 <;> simp [g, upd]
theorem sg_j {W : MS} {n j i : Nat} {v : Int32} (h : i ≠ j) : sget (sput W n j v) n i = sget W n i := by
  unfold sget sput
  by_cases g : n = 0 <;> simp [g, upd, h]
theorem sg_n {W : MS} {n m j i : Nat} {v : Int32} (hn : n < 2) (hm : m < 2) (h : m ≠ n) : sget (sput W n j v) m i = sget W m i := by
  unfold sget sput
  rcases (show n = 0 ∨ n = 1 by omega) with rfl | rfl <;> rcases (show m = 0 ∨ m = 1 by omega) with rfl | rfl
  · exact absurd rfl h
  · simp
  · simp
  · exact absurd rfl h
theorem sR_sp {p a b c : Int32} {z : CS} {w : MS} (h : sR z w) (hp : m_X3_isNoSpan p = 0) (ha : spB a) (hb : spB b) (hc : spB c) : sR (spz z p a b c) (spw w p a b c) := by
  have hp2 := ps_F.mp hp
  have e : p.toNatClampNeg = p.toInt.toNat := rfl
  have hn : p.toNatClampNeg < 2 := by omega
  have c0 : (0 : Int32).toNatClampNeg = 0 := by decide
  have c1 : (1 : Int32).toNatClampNeg = 1 := by decide
  have c2 : (2 : Int32).toNatClampNeg = 2 := by decide
  refine ⟨h.1, fun s hs => ?_, by show z.2.2.2.2.1 + 1 = w.2.2.2.2.1 + 1; rw [h.2.2.1], h.2.2.2⟩
  have k := h.2.1 s hs
  show (upd z.2.1 p.toNatClampNeg a s = sget (spw w p a b c) s 0 ∧ upd z.2.2.1 p.toNatClampNeg b s = sget (spw w p a b c) s 1 ∧ upd z.2.2.2.1 p.toNatClampNeg c s = sget (spw w p a b c) s 2) ∧ spB (upd z.2.1 p.toNatClampNeg a s) ∧ spB (upd z.2.2.1 p.toNatClampNeg b s) ∧ spB (upd z.2.2.2.1 p.toNatClampNeg c s)
  unfold spw
  rw [c0, c1, c2]
  by_cases g : s = p.toNatClampNeg
  · subst g
    rw [pk_us, pk_us, pk_us, sg_j (show (0 : Nat) ≠ 2 by decide), sg_j (show (0 : Nat) ≠ 1 by decide), sg_s, sg_j (show (1 : Nat) ≠ 2 by decide), sg_s, sg_s]
    exact ⟨⟨rfl, rfl, rfl⟩, ha, hb, hc⟩
  · rw [pk_un g, pk_un g, pk_un g, sg_n hn hs g, sg_n hn hs g, sg_n hn hs g, sg_n hn hs g, sg_n hn hs g, sg_n hn hs g, sg_n hn hs g, sg_n hn hs g, sg_n hn hs g]
    exact k
theorem O_nm {k : Nat × Nat} {p : Int32} {z : CS} {X : Nat × Int32 × CS} {y : Option (Int32 × MS)} (h1 : ¬ m_X3_isNumber p = 0 → spB p → sX k X y) (h2 : m_X3_isNumber p = 0 → sX k (2, 0, z) y) : sX k (if m_X0_requireWithin p (-100000) 100000 = 0 then X else (m_X0_requireWithin p (-100000) 100000, 0, z)) y := by
  have e : m_X0_requireWithin p (-100000) 100000 = 0 ↔ ¬ m_X3_isNumber p = 0 := rw_is (by decide) (by decide)
  by_cases g : m_X3_isNumber p = 0
  · have n : ¬ m_X0_requireWithin p (-100000) 100000 = 0 := fun q => e.mp q g
    rw [if_neg n, rw_c n]; exact h2 g
  · rw [if_pos (e.mpr g)]; exact h1 g (rw_iff.mp (e.mpr g))
theorem sm_span (p0 p1 p2 p3 : Int32) {z : CS} {w : MS} (h : sR z w) : sX (1, 2) (m_X0_span p0 p1 p2 p3 z) (o_X3_span p0 p1 p2 p3 w) := by
  unfold m_X0_span o_X3_span
  refine X_sp (fun hp => O_nm (fun n1 b1 => O_nm (fun n2 b2 => O_nm (fun n3 b3 => ?_) (fun n3 => T_in n1 (T_in n2 (T_ip n3 (fx_2 hp (by decide) (T_in one_ne (s_code h nz2 rfl))))))) (fun n2 => T_in n1 (T_ip n2 (fx_2 hp (by decide) (T_in one_ne (s_code h nz2 rfl)))))) (fun n1 => T_ip n1 (fx_2 hp (by decide) (T_in one_ne (s_code h nz2 rfl))))) (fun hp => ?_)
  · have e : m_X0_monthsOfSpan p0 (spz z p0 p1 p2 p3) = (0, 12 * p1 + p2) := by
      unfold m_X0_monthsOfSpan spz
      rw [if_pos (sp_no.mpr hp)]
      simp [upd]
    rw [gS_e hp, if_pos rfl]
    show sX (1, 2) (if (m_X0_monthsOfSpan p0 (spz z p0 p1 p2 p3)).1 = 0 then _ else _) _
    rw [e, if_pos rfl]
    refine T_in n1 (T_in n2 (T_in n3 (fx_0 hp rfl rfl (T_ip rfl ?_))))
    exact T_b (Q := fun x => x = (p3, spw ((0 : Int32), w.2) p0 p1 p2 p3)) ⟨_, tl_E hp, rfl⟩ (fun x hx => by subst hx; exact ⟨_, rfl, sR_sp (w := ((0 : Int32), w.2)) h hp b1 b2 b3, rfl, fun _ => rfl⟩)
  · exact T_i (fun _ => fx_1 hp (T_in one_ne (s_code h nz1 rfl))) (fun _ => T_i (fun _ => fx_1 hp (T_in one_ne (s_code h nz1 rfl))) (fun _ => T_i (fun _ => fx_1 hp (T_in one_ne (s_code h nz1 rfl))) (fun _ => fx_1 hp (T_in one_ne (s_code h nz1 rfl)))))
