theorem sm_knock {z : CS} {w : MS} (h : sR z w) : sX (1, 2) (m_X0_knock z) (o_X3_knock w) := by
  refine ⟨_, rfl, ⟨h.1, h.2.1, h.2.2.1, ?_⟩, rfl, fun _ => ?_⟩
  · show z.2.2.2.2.2 + 1 = w.2.2.2.2.2 + 1; rw [h.2.2.2]
  · show z.2.2.2.2.2 + 1 = w.2.2.2.2.2 + 1; rw [h.2.2.2]
theorem cI_R {z : CS} {w : MS} (h : sR z w) : cIv z := fun i hi => (pk_rq (h.1 i hi).1 (h.1 i hi).2.1).mpr (h.1 i hi).2.2
theorem sm_text (p0 : Int32) {z : CS} {w : MS} (h : sR z w) : T (fun r : Nat × MS => sR z r.2) (o_X3_text p0 w) := by
  unfold o_X3_text
  by_cases hp : m_X3_isNo p0 = 0
  · obtain ⟨hD, hd⟩ := at_R h hp
    exact fx_0 hp rfl rfl (T_ip rfl (T_g6 hp (T_tx hd (fun v => T_s h))))
  · exact fx_1 hp (T_in one_ne (T_s h))
-- reset
theorem rz_i {P : Nat × Int32 × CS → Prop} {c : Prop} [Decidable c] {A B : Nat × Int32 × CS} (h1 : c → P A) (h2 : ¬ c → P B) : P (if c then A else B) := by
  split
  · exact h1 (by assumption)
  · exact h2 (by assumption)
theorem ps_e {c : Int32} (h : m_X0_requireSpan c = 0) (a b d : Int32) (z : CS) : m_X0_putSpan c a b d z = (0, (z.1, upd z.2.1 c.toNatClampNeg a, upd z.2.2.1 c.toNatClampNeg b, upd z.2.2.2.1 c.toNatClampNeg d, z.2.2.2.2.1, z.2.2.2.2.2)) := by unfold m_X0_putSpan; rw [if_pos h]
-- what a reset leaves: dates all 1970-01-01, spans 0, given and knocks as they were; its answer: how many dates differed
def rzQ (z : CS) (n : Int32) (r : Nat × Int32 × CS) : Prop := r.1 = 0 ∧ r.2.1 = n ∧ (∀ i, i < 6 → r.2.2.1 i = 1008673) ∧ (∀ s, s < 2 → r.2.2.2.1 s = 0 ∧ r.2.2.2.2.1 s = 0 ∧ r.2.2.2.2.2.1 s = 0) ∧ r.2.2.2.2.2.2.1 = z.2.2.2.2.1 ∧ r.2.2.2.2.2.2.2 = z.2.2.2.2.2
theorem rz_l {z u : CS} {v n : Int32} {B C : Nat × Int32 × CS} (hv : v = n) (h1 : ∀ i, i < 6 → u.1 i = 1008673) (h2 : u.2.2.2.2 = z.2.2.2.2) : rzQ z n (if (m_X0_putSpan 0 0 0 0 u).1 = 0 then (if (m_X0_putSpan 1 0 0 0 (m_X0_putSpan 0 0 0 0 u).2).1 = 0 then (0, v, (m_X0_putSpan 1 0 0 0 (m_X0_putSpan 0 0 0 0 u).2).2) else B) else C) := by
  rw [if_pos (ps_0 sp0 ..), if_pos (ps_0 sp1 ..), ps_e sp0, ps_e sp1]
  refine ⟨rfl, hv, h1, fun s hs => ?_, by show u.2.2.2.2.1 = _; rw [h2], by show u.2.2.2.2.2 = _; rw [h2]⟩
  have c0 : (0 : Int32).toNatClampNeg = 0 := by decide
  have c1 : (1 : Int32).toNatClampNeg = 1 := by decide
  show upd (upd u.2.1 (0 : Int32).toNatClampNeg 0) (1 : Int32).toNatClampNeg 0 s = 0 ∧ upd (upd u.2.2.1 (0 : Int32).toNatClampNeg 0) (1 : Int32).toNatClampNeg 0 s = 0 ∧ upd (upd u.2.2.2.1 (0 : Int32).toNatClampNeg 0) (1 : Int32).toNatClampNeg 0 s = 0
  rw [c0, c1]
  rcases (show s = 0 ∨ s = 1 by omega) with rfl | rfl <;> simp [upd]
