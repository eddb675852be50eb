-- class and reference side by side
def spB (a : Int32) : Prop := -100000 ≤ a.toInt ∧ a.toInt ≤ 100000
def nSp (z : CS) (w : MS) : Prop := ∀ s : Nat, s < 2 → (z.2.1 s = sget w s 0 ∧ z.2.2.1 s = sget w s 1 ∧ z.2.2.2.1 s = sget w s 2) ∧ spB (z.2.1 s) ∧ spB (z.2.2.1 s) ∧ spB (z.2.2.2.1 s)
def sR (z : CS) (w : MS) : Prop := (∀ i, i < 6 → pkD (z.1 i) (w.2.1 i) ∧ dR (w.2.1 i)) ∧ nSp z w ∧ z.2.2.2.2.1 = w.2.2.2.2.1 ∧ z.2.2.2.2.2 = w.2.2.2.2.2
def sQ (k : Nat × Nat) (c : Nat) (v : Int32) (z : CS) (r : Int32 × MS) : Prop := sR z r.2 ∧ r.2.1 = wk k.1 k.2 c ∧ (c = 0 → v = r.1)
theorem sR_t {z : CS} {w : MS} {t : Int32} (h : sR z w) : sR z (t, w.2) := h
theorem s_code {k : Nat × Nat} {z : CS} {w : MS} {c : Nat} {v a : Int32} {t : Int32} (h : sR z w) (hc : ¬ c = 0) (ht : t = wk k.1 k.2 c) : T (sQ k c v z) (some (a, (t, w.2))) := ⟨_, rfl, h, ht, fun g => absurd g hc⟩
theorem s_val {k : Nat × Nat} {z : CS} {w : MS} {v a : Int32} (h : sR z w) (hv : v = a) : T (sQ k 0 v z) (some (a, ((0 : Int32), w.2))) := ⟨_, rfl, h, rfl, fun _ => hv⟩
theorem s_valw {k : Nat × Nat} {z : CS} {w : MS} {v a : Int32} (h : sR z w) (ht : w.1 = 0) (hv : v = a) : T (sQ k 0 v z) (some (a, w)) := ⟨_, rfl, h, ht, fun _ => hv⟩
-- conditions
theorem pl_no {p : Int32} : m_X0_requirePlace p = 0 ↔ m_X3_isNo p = 0 := by rw [pl_iff, pr_F]; omega
theorem pl_c {p : Int32} (h : ¬ m_X3_isNo p = 0) : m_X0_requirePlace p = 1 := (pl_01 p).elim (fun g => absurd (pl_no.mp g) h) id
theorem at_no {p : Int32} {z : CS} : (m_X0_dateAt p z).1 = 0 ↔ m_X3_isNo p = 0 := by
  rw [← pl_no]; unfold m_X0_dateAt
  by_cases h : m_X0_requirePlace p = 0
  · rw [if_pos h]; exact ⟨fun _ => h, fun _ => rfl⟩
  · rw [if_neg h]
theorem at_c1 {p : Int32} {z : CS} (h : ¬ m_X3_isNo p = 0) : (m_X0_dateAt p z).1 = 1 := (at_01 p z).elim (fun g => absurd (at_no.mp g) h) id
theorem at_R {p : Int32} {z : CS} {w : MS} (h : sR z w) (hp : m_X3_isNo p = 0) : pkD (m_X0_dateAt p z).2 (w.2.1 p.toNatClampNeg) ∧ dR (w.2.1 p.toNatClampNeg) := by
  have := pr_F.mp hp
  have e : p.toNatClampNeg = p.toInt.toNat := rfl
  unfold m_X0_dateAt
  rw [if_pos (pl_no.mpr hp)]
  exact h.1 _ (by omega)
theorem rs_iff {p : Int32} : m_X0_requireSpan p = 0 ↔ 0 ≤ p.toInt ∧ p.toInt < 2 := by
  unfold m_X0_requireSpan
  have h1 : p < 0 ↔ p.toInt < 0 := Int32.lt_iff_toInt_lt
  have h2 : p < 2 ↔ p.toInt < 2 := Int32.lt_iff_toInt_lt
  split
  · rename_i g; rw [h1] at g
    exact ⟨fun h => absurd h (by decide), fun h => by omega⟩
  · rename_i g; rw [h1] at g
    split
    · rename_i g2; rw [h2] at g2
      exact ⟨fun h => by omega, fun h => rfl⟩
    · rename_i g2; rw [h2] at g2
      exact ⟨fun h => absurd h (by decide), fun h => by omega⟩
theorem sp_no {p : Int32} : m_X0_requireSpan p = 0 ↔ m_X3_isNoSpan p = 0 := by rw [rs_iff, ps_F]; omega
theorem sp_c {p : Int32} (h : ¬ m_X3_isNoSpan p = 0) : m_X0_requireSpan p = 1 := (oc_requireSpan p).elim (fun g => absurd (sp_no.mp g) h) id
theorem rw_is {p a b : Int32} {A B : Int64} (hA : A.toInt = a.toInt) (hB : B.toInt = b.toInt) : m_X0_requireWithin p a b = 0 ↔ ¬ m_X3_isIn p.toInt64 A B = 0 := by
  rw [rw_iff, isin_F (ma_l (a := p) rfl) hA hB]
  exact ⟨fun h g => g h, fun h => Classical.byContradiction h⟩
theorem rw_c {p a b : Int32} (h : ¬ m_X0_requireWithin p a b = 0) : m_X0_requireWithin p a b = 2 := (oc_requireWithin p a b).elim (fun g => absurd g h) id
theorem ny_is {p : Int32} : m_X0_requireWithin p (-9999) 9999 = 0 ↔ m_X3_isNoYear p = 0 := by
  rw [rw_iff, py_F]; exact Iff.rfl
-- give and gives
theorem put_e {p : Int32} {D : Int64} {z : CS} (hp : m_X3_isNo p = 0) : m_X0_put p D z = (0, (vp_updL z.1 p.toNatClampNeg D, z.2.1, z.2.2.1, z.2.2.2.1, z.2.2.2.2.1, z.2.2.2.2.2)) := by
  unfold m_X0_put; rw [if_pos (pl_no.mpr hp)]
def putz (z : CS) (p : Int32) (D : Int64) : CS := (vp_updL z.1 p.toNatClampNeg D, z.2.1, z.2.2.1, z.2.2.2.1, z.2.2.2.2.1 + 1, z.2.2.2.2.2)
theorem give_e0 {p : Int32} {D : Int64} {z : CS} (hp : m_X3_isNo p = 0) (hd : m_X0_requireDate D = 0) : m_X0_give p D z = (0, (m_X0_numberOf D).toInt32, putz z p D) := by
  unfold m_X0_give; rw [if_pos hd, put_e hp]; rfl
theorem give_e3 {p : Int32} {D : Int64} {z : CS} (hd : ¬ m_X0_requireDate D = 0) : m_X0_give p D z = (3, 0, z) := by
  unfold m_X0_give; rw [if_neg hd, (oc_requireDate D).resolve_left hd]
theorem gives_e {p : Int32} {d : DT} {w : MS} (hp : m_X3_isNo p = 0) (hd : dV d) : ∃ v, v.toInt = dN d ∧ o_X3_gives p d w = some (v, dput (w.1, w.2.1, w.2.2.1, w.2.2.2.1, w.2.2.2.2.1 + (1 : Int32), w.2.2.2.2.2) p.toNatClampNeg d) := by
  have := pr_F.mp hp
  obtain ⟨v, e, e2⟩ := nu_F hd
  refine ⟨v, e2, ?_⟩
  unfold o_X3_gives
  rw [if_neg (cl_F (n := 6) (by omega)), e]; rfl
theorem sR_put {p : Int32} {D : Int64} {d : DT} {z : CS} {w : MS} (h : sR z w) (hD : pkD D d) (hd : dR d) : sR (putz z p D) (dput (w.1, w.2.1, w.2.2.1, w.2.2.2.1, w.2.2.2.2.1 + (1 : Int32), w.2.2.2.2.2) p.toNatClampNeg d) := by
  refine ⟨fun i hi => ?_, h.2.1, by show z.2.2.2.2.1 + 1 = w.2.2.2.2.1 + 1; rw [h.2.2.1], h.2.2.2⟩
  show pkD (vp_updL z.1 p.toNatClampNeg D i) (va_up w.2.1 p.toNatClampNeg d i) ∧ dR (va_up w.2.1 p.toNatClampNeg d i)
  by_cases e : i = p.toNatClampNeg
  · subst e; rw [pk_uLs]; simp only [va_up, if_true]; exact ⟨hD, hd⟩
  · rw [pk_uLn e]; simp only [va_up, e, if_false]; exact h.1 i hi
-- the class's give against the reference's gives, as they stand at a method's end
theorem s_give {k : Nat × Nat} {p : Int32} {D : Int64} {d : DT} {z : CS} {w : MS} (h : sR z w) (hp : m_X3_isNo p = 0) (hD : pkD D d) (hd : dR d) (ht : w.1 = 0) :
    T (sQ k (if (m_X0_give p D z).1 = 0 then (0, (m_X0_give p D z).2.1, (m_X0_give p D z).2.2) else ((m_X0_give p D z).1, 0, (m_X0_give p D z).2.2) : Nat × Int32 × CS).1 (if (m_X0_give p D z).1 = 0 then (0, (m_X0_give p D z).2.1, (m_X0_give p D z).2.2) else ((m_X0_give p D z).1, 0, (m_X0_give p D z).2.2) : Nat × Int32 × CS).2.1 (if (m_X0_give p D z).1 = 0 then (0, (m_X0_give p D z).2.1, (m_X0_give p D z).2.2) else ((m_X0_give p D z).1, 0, (m_X0_give p D z).2.2) : Nat × Int32 × CS).2.2) ((o_X3_gives p d w).bind fun x => some (x.1, x.2)) := by
  obtain ⟨v, e1, e2⟩ := gives_e (w := w) hp hd.1
  rw [give_e0 hp ((pk_rq hD hd.1).mpr hd.2), e2]
  exact ⟨_, rfl, sR_put h hD hd, ht, fun _ => pk_nuI hD hd.1 e1⟩
