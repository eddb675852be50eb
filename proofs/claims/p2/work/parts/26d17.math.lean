abbrev sX (k : Nat × Nat) (x : Nat × Int32 × CS) (y : Option (Int32 × MS)) : Prop := T (fun r => sQ k x.1 x.2.1 x.2.2 r) y
abbrev sO (k : Nat × Nat) (z : CS) (x : Nat × Int32) (y : Option (Int32 × MS)) : Prop := T (fun r => sQ k x.1 x.2 z r) y
-- the class's conditions
theorem X_pl {k : Nat × Nat} {p : Int32} {z : CS} {A : Nat × Int32 × CS} {y : Option (Int32 × MS)} (h1 : m_X3_isNo p = 0 → sX k A y) (h2 : ¬ m_X3_isNo p = 0 → sX k (1, 0, z) y) : sX k (if m_X0_requirePlace p = 0 then A else (m_X0_requirePlace p, 0, z)) y := by
  by_cases h : m_X3_isNo p = 0
  · rw [if_pos (pl_no.mpr h)]; exact h1 h
  · rw [if_neg (fun g => h (pl_no.mp g)), pl_c h]; exact h2 h
theorem X_at {k : Nat × Nat} {p : Int32} {z : CS} {A : Nat × Int32 × CS} {y : Option (Int32 × MS)} (h1 : m_X3_isNo p = 0 → sX k A y) (h2 : ¬ m_X3_isNo p = 0 → sX k (1, 0, z) y) : sX k (if (m_X0_dateAt p z).1 = 0 then A else ((m_X0_dateAt p z).1, 0, z)) y := by
  by_cases h : m_X3_isNo p = 0
  · rw [if_pos (at_no.mpr h)]; exact h1 h
  · rw [if_neg (fun g => h (at_no.mp g)), at_c1 h]; exact h2 h
theorem X_sp {k : Nat × Nat} {p : Int32} {z : CS} {A : Nat × Int32 × CS} {y : Option (Int32 × MS)} (h1 : m_X3_isNoSpan p = 0 → sX k A y) (h2 : ¬ m_X3_isNoSpan p = 0 → sX k (1, 0, z) y) : sX k (if m_X0_requireSpan p = 0 then A else (m_X0_requireSpan p, 0, z)) y := by
  by_cases h : m_X3_isNoSpan p = 0
  · rw [if_pos (sp_no.mpr h)]; exact h1 h
  · rw [if_neg (fun g => h (sp_no.mp g)), sp_c h]; exact h2 h
theorem X_rw {k : Nat × Nat} {p a b : Int32} {A B : Int64} {z : CS} {X : Nat × Int32 × CS} {y : Option (Int32 × MS)} (hA : A.toInt = a.toInt) (hB : B.toInt = b.toInt) (h1 : ¬ m_X3_isIn p.toInt64 A B = 0 → sX k X y) (h2 : m_X3_isIn p.toInt64 A B = 0 → sX k (2, 0, z) y) : sX k (if m_X0_requireWithin p a b = 0 then X else (m_X0_requireWithin p a b, 0, z)) y := by
  by_cases h : m_X3_isIn p.toInt64 A B = 0
  · have : ¬ m_X0_requireWithin p a b = 0 := fun g => (rw_is hA hB).mp g h
    rw [if_neg this, rw_c this]; exact h2 h
  · rw [if_pos ((rw_is hA hB).mpr h)]; exact h1 h
theorem X_ny {k : Nat × Nat} {p : Int32} {z : CS} {X : Nat × Int32 × CS} {y : Option (Int32 × MS)} (h1 : m_X3_isNoYear p = 0 → sX k X y) (h2 : ¬ m_X3_isNoYear p = 0 → sX k (2, 0, z) y) : sX k (if m_X0_requireWithin p (-9999) 9999 = 0 then X else (m_X0_requireWithin p (-9999) 9999, 0, z)) y := by
  by_cases h : m_X3_isNoYear p = 0
  · rw [if_pos (ny_is.mpr h)]; exact h1 h
  · have : ¬ m_X0_requireWithin p (-9999) 9999 = 0 := fun g => h (ny_is.mp g)
    rw [if_neg this, rw_c this]; exact h2 h
theorem O_at {k : Nat × Nat} {p : Int32} {z : CS} {A : Nat × Int32} {y : Option (Int32 × MS)} (h1 : m_X3_isNo p = 0 → sO k z A y) (h2 : ¬ m_X3_isNo p = 0 → sO k z (1, 0) y) : sO k z (if (m_X0_dateAt p z).1 = 0 then A else ((m_X0_dateAt p z).1, 0)) y := by
  by_cases h : m_X3_isNo p = 0
  · rw [if_pos (at_no.mpr h)]; exact h1 h
  · rw [if_neg (fun g => h (at_no.mp g)), at_c1 h]; exact h2 h
theorem O_pl {k : Nat × Nat} {p : Int32} {z : CS} {A : Nat × Int32} {y : Option (Int32 × MS)} (h1 : m_X3_isNo p = 0 → sO k z A y) (h2 : ¬ m_X3_isNo p = 0 → sO k z (1, 0) y) : sO k z (if m_X0_requirePlace p = 0 then A else (m_X0_requirePlace p, 0)) y := by
  by_cases h : m_X3_isNo p = 0
  · rw [if_pos (pl_no.mpr h)]; exact h1 h
  · rw [if_neg (fun g => h (pl_no.mp g)), pl_c h]; exact h2 h
theorem O_sp {k : Nat × Nat} {p : Int32} {z : CS} {A : Nat × Int32} {y : Option (Int32 × MS)} (h1 : m_X3_isNoSpan p = 0 → sO k z A y) (h2 : ¬ m_X3_isNoSpan p = 0 → sO k z (1, 0) y) : sO k z (if m_X0_requireSpan p = 0 then A else (m_X0_requireSpan p, 0)) y := by
  by_cases h : m_X3_isNoSpan p = 0
  · rw [if_pos (sp_no.mpr h)]; exact h1 h
  · rw [if_neg (fun g => h (sp_no.mp g)), sp_c h]; exact h2 h
theorem O_rw {k : Nat × Nat} {p a b : Int32} {A B : Int64} {z : CS} {X : Nat × Int32} {y : Option (Int32 × MS)} (hA : A.toInt = a.toInt) (hB : B.toInt = b.toInt) (h1 : ¬ m_X3_isIn p.toInt64 A B = 0 → sO k z X y) (h2 : m_X3_isIn p.toInt64 A B = 0 → sO k z (2, 0) y) : sO k z (if m_X0_requireWithin p a b = 0 then X else (m_X0_requireWithin p a b, 0)) y := by
  by_cases h : m_X3_isIn p.toInt64 A B = 0
  · have : ¬ m_X0_requireWithin p a b = 0 := fun g => (rw_is hA hB).mp g h
    rw [if_neg this, rw_c this]; exact h2 h
  · rw [if_pos ((rw_is hA hB).mpr h)]; exact h1 h
theorem O_ny {k : Nat × Nat} {p : Int32} {z : CS} {X : Nat × Int32} {y : Option (Int32 × MS)} (h1 : m_X3_isNoYear p = 0 → sO k z X y) (h2 : ¬ m_X3_isNoYear p = 0 → sO k z (2, 0) y) : sO k z (if m_X0_requireWithin p (-9999) 9999 = 0 then X else (m_X0_requireWithin p (-9999) 9999, 0)) y := by
  by_cases h : m_X3_isNoYear p = 0
  · rw [if_pos (ny_is.mpr h)]; exact h1 h
  · have : ¬ m_X0_requireWithin p (-9999) 9999 = 0 := fun g => h (ny_is.mp g)
    rw [if_neg this, rw_c this]; exact h2 h
-- the reference's answer to a failing: its code
theorem fx_0 {β : Type} {P : β → Prop} {a b c : Int32} {z : MS} {f : Int32 × MS → Option β} (ha : a = 0) (hb : b = 0) (hc : c = 0) (h : T P (f (0, (0, z.2)))) : T P ((o_X3_fails a b c z).bind f) := by
  have i0 : (0 : Int32) ≤ 0 := by decide
  unfold o_X3_fails
  simp only [ha, hb, hc, i0, if_true, Option.bind_some]; exact h
theorem fx_1 {β : Type} {P : β → Prop} {a b c : Int32} {z : MS} {f : Int32 × MS → Option β} (ha : ¬ a = 0) (h : T P (f (1, (1, z.2)))) : T P ((o_X3_fails a b c z).bind f) := by
  have i1 : ¬ (1 : Int32) ≤ 0 := by decide
  unfold o_X3_fails
  simp only [ha, i1, if_false, Option.bind_some]; exact h
theorem fx_2 {β : Type} {P : β → Prop} {a b c : Int32} {z : MS} {f : Int32 × MS → Option β} (ha : a = 0) (hb : ¬ b = 0) (h : T P (f (1, (2, z.2)))) : T P ((o_X3_fails a b c z).bind f) := by
  have i2 : ¬ (2 : Int32) ≤ 0 := by decide
  unfold o_X3_fails
  simp only [ha, hb, i2, if_true, if_false, Option.bind_some]; exact h
theorem fx_3 {β : Type} {P : β → Prop} {a b c : Int32} {z : MS} {f : Int32 × MS → Option β} (ha : a = 0) (hb : b = 0) (hc : ¬ c = 0) (h : T P (f (1, (3, z.2)))) : T P ((o_X3_fails a b c z).bind f) := by
  have i3 : ¬ (3 : Int32) ≤ 0 := by decide
  unfold o_X3_fails
  simp only [ha, hb, hc, i3, if_true, if_false, Option.bind_some]; exact h
theorem an_0 {β : Type} {P : β → Prop} {a b : Int32} {z : MS} {f : Int32 × MS → Option β} (ha : m_X3_isNo a = 0) (hb : m_X3_isNo b = 0) (h : T P (f (0, (0, z.2)))) : T P ((o_X3_areNot a b z).bind f) := by
  unfold o_X3_areNot
  rw [if_pos ha, if_pos hb, Option.bind_assoc]
  exact fx_0 rfl rfl rfl h
theorem an_1 {β : Type} {P : β → Prop} {a b : Int32} {z : MS} {f : Int32 × MS → Option β} (ha : ¬ m_X3_isNo a = 0) (h : T P (f (1, (1, z.2)))) : T P ((o_X3_areNot a b z).bind f) := by
  unfold o_X3_areNot
  rw [if_neg ha, Option.bind_assoc]
  exact fx_1 (by decide) h
theorem an_2 {β : Type} {P : β → Prop} {a b : Int32} {z : MS} {f : Int32 × MS → Option β} (ha : m_X3_isNo a = 0) (hb : ¬ m_X3_isNo b = 0) (h : T P (f (1, (1, z.2)))) : T P ((o_X3_areNot a b z).bind f) := by
  unfold o_X3_areNot
  rw [if_pos ha, if_neg hb, Option.bind_assoc]
  exact fx_1 (by decide) h
-- exact values
theorem v_nu {β : Type} {P : β → Prop} {d : DT} {f : Int32 → Option β} (hd : dV d) (h : ∀ v, v.toInt = dN d → T P (f v)) : T P ((o_X2_number d).bind f) := by
  obtain ⟨v, e, e2⟩ := nu_F hd; rw [e]; exact h v e2
theorem v_iy {β : Type} {P : β → Prop} {d : DT} {f : Int32 → Option β} (hd : dV d) (h : ∀ v, v.toInt = dY d → T P (f v)) : T P ((o_X2_inYear d).bind f) := by
  obtain ⟨v, e, e2⟩ := iy_F hd; rw [e]; exact h v e2
theorem v_ah {β : Type} {P : β → Prop} {a b : DT} {f : Int32 → Option β} (h1 : dL a b → T P (f 1)) (h0 : ¬ dL a b → T P (f 0)) : T P ((o_X3_isAhead a b).bind f) := by
  rw [ah_F]
  by_cases h : dL a b
  · rw [if_pos h]; exact h1 h
  · rw [if_neg h]; exact h0 h
