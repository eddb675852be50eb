-- the reference never stops: what its methods need of the state
def T {α : Type} (P : α → Prop) (x : Option α) : Prop := ∃ a, x = some a ∧ P a
def rK (kn : Int32) (z : MS) : Prop := (∀ i, i < 6 → dV (z.2.1 i) ∧ -9999 ≤ (z.2.1 i).1.toInt ∧ (z.2.1 i).1.toInt ≤ 9999) ∧ z.2.2.2.2.2 = kn
theorem T_s {α : Type} {P : α → Prop} {a : α} (h : P a) : T P (some a) := ⟨a, rfl, h⟩
theorem T_b {α β : Type} {P : β → Prop} {Q : α → Prop} {x : Option α} {f : α → Option β} (h : T Q x) (h2 : ∀ a, Q a → T P (f a)) : T P (x.bind f) := by
  obtain ⟨a, rfl, q⟩ := h; exact h2 a q
theorem T_i {α : Type} {P : α → Prop} {c : Prop} [Decidable c] {A B : Option α} (h1 : c → T P A) (h2 : ¬ c → T P B) : T P (if c then A else B) := by
  split
  · exact h1 (by assumption)
  · exact h2 (by assumption)
theorem T_ip {α : Type} {P : α → Prop} {c : Prop} [Decidable c] {A B : Option α} (hc : c) (h1 : T P A) : T P (if c then A else B) := by rw [if_pos hc]; exact h1
theorem T_in {α : Type} {P : α → Prop} {c : Prop} [Decidable c] {A B : Option α} (hc : ¬ c) (h1 : T P B) : T P (if c then A else B) := by rw [if_neg hc]; exact h1
theorem T_en {α β : Type} {P : β → Prop} {A : Option β} {f : α → Option β} (h : T P A) : T P (Option.elim none A f) := h
theorem T_es {α β : Type} {P : β → Prop} {A : Option β} {f : α → Option β} {a : α} (h : T P (f a)) : T P (Option.elim (some a) A f) := h
theorem pr_F {p : Int32} : m_X3_isNo p = 0 ↔ 0 ≤ p.toInt ∧ p.toInt ≤ 5 := by
  have := isin_F (ma_l (a := p) rfl) (show (0 : Int64).toInt = 0 from rfl) (show (5 : Int64).toInt = 5 from rfl)
  unfold m_X3_isNo
  split
  · rename_i h; exact ⟨fun g => absurd g (by decide), fun g => absurd g (this.mp h)⟩
  · rename_i h; exact ⟨fun _ => Classical.byContradiction fun g => h (this.mpr g), fun _ => rfl⟩
theorem ps_F {p : Int32} : m_X3_isNoSpan p = 0 ↔ 0 ≤ p.toInt ∧ p.toInt ≤ 1 := by
  have := isin_F (ma_l (a := p) rfl) (show (0 : Int64).toInt = 0 from rfl) (show (1 : Int64).toInt = 1 from rfl)
  unfold m_X3_isNoSpan
  split
  · rename_i h; exact ⟨fun g => absurd g (by decide), fun g => absurd g (this.mp h)⟩
  · rename_i h; exact ⟨fun _ => Classical.byContradiction fun g => h (this.mpr g), fun _ => rfl⟩
theorem py_F {p : Int32} : m_X3_isNoYear p = 0 ↔ -9999 ≤ p.toInt ∧ p.toInt ≤ 9999 := by
  have := isin_F (ma_l (a := p) rfl) (show (-9999 : Int64).toInt = -9999 from rfl) (show (9999 : Int64).toInt = 9999 from rfl)
  unfold m_X3_isNoYear
  split
  · rename_i h; exact ⟨fun g => absurd g (by decide), fun g => absurd g (this.mp h)⟩
  · rename_i h; exact ⟨fun _ => Classical.byContradiction fun g => h (this.mpr g), fun _ => rfl⟩
theorem cl_F {p : Int32} {n : Nat} (h : 0 ≤ p.toInt ∧ p.toInt < n) : ¬ (p < 0 ∨ n ≤ p.toNatClampNeg) := by
  have e : p.toNatClampNeg = p.toInt.toNat := rfl
  rw [show (p < 0) ↔ _ from ia_lt rfl (show (0 : Int32).toInt = 0 from rfl)]
  omega
theorem T_g6 {α : Type} {P : α → Prop} {p : Int32} {A B : Option α} (h : m_X3_isNo p = 0) (h1 : T P B) : T P (if p < 0 ∨ 6 ≤ p.toNatClampNeg then A else B) := by
  have := pr_F.mp h
  rw [if_neg (cl_F (n := 6) (by omega))]; exact h1
theorem T_g2 {α : Type} {P : α → Prop} {p : Int32} {A B : Option α} (h : m_X3_isNoSpan p = 0) (h1 : T P B) : T P (if p < 0 ∨ 2 ≤ p.toNatClampNeg then A else B) := by
  have := ps_F.mp h
  rw [if_neg (cl_F (n := 2) (by omega))]; exact h1
theorem T_g3 {α : Type} {P : α → Prop} {p : Int32} {A B : Option α} (h : ¬ m_X3_isIn p.toInt64 0 2 = 0) (h1 : T P B) : T P (if p < 0 ∨ 3 ≤ p.toNatClampNeg then A else B) := by
  have := isin_F (ma_l (a := p) rfl) (show (0 : Int64).toInt = 0 from rfl) (show (2 : Int64).toInt = 2 from rfl)
  have h2 : 0 ≤ p.toInt ∧ p.toInt ≤ 2 := Classical.byContradiction fun g => h (this.mpr g)
  rw [if_neg (cl_F (n := 3) (by omega))]; exact h1
theorem rK_d {kn : Int32} {z : MS} {p : Int32} (h : rK kn z) (hp : m_X3_isNo p = 0) : dV (z.2.1 p.toNatClampNeg) ∧ -9999 ≤ (z.2.1 p.toNatClampNeg).1.toInt ∧ (z.2.1 p.toNatClampNeg).1.toInt ≤ 9999 := by
  have := pr_F.mp hp
  have e : p.toNatClampNeg = p.toInt.toNat := rfl
  exact h.1 _ (by omega)
theorem rK_dv {kn : Int32} {z : MS} {p : Int32} (h : rK kn z) (hp : m_X3_isNo p = 0) : dV (z.2.1 p.toNatClampNeg) := (rK_d h hp).1
theorem rK_dc {kn : Int32} {z : MS} (h : rK kn z) (i : Nat) (hi : i < 6) : dV (z.2.1 i) := (h.1 i hi).1
def dR (d : DT) : Prop := dV d ∧ -9999 ≤ d.1.toInt ∧ d.1.toInt ≤ 9999
theorem rK_dr {kn : Int32} {z : MS} {p : Int32} (h : rK kn z) (hp : m_X3_isNo p = 0) : dR (z.2.1 p.toNatClampNeg) := rK_d h hp
theorem T_fl {β : Type} {P : β → Prop} {kn : Int32} {a b c : Int32} {z : MS} {f : Int32 × MS → Option β} (hz : rK kn z) (h1 : a = 0 → b = 0 → c = 0 → ∀ w, rK kn w → w.2 = z.2 → T P (f (0, w))) (h2 : ∀ w, rK kn w → T P (f (1, w))) : T P ((o_X3_fails a b c z).bind f) := by
  have i0 : (0 : Int32) ≤ 0 := by decide
  have i1 : ¬ (1 : Int32) ≤ 0 := by decide
  have i2 : ¬ (2 : Int32) ≤ 0 := by decide
  have i3 : ¬ (3 : Int32) ≤ 0 := by decide
  unfold o_X3_fails
  by_cases ha : a = 0
  · by_cases hb : b = 0
    · by_cases hc : c = 0
      · simp only [ha, hb, hc, i0, if_true, Option.bind_some]; exact h1 ha hb hc _ hz rfl
      · simp only [ha, hb, hc, i3, if_true, if_false, Option.bind_some]; exact h2 _ hz
    · simp only [ha, hb, i2, if_true, if_false, Option.bind_some]; exact h2 _ hz
  · simp only [ha, i1, if_false, Option.bind_some]; exact h2 _ hz
theorem T_an {β : Type} {P : β → Prop} {kn : Int32} {a b : Int32} {z : MS} {f : Int32 × MS → Option β} (hz : rK kn z) (h1 : m_X3_isNo a = 0 → m_X3_isNo b = 0 → ∀ w, rK kn w → T P (f (0, w))) (h2 : ∀ w, rK kn w → T P (f (1, w))) : T P ((o_X3_areNot a b z).bind f) := by
  unfold o_X3_areNot
  by_cases ha : m_X3_isNo a = 0
  · by_cases hb : m_X3_isNo b = 0
    · rw [if_pos ha, if_pos hb, Option.bind_assoc]
      exact T_fl hz (fun _ _ _ w hw _ => h1 ha hb w hw) (fun w hw => h2 w hw)
    · rw [if_pos ha, if_neg hb, Option.bind_assoc]
      exact T_fl hz (fun h => absurd h (by decide)) (fun w hw => h2 w hw)
  · rw [if_neg ha, Option.bind_assoc]
    exact T_fl hz (fun h => absurd h (by decide)) (fun w hw => h2 w hw)
theorem T_nu {β : Type} {P : β → Prop} {d : DT} {f : Int32 → Option β} (hd : dV d) (h : ∀ v, T P (f v)) : T P ((o_X2_number d).bind f) := by
  obtain ⟨v, e, _⟩ := nu_F hd; rw [e]; exact h v
theorem T_iy {β : Type} {P : β → Prop} {d : DT} {f : Int32 → Option β} (hd : dV d) (h : ∀ v, T P (f v)) : T P ((o_X2_inYear d).bind f) := by
  obtain ⟨v, e, _⟩ := iy_F hd; rw [e]; exact h v
theorem T_lo {β : Type} {P : β → Prop} {d : DT} {f : Int32 → Option β} (hd : dV d) (h : ∀ v, v.toInt = ml d.1.toInt d.2.1.toInt → T P (f v)) : T P ((o_X3_lengthOf_ d.1 d.2.1).bind f) := by
  obtain ⟨v, e, e2⟩ := lo_F rfl rfl hd.1 hd.2.1; rw [e]; exact h v e2
theorem T_lm {β : Type} {P : β → Prop} {y m : Int32} {f : Int32 → Option β} (hm : ¬ m_X3_isIn m.toInt64 1 12 = 0) (h : ∀ v, v.toInt = ml y.toInt m.toInt → T P (f v)) : T P ((o_X3_lengthOf_ y m).bind f) := by
  have := isin_F (ma_l (a := m) rfl) (show (1 : Int64).toInt = 1 from rfl) (show (12 : Int64).toInt = 12 from rfl)
  have h2 : 1 ≤ m.toInt ∧ m.toInt ≤ 12 := Classical.byContradiction fun g => hm (this.mpr g)
  obtain ⟨v, e, e2⟩ := lo_F (y := y) rfl (m := m) rfl h2.1 h2.2; rw [e]; exact h v e2
theorem rK_put {kn : Int32} {z : MS} {n : Nat} {d : DT} (h : rK kn z) (hd : dR d) : rK kn (dput z n d) := by
  refine ⟨fun i hi => ?_, h.2⟩
  show dV (va_up z.2.1 n d i) ∧ _
  by_cases e : i = n
  · subst e; unfold dput; simp only [va_up, if_true]; exact hd
  · unfold dput; simp only [va_up, e, if_false]; exact h.1 i hi
theorem rK_sput {kn : Int32} {z : MS} {n j : Nat} {v : Int32} (h : rK kn z) : rK kn (sput z n j v) := h
theorem T_gi {β : Type} {P : β → Prop} {kn : Int32} {p : Int32} {d : DT} {z : MS} {f : Int32 × MS → Option β} (hz : rK kn z) (hp : m_X3_isNo p = 0) (hd : dR d) (h : ∀ v w, rK kn w → T P (f (v, w))) : T P ((o_X3_gives p d z).bind f) := by
  have := pr_F.mp hp
  obtain ⟨v, e, _⟩ := nu_F hd.1
  unfold o_X3_gives
  rw [if_neg (cl_F (n := 6) (by omega)), e]
  exact h _ _ (rK_put hz hd)
theorem T_te {β : Type} {P : β → Prop} {kn : Int32} {p a b c : Int32} {z : MS} {f : Int32 × MS → Option β} (hz : rK kn z) (hp : m_X3_isNoSpan p = 0) (h : ∀ v w, rK kn w → T P (f (v, w))) : T P ((o_X3_tells p a b c z).bind f) := by
  have := ps_F.mp hp
  unfold o_X3_tells
  rw [if_neg (cl_F (n := 2) (by omega)), if_neg (cl_F (n := 2) (by omega)), if_neg (cl_F (n := 2) (by omega))]
  exact h _ _ hz
theorem T_id {β : Type} {P : β → Prop} {d : DT} {f : Int32 → Option β} (h : -9999 ≤ d.1.toInt ∧ d.1.toInt ≤ 9999 → T P (f 1)) (h2 : T P (f 0)) : T P ((o_X3_isDate d).bind f) := by
  have := isin_F (ma_l (a := d.1) rfl) (show (-9999 : Int64).toInt = -9999 from rfl) (show (9999 : Int64).toInt = 9999 from rfl)
  unfold o_X3_isDate
  split
  · exact h2
  · rename_i g; exact h (Classical.byContradiction fun q => g (this.mpr q))
theorem T_dn {β : Type} {P : β → Prop} {f : Int32 → Option β} (h : T P (f 0)) : T P ((o_X3_isDateN).bind f) := h
theorem T_nr {β : Type} {P : β → Prop} {y m d : Int32} {f : DT → Option β} (h0 : -9999 ≤ y.toInt ∧ y.toInt ≤ 9999) (h1 : 1 ≤ m.toInt ∧ m.toInt ≤ 12) (h2 : 1 ≤ d.toInt) (h : ∀ e, dR e → T P (f e)) : T P ((o_X3_near y m d).bind f) := by
  obtain ⟨e, g1, g2, g3, g4, _⟩ := nr_F (p0 := y) rfl (p1 := m) rfl h1.1 h1.2 h2 (by omega) (by omega)
  rw [g1]; exact h e ⟨g2, by rw [g3]; exact h0⟩
theorem T_la {β : Type} {P : β → Prop} {d : DT} {p : Int64} {f : Option DT → Option β} (hd : dV d) (hp : -100000000000 ≤ p.toInt ∧ p.toInt ≤ 100000000000) (h1 : T P (f none)) (h2 : ∀ e, dV e → T P (f (some e))) : T P ((o_X3_later d p).bind f) := by
  rcases la_F hd rfl hp.1 hp.2 with ⟨_, e⟩ | ⟨_, g, e, e2, _⟩
  · rw [e]; exact h1
  · rw [e]; exact h2 g e2
theorem T_ld {β : Type} {P : β → Prop} {d : DT} {p : Int64} {f : Option DT → Option β} (hd : dV d) (hp : -100000000000 ≤ p.toInt ∧ p.toInt ≤ 100000000000) (h1 : T P (f none)) (h2 : ∀ e, dV e → T P (f (some e))) : T P ((o_X3_laterByDays d p).bind f) := by
  rcases ld_F hd rfl hp.1 hp.2 with ⟨_, e⟩ | ⟨_, g, e, e2, _⟩
  · rw [e]; exact h1
  · rw [e]; exact h2 g e2
theorem T_lb {d : DT} {p : Int64} (hd : dV d) (hp : -100000000000 ≤ p.toInt ∧ p.toInt ≤ 100000000000) : T (fun r : Option DT => ∀ e, r = some e → dV e) (o_X3_laterByDays d p) := by
  rcases ld_F hd rfl hp.1 hp.2 with ⟨_, e⟩ | ⟨_, g, e, e2, _⟩
  · exact ⟨none, e, fun e h => nomatch h⟩
  · exact ⟨some g, e, fun e h => by cases h; exact e2⟩
theorem T_lt {d : DT} {p : Int64} (hd : dV d) (hp : -100000000000 ≤ p.toInt ∧ p.toInt ≤ 100000000000) : T (fun r : Option DT => ∀ e, r = some e → dV e) (o_X3_later d p) := by
  rcases la_F hd rfl hp.1 hp.2 with ⟨_, e⟩ | ⟨_, g, e, e2, _⟩
  · exact ⟨none, e, fun e h => nomatch h⟩
  · exact ⟨some g, e, fun e h => by cases h; exact e2⟩
