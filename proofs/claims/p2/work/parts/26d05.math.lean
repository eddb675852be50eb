theorem bs {α β : Type} {x : Option α} {a : α} {f : α → Option β} {y : Option β} (h : x = some a) (h2 : f a = y) : x.bind f = y := by subst h; exact h2
theorem bt {α β : Type} {x : Option α} {f : α → Option β} {P : β → Prop} (h : ∃ a, x = some a ∧ ∃ b, f a = some b ∧ P b) : ∃ b, x.bind f = some b ∧ P b := by
  obtain ⟨a, rfl, h2⟩ := h; exact h2
theorem i1 {α : Type} {c : Prop} [Decidable c] {A B : Option α} {P : α → Prop} (hc : c) (h : ∃ b, A = some b ∧ P b) : ∃ b, (if c then A else B) = some b ∧ P b := by rw [if_pos hc]; exact h
theorem i1p {α : Type} {c : Prop} [Decidable c] {A B : Nat × α} (hc : c) (h : A.1 = 0) : (if c then A else B).1 = 0 := by rw [if_pos hc]; exact h
theorem i2p {α : Type} {c : Prop} [Decidable c] {A B : Nat × α} (h : A.1 = 0) (h2 : B.1 = 0) : (if c then A else B).1 = 0 := by split <;> assumption
theorem sp0 : m_X0_requireSpan 0 = 0 := by decide
theorem sp1 : m_X0_requireSpan 1 = 0 := by decide
theorem oc_isSound (z : CS) : (m_X0_isSound z).1 = 0 := by
  have c0 := at_c pc0 z
  have c1 := at_c pc1 z
  have c2 := at_c pc2 z
  have c3 := at_c pc3 z
  have c4 := at_c pc4 z
  have c5 := at_c pc5 z
  unfold m_X0_isSound
  with_reducible repeat (first | exact rfl | refine i1p c0 ?_ | refine i1p c1 ?_ | refine i1p c2 ?_ | refine i1p c3 ?_ | refine i1p c4 ?_ | refine i1p c5 ?_ | refine i2p rfl ?_)
theorem dg_X0 {z : CS} (hz : cIv z) : ∃ r, o_X0_digest z = some r ∧ r.1 = 0 := by
  have ho0 : (m_X0_house 0 z).1 = 0 := by unfold m_X0_house; rw [if_pos (rw_iff.mpr (by decide))]; rfl
  have ho1 : (m_X0_house 1 z).1 = 0 := by unfold m_X0_house; rw [if_pos (rw_iff.mpr (by decide))]; rfl
  have ho2 : (m_X0_house 2 z).1 = 0 := by unfold m_X0_house; rw [if_pos (rw_iff.mpr (by decide)), if_neg (by decide), if_neg (by decide), if_pos (oc_sumOfNumbers z)]
  have hs : ∀ c i : Int32, m_X0_requireSpan c = 0 → 0 ≤ i.toInt → i.toInt ≤ 2 → (m_X0_ofSpan c i z).1 = 0 := fun c i h a b => q_os h (rw_iff.mpr ⟨a, b⟩)
  have c0 := at_c pc0 z
  have c1 := at_c pc1 z
  have c2 := at_c pc2 z
  have c3 := at_c pc3 z
  have c4 := at_c pc4 z
  have c5 := at_c pc5 z
  have d1 : (0 : Int32) + 1 = 1 := rfl
  have d2 : (1 : Int32) + 1 = 2 := rfl
  have d3 : (2 : Int32) + 1 = 3 := rfl
  have d4 : (3 : Int32) + 1 = 4 := rfl
  have d5 : (4 : Int32) + 1 = 5 := rfl
  unfold o_X0_digest
  refine bt ((q_dg hz c0).elim fun w hw => ⟨_, hw, ?_⟩)
  refine i1 rfl ?_
  refine bt ((q_dg hz c1).elim fun w hw => ⟨_, hw, ?_⟩)
  refine i1 rfl ?_
  refine bt ((q_dg hz c2).elim fun w hw => ⟨_, hw, ?_⟩)
  refine i1 rfl ?_
  refine bt ((q_dg hz c3).elim fun w hw => ⟨_, hw, ?_⟩)
  refine i1 rfl ?_
  refine bt ((q_dg hz c4).elim fun w hw => ⟨_, hw, ?_⟩)
  refine i1 rfl ?_
  refine bt ((q_dg hz c5).elim fun w hw => ⟨_, hw, ?_⟩)
  refine i1 rfl ?_
  simp only [d1, d2, d3, d4, d5]
  refine i1 (hs 0 0 sp0 (by decide) (by decide)) ?_
  refine i1 (hs 0 1 sp0 (by decide) (by decide)) ?_
  refine i1 (hs 0 2 sp0 (by decide) (by decide)) ?_
  refine i1 (hs 1 0 sp1 (by decide) (by decide)) ?_
  refine i1 (hs 1 1 sp1 (by decide) (by decide)) ?_
  refine i1 (hs 1 2 sp1 (by decide) (by decide)) ?_
  with_reducible repeat (first | refine i1 (q_dp c0 c1) ?_ | refine i1 (q_dp c1 c2) ?_ | refine i1 (q_dp c2 c3) ?_ | refine i1 (q_dp c3 c4) ?_ | refine i1 (q_dp c4 c5) ?_ | refine i1 (q_dp c5 c0) ?_)
  refine i1 ho0 (i1 ho1 (i1 ho2 (i1 (oc_isSound z) ?_)))
  split <;> exact ⟨_, rfl, rfl⟩
theorem ps_0 {c : Int32} (h : m_X0_requireSpan c = 0) (a b d : Int32) (z : CS) : (m_X0_putSpan c a b d z).1 = 0 := by unfold m_X0_putSpan; rw [if_pos h]
theorem ps_iv {c : Int32} {a b d : Int32} {z : CS} (h : cIv z) : cIv (m_X0_putSpan c a b d z).2 := by
  unfold m_X0_putSpan; split
  · exact h
  · exact h
def rsP (r : Nat × Int32 × CS) : Prop := r.1 = 0 ∧ cIv r.2.2
theorem rs_i {c : Prop} [Decidable c] {A B : Nat × Int32 × CS} (h1 : rsP A) (h2 : rsP B) : rsP (if c then A else B) := by split <;> assumption
theorem rs_l {w : CS} (h : cIv w) {v : Int32} {B C : Nat × Int32 × CS} : rsP (if (m_X0_putSpan 0 0 0 0 w).1 = 0 then (if (m_X0_putSpan 1 0 0 0 (m_X0_putSpan 0 0 0 0 w).2).1 = 0 then (0, v, (m_X0_putSpan 1 0 0 0 (m_X0_putSpan 0 0 0 0 w).2).2) else B) else C) := by
  rw [if_pos (ps_0 sp0 ..), if_pos (ps_0 sp1 ..)]
  exact ⟨rfl, ps_iv (ps_iv h)⟩
theorem rs_u {f : Nat → Int64} {n : Nat} {g : (Nat → Int32) × (Nat → Int32) × (Nat → Int32) × Int32 × Int32} (h : cIv (f, g)) : cIv (vp_updL f n (1008673 : Int64), g) := by
  intro i hi
  show yOK (vp_updL f n (1008673 : Int64) i)
  by_cases e : i = n
  · subst e; rw [pk_uLs]; exact ep_y
  · rw [pk_uLn e]; exact h i hi
theorem rs_reset {z : CS} (h : cIv z) : rsP (m_X0_reset z) := by
  unfold m_X0_reset
  refine rs_i ?_ ?_ <;> refine rs_i ?_ ?_ <;> refine rs_i ?_ ?_ <;> refine rs_i ?_ ?_ <;> refine rs_i ?_ ?_ <;> refine rs_i ?_ ?_ <;> (with_reducible refine rs_l ?_; with_reducible repeat (first | exact h | refine rs_u ?_))
