-- order, months, units of the reference
abbrev dL (a b : DT) : Prop := a.1.toInt < b.1.toInt ∨ (a.1.toInt = b.1.toInt ∧ (a.2.1.toInt < b.2.1.toInt ∨ (a.2.1.toInt = b.2.1.toInt ∧ a.2.2.toInt < b.2.2.toInt)))
theorem ah_F (a b : DT) : o_X3_isAhead a b = some (if dL a b then 1 else 0) := by
  have e1 := i32_eq (p := a.1) rfl b.1
  have e2 := i32_eq (p := a.2.1) rfl b.2.1
  have l1 := ia_le (a := b.1) (b := a.1) rfl rfl
  have l2 := ia_le (a := b.2.1) (b := a.2.1) rfl rfl
  have l3 := ia_le (a := b.2.2) (b := a.2.2) rfl rfl
  unfold o_X3_isAhead
  simp only [e1, e2, l1, l2, l3]
  by_cases h : dL a b
  · rw [if_pos h]; unfold dL at h
    repeat' split
    all_goals first | rfl | omega
  · rw [if_neg h]; unfold dL at h
    repeat' split
    all_goals first | rfl | omega
theorem dL_asym {a b : DT} (h : dL a b) : ¬ dL b a := by unfold dL at *; omega
theorem mo_R {d e : DT} (hd : dR d) (he : dR e) : ∃ v, o_X3_monthsOf d e = some v ∧ v.toInt = 12 * (e.1.toInt - d.1.toInt) + e.2.1.toInt - d.2.1.toInt - (if d.2.2.toInt ≤ e.2.2.toInt then 0 else 1) := by
  obtain ⟨⟨h1, h2, h3, h4, _, _⟩, h5, h6⟩ := hd
  obtain ⟨⟨g1, g2, g3, g4, _, _⟩, g5, g6⟩ := he
  have l := ia_le (a := d.2.2) (b := e.2.2) rfl rfl
  have m1 := ia_mul (show (12 : Int32).toInt = 12 from rfl) (ia_sub (a := e.1) (b := d.1) rfl rfl (by omega) (by omega)) (by omega) (by omega)
  have m2 := ia_sub (ia_add m1 (b := e.2.1) rfl (by omega) (by omega)) (b := d.2.1) rfl (by omega) (by omega)
  unfold o_X3_monthsOf
  by_cases hc : d.2.2.toInt ≤ e.2.2.toInt
  · rw [if_pos (l.mpr hc), if_pos hc]
    exact ⟨_, rfl, ia_sub m2 (show (m_X3_one 0).toInt = 0 from rfl) (by omega) (by omega)⟩
  · rw [if_neg (fun g => hc (l.mp g)), if_neg hc]
    exact ⟨_, rfl, ia_sub m2 (show (m_X3_one 1).toInt = 1 from rfl) (by omega) (by omega)⟩
theorem eb {α β : Type} {x : Option α} {a : α} {f : α → Option β} (h : x = some a) (h2 : ∃ v, f a = some v) : ∃ v, x.bind f = some v := by subst h; exact h2
theorem dO_F {d e : DT} (hd : dR d) (he : dR e) : ∃ v, o_X3_daysOf d e = some v := by
  obtain ⟨n1, a1, _⟩ := nu_F he.1
  obtain ⟨m, a2, b2⟩ := mo_R hd he
  obtain ⟨⟨h1, h2, h3, h4, _, _⟩, h5, h6⟩ := id hd
  obtain ⟨⟨g1, g2, g3, g4, _, _⟩, g5, g6⟩ := id he
  have hq : -1 ≤ -(if d.2.2.toInt ≤ e.2.2.toInt then (0 : Int) else 1) ∧ -(if d.2.2.toInt ≤ e.2.2.toInt then (0 : Int) else 1) ≤ 0 := by split <;> omega
  generalize (if d.2.2.toInt ≤ e.2.2.toInt then (0 : Int) else 1) = w at *
  unfold o_X3_daysOf
  refine eb a1 (eb a2 ?_)
  rcases la_F hd.1 (ma_l b2) (by omega) (by omega) with ⟨c, _⟩ | ⟨_, f, e1, f1, _⟩
  · exact absurd ⟨by omega, by omega⟩ c
  · obtain ⟨n2, a3, _⟩ := nu_F f1
    exact eb e1 (eb a3 ⟨_, rfl⟩)
theorem u_06 {u : Int32} (h : ¬ m_X3_isIn u.toInt64 0 6 = 0) : u = 0 ∨ u = 1 ∨ u = 2 ∨ u = 3 ∨ u = 4 ∨ u = 5 ∨ u = 6 := by
  have := isin_F (ma_l (a := u) rfl) (show (0 : Int64).toInt = 0 from rfl) (show (6 : Int64).toInt = 6 from rfl)
  have h2 : 0 ≤ u.toInt ∧ u.toInt ≤ 6 := Classical.byContradiction fun g => h (this.mpr g)
  have e : ∀ k : Int32, u = k ↔ u.toInt = k.toInt := fun k => i32_eq rfl k
  rw [e, e, e, e, e, e, e]
  show u.toInt = 0 ∨ u.toInt = 1 ∨ u.toInt = 2 ∨ u.toInt = 3 ∨ u.toInt = 4 ∨ u.toInt = 5 ∨ u.toInt = 6
  omega
def muF (u : Int32) : Int32 := if u = 2 then 1 else if u = 3 then 12 else if u = 4 then 120 else if u = 5 then 1200 else 12000
theorem w57 (d e : DT) {u : Int32} (h : u = 2 ∨ u = 3 ∨ u = 4 ∨ u = 5 ∨ u = 6) : (if u = 2 then l57_X3_whole d e u 8 1 3 else l57_X3_whole d e u 8 12 3) = (o_X3_monthsOf d e).bind fun x => some (x / muF u) := by
  rcases h with rfl | rfl | rfl | rfl | rfl <;> simp [l57_X3_whole, muF]
theorem w570 (d e : DT) {u : Int32} (h : u = 2 ∨ u = 3 ∨ u = 4 ∨ u = 5 ∨ u = 6) : (if u = 2 then l57_X3_whole0 d e u 8 1 3 else l57_X3_whole0 d e u 8 12 3) = (o_X3_monthsOf d e).bind fun x => some (x / muF u) := by
  rcases h with rfl | rfl | rfl | rfl | rfl <;> simp [l57_X3_whole0, muF]
theorem u_26 {u : Int32} (hu : u = 0 ∨ u = 1 ∨ u = 2 ∨ u = 3 ∨ u = 4 ∨ u = 5 ∨ u = 6) (hc : (2 : Int32) ≤ u) : u = 2 ∨ u = 3 ∨ u = 4 ∨ u = 5 ∨ u = 6 := by
  rcases hu with rfl | rfl | h
  · exact absurd hc (by decide)
  · exact absurd hc (by decide)
  · exact h
theorem ei {α : Type} {c : Prop} [Decidable c] {A B : Option α} (h1 : c → ∃ v, A = some v) (h2 : ¬ c → ∃ v, B = some v) : ∃ v, (if c then A else B) = some v := by
  split
  · exact h1 (by assumption)
  · exact h2 (by assumption)
theorem wh0_F {d e : DT} {u : Int32} (hd : dR d) (he : dR e) (hu : u = 0 ∨ u = 1 ∨ u = 2 ∨ u = 3 ∨ u = 4 ∨ u = 5 ∨ u = 6) (ho : ¬ dL e d) : ∃ v, o_X3_whole0 d e u = some v := by
  obtain ⟨n1, a1, _⟩ := nu_F he.1
  obtain ⟨n0, a0, _⟩ := nu_F hd.1
  obtain ⟨m, a2, b2⟩ := mo_R hd he
  have ha := ah_F e d
  rw [if_neg ho] at ha
  unfold o_X3_whole0
  refine eb ha (ei (fun _ => ei (fun hc => ?_) (fun _ => eb a1 (eb a0 (ei (fun _ => ⟨_, rfl⟩) (fun _ => ⟨_, rfl⟩))))) (fun g => absurd rfl g))
  rw [w570 d e (u_26 hu hc)]
  exact eb a2 ⟨_, rfl⟩
theorem wh_F {d e : DT} {u : Int32} (hd : dR d) (he : dR e) (hu : u = 0 ∨ u = 1 ∨ u = 2 ∨ u = 3 ∨ u = 4 ∨ u = 5 ∨ u = 6) : ∃ v, o_X3_whole d e u = some v := by
  obtain ⟨n1, a1, _⟩ := nu_F he.1
  obtain ⟨n0, a0, _⟩ := nu_F hd.1
  obtain ⟨m, a2, b2⟩ := mo_R hd he
  have ha := ah_F e d
  unfold o_X3_whole
  by_cases ho : dL e d
  · rw [if_pos ho] at ha
    obtain ⟨v, hv⟩ := wh0_F he hd hu (dL_asym ho)
    exact eb ha (ei (fun g => absurd g (by decide)) (fun _ => eb hv ⟨_, rfl⟩))
  rw [if_neg ho] at ha
  refine eb ha (ei (fun _ => ei (fun hc => ?_) (fun _ => eb a1 (eb a0 (ei (fun _ => ⟨_, rfl⟩) (fun _ => ⟨_, rfl⟩))))) (fun g => absurd rfl g))
  rw [w57 d e (u_26 hu hc)]
  exact eb a2 ⟨_, rfl⟩
def mvF (u : Int32) : Int64 := if u = 2 then 1 else if u = 3 then 12 else if u = 4 then 120 else if u = 5 then 1200 else 12000
theorem elimid (x : Option DT) : (Option.elim x (some none) fun d => some (some d)) = some x := by cases x <;> rfl
theorem m40 (d : DT) (p : Int64) {u : Int32} (h : u = 2 ∨ u = 3 ∨ u = 4 ∨ u = 5 ∨ u = 6) : (if u = 2 then l40_X3_moved d u p 8 1 3 else l40_X3_moved d u p 8 12 3) = o_X3_later d (mvF u * p) := by
  have hb : ∀ x : Option (Option DT), (x.bind fun r => (Option.elim r (some none) fun d => some (some d))) = x := fun x => by cases x <;> simp [elimid]
  rcases h with rfl | rfl | rfl | rfl | rfl <;> simp [l40_X3_moved, mvF, hb]
theorem mv_F {d : DT} {u : Int32} {p : Int64} (hu : u = 0 ∨ u = 1 ∨ u = 2 ∨ u = 3 ∨ u = 4 ∨ u = 5 ∨ u = 6) : o_X3_moved d u p = if u = 0 then o_X3_laterByDays d p else if u = 1 then o_X3_laterByDays d (7 * p) else o_X3_later d (mvF u * p) := by
  have hb : ∀ x : Option (Option DT), (x.bind fun r => (Option.elim r (some none) fun d => some (some d))) = x := fun x => by cases x <;> simp [elimid]
  unfold o_X3_moved
  by_cases hc : (2 : Int32) ≤ u
  · have h5 : u = 2 ∨ u = 3 ∨ u = 4 ∨ u = 5 ∨ u = 6 := by
      rcases hu with rfl | rfl | h
      · exact absurd hc (by decide)
      · exact absurd hc (by decide)
      · exact h
    rw [if_pos hc, m40 d p h5]
    have h0 : ¬ u = 0 := fun g => by subst g; exact absurd hc (by decide)
    have h1 : ¬ u = 1 := fun g => by subst g; exact absurd hc (by decide)
    rw [if_neg h0, if_neg h1]
  · rw [if_neg hc, hb, hb]
    by_cases h0 : u = 0
    · rw [if_pos h0, if_pos h0]
    · have h1 : u = 1 := by
        rcases hu with rfl | rfl | rfl | rfl | rfl | rfl | rfl
        · exact absurd rfl h0
        · rfl
        all_goals exact absurd (by decide) hc
      rw [if_neg h0, if_neg h0, if_pos h1]
theorem mvF_b (u : Int32) : 1 ≤ (mvF u).toInt ∧ (mvF u).toInt ≤ 12000 := by
  unfold mvF
  repeat' split
  all_goals decide
theorem T_mv {β : Type} {P : β → Prop} {d : DT} {u : Int32} {p : Int64} {f : Option DT → Option β} (hu : u = 0 ∨ u = 1 ∨ u = 2 ∨ u = 3 ∨ u = 4 ∨ u = 5 ∨ u = 6) (hd : dV d) (hp : -200000 ≤ p.toInt ∧ p.toInt ≤ 200000) (h1 : T P (f none)) (h2 : ∀ e, dV e → T P (f (some e))) : T P ((o_X3_moved d u p).bind f) := by
  rw [mv_F hu]
  split
  · exact T_ld hd (by omega) h1 h2
  · split
    · exact T_ld hd (by rw [ma_mul (show (7 : Int64).toInt = 7 from rfl) rfl (by omega) (by omega)]; omega) h1 h2
    · have hb := mvF_b u
      have hm : -100000000000 ≤ (mvF u).toInt * p.toInt ∧ (mvF u).toInt * p.toInt ≤ 100000000000 := by
        generalize (mvF u).toInt = a at hb
        generalize p.toInt = b at hp
        have k1 : (a * b).natAbs ≤ 12000 * 200000 := by
          rw [Int.natAbs_mul]; exact Nat.mul_le_mul (by omega) (by omega)
        omega
      exact T_la hd (by rw [ma_mul rfl rfl (by omega) (by omega)]; exact hm) h1 h2
