/-! THE CONSTRUCTORS: what they leave -/
theorem cW_at {k : Kx} {a : CA} {z z0 : CS} {i : Nat} {p : Nat × va_E} (h : (cW k a z)[i]? = some p) : ∃ p0, (cW k a z0)[i]? = some p0 ∧ p0.1 = p.1 := by
  match i, h with
  | 0, h => cases h; exact ⟨_, rfl, rfl⟩
  | 1, h => cases h; exact ⟨_, rfl, rfl⟩
  | 2, h => cases h; exact ⟨_, rfl, rfl⟩
  | 3, h => cases h; exact ⟨_, rfl, rfl⟩
  | 4, h => cases h; exact ⟨_, rfl, rfl⟩
  | i + 5, h => cases h
theorem cD_of {k : Kx} {a : CA} {z0 : CS} {A : Nat → Prop} (h : va_D A (cW k a z0)) (hA : ∀ q, A q → kB k ≤ q) : cD k a := fun z => by
  refine ⟨fun i j p q hi hj e => ?_, fun j q hj => ?_⟩
  · obtain ⟨p0, h1, h2⟩ := cW_at (z0 := z0) hi
    obtain ⟨q0, h3, h4⟩ := cW_at (z0 := z0) hj
    exact h.1 i j p0 q0 h1 h3 (by rw [h2, h4]; exact e)
  · obtain ⟨q0, h3, h4⟩ := cW_at (z0 := z0) hj
    rw [← h4]
    exact hA _ (h.2 j q0 h3)
theorem mW_at {k : Kx} {b : CA} {q q0 : Nat → Nat} {z z0 : MS} {i : Nat} {p : Nat × va_E} (h : (mW k b q z)[i]? = some p) : ∃ p0, (mW k b q0 z0)[i]? = some p0 ∧ p0.1 = p.1 := by
  match i, h with
  | 0, h => cases h; exact ⟨_, rfl, rfl⟩
  | 1, h => cases h; exact ⟨_, rfl, rfl⟩
  | 2, h => cases h; exact ⟨_, rfl, rfl⟩
  | 3, h => cases h; exact ⟨_, rfl, rfl⟩
  | 4, h => cases h; exact ⟨_, rfl, rfl⟩
  | i + 5, h => cases h
theorem mD_of {k : Kx} {b : CA} {q0 : Nat → Nat} {z0 : MS} {A : Nat → Prop} (h : va_D A (mW k b q0 z0)) (hA : ∀ q, A q → kB k ≤ q) : mD k b [b.1, b.2.1, b.2.2.1, b.2.2.2.1, b.2.2.2.2] := by
  refine ⟨fun q z => ⟨fun i j p r hi hj e => ?_, fun j r hj => ?_⟩, by simp, by simp, by simp, by simp, by simp⟩
  · obtain ⟨p1, h1, h2⟩ := mW_at (q0 := q0) (z0 := z0) hi
    obtain ⟨r1, h3, h4⟩ := mW_at (q0 := q0) (z0 := z0) hj
    exact h.1 i j p1 r1 h1 h3 (by rw [h2, h4]; exact e)
  · obtain ⟨r1, h3, h4⟩ := mW_at (q0 := q0) (z0 := z0) hj
    rw [← h4]
    exact hA _ (h.2 j r1 h3)
def c0P (k : Kx) (x : Nat) (H : Heap) : Prop := va_P (kD k) vwCl [(x, .inr (2, [.null, .null, .null, .null, .int 0, .int 0]))] H
def m0P (k : Kx) (x : Nat) (H : Heap) : Prop := va_P (kD k) vwCl [(x, .inr (5, [.int 0, .null, .null, .int 0, .int 0]))] H
def xA (x n : Nat) : Nat → Prop := fun q => q = x ∨ n ≤ q
def ciPc (k : Kx) (x : Nat) (U : State) : Prop := Gx k U ∧ c0P k x U.heap ∧ kB k ≤ x
theorem ciPc.blind {k : Kx} {x : Nat} {av : List Value} : FrameBlind (va_Pc av (ciPc k x)) := fun _ _ _ _ h => ⟨h.1, h.2.1.blind, h.2.2⟩
noncomputable def z0C : CS := (vp_updL (vp_updL (vp_updL (vp_updL (vp_updL (vp_updL (fun _ => 0) (0 : Int32).toNatClampNeg 1008673) (1 : Int32).toNatClampNeg 1008673) (2 : Int32).toNatClampNeg 1008673) (3 : Int32).toNatClampNeg 1008673) (4 : Int32).toNatClampNeg 1008673) (5 : Int32).toNatClampNeg 1008673, fun _ => 0, fun _ => 0, fun _ => 0, 0, 0)
def ciQ (k : Kx) (x : Nat) : Array Value → State → Outcome → State → Prop := fun _ st oc t => oc = .returned none ∧ (∃ a : CA, a.1 = x ∧ va_D (xA x st.heap.size) (cW k a z0C) ∧ va_P (kD k) vwCl (cW k a z0C) t.heap ∧ ∀ q, c5 a q → q = x ∨ st.heap.size ≤ q) ∧ va_F (fun q => q = x) st t
def va_AY (U : State) : Prop := (Cond.arrayOver (.array .int)).before #[] U = true
theorem va_AY.moved {u U : State} (hvm : u.vm.Alike U.vm) (h : va_AY u) : va_AY U := by
  unfold va_AY Cond.before Cond.holds at h ⊢
  simp only [Cond.value] at h ⊢
  rw [hvm.findClass]
  cases hc : u.vm.findClass (FieldType.array .int).toString with
  | none => rw [hc] at h; cases h
  | some comp =>
    rw [hc] at h
    rw [Option.bind_some] at h ⊢
    have hi : (U.vm.classes.findIdx? fun (x : Class) => match x.kind with | .array component _ => component == comp | _ => false) = (u.vm.classes.findIdx? fun (x : Class) => match x.kind with | .array component _ => component == comp | _ => false) := by
      have h9 := va_idx_bare U.vm comp
      rw [hvm.bare_eq] at h9
      exact h9.symm.trans (va_idx_bare u.vm comp)
    refine (congrArg (fun o : Option Nat => (o.bind (fun c => (U.vm.classes[c]?).map fun (k : Class) => match k.kind with | .array _ ty => decide (ty = FieldType.array .int) && decide (U.vm.findClass ("[" ++ (FieldType.array .int).toString) = some c) | _ => false) == some true)) hi).trans ?_
    have h2 : (((u.vm.classes.findIdx? fun (x : Class) => match x.kind with | .array component _ => component == comp | _ => false).bind (fun c => (u.vm.classes[c]?).map fun (k : Class) => match k.kind with | .array _ ty => decide (ty = FieldType.array .int) && decide (u.vm.findClass ("[" ++ (FieldType.array .int).toString) = some c) | _ => false)) == some true) = true := h
    cases hx : (u.vm.classes.findIdx? fun (x : Class) => match x.kind with | .array component _ => component == comp | _ => false) with
    | none => rw [hx] at h2; cases h2
    | some c =>
      rw [hx] at h2
      rw [Option.bind_some] at h2 ⊢
      cases hk : u.vm.classes[c]? with
      | none => rw [hk] at h2; cases h2
      | some k0 =>
        obtain ⟨k', hk', he⟩ := hvm.2.2 _ _ hk
        rw [hk] at h2
        rw [hk', hvm.findClass, he]
        exact h2
def miPc (k : Kx) (x : Nat) (U : State) : Prop := Gx k U ∧ m0P k x U.heap ∧ kB k ≤ x ∧ va_AY U
theorem miPc.blind {k : Kx} {x : Nat} {av : List Value} : FrameBlind (va_Pc av (miPc k x)) := fun _ _ _ _ h => ⟨h.1, h.2.1.blind, h.2.2.1, h.2.2.2.1, h.2.2.2.2⟩
noncomputable def z0M : MS := (0, va_up (va_up (va_up (va_up (va_up (va_up (fun _ => (0, 0, 0)) (0 : Int32).toNatClampNeg (1970, 1, 1)) (1 : Int32).toNatClampNeg (1970, 1, 1)) (2 : Int32).toNatClampNeg (1970, 1, 1)) (3 : Int32).toNatClampNeg (1970, 1, 1)) (4 : Int32).toNatClampNeg (1970, 1, 1)) (5 : Int32).toNatClampNeg (1970, 1, 1), fun _ => 0, fun _ => 0, 0, 0)
def miQ (k : Kx) (x : Nat) : Array Value → State → Outcome → State → Prop := fun _ st oc t => oc = .returned none ∧ (∃ (b : CA) (q : Nat → Nat), b.1 = x ∧ va_D (xA x st.heap.size) (mW k b q z0M) ∧ mV k b [b.1, b.2.1, b.2.2.1, b.2.2.2.1, b.2.2.2.2] q z0M t.heap ∧ (∀ q, c5 b q → q = x ∨ st.heap.size ≤ q) ∧ ∀ i : Nat, i < 6 → st.heap.size ≤ q i) ∧ va_F (fun q => q = x) st t

