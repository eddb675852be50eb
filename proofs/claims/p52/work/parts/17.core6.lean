/-! THE TEXTS: a builder (its object, its sixteen bytes), a text that was made (its object, its bytes) -/
abbrev BS : Type := (Nat → Int32) × Int32
def bW (k : Kx) (a : Nat × Nat) (z : BS) : va_W := [(a.1, .inr (1, [.ref a.2, .int 0, .int 0, .int z.2])), (a.2, .inl (kY k, 16, .inl z.1))]
def bP (k : Kx) (a : Nat × Nat) (z : BS) (H : Heap) : Prop := va_P (kD k) vwCl (bW k a z) H
def sP (k : Kx) (a : Nat × Nat) (n : Nat) (f : Nat → Int32) (H : Heap) : Prop := va_P (kD k) vwCl [(a.1, .inr (0, [.ref a.2, .int 0, .int 0, .int 0])), (a.2, .inl (kY k, n, .inl f))] H
def b2 (a : Nat × Nat) : Nat → Prop := fun q => q = a.1 ∨ q = a.2
theorem bP.up {k : Kx} {a : Nat × Nat} {z : BS} {H H1 : Heap} (h : bP k a z H) (hq : ∀ x : Nat, x < H.size → (x = a.1 ∨ x = a.2) → H1[x]? = H[x]?) : bP k a z H1 := va_P.kept h (fun j x hx => by
  have hl := (h j x hx).lt
  match j, hx with
  | 0, hx => cases hx; exact hq _ hl (Or.inl rfl)
  | 1, hx => cases hx; exact hq _ hl (Or.inr rfl)
  | j + 2, hx => cases hx)
theorem sP.up {k : Kx} {a : Nat × Nat} {n : Nat} {f : Nat → Int32} {H H1 : Heap} (h : sP k a n f H) (hq : ∀ x : Nat, x < H.size → (x = a.1 ∨ x = a.2) → H1[x]? = H[x]?) : sP k a n f H1 := va_P.kept h (fun j x hx => by
  have hl := (h j x hx).lt
  match j, hx with
  | 0, hx => cases hx; exact hq _ hl (Or.inl rfl)
  | 1, hx => cases hx; exact hq _ hl (Or.inr rfl)
  | j + 2, hx => cases hx)
def bPc (k : Kx) (a : Nat × Nat) (z : BS) (U : State) : Prop := Gx k U ∧ a.1 ≠ a.2 ∧ bP k a z U.heap
def bQ (k : Kx) (a : Nat × Nat) (o : Option Value) (z : BS) : Array Value → State → Outcome → State → Prop := fun _ st oc t => oc = .returned o ∧ bP k a z t.heap ∧ va_F (b2 a) st t
/-- a method of a builder that makes no cells -/
def bM (l : Launch) (k : Kx) (a : Nat × Nat) (y : MethodName) (ws : List Cond) (fr lo : Nat) (av : List Value) (z : BS) (o : Option Value) (z' : BS) : Prop :=
  Met l y ws { frames := fr, cells := 0, slots := 0, locals := lo } (va_Pc (.ref a.1 :: av) (bPc k a z)) (bQ k a o z') 0 0 (b2 a)
theorem bPc.blind {k : Kx} {a : Nat × Nat} {z : BS} {av : List Value} : FrameBlind (va_Pc av (bPc k a z)) := fun _ _ _ _ h => ⟨h.1, h.2.1.blind, h.2.2⟩
theorem bW.own {k : Kx} {a : Nat × Nat} {z : BS} (h : a.1 ≠ a.2) : va_D (b2 a) (bW k a z) := by
  refine ⟨fun i j x y hi hj e => ?_, fun j x hx => ?_⟩
  · match i, j, hi, hj with
    | 0, 0, _, _ => rfl
    | 0, 1, hi, hj => cases hi; cases hj; exact absurd e h
    | 1, 0, hi, hj => cases hi; cases hj; exact absurd e.symm h
    | 1, 1, _, _ => rfl
    | 0, j + 2, _, hj => cases hj
    | 1, j + 2, _, hj => cases hj
    | i + 2, _, hi, _ => cases hi
  · match j, hx with
    | 0, hx => cases hx; exact Or.inl rfl
    | 1, hx => cases hx; exact Or.inr rfl
    | j + 2, hx => cases hx

