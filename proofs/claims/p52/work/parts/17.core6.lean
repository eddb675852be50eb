/-! THE TEXTS: a builder (its object, its sixteen bytes), a text that was made (its object, its bytes) -/
abbrev BS : Type := (Nat → Int32) × Int32
def bW (k : Kx) (a : Nat × Nat) (z : BS) : va_W := [(a.1, .inr (1, [.ref a.2, .int 0, .int 0, .int z.2])), (a.2, .inl (kY k, 16, .inl z.1))]
def bP (k : Kx) (a : Nat × Nat) (z : BS) (H : Heap) : Prop := va_P (kD k) vwCl (bW k a z) H
def sP (k : Kx) (a : Nat × Nat) (n : Nat) (f : Nat → Int32) (H : Heap) : Prop := va_P (kD k) vwCl [(a.1, .inr (0, [.ref a.2, .int 0, .int 0, .int 0])), (a.2, .inl (kY k, n, .inl f))] H
def b2 (a : Nat × Nat) : Nat → Prop := fun q => q = a.1 ∨ q = a.2
theorem bP.up {k : Kx} {a : Nat × Nat} {z : BS} {H H1 : Heap} (h : bP k a z H) (hq : ∀ x : Nat, x < H.size → (x = a.1 ∨ x = a.2) → H1[x]? = H[x]?) : bP k a z H1 := va_P.kept h (fun j x hx => by
  have hl := (h j x hx).lt
  match j, hx with
  | 0, hx => cases hx; exact hq _ hl (Or.inl rfl)
  | 1, hx => cases hx; exact hq _ hl (Or.inr rfl)
  | j + 2, hx => cases hx)
theorem sP.up {k : Kx} {a : Nat × Nat} {n : Nat} {f : Nat → Int32} {H H1 : Heap} (h : sP k a n f H) (hq : ∀ x : Nat, x < H.size → (x = a.1 ∨ x = a.2) → H1[x]? = H[x]?) : sP k a n f H1 := va_P.kept h (fun j x hx => by
  have hl := (h j x hx).lt
  match j, hx with
  | 0, hx => cases hx; exact hq _ hl (Or.inl rfl)
  | 1, hx => cases hx; exact hq _ hl (Or.inr rfl)
  | j + 2, hx => cases hx)
def bPc (k : Kx) (a : Nat × Nat) (z : BS) (U : State) : Prop := Gx k U ∧ (a.1 ≠ a.2 ∧ ∀ q, b2 a q → kB k ≤ q) ∧ bP k a z U.heap
def bQ (k : Kx) (a : Nat × Nat) (o : Option Value) (z : BS) : Array Value → State → Outcome → State → Prop := fun _ st oc t => oc = .returned o ∧ bP k a z t.heap ∧ va_F (b2 a) st t
/-- a method of a builder that makes no cells -/
def bM (l : Launch) (k : Kx) (a : Nat × Nat) (y : MethodName) (ws : List Cond) (fr lo : Nat) (av : List Value) (z : BS) (o : Option Value) (z' : BS) : Prop :=
  Met l y ws { frames := fr, cells := 0, slots := 0, locals := lo } (va_Pc (.ref a.1 :: av) (bPc k a z)) (bQ k a o z') 0 0 (b2 a)
theorem bPc.blind {k : Kx} {a : Nat × Nat} {z : BS} {av : List Value} : FrameBlind (va_Pc av (bPc k a z)) := fun _ _ _ _ h => ⟨h.1, h.2.1.blind, h.2.2⟩
theorem bW.own {k : Kx} {a : Nat × Nat} {z : BS} (h : a.1 ≠ a.2) : va_D (b2 a) (bW k a z) := by
  refine ⟨fun i j x y hi hj e => ?_, fun j x hx => ?_⟩
  · match i, j, hi, hj with
    | 0, 0, _, _ => rfl
    | 0, 1, hi, hj => cases hi; cases hj; exact absurd e h
    | 1, 0, hi, hj => cases hi; cases hj; exact absurd e.symm h
    | 1, 1, _, _ => rfl
    | 0, j + 2, _, hj => cases hj
    | 1, j + 2, _, hj => cases hj
    | i + 2, _, hi, _ => cases hi
  · match j, hx with
    | 0, hx => cases hx; exact Or.inl rfl
    | 1, hx => cases hx; exact Or.inr rfl
    | j + 2, hx => cases hx
section B6
variable {p : Program} {l : Launch} {e : Env} {R : Room} {s : State} {m : MethodId} {args : Array Value} {below : List Frame} {meth : Method} {c : Code} {H : Heap} {locs : List Loc} {cells slots : Nat} {Q : State → Prop}
variable {cc bytes : ByteArray} {nL maxL n index fr lo pc : Nat} {Ts ws : List Cond} {own : String} {y : MethodName} {ret : Option FieldType} {As rest st0 : List Value} {ls : Array Slot} {k : Kx} {A : Nat → Prop} {a : Nat × Nat} {z z1 : BS} {o : Option Value}
/-- what comes after a call of a builder's method -/
theorem b_go {a0 : Array Value} (hS : va_S A s.heap H locs) (hA : ∀ q, b2 a q → A q) (h : va_Run p l e R s m args below meth c H locs cells slots 0 0 (F0 m pc ls st0) rest (bQ k a o z1 a0) (b2 a))
    (kk : ∀ (H1 : Heap) (L : List Loc), bP k a z1 H1 → va_S A s.heap H1 (locs ++ L) → (∀ x ∈ L, b2 a x.base) → H.size ≤ H1.size → (∀ x : Nat, x < H.size → ¬ b2 a x → H1[x]? = H[x]?) → W p l e R s m args below meth c H1 (locs ++ L) cells slots Q (F0 m (pc + 3) ls (o.toList ++ rest))) : W p l e R s m args below meth c H locs cells slots Q (F0 m pc ls st0) := by
  intro T hT X
  obtain ⟨v, st₀, t, T', L, h0, X', hL, e1, e2, ⟨hv, hp, hz, hq⟩, st⟩ := h T hT X
  cases hv
  rw [h0] at hz hq
  obtain ⟨t2, a1, b1⟩ := kk T'.heap L (by rw [e1]; exact hp)
    ⟨Nat.le_trans hS.1 (by rw [e1]; exact hz), fun x h4 h5 => by
      rw [e1, hq x (Nat.lt_of_lt_of_le h4 hS.1) (fun h6 => h5 (hA x h6))]
      exact hS.2.1 x h4 h5, fun x hx => (List.mem_append.mp hx).elim (hS.2.2 x) (fun h => hA _ (hL x h))⟩ hL (by rw [e1]; exact hz) (fun x h4 h5 => by rw [e1]; exact hq x h4 h5) T' rfl X'
  exact ⟨t2, st t2 a1, b1⟩
/-- an inherited (or private) method of a builder -/
theorem bc_U (hC : CallFix p m c cc nL s args Ts own) (hGx : Gx k s) (hM : bM l k a y ws fr lo As z o z1) (hG : GoodIn Ts (va_wsU own index RJ4 y.cls y y ws)) (hk : pK y ws bytes maxL ret n) (hne : a.1 ≠ a.2) (hR : fr + 1 ≤ R.frames ∧ 8 + (maxL + 11) + lo ≤ R.locals) (hf : cells ≤ R.cells ∧ slots ≤ R.slots) (hP : bP k a z H) (hS : va_S A s.heap H locs) (hA : ∀ q, b2 a q → A q) (hAB : ∀ q, A q → kB k ≤ q) (hsz : ls.size = nL) (hn : As.length = n) (hst : st0 = As.reverse ++ .ref a.1 :: rest) (hW : (rest.map fun v => v.category).sum ≤ 8) (hdg : decode cc pc = .ok (.invokevirtual index, 3))
    (kk : ∀ (H1 : Heap) (L : List Loc), bP k a z1 H1 → va_S A s.heap H1 (locs ++ L) → (∀ x ∈ L, b2 a x.base) → H.size ≤ H1.size → (∀ x : Nat, x < H.size → ¬ b2 a x → H1[x]? = H[x]?) → W p l e R s m args below meth c H1 (locs ++ L) cells slots Q (F0 m (pc + 3) ls (o.toList ++ rest))) : W p l e R s m args below meth c H locs cells slots Q (F0 m pc ls st0) := by
  obtain ⟨⟨ws', hw⟩, h1, h2, h3⟩ := hk
  exact b_go hS hA (va_runU (C := RJ4) (owner := y.cls) hC hM (va_cwU n hC.2.2.2.2 hG hw rfl rfl rfl ⟨h1, h2, h3⟩ hR) ⟨bPc.blind, va_recv hGx.1 hP (ci := 1) (q0 := 0) rfl rfl, fun U hU hW => ⟨rfl, hGx.at hS hAB hU hW, ⟨hne, fun q h => hAB q (hA q h)⟩, by rw [hU]; exact hP⟩⟩ rfl hn hsz hst (lv_room hW) hdg hf) kk
/-- a method of StringBuilder itself -/
theorem bc_V (hC : CallFix p m c cc nL s args Ts own) (hGx : Gx k s) (hM : bM l k a y ws fr lo As z o z1) (hG : GoodIn Ts (wsV own index RJ4 y ws)) (hk : pK y ws bytes maxL ret n) (hyc : y.cls = RJ4) (hne : a.1 ≠ a.2) (hR : fr + 1 ≤ R.frames ∧ 8 + (maxL + 11) + lo ≤ R.locals) (hf : cells ≤ R.cells ∧ slots ≤ R.slots) (hP : bP k a z H) (hS : va_S A s.heap H locs) (hA : ∀ q, b2 a q → A q) (hAB : ∀ q, A q → kB k ≤ q) (hsz : ls.size = nL) (hn : As.length = n) (hst : st0 = As.reverse ++ .ref a.1 :: rest) (hW : (rest.map fun v => v.category).sum ≤ 8) (hdg : decode cc pc = .ok (.invokevirtual index, 3))
    (kk : ∀ (H1 : Heap) (L : List Loc), bP k a z1 H1 → va_S A s.heap H1 (locs ++ L) → (∀ x ∈ L, b2 a x.base) → H.size ≤ H1.size → (∀ x : Nat, x < H.size → ¬ b2 a x → H1[x]? = H[x]?) → W p l e R s m args below meth c H1 (locs ++ L) cells slots Q (F0 m (pc + 3) ls (o.toList ++ rest))) : W p l e R s m args below meth c H locs cells slots Q (F0 m pc ls st0) := by
  obtain ⟨⟨ws', hw⟩, h1, h2, h3⟩ := hk
  exact b_go hS hA (va_runV (C := RJ4) hC hM (cwV n hC.2.2.2.2 hG hw rfl rfl ⟨hyc, h1, h2, h3⟩ hR) ⟨bPc.blind, va_recv hGx.1 hP (ci := 1) (q0 := 0) rfl rfl, fun U hU hW => ⟨rfl, hGx.at hS hAB hU hW, ⟨hne, fun q h => hAB q (hA q h)⟩, by rw [hU]; exact hP⟩⟩ rfl hn hsz hst (lv_room hW) hdg hf) kk
end B6
theorem gU {own C : String} {idx : Nat} {y : MethodName} {a b : Cond} (h1 : Cond.methodLink own idx y ∈ GL) (h2 : Cond.sameMethod y.cls y.cls y.name y.desc ∈ GL) (h3 : Cond.selects C y y ∈ GL) (h4 : Cond.instanceMethod y ∈ GL) (h5 : Cond.initialized y.cls ∈ GL) (h6 : b ∈ GL) : GoodIn (a :: GL) (va_wsU own idx C y.cls y y (b :: GL)) := gP h1 (gP h2 (gP h3 (gP h4 (gP h5 (gC h6)))))
theorem gx_cs {k : Kx} {s : State} (h : Gx k s) : va_Z "java/lang/String" "COMPACT_STRINGS" "Z" (.int 1) (kA k) s s.heap := h.2.2.2.2.2.2.2.2.2.2.2.2.1
section E6
variable {p : Program} {l : Launch} {e : Env} {R : Room} {s : State} {m : MethodId} {args : Array Value} {below : List Frame} {meth : Method} {c : Code} {H : Heap} {locs : List Loc}
variable {cc : ByteArray} {pc : Nat} {ls : Array Slot} {k : Kx} {a : Nat × Nat} {z1 : BS}
theorem b_iret {E : Int32} {r : Int32 × BS} (hx : p.tables.exec = Jvm.exec) (hb : c.code = cc) (hr : meth.sig.returnType = some .int) (hlocks : meth.locks = false) (hm : (E, z1) = r) (hP : bP k a z1 H) (hS : va_S (b2 a) s.heap H locs) (hdg : decode cc pc = .ok (.ireturn, 1)) :
    W p l e R s m args below meth c H locs 0 0 (MQ below (bQ k a (some (.int r.1)) r.2) args s 0 0 (b2 a)) (F0 m pc ls [.int E]) := by
  subst hm
  exact W.iret (v := E) hx hb hr (fun t ht _ => ⟨rfl, by rw [ht]; exact hP, hS.F ht⟩) hS.2.2 hdg
theorem b_zret {E : Int32} {r : Int32 × BS} (hx : p.tables.exec = Jvm.exec) (hb : c.code = cc) (hr : meth.sig.returnType = some .boolean) (hlocks : meth.locks = false) (hn : narrow .boolean (.int E) = .int E) (hm : (E, z1) = r) (hP : bP k a z1 H) (hS : va_S (b2 a) s.heap H locs) (hdg : decode cc pc = .ok (.ireturn, 1)) :
    W p l e R s m args below meth c H locs 0 0 (MQ below (bQ k a (some (.int r.1)) r.2) args s 0 0 (b2 a)) (F0 m pc ls [.int E]) := by
  subst hm
  exact W.zret (v := E) (ty := .boolean) hx hb hr hn (fun t ht _ => ⟨rfl, by rw [ht]; exact hP, hS.F ht⟩) hS.2.2 hdg
theorem b_vret {r : Unit × BS} (hx : p.tables.exec = Jvm.exec) (hb : c.code = cc) (hr : meth.sig.returnType = none) (hlocks : meth.locks = false) (hm : ((), z1) = r) (hP : bP k a z1 H) (hS : va_S (b2 a) s.heap H locs) (hdg : decode cc pc = .ok (.return_, 1)) :
    W p l e R s m args below meth c H locs 0 0 (MQ below (bQ k a none r.2) args s 0 0 (b2 a)) (F0 m pc ls []) := by
  subst hm
  exact W.vret hx hb hr (fun t ht _ => ⟨rfl, by rw [ht]; exact hP, hS.F ht⟩) hS.2.2 hdg
theorem b_tret {C : String} {r : Unit × BS} (hx : p.tables.exec = Jvm.exec) (hb : c.code = cc) (hr : meth.sig.returnType = some (.object C)) (hlocks : meth.locks = false) (hm : ((), z1) = r) (hP : bP k a z1 H) (hS : va_S (b2 a) s.heap H locs) (hdg : decode cc pc = .ok (.areturn, 1)) :
    W p l e R s m args below meth c H locs 0 0 (MQ below (bQ k a (some (.ref a.1)) r.2) args s 0 0 (b2 a)) (F0 m pc ls [.ref a.1]) := by
  subst hm
  exact W.aret (v := .ref a.1) hx hb hr (Or.inl ⟨_, rfl⟩) (Or.inr ⟨_, rfl⟩) (fun t ht _ => ⟨rfl, by rw [ht]; exact hP, hS.F ht⟩) hS.2.2 hdg
end E6

