theorem va_D3 {A : Nat → Prop} {a b c : Nat} {x y z : va_E} (h1 : a ≠ b) (h2 : a ≠ c) (h3 : b ≠ c) (ha : A a) (hb : A b) (hc : A c) : va_D A [(a, x), (b, y), (c, z)] :=
  va_D.app (w1 := [(a, x)]) (va_D1 ha) (va_D2 h3 hb hc) (fun i j p q hi hj e => by
    match i, hi with
    | 0, hi =>
      cases hi
      match j, hj with
      | 0, hj => cases hj; exact h1 e
      | 1, hj => cases hj; exact h2 e
      | j + 2, hj => cases hj
    | i + 1, hi => cases hi)
theorem arrV_congr {c : ClassId} {N : Nat} {f g : Nat → Value} (h : ∀ j, j < N → f j = g j) : arrV c N f = arrV c N g := by
  unfold arrV
  congr 1
  exact congrArg (Array.ofFn (n := N)) (funext fun j => h j.val j.isLt)
def sW (k : Kx) (q r0 r1 : Nat) : va_W := [(q, .inl (kS k, 2, .inr (.inr (.inr (.inr (fun i => some (if i = 0 then r0 else r1))))))), (r0, .inl (kI k, 3, .inl (fun _ => 0))), (r1, .inl (kI k, 3, .inl (fun _ => 0)))]
theorem va_P.up3 {D : va_G} {cl : List vw_C} {ws : va_W} {H H1 : Heap} (h : va_P D cl ws H) (hq : ∀ (j : Nat) (p : Nat × va_E), ws[j]? = some p → p.1 < H.size → H1[p.1]? = H[p.1]?) : va_P D cl ws H1 := h.kept (fun j p hj => hq j p hj (h j p hj).lt)

theorem va_AY.use {args : Array Value} {s : State} (h : va_AY s) : (Cond.arrayOver (.array .int)).before args s = true := h
theorem mna_core {p : Program} {l : Launch} {e : Env} {R : Room} {s : State} {m : MethodId} {args : Array Value} {below : List Frame} {meth : Method} {c : Code} {T : State} {locs : List Loc} {cells slots pc idx : Nat} {cc : ByteArray} {own : String} {rest : List Value} {ls : Array Slot} {k : Kx} (X : Stand p l e R s m args below meth c T locs cells slots) (hx : p.tables.exec = Jvm.exec) (hb : c.code = cc) (hown : s.vm.findClass own = some m.cls) (hcl : (Cond.classLink own idx "[[I").before args s = true) (hAY : va_AY s) (harr : (Cond.arrayClass .int).before args s = true) (hGx : Gx k s) (hf : cells + 3 ≤ R.cells ∧ slots + 8 ≤ R.slots) (hdg : decode cc pc = .ok (.multianewarray idx 2, 4)) :
    ∃ F : State, F.heap.size = T.heap.size + 3 ∧ F.heap[T.heap.size]? = some (vp_cell (kS k) (2, .inr (.inr (.inr (.inr (fun i => some (if i = 0 then T.heap.size + 1 else T.heap.size + 2))))))) ∧ F.heap[T.heap.size + 1]? = some (vp_cell (kI k) (3, .inl (fun _ => 0))) ∧ F.heap[T.heap.size + 2]? = some (vp_cell (kI k) (3, .inl (fun _ => 0))) ∧ (∀ x : Nat, x < T.heap.size → F.heap[x]? = T.heap[x]?) ∧ Stand p l e R s m args below meth c F locs (cells + 3) (slots + 8) ∧ ∀ target, Steps p.tables e below (F.setTop (F0 m (pc + 4) ls (.ref T.heap.size :: rest))) target → Steps p.tables e below (T.setTop (F0 m pc ls (.int 3 :: .int 2 :: rest))) target := by
  have es : ("[" ++ (FieldType.array FieldType.int).toString) = "[[I" := by decide
  have e2 : (2 : Int32).toNatClampNeg = 2 := by decide
  have e3 : (3 : Int32).toNatClampNeg = 3 := by decide
  have aS : s.vm.findClass ("[" ++ (FieldType.array FieldType.int).toString) = some (kS k) := (hGx.1.2 4 _ rfl).2
  have aI : s.vm.findClass ("[" ++ FieldType.int.toString) = some (kI k) := (hGx.1.2 1 _ rfl).2
  obtain ⟨vm₁, cA, comp, -, fA, fC, -, -, X', step⟩ := Jvm.Stand.multianewarray2F X hx hown (by rw [es]; exact hcl) hAY.use harr (g := F0 m pc ls (.int 3 :: .int 2 :: rest)) rfl (by rw [hb]; exact hdg) rfl (by decide) (by decide) (by decide) (by decide) (by decide) rfl rfl (by rw [e2]; omega) (by rw [e2, e3]; omega)
  have eA : cA = kS k := Option.some.inj (fA.symm.trans aS)
  have eC : comp = kI k := Option.some.inj (fC.symm.trans aI)
  subst eA eC
  rw [e2, e3] at X' step
  obtain ⟨f1, f2, -, -⟩ := Jvm.Free.Multi.fill_facts (T.setVm vm₁) (kS k) (kI k) 2 3 (defaultValue .int) 2
  have f3 := Jvm.Free.Multi.fill_inner (T.setVm vm₁) (kS k) (kI k) 2 3 (defaultValue .int) 2
  have f4 : ∀ x : Nat, x < T.heap.size → (Jvm.Free.Multi.fill (T.setVm vm₁) (kS k) (kI k) 2 3 (defaultValue .int) 2).heap[x]? = T.heap[x]? := fun x h => Jvm.Free.Multi.fill_old (T.setVm vm₁) (kS k) (kI k) 2 3 (defaultValue .int) (a := x) h 2
  have hin : Jvm.Free.Multi.innerC (kI k) 3 (defaultValue .int) = vp_cell (kI k) (3, .inl (fun _ => 0)) := arrV_new _ _ _
  have hout : Jvm.Free.Multi.outerC (kS k) 2 T.heap.size 2 = vp_cell (kS k) (2, .inr (.inr (.inr (.inr (fun i => some (if i = 0 then T.heap.size + 1 else T.heap.size + 2)))))) := by
    show (({ cls := kS k, slots := Array.replicate 2 .null, vm := .none } : Cell).setSlot 0 (.ref (T.heap.size + 1 + 0))).setSlot 1 (.ref (T.heap.size + 1 + 1)) = arrV (kS k) 2 (fun j => va_rf (some (if j = 0 then T.heap.size + 1 else T.heap.size + 2)))
    rw [arrV_new, arrV_store, arrV_store]
    refine arrV_congr (fun j hj => ?_)
    rcases (show j = 0 ∨ j = 1 by omega) with rfl | rfl
    · rfl
    · rfl
  have f5 := f3 0 (by decide)
  have f6 := f3 1 (by decide)
  rw [hin] at f5 f6
  exact ⟨_, f1, f2.trans (congrArg some hout), f5, f6, f4, X', step⟩
theorem m_mna {p : Program} {l : Launch} {e : Env} {R : Room} {s : State} {m : MethodId} {args : Array Value} {below : List Frame} {meth : Method} {c : Code} {H : Heap} {locs : List Loc} {cells slots pc idx : Nat} {Q : State → Prop} {cc : ByteArray} {own : String} {rest : List Value} {ls : Array Slot} {k : Kx} {A : Nat → Prop} (hx : p.tables.exec = Jvm.exec) (hb : c.code = cc) (hown : s.vm.findClass own = some m.cls) (hcl : (Cond.classLink own idx "[[I").before args s = true) (hAY : va_AY s) (harr : (Cond.arrayClass .int).before args s = true) (hGx : Gx k s) (hS : va_S A s.heap H locs) (hf : cells + 3 ≤ R.cells ∧ slots + 8 ≤ R.slots) (hdg : decode cc pc = .ok (.multianewarray idx 2, 4))
    (kk : ∀ (q r0 r1 : Nat) (H1 : Heap), H.size ≤ q → H.size ≤ r0 → H.size ≤ r1 → q ≠ r0 → q ≠ r1 → r0 ≠ r1 → va_P (kD k) vwCl (sW k q r0 r1) H1 → H.size ≤ H1.size → (∀ x : Nat, x < H.size → H1[x]? = H[x]?) → va_S A s.heap H1 locs → W p l e R s m args below meth c H1 locs (cells + 3) (slots + 8) Q (F0 m (pc + 4) ls (.ref q :: rest))) : W p l e R s m args below meth c H locs cells slots Q (F0 m pc ls (.int 3 :: .int 2 :: rest)) := by
  intro T hT Xs
  obtain ⟨F, f1, f2, f3, f4, f5, X', step⟩ := mna_core (ls := ls) (rest := rest) Xs hx hb hown hcl hAY harr hGx hf hdg
  have hS1 := hS.1
  rw [hT] at f1 f2 f3 f4 f5 step
  have hP : va_P (kD k) vwCl (sW k H.size (H.size + 1) (H.size + 2)) F.heap := fun j q hq => by
    match j, hq with
    | 0, hq => cases hq; exact f2
    | 1, hq => cases hq; exact f3
    | 2, hq => cases hq; exact f4
    | j + 3, hq => cases hq
  obtain ⟨t, a1, b1⟩ := kk H.size (H.size + 1) (H.size + 2) F.heap (Nat.le_refl _) (by omega) (by omega) (by omega) (by omega) (by omega) hP (by omega) f5 ⟨by omega, fun x h1 h2 => (f5 x (Nat.lt_of_lt_of_le h1 hS.1)).trans (hS.2.1 x h1 h2), hS.2.2⟩ F rfl X'
  exact ⟨t, step t a1, b1⟩

