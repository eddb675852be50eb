/-! new objects of the law -/
section R12
variable {p : Program} {l : Launch} {e : Env} {R : Room} {s : State} {m : MethodId} {args : Array Value} {below : List Frame} {meth : Method} {c : Code} {H : Heap} {locs : List Loc} {cells slots : Nat} {Q : State → Prop}
variable {cc : ByteArray} {pc : Nat} {own : String} {rest : List Value} {ls : Array Slot} {k : Kx} {A : Nat → Prop}
theorem n0_new {idx : Nat} (hx : p.tables.exec = Jvm.exec) (hb : c.code = cc) (htg : ∀ w ∈ GL, w.before args s = true) (hown : s.vm.findClass own = some m.cls) (hcl : (Cond.classLink own idx RX0).before args s = true) (hinst : (Cond.instantiable RX0 6).before args s = true) (hini : (Cond.initialized RX0).before args s = true) (hGx : Gx k s) (hS : va_S A s.heap H locs) (hf : cells + 1 ≤ R.cells ∧ slots + 6 ≤ R.slots) (hdg : decode cc pc = .ok (.new idx, 3))
    (kk : ∀ (a : Nat) (H1 : Heap), H.size ≤ a → H.size ≤ H1.size → c0P k a H1 → (∀ x : Nat, x < H.size → H1[x]? = H[x]?) → va_S A s.heap H1 locs → W p l e R s m args below meth c H1 locs (cells + 1) (slots + 6) Q (F0 m (pc + 3) ls (.ref a :: rest))) : W p l e R s m args below meth c H locs cells slots Q (F0 m pc ls rest) := by
  have hKn := hGx.1.1 2 _ rfl
  refine W.newcK hx hb hown hcl hinst hini rfl hdg hf.1 hf.2 hKn.2.1 rfl fun H1 kC hkC e1 z1 o1 => ?_
  refine kk H.size H1 (Nat.le_refl _) (by omega) (fun j x hj => ?_) o1 ⟨Nat.le_trans hS.1 (by omega), fun x h1 h2 => (o1 x (Nat.lt_of_lt_of_le h1 hS.1)).trans (hS.2.1 x h1 h2), hS.2.2⟩
  match j, hj with
  | 0, hj => cases hj; exact ⟨_, rfl, (u_born tyX0 htg inG_X0 hKn hkC e1 tyX0_ok).to (fun j hj => by rcases (show j = 0 ∨ j = 1 ∨ j = 2 ∨ j = 3 ∨ j = 4 ∨ j = 5 by omega) with rfl | rfl | rfl | rfl | rfl | rfl <;> rfl)⟩
  | j + 1, hj => cases hj
theorem n3_new {idx : Nat} (hx : p.tables.exec = Jvm.exec) (hb : c.code = cc) (htg : ∀ w ∈ GL, w.before args s = true) (hown : s.vm.findClass own = some m.cls) (hcl : (Cond.classLink own idx RX3).before args s = true) (hinst : (Cond.instantiable RX3 5).before args s = true) (hini : (Cond.initialized RX3).before args s = true) (hGx : Gx k s) (hS : va_S A s.heap H locs) (hf : cells + 1 ≤ R.cells ∧ slots + 5 ≤ R.slots) (hdg : decode cc pc = .ok (.new idx, 3))
    (kk : ∀ (a : Nat) (H1 : Heap), H.size ≤ a → H.size ≤ H1.size → m0P k a H1 → (∀ x : Nat, x < H.size → H1[x]? = H[x]?) → va_S A s.heap H1 locs → W p l e R s m args below meth c H1 locs (cells + 1) (slots + 5) Q (F0 m (pc + 3) ls (.ref a :: rest))) : W p l e R s m args below meth c H locs cells slots Q (F0 m pc ls rest) := by
  have hKn := hGx.1.1 5 _ rfl
  refine W.newcK hx hb hown hcl hinst hini rfl hdg hf.1 hf.2 hKn.2.1 rfl fun H1 kC hkC e1 z1 o1 => ?_
  refine kk H.size H1 (Nat.le_refl _) (by omega) (fun j x hj => ?_) o1 ⟨Nat.le_trans hS.1 (by omega), fun x h1 h2 => (o1 x (Nat.lt_of_lt_of_le h1 hS.1)).trans (hS.2.1 x h1 h2), hS.2.2⟩
  match j, hj with
  | 0, hj => cases hj; exact ⟨_, rfl, (u_born tyX3 htg inG_X3 hKn hkC e1 tyX3_ok).to (fun j hj => by rcases (show j = 0 ∨ j = 1 ∨ j = 2 ∨ j = 3 ∨ j = 4 by omega) with rfl | rfl | rfl | rfl | rfl <;> rfl)⟩
  | j + 1, hj => cases hj
theorem n1_new {idx : Nat} (hx : p.tables.exec = Jvm.exec) (hb : c.code = cc) (htg : ∀ w ∈ GL, w.before args s = true) (hown : s.vm.findClass own = some m.cls) (hcl : (Cond.classLink own idx RX1).before args s = true) (hinst : (Cond.instantiable RX1 2).before args s = true) (hini : (Cond.initialized RX1).before args s = true) (hGx : Gx k s) (hS : va_S A s.heap H locs) (hf : cells + 1 ≤ R.cells ∧ slots + 2 ≤ R.slots) (hdg : decode cc pc = .ok (.new idx, 3))
    (kk : ∀ (a : Nat) (H1 : Heap), H.size ≤ a → H.size ≤ H1.size → oP k a 0 H1 → (∀ x : Nat, x < H.size → H1[x]? = H[x]?) → va_S A s.heap H1 locs → W p l e R s m args below meth c H1 locs (cells + 1) (slots + 2) Q (F0 m (pc + 3) ls (.ref a :: rest))) : W p l e R s m args below meth c H locs cells slots Q (F0 m pc ls rest) := by
  have hKn := hGx.1.1 3 _ rfl
  refine W.newcK hx hb hown hcl hinst hini rfl hdg hf.1 hf.2 hKn.2.1 rfl fun H1 kC hkC e1 z1 o1 => ?_
  refine kk H.size H1 (Nat.le_refl _) (by omega) ⟨.null, fun j x hj => ?_⟩ o1 ⟨Nat.le_trans hS.1 (by omega), fun x h1 h2 => (o1 x (Nat.lt_of_lt_of_le h1 hS.1)).trans (hS.2.1 x h1 h2), hS.2.2⟩
  match j, hj with
  | 0, hj => cases hj; exact ⟨_, rfl, (u_born tyX1 htg inG_X1 hKn hkC e1 tyX1_ok).to (fun j hj => by rcases (show j = 0 ∨ j = 1 by omega) with rfl | rfl <;> rfl)⟩
  | j + 1, hj => cases hj
end R12
/-- the three stand -/
theorem law_world {k : Kx} {s : State} {a b : CA} {o : Nat} {q : Nat → Nat} {H1 H2 H3 H4 H : Heap} {x y : Nat} (hk : kB k ≤ s.heap.size) (hx : s.heap.size ≤ x) (hx1 : x < H1.size) (hax : a.1 = x) (hDa : va_D (xA x H1.size) (cW k a z0C)) (ha5 : ∀ q, c5 a q → q = x ∨ H1.size ≤ q) (hs1 : s.heap.size ≤ H1.size) (hPa : va_P (kD k) vwCl (cW k a z0C) H2) (hz2 : H1.size ≤ H2.size)
    (hy : H2.size ≤ y) (hy3 : y < H3.size) (hz3 : H2.size ≤ H3.size) (hDb : va_D (xA y H3.size) (mW k b q z0M)) (hb5 : ∀ q, c5 b q → q = y ∨ H3.size ≤ q) (hqi : ∀ i : Nat, i < 6 → H3.size ≤ q i) (hV : mV k b [b.1, b.2.1, b.2.2.1, b.2.2.2.1, b.2.2.2.2] q z0M H4) (hz4 : H3.size ≤ H4.size) (ho : H4.size ≤ o) (hO : oP k o 0 H) (hzH : H4.size ≤ H.size) (hq24 : ∀ x : Nat, x < H2.size → H4[x]? = H2[x]?) (hq4 : ∀ x : Nat, x < H4.size → H[x]? = H4[x]?) :
    LD k a o b ([b.1, b.2.1, b.2.2.1, b.2.2.2.1, b.2.2.2.2] ++ [a.1, a.2.1, a.2.2.1, a.2.2.2.1, a.2.2.2.2] ++ [o]) s ∧ LI k a o b ([b.1, b.2.1, b.2.2.1, b.2.2.2.1, b.2.2.2.2] ++ [a.1, a.2.1, a.2.2.1, a.2.2.2.1, a.2.2.2.2] ++ [o]) z0C 0 z0M H := by
  have ha2 : ∀ q, c5 a q → q < H2.size := by
    intro q h
    rcases h with rfl | rfl | rfl | rfl | rfl
    · exact (hPa 0 _ rfl).lt
    · exact (hPa 1 _ rfl).lt
    · exact (hPa 2 _ rfl).lt
    · exact (hPa 3 _ rfl).lt
    · exact (hPa 4 _ rfl).lt
  have hb4 : ∀ q, c5 b q → q < H4.size := by
    intro q h
    rcases h with rfl | rfl | rfl | rfl | rfl
    · exact (hV.1 0 _ rfl).lt
    · exact (hV.1 1 _ rfl).lt
    · exact (hV.1 2 _ rfl).lt
    · exact (hV.1 3 _ rfl).lt
    · exact (hV.1 4 _ rfl).lt
  have hb2 : ∀ q, c5 b q → H2.size ≤ q := fun q h => (hb5 q h).elim (fun e => e ▸ hy) (fun h => Nat.le_trans hz3 h)
  have haS : ∀ q, c5 a q → s.heap.size ≤ q := fun q h => (ha5 q h).elim (fun e => e ▸ hx) (fun h => Nat.le_trans hs1 h)
  have hLm : ∀ x ∈ ([b.1, b.2.1, b.2.2.1, b.2.2.2.1, b.2.2.2.2] ++ [a.1, a.2.1, a.2.2.1, a.2.2.2.1, a.2.2.2.2] ++ [o] : List Nat), c5 b x ∨ c5 a x ∨ x = o := by
    intro x h
    simp only [List.cons_append, List.nil_append, List.mem_cons, List.not_mem_nil, or_false] at h
    rcases h with h | h | h | h | h | h | h | h | h | h | h
    · exact Or.inl (Or.inl h)
    · exact Or.inl (Or.inr (Or.inl h))
    · exact Or.inl (Or.inr (Or.inr (Or.inl h)))
    · exact Or.inl (Or.inr (Or.inr (Or.inr (Or.inl h))))
    · exact Or.inl (Or.inr (Or.inr (Or.inr (Or.inr h))))
    · exact Or.inr (Or.inl (Or.inl h))
    · exact Or.inr (Or.inl (Or.inr (Or.inl h)))
    · exact Or.inr (Or.inl (Or.inr (Or.inr (Or.inl h))))
    · exact Or.inr (Or.inl (Or.inr (Or.inr (Or.inr (Or.inl h)))))
    · exact Or.inr (Or.inl (Or.inr (Or.inr (Or.inr (Or.inr h)))))
    · exact Or.inr (Or.inr h)
  have hLS : ∀ x ∈ ([b.1, b.2.1, b.2.2.1, b.2.2.2.1, b.2.2.2.2] ++ [a.1, a.2.1, a.2.2.1, a.2.2.2.1, a.2.2.2.2] ++ [o] : List Nat), s.heap.size ≤ x := fun x h => by
    rcases hLm x h with h | h | h
    · have := hb2 x h; omega
    · exact haS x h
    · omega
  have hD := cD_of hDa (fun q h => h.elim (fun e => by rw [e]; omega) (fun h => by have : H1.size ≤ q := h; omega))
  have hB := mD_of hDb (fun q h => h.elim (fun e => by rw [e]; omega) (fun h => by have : H3.size ≤ q := h; omega))
  refine ⟨⟨hD, ⟨hB.1, by simp, by simp, by simp, by simp, by simp⟩, fun x h => ?_, by simp, fun h => by have := ha2 o h; omega, fun x h => ⟨fun h2 => by have := ha2 x h2; have := hb2 x h; omega, fun e => by have := hb4 x h; omega⟩, hLS⟩, hPa.kept (fun j p hj => ?_), hO, ⟨q, hV.1.kept (fun j p hj => hq4 p.1 (hV.1 j p hj).lt), fun i hi => ⟨(hV.2 i hi).1.up (hq4 _ (hV.2 i hi).1.lt), fun x h e => ?_⟩⟩, fun x h => ?_⟩
  · rcases h with rfl | rfl | rfl | rfl | rfl <;> simp
  · have h2 := ha2 _ (cW_in hj)
    exact (hq4 p.1 (by omega)).trans (hq24 p.1 h2)
  · have hl := (hV.2 i hi).1.lt
    have hi2 := hqi i hi
    rcases hLm x h with h | h | h
    · rcases h with h | h | h | h | h
      · exact (hV.2 i hi).2 _ (by simp) (e.trans h)
      · exact (hV.2 i hi).2 _ (by simp) (e.trans h)
      · exact (hV.2 i hi).2 _ (by simp) (e.trans h)
      · exact (hV.2 i hi).2 _ (by simp) (e.trans h)
      · exact (hV.2 i hi).2 _ (by simp) (e.trans h)
    · have := ha2 x h; omega
    · omega
  · rcases hLm x h with h | h | h
    · have := hb4 x h; omega
    · have := ha2 x h; omega
    · rw [h]; exact hO.lt

