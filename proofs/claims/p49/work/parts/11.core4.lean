/-! THE REFERENCE's OBJECT: its cells, its dates; rows for them -/
abbrev MS : Type := Int32 × (Nat → DT) × (Nat → Int32) × (Nat → Int32) × Int32 × Int32
def mW (k : Kx) (b : CA) (q : Nat → Nat) (z : MS) : va_W := [(b.1, .inr (5, [.int z.1, .ref b.2.1, .ref b.2.2.1, .int z.2.2.2.2.1, .int z.2.2.2.2.2])), (b.2.1, .inl (kT k, 6, .inr (.inr (.inr (.inr (fun i => some (q i))))))), (b.2.2.1, .inl (kS k, 2, .inr (.inr (.inr (.inr (fun i => some (if i = 0 then b.2.2.2.1 else b.2.2.2.2))))))), (b.2.2.2.1, .inl (kI k, 3, .inl z.2.2.1)), (b.2.2.2.2, .inl (kI k, 3, .inl z.2.2.2.1))]
def dF (k : Kx) (L : List Nat) (q : Nat) (v : DT) (H : Heap) : Prop := dP k q v H ∧ ∀ x ∈ L, q ≠ x
def mV (k : Kx) (b : CA) (L : List Nat) (q : Nat → Nat) (z : MS) (H : Heap) : Prop := va_P (kD k) vwCl (mW k b q z) H ∧ ∀ i : Nat, i < 6 → dF k L (q i) (z.2.1 i) H
def mD (k : Kx) (b : CA) (L : List Nat) : Prop := (∀ (q : Nat → Nat) (z : MS), va_D (kA k) (mW k b q z)) ∧ b.1 ∈ L ∧ b.2.1 ∈ L ∧ b.2.2.1 ∈ L ∧ b.2.2.2.1 ∈ L ∧ b.2.2.2.2 ∈ L
theorem mD.own {k : Kx} {b : CA} {L : List Nat} (h : mD k b L) (sz : Nat) (q : Nat → Nat) (z : MS) : va_D (cA b sz) (mW k b q z) := by
  refine ⟨(h.1 q z).1, fun j x hx => ?_⟩
  match j, hx with
  | 0, hx => cases hx; exact Or.inl rfl
  | 1, hx => cases hx; exact Or.inr (Or.inl rfl)
  | 2, hx => cases hx; exact Or.inr (Or.inr (Or.inl rfl))
  | 3, hx => cases hx; exact Or.inr (Or.inr (Or.inr (Or.inl rfl)))
  | 4, hx => cases hx; exact Or.inr (Or.inr (Or.inr (Or.inr (Or.inl rfl))))
  | j + 5, hx => cases hx
theorem mD.high {k : Kx} {b : CA} {L : List Nat} (h : mD k b L) {sz : Nat} (hs : kB k ≤ sz) : ∀ q, cA b sz q → kB k ≤ q := by
  have hz := (h.1 (fun _ => 0) (0, fun _ => (0, 0, 0), fun _ => 0, fun _ => 0, 0, 0)).2
  intro q hq
  rcases hq with rfl | rfl | rfl | rfl | rfl | hq
  · exact hz 0 _ rfl
  · exact hz 1 _ rfl
  · exact hz 2 _ rfl
  · exact hz 3 _ rfl
  · exact hz 4 _ rfl
  · exact Nat.le_trans hs hq
theorem mD.mem {k : Kx} {b : CA} {L : List Nat} (h : mD k b L) {sz x : Nat} (hx : cA b sz x) : x ∈ L ∨ sz ≤ x := by
  obtain ⟨-, h1, h2, h3, h4, h5⟩ := h
  rcases hx with rfl | rfl | rfl | rfl | rfl | hx
  · exact Or.inl h1
  · exact Or.inl h2
  · exact Or.inl h3
  · exact Or.inl h4
  · exact Or.inl h5
  · exact Or.inr hx
def c5 (b : CA) : Nat → Prop := fun q => q = b.1 ∨ q = b.2.1 ∨ q = b.2.2.1 ∨ q = b.2.2.2.1 ∨ q = b.2.2.2.2
theorem c5.cA {b : CA} {sz q : Nat} (h : c5 b q) : cA b sz q := by
  rcases h with h | h | h | h | h
  · exact Or.inl h
  · exact Or.inr (Or.inl h)
  · exact Or.inr (Or.inr (Or.inl h))
  · exact Or.inr (Or.inr (Or.inr (Or.inl h)))
  · exact Or.inr (Or.inr (Or.inr (Or.inr (Or.inl h))))
theorem mD.in5 {k : Kx} {b : CA} {L : List Nat} (h : mD k b L) {x : Nat} (hx : c5 b x) : x ∈ L := by
  obtain ⟨-, h1, h2, h3, h4, h5⟩ := h
  rcases hx with rfl | rfl | rfl | rfl | rfl
  · exact h1
  · exact h2
  · exact h3
  · exact h4
  · exact h5
theorem mD.own5 {k : Kx} {b : CA} {L : List Nat} (h : mD k b L) (q : Nat → Nat) (z : MS) : va_D (c5 b) (mW k b q z) := by
  refine ⟨(h.1 q z).1, fun j x hx => ?_⟩
  match j, hx with
  | 0, hx => cases hx; exact Or.inl rfl
  | 1, hx => cases hx; exact Or.inr (Or.inl rfl)
  | 2, hx => cases hx; exact Or.inr (Or.inr (Or.inl rfl))
  | 3, hx => cases hx; exact Or.inr (Or.inr (Or.inr (Or.inl rfl)))
  | 4, hx => cases hx; exact Or.inr (Or.inr (Or.inr (Or.inr rfl)))
  | j + 5, hx => cases hx
/-- what has been written since the method began: its object's cells alone, and new ones -/
def mS (b : CA) (H0 H : Heap) (locs : List Loc) : Prop := va_S (cA b H0.size) H0 H locs ∧ ∀ x ∈ locs, c5 b x.base
theorem mS.rf {b : CA} {H0 : Heap} : mS b H0 H0 [] := ⟨va_S.rf, fun _ h => absurd h List.not_mem_nil⟩
theorem mS.go {b : CA} {H0 H H1 : Heap} {locs locs1 : List Loc} (h : mS b H0 H locs) (h1 : va_S (c5 b) H H1 locs1) : mS b H0 H1 locs1 :=
  ⟨⟨Nat.le_trans h.1.1 h1.1, fun q h2 h3 => (h1.2.1 q (Nat.lt_of_lt_of_le h2 h.1.1) (fun h4 => h3 h4.cA)).trans (h.1.2.1 q h2 h3), fun x hx => (h1.2.2 x hx).cA⟩, h1.2.2⟩
theorem dF.up {k : Kx} {L : List Nat} {q : Nat} {v : DT} {H H1 : Heap} (h : dF k L q v H) (hq : ∀ x : Nat, x < H.size → (∀ y ∈ L, x ≠ y) → H1[x]? = H[x]?) : dF k L q v H1 := ⟨h.1.up (hq q h.1.lt h.2), h.2⟩
theorem mV.up {k : Kx} {b : CA} {L : List Nat} {q : Nat → Nat} {z : MS} {H H1 : Heap} (h : mV k b L q z H) (hq : ∀ x : Nat, x < H.size → H1[x]? = H[x]?) : mV k b L q z H1 :=
  ⟨h.1.kept (fun j x hj => hq x.1 (h.1 j x hj).lt), fun i hi => (h.2 i hi).up (fun x hx _ => hq x hx)⟩
/-- a date that a call has made is none of the cells that change -/
theorem dF.made {k : Kx} {L : List Nat} {q n : Nat} {v : DT} {H : Heap} (hL : ∀ x ∈ L, x < n) (hn : n ≤ q) (h : dP k q v H) : dF k L q v H := ⟨h, fun x hx e => Nat.lt_irrefl _ (Nat.lt_of_lt_of_le (hL x hx) (e ▸ hn))⟩
def mPc (k : Kx) (b : CA) (L : List Nat) (sz : Nat) (q : Nat → Nat) (z : MS) (ds : List (Nat × DT)) (U : State) : Prop := U.heap.size = sz ∧ Gx k U ∧ mV k b L q z U.heap ∧ (∀ x ∈ L, x < U.heap.size) ∧ ∀ d ∈ ds, dF k L d.1 d.2 U.heap
def mQ (k : Kx) (b : CA) (L : List Nat) (o : Option Value) (z : MS) : Array Value → State → Outcome → State → Prop := fun _ st oc t => oc = .returned o ∧ (∃ q, mV k b L q z t.heap) ∧ va_F (cA b st.heap.size) st t
def mM (l : Launch) (k : Kx) (b : CA) (L : List Nat) (y : MethodName) (ws : List Cond) (fr lo mc ms : Nat) (av : List Value) (ds : List (Nat × DT)) (z : MS) (o : Option Value) (z' : MS) : Prop :=
  ∀ (sz : Nat) (q : Nat → Nat), Met l y ws { frames := fr, cells := mc, slots := ms, locals := lo } (va_Pc (.ref b.1 :: av) (mPc k b L sz q z ds)) (mQ k b L o z') mc ms (c5 b)
theorem mPc.blind {k : Kx} {b : CA} {L : List Nat} {sz : Nat} {q : Nat → Nat} {z : MS} {ds : List (Nat × DT)} {av : List Value} : FrameBlind (va_Pc av (mPc k b L sz q z ds)) := fun _ _ _ _ h => ⟨h.1, h.2.1, h.2.2.1.blind, h.2.2.2⟩
def sget (z : MS) (n j : Nat) : Int32 := if n = 0 then z.2.2.1 j else z.2.2.2.1 j
def sput (z : MS) (n j : Nat) (v : Int32) : MS := (z.1, z.2.1, if n = 0 then upd z.2.2.1 j v else z.2.2.1, if n = 0 then z.2.2.2.1 else upd z.2.2.2.1 j v, z.2.2.2.2.1, z.2.2.2.2.2)
def dput (z : MS) (n : Nat) (d : DT) : MS := (z.1, va_up z.2.1 n d, z.2.2.1, z.2.2.2.1, z.2.2.2.2.1, z.2.2.2.2.2)
def srow (b : CA) (n : Nat) : Nat := if n = 0 then b.2.2.2.1 else b.2.2.2.2
theorem mW_put (k : Kx) (b : CA) (q : Nat → Nat) (z : MS) (n v : Nat) (d : DT) : (mW k b q z).set 1 (b.2.1, .inl (kT k, 6, .inr (.inr (.inr (.inr (va_up (fun i => some (q i)) n (some v))))))) = mW k b (va_up q n v) (dput z n d) := by
  have e : va_up (fun i => some (q i)) n (some v) = fun i => some (va_up q n v i) := by
    funext i
    unfold va_up
    split <;> rfl
  rw [e]
  rfl
section MRows
variable {p : Program} {l : Launch} {e : Env} {R : Room} {s : State} {m : MethodId} {args : Array Value} {below : List Frame} {meth : Method} {c : Code} {H : Heap} {locs : List Loc} {cells slots : Nat} {Q : State → Prop}
variable {cc bytes : ByteArray} {nL maxL n index fr lo mc ms pc : Nat} {Ts ws : List Cond} {own C host : String} {y : MethodName} {ret : Option FieldType} {As rest st0 : List Value} {ls : Array Slot} {k : Kx} {b : CA} {L : List Nat} {q : Nat → Nat} {z z1 : MS} {ds : List (Nat × DT)} {o : Option Value}
/-- a call of another method of the reference -/
theorem mc_V (hC : CallFix p m c cc nL s args Ts own) (hGx : Gx k s) (hD : mD k b L) (hM : mM l k b L y ws fr lo mc ms As ds z o z1) (hG : GoodIn Ts (wsV own index RX3 y ws)) (hk : pK y ws bytes maxL ret n) (hyc : y.cls = RX3) (hd : ∀ d ∈ ds, dF k L d.1 d.2 H) (hLb : ∀ x ∈ L, x < s.heap.size) (hR : fr + 1 ≤ R.frames ∧ 8 + (maxL + 11) + lo ≤ R.locals) (hf : cells + mc ≤ R.cells ∧ slots + ms ≤ R.slots) (hV : mV k b L q z H) (hS : mS b s.heap H locs) (hsz : ls.size = nL) (hn : As.length = n) (hst : st0 = As.reverse ++ .ref b.1 :: rest) (hW : (rest.map fun v => v.category).sum ≤ 8) (hdg : decode cc pc = .ok (.invokevirtual index, 3))
    (kk : ∀ (q1 : Nat → Nat) (H1 : Heap) (locs1 : List Loc), mV k b L q1 z1 H1 → mS b s.heap H1 locs1 → H.size ≤ H1.size → (∀ x : Nat, x < H.size → (∀ y ∈ L, x ≠ y) → H1[x]? = H[x]?) → W p l e R s m args below meth c H1 locs1 (cells + mc) (slots + ms) Q (F0 m (pc + 3) ls (o.toList ++ rest))) : W p l e R s m args below meth c H locs cells slots Q (F0 m pc ls st0) := by
  obtain ⟨⟨ws', hw⟩, h1, h2, h3⟩ := hk
  have hr := va_runV (H := H) (locs := locs) (cells := cells) (slots := slots) (e := e) (below := below) (meth := meth) (g := F0 m pc ls st0) (rest := rest) (C := RX3) (b := b.1) hC (hM H.size q) (cwV n hC.2.2.2.2 hG hw rfl rfl ⟨hyc, h1, h2, h3⟩ hR)
    ⟨mPc.blind, va_recv hGx.1 hV.1 (ci := 5) (q0 := 0) rfl rfl, fun U hU hW => ⟨rfl, by rw [hU], hGx.at hS.1 (hD.high hGx.2.1) hU hW, by rw [hU]; exact hV, fun x hx => by rw [hU]; exact Nat.lt_of_lt_of_le (hLb x hx) hS.1.1, fun d hd' => by rw [hU]; exact hd d hd'⟩⟩ rfl hn hsz hst (lv_room hW) hdg hf
  intro T hT X
  obtain ⟨v, st₀, t, T', L', h0, X', hL, e1, e2, ⟨hv, ⟨q1, hV1⟩, hF⟩, st⟩ := hr T hT X
  cases hv
  rw [h0] at hF
  have hF1 := hF.1
  have hF2 := hF.2
  rw [h0] at hF1 hF2
  obtain ⟨t2, a1, b1⟩ := kk q1 T'.heap (locs ++ L') (by rw [e1]; exact hV1)
    ⟨⟨Nat.le_trans hS.1.1 (by rw [e1]; exact hF1), fun q h4 h5 => by
      rw [e1, hF2 q (Nat.lt_of_lt_of_le h4 hS.1.1) (fun h6 => h5 (cA.up hS.1.1 q h6))]
      exact hS.1.2.1 q h4 h5, fun q hq => by
      rcases List.mem_append.mp hq with h | h
      · exact hS.1.2.2 q h
      · exact (hL q h).cA⟩, fun q hq => (List.mem_append.mp hq).elim (hS.2 q) (hL q)⟩ (by rw [e1]; exact hF1)
    (fun x hx hx2 => by
      rw [e1]
      exact hF2 x hx (fun h6 => (hD.mem h6).elim (fun h => hx2 x h rfl) (fun h => Nat.lt_irrefl _ (Nat.lt_of_lt_of_le hx h)))) T' rfl X'
  exact ⟨t2, st t2 a1, b1⟩
theorem m_ald (hx : p.tables.exec = Jvm.exec) (hb : c.code = cc) (hGx : Gx k s) (hV : mV k b L q z H) {i : Int32} (hin : vp_in i 6) (hdg : decode cc pc = .ok (.aaload, 1))
    (kk : dF k L (q i.toNatClampNeg) (z.2.1 i.toNatClampNeg) H → W p l e R s m args below meth c H locs cells slots Q (F0 m (pc + 1) ls (.ref (q i.toNatClampNeg) :: rest))) : W p l e R s m args below meth c H locs cells slots Q (F0 m pc ls (.int i :: .ref b.2.1 :: rest)) :=
  va_aldq (D := kD k) hx hb hGx.1 hV.1 1 3 rfl rfl hin hdg (kk (hV.2 _ (Nat.not_le.mp fun h => hin (Or.inr h))))
theorem m_lds (hx : p.tables.exec = Jvm.exec) (hb : c.code = cc) (hGx : Gx k s) (hV : mV k b L q z H) {i : Int32} (hin : vp_in i 2) (hdg : decode cc pc = .ok (.aaload, 1))
    (kk : W p l e R s m args below meth c H locs cells slots Q (F0 m (pc + 1) ls (.ref (srow b i.toNatClampNeg) :: rest))) : W p l e R s m args below meth c H locs cells slots Q (F0 m pc ls (.int i :: .ref b.2.2.1 :: rest)) := by
  have hlt : i.toNatClampNeg < 2 := Nat.not_le.mp fun q => hin (Or.inr q)
  exact W.aald (v := .ref (srow b i.toNatClampNeg)) (ty := .array .int) hx hb (hV.1 2 _ rfl) ((hGx.1.2 4 _ rfl).1 2 (fun j => va_rf (some (if j = 0 then b.2.2.2.1 else b.2.2.2.2)))) rfl (fun q => by cases q) (by show ¬ (i < 0 ∨ (arrV _ _ _).slots.size ≤ _); rw [arrV_size]; exact hin) (by show (arrV _ _ _).slots[_]? = _; rw [arrV_read _ _ hlt]; rfl) rfl rfl hdg kk
theorem m_sld (hx : p.tables.exec = Jvm.exec) (hb : c.code = cc) (hGx : Gx k s) (hV : mV k b L q z H) {r : Nat} {i : Int32} (hin : vp_in i 3) (hdg : decode cc pc = .ok (.iaload, 1))
    (kk : W p l e R s m args below meth c H locs cells slots Q (F0 m (pc + 1) ls (.int (sget z r i.toNatClampNeg) :: rest))) : W p l e R s m args below meth c H locs cells slots Q (F0 m pc ls (.int i :: .ref (srow b r) :: rest)) := by
  unfold sget at kk
  unfold srow
  by_cases h : r = 0
  · rw [if_pos h] at kk ⊢
    exact va_iald (D := kD k) hx hb hGx.1 hV.1 3 1 rfl rfl hin hdg kk
  · rw [if_neg h] at kk ⊢
    exact va_iald (D := kD k) hx hb hGx.1 hV.1 4 1 rfl rfl hin hdg kk
theorem mV.set {H1 : Heap} {w : va_W} {z' : MS} (hV : mV k b L q z H) (hD : mD k b L) (hw : va_P (kD k) vwCl w H1) (e : w = mW k b q z') (ed : z'.2.1 = z.2.1) (hq : ∀ x : Nat, x < H.size → (∀ y ∈ L, x ≠ y) → H1[x]? = H[x]?) : mV k b L q z' H1 :=
  ⟨e ▸ hw, fun i hi => by rw [ed]; exact (hV.2 i hi).up hq⟩
/-- a field of numbers is written -/
theorem m_put {idx : Nat} {v : Int32} (fi : Nat) (hx : p.tables.exec = Jvm.exec) (hb : c.code = cc) (htg : ∀ w ∈ GL, w.before args s = true) (hown : s.vm.findClass own = some m.cls) (hGx : Gx k s) (hD : mD k b L) (hV : mV k b L q z H) (hS : mS b s.heap H locs) (hfi : fi < 5) (hlink : (Cond.fieldLink own idx "DatesoloModel" (TX3 fi).2.1 (TX3 fi).2.2.1).before args s = true) (hT : (TX3 fi).1 = "DatesoloModel" ∧ (TX3 fi).2.2.2 = false ∧ parseFieldDescriptor (TX3 fi).2.2.1 = some .int)
    (hw : (mW k b q z).set 0 (b.1, .inr (5, ([.int z.1, .ref b.2.1, .ref b.2.2.1, .int z.2.2.2.2.1, .int z.2.2.2.2.2] : List Value).set fi (.int v))) = mW k b q z1) (hz : z1.2.1 = z.2.1) (hdg : decode cc pc = .ok (.putfield idx, 3))
    (kk : ∀ (H1 : Heap) (locs1 : List Loc), mV k b L q z1 H1 → mS b s.heap H1 locs1 → H.size ≤ H1.size → (∀ x : Nat, x < H.size → (∀ y ∈ L, x ≠ y) → H1[x]? = H[x]?) → W p l e R s m args below meth c H1 locs1 cells slots Q (F0 m (pc + 3) ls rest)) : W p l e R s m args below meth c H locs cells slots Q (F0 m pc ls (.int v :: .ref b.1 :: rest)) := by
  refine va_put (D := kD k) (ci := 5) (v := .int v) (ty := .int) (C := RX3) (T := TX3) (N := 5) (A := c5 b) (H0 := H) hx hb htg inG_X3 tyX3 tyX3_ok nmX3 hown hGx.1 hV.1 (hD.own5 _ _) ⟨Nat.le_refl _, fun _ _ _ => rfl, hS.2⟩ 0 rfl rfl fi hfi hlink (fun x h9 => by rw [hT.1] at h9; exact h9) hT.2.1 hT.2.2 rfl rfl hfi hdg (fun H1 locs1 hP1 _ hS1 => ?_)
  have hq : ∀ x : Nat, x < H.size → (∀ y ∈ L, x ≠ y) → H1[x]? = H[x]? := fun x h1 h2 => hS1.2.1 x h1 (fun h3 => h2 x (hD.in5 h3) rfl)
  exact kk H1 locs1 (hV.set hD hP1 hw hz hq) (hS.go hS1) hS1.1 hq
theorem dF.any {v : DT} {a : Nat} (hGx : Gx k s) (h : dP k a v H) : va_Any "DatesoloModel$Date" s H a :=
  va_rAny (r := (RX2, TX2, 3)) hGx.1 h (q0 := 0) (ci := 4) rfl rfl (fun comp c0 h1 h2 => by
    cases Option.some.inj (h1.symm.trans h2)
    have hk := (hGx.1.1 4 _ rfl).2
    cases Option.some.inj (h1.symm.trans hk.1)
    exact va_assign hk)
/-- dates[i] = a date -/
theorem m_ast {v : DT} {a : Nat} {i : Int32} (hx : p.tables.exec = Jvm.exec) (hb : c.code = cc) (hGx : Gx k s) (hD : mD k b L) (hV : mV k b L q z H) (hS : mS b s.heap H locs) (ha : dF k L a v H) (hin : vp_in i 6) (hdg : decode cc pc = .ok (.aastore, 1))
    (kk : ∀ (H1 : Heap) (locs1 : List Loc), mV k b L (va_up q i.toNatClampNeg a) (dput z i.toNatClampNeg v) H1 → mS b s.heap H1 locs1 → H.size ≤ H1.size → (∀ x : Nat, x < H.size → (∀ y ∈ L, x ≠ y) → H1[x]? = H[x]?) → W p l e R s m args below meth c H1 locs1 cells slots Q (F0 m (pc + 1) ls rest)) : W p l e R s m args below meth c H locs cells slots Q (F0 m pc ls (.ref a :: .int i :: .ref b.2.1 :: rest)) := by
  refine va_astqM (D := kD k) (A := c5 b) (H0 := H) hx hb hGx.1 hV.1 (hD.own5 _ _) ⟨Nat.le_refl _, fun _ _ _ => rfl, hS.2⟩ 1 3 rfl rfl (dF.any hGx ha.1) hin hdg (fun H1 locs1 hP1 _ hS1 => ?_)
  have hq : ∀ x : Nat, x < H.size → (∀ y ∈ L, x ≠ y) → H1[x]? = H[x]? := fun x h1 h2 => hS1.2.1 x h1 (fun h3 => h2 x (hD.in5 h3) rfl)
  refine kk H1 locs1 ⟨(mW_put k b q z _ a v) ▸ hP1, fun j hj => ?_⟩ (hS.go hS1) hS1.1 hq
  show dF k L (va_up q i.toNatClampNeg a j) (va_up z.2.1 i.toNatClampNeg v j) H1
  by_cases h : j = i.toNatClampNeg
  · simp only [va_up, if_pos h]
    exact ha.up hq
  · simp only [va_up, if_neg h]
    exact (hV.2 j hj).up hq
/-- spans[r][i] = a number -/
theorem m_sst {r : Nat} {i v : Int32} (hx : p.tables.exec = Jvm.exec) (hb : c.code = cc) (hGx : Gx k s) (hD : mD k b L) (hV : mV k b L q z H) (hS : mS b s.heap H locs) (hin : vp_in i 3) (hdg : decode cc pc = .ok (.iastore, 1))
    (kk : ∀ (H1 : Heap) (locs1 : List Loc), mV k b L q (sput z r i.toNatClampNeg v) H1 → mS b s.heap H1 locs1 → H.size ≤ H1.size → (∀ x : Nat, x < H.size → (∀ y ∈ L, x ≠ y) → H1[x]? = H[x]?) → W p l e R s m args below meth c H1 locs1 cells slots Q (F0 m (pc + 1) ls rest)) : W p l e R s m args below meth c H locs cells slots Q (F0 m pc ls (.int v :: .int i :: .ref (srow b r) :: rest)) := by
  unfold sput at kk
  unfold srow
  by_cases h : r = 0
  · simp only [if_pos h] at kk ⊢
    refine va_iast (D := kD k) (A := c5 b) (H0 := H) hx hb hGx.1 hV.1 (hD.own5 _ _) ⟨Nat.le_refl _, fun _ _ _ => rfl, hS.2⟩ 3 1 rfl rfl hin hdg (fun H1 locs1 hP1 _ hS1 => ?_)
    have hq : ∀ x : Nat, x < H.size → (∀ y ∈ L, x ≠ y) → H1[x]? = H[x]? := fun x h1 h2 => hS1.2.1 x h1 (fun h3 => h2 x (hD.in5 h3) rfl)
    exact kk H1 locs1 (hV.set hD hP1 rfl rfl hq) (hS.go hS1) hS1.1 hq
  · simp only [if_neg h] at kk ⊢
    refine va_iast (D := kD k) (A := c5 b) (H0 := H) hx hb hGx.1 hV.1 (hD.own5 _ _) ⟨Nat.le_refl _, fun _ _ _ => rfl, hS.2⟩ 4 1 rfl rfl hin hdg (fun H1 locs1 hP1 _ hS1 => ?_)
    have hq : ∀ x : Nat, x < H.size → (∀ y ∈ L, x ≠ y) → H1[x]? = H[x]? := fun x h1 h2 => hS1.2.1 x h1 (fun h3 => h2 x (hD.in5 h3) rfl)
    exact kk H1 locs1 (hV.set hD hP1 rfl rfl hq) (hS.go hS1) hS1.1 hq
/-- new Date: the blank object -/
theorem m_new {idx : Nat} {A : Nat → Prop} (hx : p.tables.exec = Jvm.exec) (hb : c.code = cc) (htg : ∀ w ∈ GL, w.before args s = true) (hown : s.vm.findClass own = some m.cls) (hcl : (Cond.classLink own idx RX2).before args s = true) (hinst : (Cond.instantiable RX2 3).before args s = true) (hini : (Cond.initialized RX2).before args s = true) (hGx : Gx k s) (hS : va_S A s.heap H locs) (hf : cells + 1 ≤ R.cells ∧ slots + 3 ≤ R.slots) (hdg : decode cc pc = .ok (.new idx, 3))
    (kk : ∀ H1 : Heap, va_P (kD k) vwCl [(H.size, .inr (4, [.int 0, .int 0, .int 0]))] H1 → H1.size = H.size + 1 → (∀ x : Nat, x < H.size → H1[x]? = H[x]?) → va_S A s.heap H1 locs → W p l e R s m args below meth c H1 locs (cells + 1) (slots + 3) Q (F0 m (pc + 3) ls (.ref H.size :: rest))) : W p l e R s m args below meth c H locs cells slots Q (F0 m pc ls rest) := by
  have hKn := hGx.1.1 4 _ rfl
  refine W.newcK hx hb hown hcl hinst hini rfl hdg hf.1 hf.2 hKn.2.1 rfl fun H1 kC hkC e1 z1 o1 => ?_
  refine kk H1 (fun j x hj => ?_) z1 o1 ⟨Nat.le_trans hS.1 (by omega), fun x h1 h2 => (o1 x (Nat.lt_of_lt_of_le h1 hS.1)).trans (hS.2.1 x h1 h2), hS.2.2⟩
  match j, hj with
  | 0, hj => cases hj; exact ⟨_, rfl, (u_born tyX2 htg inG_X2 hKn hkC e1 tyX2_ok).to (fun j hj => by rcases (show j = 0 ∨ j = 1 ∨ j = 2 by omega) with rfl | rfl | rfl <;> rfl)⟩
  | j + 1, hj => cases hj
end MRows
