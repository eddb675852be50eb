/-! THE LAW's BODY: what stands at its loop's head; calls of the three -/
def LD (k : Kx) (a : CA) (o : Nat) (b : CA) (Lb : List Nat) (s : State) : Prop := cD k a ∧ mD k b Lb ∧ (∀ x, c5 a x → x ∈ Lb) ∧ o ∈ Lb ∧ ¬ c5 a o ∧ (∀ x, c5 b x → ¬ c5 a x ∧ x ≠ o) ∧ ∀ x ∈ Lb, s.heap.size ≤ x
def LI (k : Kx) (a : CA) (o : Nat) (b : CA) (Lb : List Nat) (z : CS) (v : Int64) (zm : MS) (H : Heap) : Prop := va_P (kD k) vwCl (cW k a z) H ∧ oP k o v H ∧ (∃ q, mV k b Lb q zm H) ∧ ∀ x ∈ Lb, x < H.size
theorem cW_in {k : Kx} {a : CA} {z : CS} {i : Nat} {p : Nat × va_E} (h : (cW k a z)[i]? = some p) : c5 a p.1 := by
  match i, h with
  | 0, h => cases h; exact Or.inl rfl
  | 1, h => cases h; exact Or.inr (Or.inl rfl)
  | 2, h => cases h; exact Or.inr (Or.inr (Or.inl rfl))
  | 3, h => cases h; exact Or.inr (Or.inr (Or.inr (Or.inl rfl)))
  | 4, h => cases h; exact Or.inr (Or.inr (Or.inr (Or.inr rfl)))
  | i + 5, h => cases h
theorem mW_in {k : Kx} {b : CA} {q : Nat → Nat} {z : MS} {i : Nat} {p : Nat × va_E} (h : (mW k b q z)[i]? = some p) : c5 b p.1 := by
  match i, h with
  | 0, h => cases h; exact Or.inl rfl
  | 1, h => cases h; exact Or.inr (Or.inl rfl)
  | 2, h => cases h; exact Or.inr (Or.inr (Or.inl rfl))
  | 3, h => cases h; exact Or.inr (Or.inr (Or.inr (Or.inl rfl)))
  | 4, h => cases h; exact Or.inr (Or.inr (Or.inr (Or.inr rfl)))
  | i + 5, h => cases h
theorem LD.b5 {k : Kx} {a : CA} {o : Nat} {b : CA} {Lb : List Nat} {s : State} (h : LD k a o b Lb s) {x : Nat} (hx : c5 b x) : x ∈ Lb := by
  obtain ⟨-, ⟨-, h1, h2, h3, h4, h5⟩, -⟩ := h
  rcases hx with rfl | rfl | rfl | rfl | rfl
  · exact h1
  · exact h2
  · exact h3
  · exact h4
  · exact h5
section R11
variable {p : Program} {l : Launch} {e : Env} {R : Room} {s : State} {m : MethodId} {args : Array Value} {below : List Frame} {meth : Method} {c : Code} {H : Heap} {cells slots : Nat} {Q : State → Prop}
variable {cc bytes : ByteArray} {nL maxL n index fr lo mc ms pc o : Nat} {Ts ws : List Cond} {own : String} {y : MethodName} {ret : Option FieldType} {As rest st0 : List Value} {ls : Array Slot} {k : Kx} {a b : CA} {Lb : List Nat} {z z' : CS} {v v' : Int64} {zm zm' : MS} {ov : Option Value}
/-- after the class has worked -/
theorem LI.cls (hLD : LD k a o b Lb s) (hI : LI k a o b Lb z v zm H) {H1 : Heap} (hP : va_P (kD k) vwCl (cW k a z') H1) (hO : oP k o v' H1) (hz : H.size ≤ H1.size) (hq : ∀ x : Nat, x < H.size → ¬ wA a o H.size x → H1[x]? = H[x]?) : LI k a o b Lb z' v' zm H1 := by
  obtain ⟨hD, hB, hL1, hL2, hoa, hdis, hLs⟩ := id hLD
  obtain ⟨-, -, ⟨q, hV1, hV2⟩, hLb⟩ := hI
  refine ⟨hP, hO, ⟨q, hV1.kept (fun j x hj => hq x.1 (hV1 j x hj).lt (fun h => ?_)), fun i hi => (hV2 i hi).up (fun x hx h => hq x hx (fun h9 => ?_))⟩, fun x hx => Nat.lt_of_lt_of_le (hLb x hx) hz⟩
  · have h5 := mW_in hj
    have hd := hdis _ h5
    rcases h with h | h
    · exact hd.2 h
    · exact (cA_c5 h).elim hd.1 (fun h2 => Nat.lt_irrefl _ (Nat.lt_of_lt_of_le (hV1 j x hj).lt h2))
  · rcases h9 with h9 | h9
    · exact h _ hL2 h9
    · exact (cA_c5 h9).elim (fun h5 => h _ (hL1 _ h5) rfl) (fun h2 => Nat.lt_irrefl _ (Nat.lt_of_lt_of_le hx h2))
theorem LI.low (hLD : LD k a o b Lb s) {H1 : Heap} (hS : va_S (nA s.heap.size) s.heap H []) (hz : H.size ≤ H1.size) (hq : ∀ x : Nat, x < H.size → ¬ wA a o H.size x → H1[x]? = H[x]?) : va_S (nA s.heap.size) s.heap H1 [] := by
  obtain ⟨hD, hB, hL1, hL2, hoa, hdis, hLs⟩ := hLD
  refine ⟨Nat.le_trans hS.1 hz, fun x h1 h2 => (hq x (Nat.lt_of_lt_of_le h1 hS.1) (fun h => ?_)).trans (hS.2.1 x h1 h2), fun _ h => absurd h List.not_mem_nil⟩
  rcases h with h | h
  · exact h2 (h ▸ hLs _ hL2)
  · exact (cA_c5 h).elim (fun h5 => h2 (hLs _ (hL1 _ h5))) (fun h3 => Nat.lt_irrefl _ (Nat.lt_of_lt_of_le h1 (Nat.le_trans hS.1 h3)))
theorem LI.locs (hLD : LD k a o b Lb s) (hS : va_S (nA s.heap.size) s.heap H []) {x : Nat} (h : wA a o H.size x) : s.heap.size ≤ x := by
  obtain ⟨hD, hB, hL1, hL2, hoa, hdis, hLs⟩ := hLD
  rcases h with h | h
  · exact h ▸ hLs _ hL2
  · exact (cA_c5 h).elim (fun h5 => hLs _ (hL1 _ h5)) (fun h3 => Nat.le_trans hS.1 h3)
theorem hAn (hGx : Gx k s) : ∀ q, nA s.heap.size q → kB k ≤ q := fun q h => Nat.le_trans hGx.2.1 h
/-- a wrapper is called -/
theorem lw_w {i : Int32} {hh : List (Nat × Nat × Nat × Nat)} (hC : CallFix p m c cc nL s args Ts own) (hGx : Gx k s) (hLD : LD k a o b Lb s) (hM : wM l k a o y ws fr lo mc ms As z v i z' v') (hG : GoodIn Ts (va_wsS own index y ws)) (hk : (∃ ws', ws = Cond.codeWith y bytes maxL ret hh :: ws') ∧ y.cls ≠ "java/lang/invoke/MethodHandle" ∧ y.cls ≠ "java/lang/invoke/VarHandle" ∧ (parseMethodDescriptor y.desc).map (fun d => d.parameters.length) = some n) (hR : fr + 1 ≤ R.frames ∧ 8 + (maxL + 11) + lo ≤ R.locals) (hf : cells + mc ≤ R.cells ∧ slots + ms ≤ R.slots) (hI : LI k a o b Lb z v zm H) (hS : va_S (nA s.heap.size) s.heap H []) (hsz : ls.size = nL) (hn : As.length = n) (hst : st0 = As.reverse ++ rest) (hW : (rest.map fun v => v.category).sum ≤ 8) (hdg : decode cc pc = .ok (.invokestatic index, 3))
    (kk : ∀ H1 : Heap, LI k a o b Lb z' v' zm H1 → va_S (nA s.heap.size) s.heap H1 [] → W p l e R s m args below meth c H1 [] (cells + mc) (slots + ms) Q (F0 m (pc + 3) ls (.int i :: rest))) : W p l e R s m args below meth c H [] cells slots Q (F0 m pc ls st0) := by
  obtain ⟨⟨ws', hw⟩, h1, h2, h3⟩ := hk
  have hob : kB k ≤ o := Nat.le_trans hGx.2.1 (hLD.2.2.2.2.2.2 _ hLD.2.2.2.1)
  refine run_go (vx_runSW hC (hM H.size) (vx_cwSW n hC.2.2.2.2 hG hw rfl rfl ⟨h1, h2, h3⟩ hR) ⟨wPc.blind, fun U hU hW => ⟨rfl, by rw [hU], hGx.at hS (hAn hGx) hU hW, by rw [hU]; exact hI.1, by rw [hU]; exact hI.2.1, hob, hLD.2.2.2.2.1⟩⟩ rfl hn hsz hst (lv_room hW) hdg hf) (fun v0 st₀ t Lc h0 hW9 ⟨hv, hP1, hO1, hz, hq⟩ hL => ?_)
  cases hv
  rw [h0] at hz hq
  exact m_forget (locs := []) (fun x hx => LI.locs hLD hS (hL x hx)) (kk t.heap (hI.cls hLD hP1 hO1 hz hq) (LI.low hLD hS hz hq))
/-- a method of the class's object is called, and doesn't throw -/
theorem lw_c {r : Nat} (hC : CallFix p m c cc nL s args Ts own) (hGx : Gx k s) (hLD : LD k a o b Lb s) (hM : cM l k a y ws fr lo mc ms As z ov r z') (h0 : r = 0) (hG : GoodIn Ts (wsV own index RX0 y ws)) (hk : pK y ws bytes maxL ret n) (hyc : y.cls = RX0) (hR : fr + 1 ≤ R.frames ∧ 8 + (maxL + 11) + lo ≤ R.locals) (hf : cells + mc ≤ R.cells ∧ slots + ms ≤ R.slots) (hI : LI k a o b Lb z v zm H) (hS : va_S (nA s.heap.size) s.heap H []) (hsz : ls.size = nL) (hn : As.length = n) (hst : st0 = As.reverse ++ .ref a.1 :: rest) (hW : (rest.map fun v => v.category).sum ≤ 8) (hdg : decode cc pc = .ok (.invokevirtual index, 3))
    (kk : ∀ H1 : Heap, LI k a o b Lb z' v zm H1 → va_S (nA s.heap.size) s.heap H1 [] → W p l e R s m args below meth c H1 [] (cells + mc) (slots + ms) Q (F0 m (pc + 3) ls (ov.toList ++ rest))) : W p l e R s m args below meth c H [] cells slots Q (F0 m pc ls st0) := by
  obtain ⟨⟨ws', hw⟩, h1, h2, h3⟩ := hk
  have hr := vx_runV (H := H) (locs := []) (cells := cells) (slots := slots) (e := e) (below := below) (meth := meth) (g := F0 m pc ls st0) (rest := rest) (C := RX0) (b := a.1) hC (hM H.size) (cwV n hC.2.2.2.2 hG hw rfl rfl ⟨hyc, h1, h2, h3⟩ hR)
    ⟨cPc.blind, va_recv hGx.1 hI.1 (ci := 2) (q0 := 0) rfl rfl, fun U hU hW => ⟨rfl, by rw [hU], hGx.at hS (hAn hGx) hU hW, by rw [hU]; exact hI.1⟩⟩ rfl hn hsz hst (lv_room hW) hdg hf
  intro T hT X
  rcases hr T hT X with ⟨v0, st₀, t, T', L, h00, X', hL, e1, e2, ⟨hr0, hv, hp, hF⟩, st⟩ | ⟨q, st₀, t, T', L, E, ce, h00, X', hL, e1, e2, ⟨hr0, -⟩, -⟩
  · cases hv
    have hz := hF.1
    have hq := hF.2
    rw [h00] at hz hq
    have hq' : ∀ x : Nat, x < H.size → ¬ wA a o H.size x → t.heap[x]? = H[x]? := fun x hx h => hq x hx (fun h9 => h (Or.inr h9))
    have hO1 : oP k o v t.heap := hI.2.1.up (hq o hI.2.1.lt (fun h => (cA_c5 h).elim hLD.2.2.2.2.1 (fun h2 => Nat.lt_irrefl _ (Nat.lt_of_lt_of_le hI.2.1.lt h2))))
    obtain ⟨t2, a1, b1⟩ := kk T'.heap (by rw [e1]; exact hI.cls hLD hp hO1 hz hq') (by rw [e1]; exact LI.low hLD hS hz hq') T' rfl (Stand.forget (locs := []) X' (fun x hx => LI.locs hLD hS (Or.inr (hL x hx))))
    exact ⟨t2, st t2 a1, b1⟩
  · exact absurd h0 hr0
/-- after the reference has worked -/
theorem LI.ref (hLD : LD k a o b Lb s) (hI : LI k a o b Lb z v zm H) {H1 : Heap} (hV : ∃ q, mV k b Lb q zm' H1) (hz : H.size ≤ H1.size) (hq : ∀ x : Nat, x < H.size → ¬ cA b H.size x → H1[x]? = H[x]?) : LI k a o b Lb z v zm' H1 := by
  obtain ⟨hD, hB, hL1, hL2, hoa, hdis, hLs⟩ := id hLD
  obtain ⟨hP, hO, -, hLb⟩ := hI
  refine ⟨hP.kept (fun j x hj => hq x.1 (hP j x hj).lt (fun h => ?_)), hO.up (hq o hO.lt (fun h => ?_)), hV, fun x hx => Nat.lt_of_lt_of_le (hLb x hx) hz⟩
  · exact (cA_c5 h).elim (fun h5 => (hdis _ h5).1 (cW_in hj)) (fun h2 => Nat.lt_irrefl _ (Nat.lt_of_lt_of_le (hP j x hj).lt h2))
  · exact (cA_c5 h).elim (fun h5 => (hdis _ h5).2 rfl) (fun h2 => Nat.lt_irrefl _ (Nat.lt_of_lt_of_le hO.lt h2))
theorem LI.lowR (hLD : LD k a o b Lb s) {H1 : Heap} (hS : va_S (nA s.heap.size) s.heap H []) (hz : H.size ≤ H1.size) (hq : ∀ x : Nat, x < H.size → ¬ cA b H.size x → H1[x]? = H[x]?) : va_S (nA s.heap.size) s.heap H1 [] := by
  refine ⟨Nat.le_trans hS.1 hz, fun x h1 h2 => (hq x (Nat.lt_of_lt_of_le h1 hS.1) (fun h => ?_)).trans (hS.2.1 x h1 h2), fun _ h => absurd h List.not_mem_nil⟩
  exact (cA_c5 h).elim (fun h5 => h2 (hLD.2.2.2.2.2.2 _ (hLD.b5 h5))) (fun h3 => Nat.lt_irrefl _ (Nat.lt_of_lt_of_le h1 (Nat.le_trans hS.1 h3)))
/-- a method of the reference is called -/
theorem lw_m (hC : CallFix p m c cc nL s args Ts own) (hGx : Gx k s) (hLD : LD k a o b Lb s) (hM : mM l k b Lb y ws fr lo mc ms As [] zm ov zm') (hG : GoodIn Ts (wsV own index RX3 y ws)) (hk : pK y ws bytes maxL ret n) (hyc : y.cls = RX3) (hR : fr + 1 ≤ R.frames ∧ 8 + (maxL + 11) + lo ≤ R.locals) (hf : cells + mc ≤ R.cells ∧ slots + ms ≤ R.slots) (hI : LI k a o b Lb z v zm H) (hS : va_S (nA s.heap.size) s.heap H []) (hsz : ls.size = nL) (hn : As.length = n) (hst : st0 = As.reverse ++ .ref b.1 :: rest) (hW : (rest.map fun v => v.category).sum ≤ 8) (hdg : decode cc pc = .ok (.invokevirtual index, 3))
    (kk : ∀ H1 : Heap, LI k a o b Lb z v zm' H1 → va_S (nA s.heap.size) s.heap H1 [] → W p l e R s m args below meth c H1 [] (cells + mc) (slots + ms) Q (F0 m (pc + 3) ls (ov.toList ++ rest))) : W p l e R s m args below meth c H [] cells slots Q (F0 m pc ls st0) := by
  obtain ⟨⟨ws', hw⟩, h1, h2, h3⟩ := hk
  obtain ⟨q, hV⟩ := hI.2.2.1
  refine run_go (va_runV (C := RX3) (b := b.1) hC (hM H.size q) (cwV n hC.2.2.2.2 hG hw rfl rfl ⟨hyc, h1, h2, h3⟩ hR) ⟨mPc.blind, va_recv hGx.1 hV.1 (ci := 5) (q0 := 0) rfl rfl, fun U hU hW => ⟨rfl, by rw [hU], hGx.at hS (hAn hGx) hU hW, by rw [hU]; exact hV, fun x hx => by rw [hU]; exact hI.2.2.2 x hx, List.forall_mem_nil _⟩⟩ rfl hn hsz hst (lv_room hW) hdg hf) (fun v0 st₀ t Lc h0 hW9 ⟨hv, hV1, hz, hq⟩ hL => ?_)
  cases hv
  rw [h0] at hz hq
  exact m_forget (locs := []) (fun x hx => hLD.2.2.2.2.2.2 _ (hLD.b5 (hL x hx))) (kk t.heap (hI.ref hLD hV1 hz hq) (LI.lowR hLD hS hz hq))
/-- .. its text -/
theorem lw_t {nt : Nat} (hC : CallFix p m c cc nL s args Ts own) (hGx : Gx k s) (hLD : LD k a o b Lb s) (hM : mT l k b Lb y ws fr lo mc ms As [] zm nt zm') (hG : GoodIn Ts (wsV own index RX3 y ws)) (hk : pK y ws bytes maxL ret n) (hyc : y.cls = RX3) (hR : fr + 1 ≤ R.frames ∧ 8 + (maxL + 11) + lo ≤ R.locals) (hf : cells + mc ≤ R.cells ∧ slots + ms ≤ R.slots) (hI : LI k a o b Lb z v zm H) (hS : va_S (nA s.heap.size) s.heap H []) (hsz : ls.size = nL) (hn : As.length = n) (hst : st0 = As.reverse ++ .ref b.1 :: rest) (hW : (rest.map fun v => v.category).sum ≤ 8) (hdg : decode cc pc = .ok (.invokevirtual index, 3))
    (kk : ∀ (t : Nat × Nat) (H1 : Heap), tP s t nt H1 → LI k a o b Lb z v zm' H1 → va_S (nA s.heap.size) s.heap H1 [] → W p l e R s m args below meth c H1 [] (cells + mc) (slots + ms) Q (F0 m (pc + 3) ls (.ref t.1 :: rest))) : W p l e R s m args below meth c H [] cells slots Q (F0 m pc ls st0) := by
  obtain ⟨⟨ws', hw⟩, h1, h2, h3⟩ := hk
  obtain ⟨q, hV⟩ := hI.2.2.1
  refine run_go (va_runV (C := RX3) (b := b.1) hC (hM H.size q) (cwV n hC.2.2.2.2 hG hw rfl rfl ⟨hyc, h1, h2, h3⟩ hR) ⟨mPc.blind, va_recv hGx.1 hV.1 (ci := 5) (q0 := 0) rfl rfl, fun U hU hW => ⟨rfl, by rw [hU], hGx.at hS (hAn hGx) hU hW, by rw [hU]; exact hV, fun x hx => by rw [hU]; exact hI.2.2.2 x hx, List.forall_mem_nil _⟩⟩ rfl hn hsz hst (lv_room hW) hdg hf) (fun v0 st₀ t Lc h0 hW9 ⟨⟨t', hv, hT⟩, hV1, hz, hq⟩ hL => ?_)
  cases hv
  rw [h0] at hz hq
  exact m_forget (locs := []) (fun x hx => hLD.2.2.2.2.2.2 _ (hLD.b5 (hL x hx))) (kk t' t.heap (hT.moved hW9.alike.symm) (hI.ref hLD hV1 hz hq) (LI.lowR hLD hS hz hq))
/-- a number of the script -/
theorem lw_sld {bs L : Nat} {xs : Nat → Int32} {i q : Int32} (hx : p.tables.exec = Jvm.exec) (hb : c.code = cc) (hX : va_X bs L xs s s.heap) (hbl : bs < s.heap.size) (hS : va_S (nA s.heap.size) s.heap H []) (hin : vp_in i L ∧ xs i.toNatClampNeg = q) (hdg : decode cc pc = .ok (.iaload, 1))
    (kk : W p l e R s m args below meth c H [] cells slots Q (F0 m (pc + 1) ls (.int q :: rest))) : W p l e R s m args below meth c H [] cells slots Q (F0 m pc ls (.int i :: .ref bs :: rest)) := by
  obtain ⟨hin, rfl⟩ := hin
  exact va_sld hx hb hX hbl (Nat.not_le.mpr hbl) hS hin hdg kk
/-- what the object out holds is read -/
theorem lw_n (hx : p.tables.exec = Jvm.exec) (hb : c.code = cc) (htg : ∀ w ∈ GL, w.before args s = true) (hown : s.vm.findClass RL = some m.cls) (hGx : Gx k s) (hI : LI k a o b Lb z v zm H) (hlink : (Cond.fieldLinkNest RL index RX1 "n" "J" RL).before args s = true) (hdg : decode cc pc = .ok (.getfield index, 3))
    (kk : W p l e R s m args below meth c H [] cells slots Q (F0 m (pc + 3) ls (.long v :: rest))) : W p l e R s m args below meth c H [] cells slots Q (F0 m pc ls (.ref o :: rest)) := by
  obtain ⟨w, hO⟩ := hI.2.1
  exact va_getN (D := kD k) (ci := 3) (v := .long v) (C := RX1) (T := TX1) (N := 2) hx hb htg inG_X1 hown hGx.1 hO 0 rfl rfl 0 (by decide) hlink (fun _ h9 => h9) rfl hdg kk
end R11

