/-! THE REFERENCE: dates are objects that nobody changes; its own cells; contracts of its static methods (qM) and of its object's (mM) -/
abbrev DT : Type := Int32 × Int32 × Int32
def dW (q : Nat) (v : DT) : va_W := [(q, .inr (4, [.int v.1, .int v.2.1, .int v.2.2]))]
def dP (k : Kx) (q : Nat) (v : DT) (H : Heap) : Prop := va_P (kD k) vwCl (dW q v) H
theorem dP.lt {k : Kx} {q : Nat} {v : DT} {H : Heap} (h : dP k q v H) : q < H.size := (h 0 _ rfl).lt
theorem dP.up {k : Kx} {q : Nat} {v : DT} {H H1 : Heap} (h : dP k q v H) (hq : H1[q]? = H[q]?) : dP k q v H1 := va_P.kept h (fun j x hx => by
  match j, hx with
  | 0, hx => cases hx; exact hq
  | j + 1, hx => cases hx)
def nA (n : Nat) : Nat → Prop := fun q => n ≤ q
theorem dP.at {k : Kx} {q : Nat} {v : DT} {H0 H : Heap} {locs : List Loc} (h : dP k q v H0) (hS : va_S (nA H0.size) H0 H locs) : dP k q v H := h.up (hS.2.1 q h.lt (Nat.not_le.mpr h.lt))
def rI (r : Int32) : Option Value → Nat → Heap → Prop := fun v _ _ => v = some (.int r)
def rD (k : Kx) (d : DT) : Option Value → Nat → Heap → Prop := fun v n H => ∃ q : Nat, v = some (.ref q) ∧ n ≤ q ∧ dP k q d H
def rN (k : Kx) (o : Option DT) : Option Value → Nat → Heap → Prop := fun v n H => match o with
  | none => v = some .null
  | some d => rD k d v n H
def qQ (P : Option Value → Nat → Heap → Prop) : Array Value → State → Outcome → State → Prop := fun _ st oc t => (∃ v, oc = .returned v ∧ P v st.heap.size t.heap) ∧ va_F (nA st.heap.size) st t
def qPc (k : Kx) (ds : List (Nat × DT)) (U : State) : Prop := Gx k U ∧ ∀ d ∈ ds, dP k d.1 d.2 U.heap
def qM (l : Launch) (k : Kx) (y : MethodName) (ws : List Cond) (fr lo mc ms : Nat) (av : List Value) (ds : List (Nat × DT)) (P : Option Value → Nat → Heap → Prop) : Prop :=
  Met l y ws { frames := fr, cells := mc, slots := ms, locals := lo } (va_Pc av (qPc k ds)) (qQ P) mc ms (fun _ => False)
theorem qPc.blind {k : Kx} {ds : List (Nat × DT)} {av : List Value} : FrameBlind (va_Pc av (qPc k ds)) := fun _ _ _ _ h => ⟨h.1, h.2.1.blind, h.2.2⟩
theorem gx_long {k : Kx} {s : State} (h : Gx k s) : ∃ t, va_Z "DatesoloModel" "LONG" "[I" (.ref t) (kA k) s s.heap ∧ va_T .int t 12 (fun j => .int (gLong.getD j 0)) (kA k) s s.heap := h.2.2.2.2.2.2.2.2.2.2.2.1
theorem gx_nm {k : Kx} {s : State} (h : Gx k s) {q : String × Nat × MethodName × String} (hq : q ∈ gNm) : va_Nw (.methodLinkNest q.1 q.2.1 q.2.2.1 q.2.2.2) s := h.2.2.2.2.2.2.2.2.1 q hq
section QRows
variable {p : Program} {l : Launch} {e : Env} {R : Room} {s : State} {m : MethodId} {args : Array Value} {below : List Frame} {meth : Method} {c : Code} {H : Heap} {locs : List Loc} {cells slots : Nat} {Q : State → Prop}
variable {cc bytes : ByteArray} {nL maxL n index fr lo mc ms pc : Nat} {Ts ws : List Cond} {own C host : String} {y : MethodName} {ret : Option FieldType} {As rest st0 : List Value} {ls : Array Slot} {k : Kx} {A : Nat → Prop} {ds : List (Nat × DT)} {P : Option Value → Nat → Heap → Prop}
theorem q_go {a0 : Array Value} (hS : va_S A s.heap H locs)
    (h : va_Run p l e R s m args below meth c H locs cells slots mc ms (F0 m pc ls st0) rest (qQ P a0) (fun _ => False))
    (kk : ∀ (v : Option Value) (H1 : Heap), P v H.size H1 → H.size ≤ H1.size → (∀ q : Nat, q < H.size → H1[q]? = H[q]?) → va_S A s.heap H1 locs → W p l e R s m args below meth c H1 locs (cells + mc) (slots + ms) Q (F0 m (pc + 3) ls (v.toList ++ rest))) : W p l e R s m args below meth c H locs cells slots Q (F0 m pc ls st0) := by
  intro T hT X
  obtain ⟨v, st₀, t, T', L, h0, X', hL, e1, e2, ⟨⟨v2, hv, hp⟩, hz, hk⟩, st⟩ := h T hT X
  cases hv
  rw [h0] at hz hk hp
  have hk' : ∀ q : Nat, q < H.size → T'.heap[q]? = H[q]? := fun q h1 => by rw [e1]; exact hk q h1 (Nat.not_le.mpr h1)
  obtain ⟨t2, a1, b1⟩ := kk v T'.heap (by rw [e1]; exact hp) (by rw [e1]; exact hz) hk'
    ⟨Nat.le_trans hS.1 (by rw [e1]; exact hz), fun q h1 h2 => (hk' q (Nat.lt_of_lt_of_le h1 hS.1)).trans (hS.2.1 q h1 h2), hS.2.2⟩ T' rfl (Stand.forget X' (fun q h => (hL q h).elim))
  exact ⟨t2, st t2 a1, b1⟩
theorem qc_S (hC : CallFix p m c cc nL s args Ts own) (hGx : Gx k s) (hM : qM l k y ws fr lo mc ms As ds P) (hG : GoodIn Ts (va_wsS own index y ws)) (hk : pK y ws bytes maxL ret n) (hd : ∀ d ∈ ds, dP k d.1 d.2 H) (hR : fr + 1 ≤ R.frames ∧ 8 + (maxL + 11) + lo ≤ R.locals) (hf : cells + mc ≤ R.cells ∧ slots + ms ≤ R.slots) (hS : va_S A s.heap H locs) (hA : ∀ q, s.heap.size ≤ q → A q) (hAB : ∀ q, A q → kB k ≤ q) (hsz : ls.size = nL) (hn : As.length = n) (hst : st0 = As.reverse ++ rest) (hW : (rest.map fun v => v.category).sum ≤ 8) (hdg : decode cc pc = .ok (.invokestatic index, 3))
    (kk : ∀ (v : Option Value) (H1 : Heap), P v H.size H1 → H.size ≤ H1.size → (∀ q : Nat, q < H.size → H1[q]? = H[q]?) → va_S A s.heap H1 locs → W p l e R s m args below meth c H1 locs (cells + mc) (slots + ms) Q (F0 m (pc + 3) ls (v.toList ++ rest))) : W p l e R s m args below meth c H locs cells slots Q (F0 m pc ls st0) := by
  obtain ⟨⟨ws', hw⟩, h1, h2, h3⟩ := hk
  exact q_go hS (va_runS hC hM (va_cwS n hC.2.2.2.2 hG hw rfl rfl ⟨h1, h2, h3⟩ hR) ⟨qPc.blind, fun U hU hW => ⟨rfl, hGx.at hS hAB hU hW, fun d hd' => by rw [hU]; exact hd d hd'⟩⟩ rfl hn hsz hst (lv_room hW) hdg hf) kk
theorem qc_V {v0 : DT} {b : Nat} (hC : CallFix p m c cc nL s args Ts own) (hGx : Gx k s) (hM : qM l k y ws fr lo mc ms (.ref b :: As) ds P) (hG : GoodIn Ts (wsV own index RX2 y ws)) (hk : pK y ws bytes maxL ret n) (hyc : y.cls = RX2) (hb0 : dP k b v0 H) (hd : ∀ d ∈ ds, dP k d.1 d.2 H) (hR : fr + 1 ≤ R.frames ∧ 8 + (maxL + 11) + lo ≤ R.locals) (hf : cells + mc ≤ R.cells ∧ slots + ms ≤ R.slots) (hS : va_S A s.heap H locs) (hA : ∀ q, s.heap.size ≤ q → A q) (hAB : ∀ q, A q → kB k ≤ q) (hsz : ls.size = nL) (hn : As.length = n) (hst : st0 = As.reverse ++ .ref b :: rest) (hW : (rest.map fun v => v.category).sum ≤ 8) (hdg : decode cc pc = .ok (.invokevirtual index, 3))
    (kk : ∀ (v : Option Value) (H1 : Heap), P v H.size H1 → H.size ≤ H1.size → (∀ q : Nat, q < H.size → H1[q]? = H[q]?) → va_S A s.heap H1 locs → W p l e R s m args below meth c H1 locs (cells + mc) (slots + ms) Q (F0 m (pc + 3) ls (v.toList ++ rest))) : W p l e R s m args below meth c H locs cells slots Q (F0 m pc ls st0) := by
  obtain ⟨⟨ws', hw⟩, h1, h2, h3⟩ := hk
  exact q_go hS (va_runV (C := RX2) hC hM (cwV n hC.2.2.2.2 hG hw rfl rfl ⟨hyc, h1, h2, h3⟩ hR) ⟨qPc.blind, va_recv hGx.1 hb0 (ci := 4) (q0 := 0) rfl rfl, fun U hU hW => ⟨rfl, hGx.at hS hAB hU hW, fun d hd' => by rw [hU]; exact hd d hd'⟩⟩ rfl hn hsz hst (lv_room hW) hdg hf) kk
/-- .. of a private static method of the nest mate -/
theorem qc_SN (hC : CallFix p m c cc nL s args Ts own) (hGx : Gx k s) (hM : qM l k y ws fr lo mc ms As ds P) (hG : GoodIn Ts ws) (hk : pK y ws bytes maxL ret n) (hl : va_Nw (.methodLinkNest own index y host) s) (hini : (Cond.initialized y.cls).before args s = true) (hstat : (Cond.static y).before args s = true) (hd : ∀ d ∈ ds, dP k d.1 d.2 H) (hR : fr + 1 ≤ R.frames ∧ 8 + (maxL + 11) + lo ≤ R.locals) (hf : cells + mc ≤ R.cells ∧ slots + ms ≤ R.slots) (hS : va_S A s.heap H locs) (hA : ∀ q, s.heap.size ≤ q → A q) (hAB : ∀ q, A q → kB k ≤ q) (hsz : ls.size = nL) (hn : As.length = n) (hst : st0 = As.reverse ++ rest) (hW : (rest.map fun v => v.category).sum ≤ 8) (hdg : decode cc pc = .ok (.invokestatic index, 3))
    (kk : ∀ (v : Option Value) (H1 : Heap), P v H.size H1 → H.size ≤ H1.size → (∀ q : Nat, q < H.size → H1[q]? = H[q]?) → va_S A s.heap H1 locs → W p l e R s m args below meth c H1 locs (cells + mc) (slots + ms) Q (F0 m (pc + 3) ls (v.toList ++ rest))) : W p l e R s m args below meth c H locs cells slots Q (F0 m pc ls st0) := by
  obtain ⟨⟨ws', hw⟩, h1, h2, h3⟩ := hk
  exact q_go hS (va_runSN hC hM ⟨va_cnB n hC.2.2.2.2 hG hw rfl rfl hl hini ⟨h1, h2, h3⟩ hR, hstat, trivial⟩ ⟨qPc.blind, fun U hU hW => ⟨rfl, hGx.at hS hAB hU hW, fun d hd' => by rw [hU]; exact hd d hd'⟩⟩ rfl hn hsz hst (lv_room hW) hdg hf) kk
/-- .. where that method is pure -/
theorem pc_SN {o : Value} (hC : CallFix p m c cc nL s args Ts own) (hM : pM l y ws fr lo As o) (hG : GoodIn Ts ws) (hk : pK y ws bytes maxL ret n) (hl : va_Nw (.methodLinkNest own index y host) s) (hini : (Cond.initialized y.cls).before args s = true) (hstat : (Cond.static y).before args s = true) (hR : fr + 1 ≤ R.frames ∧ 8 + (maxL + 11) + lo ≤ R.locals) (hf : cells ≤ R.cells ∧ slots ≤ R.slots) (hsz : ls.size = nL) (hn : As.length = n) (hst : st0 = As.reverse ++ rest) (hW : (rest.map fun v => v.category).sum ≤ 8) (hdg : decode cc pc = .ok (.invokestatic index, 3))
    (kk : W p l e R s m args below meth c H locs cells slots Q (F0 m (pc + 3) ls (o :: rest))) : W p l e R s m args below meth c H locs cells slots Q (F0 m pc ls st0) := by
  obtain ⟨⟨ws', hw⟩, h1, h2, h3⟩ := hk
  have hr := va_runSN (H := H) (locs := locs) (cells := cells) (slots := slots) (e := e) (below := below) (meth := meth) (g := F0 m pc ls st0) (rest := rest) hC hM ⟨va_cnB n hC.2.2.2.2 hG hw rfl rfl hl hini ⟨h1, h2, h3⟩ hR, hstat, trivial⟩ preEq rfl hn hsz hst (lv_room hW) hdg hf
  intro T hT X
  obtain ⟨v, st₀, t, T', L, h0, X', hL, e1, e2, ⟨hv, hh⟩, st⟩ := hr T hT X
  cases hv
  obtain ⟨t2, a1, b1⟩ := kk T' (by rw [e1, hh, h0]) (Stand.forget X' (fun q h => (hL q h).elim))
  exact ⟨t2, st t2 a1, b1⟩
end QRows
