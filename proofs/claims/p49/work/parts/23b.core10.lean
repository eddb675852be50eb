/-! THE LAW's OWN METHODS: the object out, contracts of what calls the class -/
def oP (k : Kx) (o : Nat) (v : Int64) (H : Heap) : Prop := ∃ w : Value, va_P (kD k) vwCl [(o, .inr (3, [.long v, w]))] H
theorem oP.lt {k : Kx} {o : Nat} {v : Int64} {H : Heap} (h : oP k o v H) : o < H.size := by
  obtain ⟨w, h⟩ := h
  exact (h 0 _ rfl).lt
theorem oP.up {k : Kx} {o : Nat} {v : Int64} {H H1 : Heap} (h : oP k o v H) (hq : H1[o]? = H[o]?) : oP k o v H1 := by
  obtain ⟨w, h⟩ := h
  exact ⟨w, va_P.up1 h (fun _ => hq)⟩
theorem cA_c5 {a : CA} {n q : Nat} (h : cA a n q) : c5 a q ∨ n ≤ q := by
  rcases h with h | h | h | h | h | h
  · exact Or.inl (Or.inl h)
  · exact Or.inl (Or.inr (Or.inl h))
  · exact Or.inl (Or.inr (Or.inr (Or.inl h)))
  · exact Or.inl (Or.inr (Or.inr (Or.inr (Or.inl h))))
  · exact Or.inl (Or.inr (Or.inr (Or.inr (Or.inr h))))
  · exact Or.inr h
def wA (a : CA) (o n : Nat) : Nat → Prop := fun q => q = o ∨ cA a n q
def wPc (k : Kx) (a : CA) (o sz : Nat) (z : CS) (v : Int64) (U : State) : Prop := U.heap.size = sz ∧ Gx k U ∧ va_P (kD k) vwCl (cW k a z) U.heap ∧ oP k o v U.heap ∧ kB k ≤ o ∧ ¬ c5 a o
theorem wPc.blind {k : Kx} {a : CA} {o sz : Nat} {z : CS} {v : Int64} {av : List Value} : FrameBlind (va_Pc av (wPc k a o sz z v)) := fun _ _ _ _ ⟨h1, h2, h3, h4⟩ => ⟨h1, h2, h3.blind, h4⟩
def wQ (k : Kx) (a : CA) (o : Nat) (i : Int32) (z : CS) (v : Int64) : Array Value → State → Outcome → State → Prop := fun _ st oc t => oc = .returned (some (.int i)) ∧ va_P (kD k) vwCl (cW k a z) t.heap ∧ oP k o v t.heap ∧ va_F (wA a o st.heap.size) st t
def wM (l : Launch) (k : Kx) (a : CA) (o : Nat) (y : MethodName) (ws : List Cond) (fr lo mc ms : Nat) (av : List Value) (z : CS) (v : Int64) (i : Int32) (z' : CS) (v' : Int64) : Prop :=
  ∀ sz : Nat, Met l y ws { frames := fr, cells := mc, slots := ms, locals := lo } (va_Pc av (wPc k a o sz z v)) (wQ k a o i z' v') mc ms (wA a o sz)
def wk (c1 c2 r : Nat) : Int32 := if r = 0 then 0 else if r = c1 then 1 else if r = c2 then 2 else 3
theorem gx_nf {k : Kx} {s : State} (h : Gx k s) {q : String × Nat × String × String × String × String} (hq : q ∈ gNf) : va_Nw (.fieldLinkNest q.1 q.2.1 q.2.2.1 q.2.2.2.1 q.2.2.2.2.1 q.2.2.2.2.2) s := h.2.2.2.2.2.2.2.2.2.1 q hq
theorem gx_cast {k : Kx} {s : State} {args : Array Value} (h : Gx k s) {E : String} (hE : E ∈ gCast) : (Cond.castable E E).before args s = true := va_Nw.use rfl (h.2.2.2.2.1 E hE)
theorem gx_nc {k : Kx} {s : State} (h : Gx k s) {q : String × String} (hq : q ∈ gNc) : va_Nc q.1 q.2 s := h.2.2.2.2.2.2.1 q hq
theorem gSW {own : String} {idx : Nat} {y : MethodName} {a b : Cond} (h1 : Cond.methodLink own idx y ∈ GL) (h2 : Cond.static y ∈ GL) (h3 : Cond.initialized y.cls ∈ GL) (h4 : b ∈ GL) : GoodIn (a :: GL) (va_wsS own idx y (b :: GL)) := gS h1 h2 h3 h4
section R10
variable {p : Program} {l : Launch} {e : Env} {R : Room} {s : State} {m : MethodId} {args : Array Value} {below : List Frame} {meth : Method} {c : Code} {H : Heap} {locs : List Loc} {cells slots : Nat} {Q : State → Prop}
variable {cc bytes : ByteArray} {nL maxL n index fr lo mc ms pc : Nat} {Ts ws : List Cond} {own C : String} {y : MethodName} {ret : Option FieldType} {As rest st0 : List Value} {ls : Array Slot} {k : Kx} {a : CA}
/-- a wrapper's end -/
theorem w_iret {E i : Int32} {o : Nat} {z : CS} {v : Int64} {MC MS : Nat} (hx : p.tables.exec = Jvm.exec) (hb : c.code = cc) (hr : meth.sig.returnType = some .int) (hlocks : meth.locks = false) (hi : i = E) (hP : va_P (kD k) vwCl (cW k a z) H) (hO : oP k o v H) (hS : va_S (wA a o s.heap.size) s.heap H locs) (hf : cells ≤ MC ∧ slots ≤ MS) (hdg : decode cc pc = .ok (.ireturn, 1)) :
    W p l e R s m args below meth c H locs cells slots (MQ below (wQ k a o i z v) args s MC MS (wA a o s.heap.size)) (F0 m pc ls [.int E]) := by
  subst hi
  exact W.widen hf.1 hf.2 (W.iret (v := i) hx hb hr (fun t ht _ => ⟨rfl, by rw [ht]; exact hP, by rw [ht]; exact hO, hS.F ht⟩) hS.2.2 hdg)
/-- a call of text, whatever becomes of it -/
theorem cx_Vg {nt : Nat} {z z1 : CS} {r : Nat} (hC : CallFix p m c cc nL s args Ts own) (hGx : Gx k s) (hD : cD k a) (hM : cT l k a y ws fr lo mc ms As z nt r z1) (hG : GoodIn Ts (wsV own index RX0 y ws)) (hk : pK y ws bytes maxL ret n) (hyc : y.cls = RX0) (hR : fr + 1 ≤ R.frames ∧ 8 + (maxL + 11) + lo ≤ R.locals) (hf : cells + mc ≤ R.cells ∧ slots + ms ≤ R.slots) (hP : va_P (kD k) vwCl (cW k a z) H) (hS : va_S (cA a s.heap.size) s.heap H locs) (hsz : ls.size = nL) (hn : As.length = n) (hst : st0 = As.reverse ++ .ref a.1 :: rest) (hW : (rest.map fun v => v.category).sum ≤ 8) (hdg : decode cc pc = .ok (.invokevirtual index, 3))
    (kx : r ≠ 0 → ∀ (ce : Cell) (q : Addr) (H1 : Heap) (locs1 : List Loc), va_P (kD k) vwCl (cW k a z1) H1 → va_S (cA a s.heap.size) s.heap H1 locs1 → H1[q]? = some ce → ce.vm = .none → s.vm.findClass (xn r) = some ce.cls → vx_W p l e R s m args below meth c H1 locs1 (cells + mc) (slots + ms) Q (F0 m pc ls rest) q)
    (kk : r = 0 → ∀ (t : Nat × Nat) (H1 : Heap) (locs1 : List Loc), tP s t nt H1 → va_P (kD k) vwCl (cW k a z1) H1 → va_S (cA a s.heap.size) s.heap H1 locs1 → W p l e R s m args below meth c H1 locs1 (cells + mc) (slots + ms) Q (F0 m (pc + 3) ls (.ref t.1 :: rest))) : W p l e R s m args below meth c H locs cells slots Q (F0 m pc ls st0) := by
  obtain ⟨⟨ws', hw⟩, h1, h2, h3⟩ := hk
  have hr := vx_runV (H := H) (locs := locs) (cells := cells) (slots := slots) (e := e) (below := below) (meth := meth) (g := F0 m pc ls st0) (rest := rest) (C := RX0) (b := a.1) hC (hM H.size) (cwV n hC.2.2.2.2 hG hw rfl rfl ⟨hyc, h1, h2, h3⟩ hR)
    ⟨cPc.blind, va_recv hGx.1 hP (ci := 2) (q0 := 0) rfl rfl, fun U hU hW => ⟨rfl, by rw [hU], hGx.at hS (hD.high hGx.2.1) hU hW, by rw [hU]; exact hP⟩⟩ rfl hn hsz hst (lv_room hW) hdg hf
  have step : ∀ {st₀ t T' : State} {L : List Loc}, st₀.heap = H → T'.heap = t.heap → (∀ q ∈ L, cA a H.size q.base) → va_F (cA a st₀.heap.size) st₀ t → va_S (cA a s.heap.size) s.heap T'.heap (locs ++ L) := by
    intro st₀ t T' L h0 e1 hL hF
    rw [h0] at hF
    have hF2 := hF.2
    rw [h0] at hF2
    refine ⟨Nat.le_trans hS.1 (by rw [e1, ← h0]; exact hF.1), fun q h4 h5 => ?_, fun q hq => ?_⟩
    · rw [e1, hF2 q (Nat.lt_of_lt_of_le h4 hS.1) (fun h6 => h5 (cA.up hS.1 q h6))]
      exact hS.2.1 q h4 h5
    · rcases List.mem_append.mp hq with h | h
      · exact hS.2.2 q h
      · exact cA.up hS.1 _ (hL q h)
  intro T hT X
  rcases hr T hT X with ⟨v, st₀, t, T', L, h0, X', hL, e1, e2, ⟨hr0, ⟨t', hv, hTT⟩, hp, hF⟩, st⟩ | ⟨q, st₀, t, T', L, E, ce, h0, X', hL, e1, e2, ⟨hr0, hE, hp, hF⟩, hce, hcv, hcl, st⟩
  · cases hv
    have hal : t.vm.Alike s.vm := by rw [← e2]; exact X'.warmed.alike.symm
    obtain ⟨t2, a1, b1⟩ := kk hr0 t' T'.heap (locs ++ L) (by rw [e1]; exact hTT.moved hal) (by rw [e1]; exact hp) (step h0 e1 hL hF) T' rfl X'
    exact ⟨t2, st t2 a1, b1⟩
  · subst hE
    obtain ⟨t2, a1, b1⟩ := kx hr0 ce q T'.heap (locs ++ L) (by rw [e1]; exact hp) (step h0 e1 hL hF) (by rw [e1]; exact hce) hcv hcl T' rfl X'
    exact ⟨t2, st.trans a1, b1⟩
end R10
theorem w_pre {k : Kx} {a : CA} {o : Nat} {s : State} {z : CS} {v : Int64} {H1 : Heap} {locs1 : List Loc} (hO : oP k o v s.heap) (hoa : ¬ c5 a o) (hS : va_S (cA a s.heap.size) s.heap H1 locs1) : oP k o v H1 ∧ va_S (wA a o s.heap.size) s.heap H1 locs1 :=
  ⟨hO.up (hS.2.1 o hO.lt (fun h => (cA_c5 h).elim hoa (fun h2 => Nat.lt_irrefl _ (Nat.lt_of_lt_of_le hO.lt h2)))), hS.wide (fun _ h => Or.inr h)⟩
theorem w_D {k : Kx} {a : CA} {o n : Nat} {x : va_E} {z : CS} (hD : cD k a) (hoa : ¬ c5 a o) : va_D (wA a o n) ((o, x) :: cW k a z) :=
  va_D.app (w1 := [(o, x)]) (va_D1 (A := wA a o n) (Or.inl rfl)) ((hD.own n z).weaken (fun _ _ _ h => Or.inr h)) (fun i j p q hi hj e => by
    match i, hi with
    | 0, hi =>
      cases hi
      match j, hj with
      | 0, hj => cases hj; exact hoa (Or.inl e)
      | 1, hj => cases hj; exact hoa (Or.inr (Or.inl e))
      | 2, hj => cases hj; exact hoa (Or.inr (Or.inr (Or.inl e)))
      | 3, hj => cases hj; exact hoa (Or.inr (Or.inr (Or.inr (Or.inl e))))
      | 4, hj => cases hj; exact hoa (Or.inr (Or.inr (Or.inr (Or.inr e))))
      | j + 5, hj => cases hj
    | i + 1, hi => cases hi)

