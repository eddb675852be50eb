/-! THE FORMS OF CONTRACTS: pure static methods (pM), static methods that check and throw (tM), methods of the class's object (cM) -/
abbrev Kx : Type := Nat × va_G × ClassId × ClassId × ClassId × ClassId × ClassId
abbrev kB (k : Kx) : Nat := k.1
abbrev kD (k : Kx) : va_G := k.2.1
abbrev kJ (k : Kx) : ClassId := k.2.2.1
abbrev kI (k : Kx) : ClassId := k.2.2.2.1
abbrev kY (k : Kx) : ClassId := k.2.2.2.2.1
abbrev kT (k : Kx) : ClassId := k.2.2.2.2.2.1
abbrev kS (k : Kx) : ClassId := k.2.2.2.2.2.2
abbrev kTy (k : Kx) : List (ClassId × FieldType) := [(kJ k, .long), (kI k, .int), (kY k, .byte), (kT k, .object "DatesoloModel$Date"), (kS k, .array .int)]
abbrev kA (k : Kx) : Nat → Prop := fun q => kB k ≤ q
def xn (r : Nat) : String := if r = 1 then "java/lang/IndexOutOfBoundsException" else if r = 2 then "java/lang/IllegalArgumentException" else "java/lang/IllegalStateException"
def gCast : List String := ["java/lang/IndexOutOfBoundsException", "java/lang/IllegalArgumentException", "java/lang/IllegalStateException"]
def gDecl : List String := ["java/lang/RuntimeException", "java/lang/Exception", "java/lang/Throwable"]
def gNc : List (String × String) := [("java/lang/IllegalArgumentException", "java/lang/IndexOutOfBoundsException"), ("java/lang/IllegalStateException", "java/lang/IndexOutOfBoundsException"), ("java/lang/IllegalStateException", "java/lang/IllegalArgumentException")]
noncomputable def gStr : List (String × Nat × String) := [(RX0, 234, "there is no such place"), (RX0, 239, "there is no such span"), (RX0, 243, "the number is too small or too large"), (RX0, 250, "the month has not so many days"), (RX0, 257, "what comes is no date"), (RX0, 259, "the second date is ahead of the first one"), (RX0, 261, "the number is too small or too large for a span"), (RX0, 263, "the year has not so many days")]
def gNm : List (String × Nat × MethodName × String) := [("DatesoloLaw", 184, ⟨"DatesoloLaw$Out", "<init>", "()V"⟩, "DatesoloLaw"), ("DatesoloModel$Date", 27, ⟨"DatesoloModel", "share", "(JJ)J"⟩, "DatesoloModel"), ("DatesoloModel$Date", 33, ⟨"DatesoloModel", "lengthOf", "(I)I"⟩, "DatesoloModel"), ("DatesoloModel$Date", 21, ⟨"DatesoloModel", "lengthOf", "(II)I"⟩, "DatesoloModel")]
def gNf : List (String × Nat × String × String × String × String) := [("DatesoloLaw", 13, "DatesoloLaw$Out", "n", "J", "DatesoloLaw"), ("DatesoloLaw", 141, "DatesoloLaw$Out", "s", "Ljava/lang/String;", "DatesoloLaw")]
def gLong : List Int32 := [31, 28, 31, 30, 31, 30, 31, 31, 30, 31, 30, 31]
def gOnes (j : Nat) : Int32 := Int32.ofNat (48 + j % 10)
def gTens (j : Nat) : Int32 := Int32.ofNat (48 + j / 10)
/-- what holds of the launch, wherever the run stands: the classes, the statics (below the run's own cells), the texts -/
def Gx (k : Kx) (U : State) : Prop :=
  va_K (kD k) vwCl (kTy k) U ∧ kB k ≤ U.heap.size ∧
  vx_Zq Bundle.tN "UNASSIGNED_STACK" Bundle.steD (kA k) U U.heap ∧ vx_Zq Bundle.tN "SUPPRESSED_SENTINEL" Bundle.listD (kA k) U U.heap ∧
  (∀ E ∈ gCast, va_Nw (.castable E E) U) ∧ (∀ E ∈ gDecl, va_Nw (.declares (Bundle.initS E)) U) ∧ (∀ q ∈ gNc, va_Nc q.1 q.2 U) ∧
  (∀ q ∈ gStr, ∃ a, vk_R q.1 q.2.1 q.2.2 a U) ∧ (∀ q ∈ gNm, va_Nw (.methodLinkNest q.1 q.2.1 q.2.2.1 q.2.2.2) U) ∧ (∀ q ∈ gNf, va_Nw (.fieldLinkNest q.1 q.2.1 q.2.2.1 q.2.2.2.1 q.2.2.2.2.1 q.2.2.2.2.2) U) ∧ va_AO "DatesoloModel$Date" U ∧
  (∃ t, va_Z "DatesoloModel" "LONG" "[I" (.ref t) (kA k) U U.heap ∧ va_T .int t 12 (fun j => .int (gLong.getD j 0)) (kA k) U U.heap) ∧
  va_Z "java/lang/String" "COMPACT_STRINGS" "Z" (.int 1) (kA k) U U.heap ∧
  (∃ t, va_Z "java/lang/Integer" "DigitOnes" "[B" (.ref t) (kA k) U U.heap ∧ va_T .byte t 100 (fun j => .int (gOnes j)) (kA k) U U.heap) ∧
  (∃ t, va_Z "java/lang/Integer" "DigitTens" "[B" (.ref t) (kA k) U U.heap ∧ va_T .byte t 100 (fun j => .int (gTens j)) (kA k) U U.heap) ∧
  (∃ ad av, vk_S 4 [0, 1, 1, 1] [[], [48], [63], [45]] ad av (kA k) U U.heap ∧ vk_R "DatesoloModel" 196 "" (ad 0) U ∧ vk_R "DatesoloModel" 214 "0" (ad 1) U ∧ vk_R "DatesoloModel" 216 "?" (ad 2) U ∧ vk_R "DatesoloModel" 222 "-" (ad 3) U ∧ vk_R RX0 159 "?" (ad 2) U)
theorem Gx.move {k : Kx} {s U : State} (h : Gx k s) (hW : s.WarmedH U.vm) (hz : s.heap.size ≤ U.heap.size) (hq : ∀ a : Nat, a < s.heap.size → ¬ kA k a → U.heap[a]? = s.heap[a]?) : Gx k U := by
  obtain ⟨h1, h2, h3, h4, h5, h6, h7, h8, h81, h82, h83, ⟨t9, h9, h9'⟩, h10, ⟨t11, h11, h11'⟩, ⟨t12, h12, h12'⟩, ⟨ad, av, h13, h14, h15, h16, h17, h18⟩⟩ := h
  have al := hW.alike
  exact ⟨h1.moved al, Nat.le_trans h2 hz, (h3.moved al).kept hq, (h4.moved al).kept hq, fun E hE => (h5 E hE).warmC hW, fun E hE => (h6 E hE).warmD hW, fun q hq => (h7 q hq).moved al,
    fun q hq => ⟨_, (h8 q hq).choose_spec.warm hW⟩, fun q hq => (h81 q hq).warmM hW, fun q hq => (h82 q hq).warmF hW, h83.moved al, ⟨t9, (h9.moved al).kept hq, (h9'.moved al).kept hq⟩, (h10.moved al).kept hq, ⟨t11, (h11.moved al).kept hq, (h11'.moved al).kept hq⟩, ⟨t12, (h12.moved al).kept hq, (h12'.moved al).kept hq⟩,
    ⟨ad, av, (h13.moved al).kept hq, h14.warm hW, h15.warm hW, h16.warm hW, h17.warm hW, h18.warm hW⟩⟩
theorem Gx.blind {k : Kx} {U : State} {g : JFrame} {mk : MethodId} {a : Array Value} (h : Gx k U) : Gx k (U.calling g mk a) := Gx.move (U := U.calling g mk a) h (State.WarmedH.refl U) (Nat.le_refl _) (fun _ _ _ => rfl)
theorem Gx.at {k : Kx} {s U : State} {A : Nat → Prop} {H : Heap} {locs : List Loc} (h : Gx k s) (hS : va_S A s.heap H locs) (hA : ∀ q, A q → kB k ≤ q) (hU : U.heap = H) (hW : s.WarmedH U.vm) : Gx k U :=
  h.move hW (by rw [hU]; exact hS.1) (fun a h1 h2 => by rw [hU]; exact hS.2.1 a h1 (fun z => h2 (hA a z)))
/-- what a call needs to know of the method that it calls -/
def pK (y : MethodName) (ws : List Cond) (bytes : ByteArray) (maxL : Nat) (ret : Option FieldType) (n : Nat) : Prop :=
  (∃ ws', ws = Cond.code y bytes maxL ret :: ws') ∧ y.cls ≠ "java/lang/invoke/MethodHandle" ∧ y.cls ≠ "java/lang/invoke/VarHandle" ∧ (parseMethodDescriptor y.desc).map (fun d => d.parameters.length) = some n
def pQ (o : Value) : Array Value → State → Outcome → State → Prop := fun _ st oc t => oc = .returned (some o) ∧ t.heap = st.heap
def pM (l : Launch) (y : MethodName) (ws : List Cond) (fr lo : Nat) (av : List Value) (o : Value) : Prop :=
  Met l y ws { frames := fr, cells := 0, slots := 0, locals := lo } (fun v _ => v = av.toArray) (pQ o) 0 0 (fun _ => False)
def tQ (r : Nat) : Array Value → State → Outcome → State → Prop := fun _ st oc t => r = 0 ∧ oc = .returned none ∧ t.heap = st.heap
def tX (r : Nat) : String → State → State → Prop := fun E st t => r ≠ 0 ∧ E = xn r ∧ st.heap.size ≤ t.heap.size ∧ ∀ q : Nat, q < st.heap.size → t.heap[q]? = st.heap[q]?
def tM (l : Launch) (k : Kx) (y : MethodName) (ws : List Cond) (fr lo mc ms : Nat) (av : List Value) (r : Nat) : Prop :=
  vx_Met l y ws { frames := fr, cells := mc, slots := ms, locals := lo } (va_Pc av (Gx k)) (tQ r) (tX r) mc ms (fun _ => False)
abbrev CS : Type := (Nat → Int64) × (Nat → Int32) × (Nat → Int32) × (Nat → Int32) × Int32 × Int32
abbrev CA : Type := Nat × Nat × Nat × Nat × Nat
/-- the cells of an object of the class -/
def cW (k : Kx) (a : CA) (z : CS) : va_W := [(a.1, .inr (2, [.ref a.2.1, .ref a.2.2.1, .ref a.2.2.2.1, .ref a.2.2.2.2, .int z.2.2.2.2.1, .int z.2.2.2.2.2])), (a.2.1, .inl (kJ k, 6, .inr (.inl z.1))), (a.2.2.1, .inl (kI k, 2, .inl z.2.1)), (a.2.2.2.1, .inl (kI k, 2, .inl z.2.2.1)), (a.2.2.2.2, .inl (kI k, 2, .inl z.2.2.2.1))]
def cA (a : CA) (sz : Nat) : Nat → Prop := fun q => q = a.1 ∨ q = a.2.1 ∨ q = a.2.2.1 ∨ q = a.2.2.2.1 ∨ q = a.2.2.2.2 ∨ sz ≤ q
def cD (k : Kx) (a : CA) : Prop := ∀ z : CS, va_D (kA k) (cW k a z)
theorem cD.own {k : Kx} {a : CA} (h : cD k a) (sz : Nat) (z : CS) : va_D (cA a sz) (cW k a z) := by
  refine ⟨(h z).1, fun j q hq => ?_⟩
  match j, hq with
  | 0, hq => cases hq; exact Or.inl rfl
  | 1, hq => cases hq; exact Or.inr (Or.inl rfl)
  | 2, hq => cases hq; exact Or.inr (Or.inr (Or.inl rfl))
  | 3, hq => cases hq; exact Or.inr (Or.inr (Or.inr (Or.inl rfl)))
  | 4, hq => cases hq; exact Or.inr (Or.inr (Or.inr (Or.inr (Or.inl rfl))))
  | j + 5, hq => cases hq
theorem cD.high {k : Kx} {a : CA} (h : cD k a) {sz : Nat} (hs : kB k ≤ sz) : ∀ q, cA a sz q → kB k ≤ q := by
  have hz := (h (fun _ => 0, fun _ => 0, fun _ => 0, fun _ => 0, 0, 0)).2
  intro q hq
  rcases hq with rfl | rfl | rfl | rfl | rfl | hq
  · exact hz 0 _ rfl
  · exact hz 1 _ rfl
  · exact hz 2 _ rfl
  · exact hz 3 _ rfl
  · exact hz 4 _ rfl
  · exact Nat.le_trans hs hq
theorem cA.up {a : CA} {m n : Nat} (h : m ≤ n) : ∀ q, cA a n q → cA a m q := by
  intro q hq
  rcases hq with h1 | h1 | h1 | h1 | h1 | h1
  · exact Or.inl h1
  · exact Or.inr (Or.inl h1)
  · exact Or.inr (Or.inr (Or.inl h1))
  · exact Or.inr (Or.inr (Or.inr (Or.inl h1)))
  · exact Or.inr (Or.inr (Or.inr (Or.inr (Or.inl h1))))
  · exact Or.inr (Or.inr (Or.inr (Or.inr (Or.inr (Nat.le_trans h h1)))))
theorem cA.new {a : CA} {sz : Nat} : ∀ q : Nat, sz ≤ q → cA a sz q := fun _ h => Or.inr (Or.inr (Or.inr (Or.inr (Or.inr h))))
def cQ (k : Kx) (a : CA) (o : Option Value) (r : Nat) (z : CS) : Array Value → State → Outcome → State → Prop := fun _ st oc t => r = 0 ∧ oc = .returned o ∧ va_P (kD k) vwCl (cW k a z) t.heap ∧ va_F (cA a st.heap.size) st t
def cX (k : Kx) (a : CA) (r : Nat) (z : CS) : String → State → State → Prop := fun E st t => r ≠ 0 ∧ E = xn r ∧ va_P (kD k) vwCl (cW k a z) t.heap ∧ va_F (cA a st.heap.size) st t
def cPc (k : Kx) (a : CA) (sz : Nat) (z : CS) (U : State) : Prop := U.heap.size = sz ∧ Gx k U ∧ va_P (kD k) vwCl (cW k a z) U.heap
/-- a method of the object a (its state z), with the arguments av: o is its answer, r its outcome (0: returned; 1, 2, 3: thrown) and the state behind it -/
def cM (l : Launch) (k : Kx) (a : CA) (y : MethodName) (ws : List Cond) (fr lo mc ms : Nat) (av : List Value) (z : CS) (o : Option Value) (r : Nat) (z' : CS) : Prop :=
  ∀ sz : Nat, vx_Met l y ws { frames := fr, cells := mc, slots := ms, locals := lo } (va_Pc (.ref a.1 :: av) (cPc k a sz z)) (cQ k a o r z') (cX k a r z') mc ms (cA a sz)
theorem cPc.blind {k : Kx} {a : CA} {sz : Nat} {z : CS} {av : List Value} : FrameBlind (va_Pc av (cPc k a sz z)) := fun _ _ _ _ ⟨h1, h2, h3, h4⟩ => ⟨h1, h2, h3.blind, h4⟩
section Rows
variable {p : Program} {l : Launch} {e : Env} {R : Room} {s : State} {m : MethodId} {args : Array Value} {below : List Frame} {meth : Method} {c : Code} {H : Heap} {locs : List Loc} {cells slots : Nat} {Q : State → Prop}
variable {cc bytes : ByteArray} {nL maxL n index fr lo mc ms pc : Nat} {Ts ws : List Cond} {own C : String} {y : MethodName} {ret : Option FieldType} {As rest st0 : List Value} {ls : Array Slot} {k : Kx} {a : CA}
/-- a call of a pure static method -/
theorem pc_S {o : Value} (hC : CallFix p m c cc nL s args Ts own) (hM : pM l y ws fr lo As o) (hG : GoodIn Ts (va_wsS own index y ws)) (hk : pK y ws bytes maxL ret n) (hR : fr + 1 ≤ R.frames ∧ 8 + (maxL + 11) + lo ≤ R.locals) (hf : cells ≤ R.cells ∧ slots ≤ R.slots) (hsz : ls.size = nL) (hn : As.length = n) (hst : st0 = As.reverse ++ rest) (hW : (rest.map fun v => v.category).sum ≤ 8) (hdg : decode cc pc = .ok (.invokestatic index, 3))
    (kk : W p l e R s m args below meth c H locs cells slots Q (F0 m (pc + 3) ls (o :: rest))) : W p l e R s m args below meth c H locs cells slots Q (F0 m pc ls st0) := by
  obtain ⟨⟨ws', hw⟩, h1, h2, h3⟩ := hk
  have hr := W.runS (H := H) (locs := locs) (cells := cells) (slots := slots) (e := e) (below := below) (meth := meth) (g := F0 m pc ls st0) (rest := rest) hC hM (va_cwS n hC.2.2.2.2 hG hw rfl rfl ⟨h1, h2, h3⟩ hR) preEq rfl hn hsz hst (lv_room hW) hdg hf
  intro T hT X
  obtain ⟨v, st₀, t, T', L, h0, X', hL, e1, ⟨hv, hh⟩, st⟩ := hr T hT X
  cases hv
  obtain ⟨t2, a1, b1⟩ := kk T' (by rw [e1, hh, h0]) (Stand.forget X' (fun q h => (hL q h).elim))
  exact ⟨t2, st t2 a1, b1⟩
/-- a call of a static method that checks: it throws, or all is as it was -/
theorem tc_S {r : Nat} {A : Nat → Prop} (hC : CallFix p m c cc nL s args Ts own) (hGx : Gx k s) (hM : tM l k y ws fr lo mc ms As r) (hG : GoodIn Ts (va_wsS own index y ws)) (hk : pK y ws bytes maxL ret n) (hR : fr + 1 ≤ R.frames ∧ 8 + (maxL + 11) + lo ≤ R.locals) (hf : cells + mc ≤ R.cells ∧ slots + ms ≤ R.slots) (hS : va_S A s.heap H locs) (hA : ∀ q, A q → kB k ≤ q) (hsz : ls.size = nL) (hn : As.length = n) (hst : st0 = As.reverse ++ rest) (hW : (rest.map fun v => v.category).sum ≤ 8) (hdg : decode cc pc = .ok (.invokestatic index, 3))
    (kx : r ≠ 0 → ∀ (ce : Cell) (q : Addr) (H1 : Heap), H.size ≤ H1.size → (∀ q : Nat, q < H.size → H1[q]? = H[q]?) → H1[q]? = some ce → ce.vm = .none → s.vm.findClass (xn r) = some ce.cls → vx_W p l e R s m args below meth c H1 locs (cells + mc) (slots + ms) Q (F0 m pc ls rest) q)
    (kk : r = 0 → W p l e R s m args below meth c H locs (cells + mc) (slots + ms) Q (F0 m (pc + 3) ls rest)) : W p l e R s m args below meth c H locs cells slots Q (F0 m pc ls st0) := by
  obtain ⟨⟨ws', hw⟩, h1, h2, h3⟩ := hk
  have hr := vx_runS (H := H) (locs := locs) (cells := cells) (slots := slots) (e := e) (below := below) (meth := meth) (g := F0 m pc ls st0) (rest := rest) hC hM (va_cwS n hC.2.2.2.2 hG hw rfl rfl ⟨h1, h2, h3⟩ hR) ⟨fun _ _ _ _ q => ⟨q.1, q.2.blind⟩, fun U hU hW => ⟨rfl, hGx.at hS hA hU hW⟩⟩ rfl hn hsz hst (lv_room hW) hdg hf
  intro T hT X
  rcases hr T hT X with ⟨v, st₀, t, T', L, h0, X', hL, e1, e2, ⟨hr0, hv, hh⟩, st⟩ | ⟨q, st₀, t, T', L, E, ce, h0, X', hL, e1, e2, ⟨hr0, hE, hz, hq⟩, hce, hcv, hcl, st⟩
  · cases hv
    obtain ⟨t2, a1, b1⟩ := kk hr0 T' (by rw [e1, hh, h0]) (Stand.forget X' (fun q h => (hL q h).elim))
    exact ⟨t2, st t2 a1, b1⟩
  · subst hE
    obtain ⟨t2, a1, b1⟩ := kx hr0 ce q T'.heap (by rw [e1, ← h0]; exact hz) (fun q h => by rw [e1, hq q (by rw [h0]; exact h), h0]) (by rw [e1]; exact hce) hcv hcl T' rfl (Stand.forget X' (fun q h => (hL q h).elim))
    exact ⟨t2, st.trans a1, b1⟩
/-- .. from a method that itself only checks, and doesn't catch it -/
theorem tt_S {r res MC MS : Nat} (hC : CallFix p m c cc nL s args Ts own) (hGx : Gx k s) (hEx : ∀ x ∈ c.exceptionTable.toList, False) (hlocks : meth.locks = false) (hM : tM l k y ws fr lo mc ms As r) (hG : GoodIn Ts (va_wsS own index y ws)) (hk : pK y ws bytes maxL ret n) (hR : fr + 1 ≤ R.frames ∧ 8 + (maxL + 11) + lo ≤ R.locals) (hf : cells + mc ≤ R.cells ∧ slots + ms ≤ R.slots) (hf2 : cells + mc ≤ MC ∧ slots + ms ≤ MS) (hsz : ls.size = nL) (hn : As.length = n) (hst : st0 = As.reverse ++ rest) (hW : (rest.map fun v => v.category).sum ≤ 8) (hdg : decode cc pc = .ok (.invokestatic index, 3))
    (kx : r ≠ 0 → res = r) (kk : r = 0 → W p l e R s m args below meth c s.heap [] (cells + mc) (slots + ms) (vx_MQ below (tQ res) (tX res) args s MC MS (fun _ => False)) (F0 m (pc + 3) ls rest)) : W p l e R s m args below meth c s.heap [] cells slots (vx_MQ below (tQ res) (tX res) args s MC MS (fun _ => False)) (F0 m pc ls st0) := by
  refine tc_S (A := fun _ => False) hC hGx hM hG hk hR hf va_S.rf (fun _ h => h.elim) hsz hn hst hW hdg (fun h0 ce q H1 hz hq hce hcv hcl => ?_) kk
  obtain rfl := kx h0
  exact vx_out (fun x hx => (hEx x hx).elim) hlocks hce hcv hcl (fun t ht _ => ⟨h0, rfl, by rw [ht]; exact hz, fun q h => by rw [ht]; exact hq q h⟩) (fun _ h => absurd h List.not_mem_nil) hf2.1 hf2.2
/-- .. from a method of the object -/
theorem ct_S {r MC MS : Nat} {z zr : CS} {o : Option Value} {res : Nat} (hC : CallFix p m c cc nL s args Ts own) (hGx : Gx k s) (hD : cD k a) (hEx : ∀ x ∈ c.exceptionTable.toList, False) (hlocks : meth.locks = false) (hM : tM l k y ws fr lo mc ms As r) (hG : GoodIn Ts (va_wsS own index y ws)) (hk : pK y ws bytes maxL ret n) (hR : fr + 1 ≤ R.frames ∧ 8 + (maxL + 11) + lo ≤ R.locals) (hf : cells + mc ≤ R.cells ∧ slots + ms ≤ R.slots) (hf2 : cells + mc ≤ MC ∧ slots + ms ≤ MS) (hP : va_P (kD k) vwCl (cW k a z) H) (hS : va_S (cA a s.heap.size) s.heap H locs) (hsz : ls.size = nL) (hn : As.length = n) (hst : st0 = As.reverse ++ rest) (hW : (rest.map fun v => v.category).sum ≤ 8) (hdg : decode cc pc = .ok (.invokestatic index, 3))
    (kx : r ≠ 0 → res = r ∧ zr = z) (kk : r = 0 → W p l e R s m args below meth c H locs (cells + mc) (slots + ms) (vx_MQ below (cQ k a o res zr) (cX k a res zr) args s MC MS (cA a s.heap.size)) (F0 m (pc + 3) ls rest)) : W p l e R s m args below meth c H locs cells slots (vx_MQ below (cQ k a o res zr) (cX k a res zr) args s MC MS (cA a s.heap.size)) (F0 m pc ls st0) := by
  refine tc_S hC hGx hM hG hk hR hf hS (hD.high hGx.2.1) hsz hn hst hW hdg (fun h0 ce q H1 hz hq hce hcv hcl => ?_) kk
  obtain ⟨rfl, rfl⟩ := kx h0
  exact vx_out (fun x hx => (hEx x hx).elim) hlocks hce hcv hcl (fun t ht _ => ⟨h0, rfl, by rw [ht]; exact hP.kept (fun j q hj => hq q.1 (hP j q hj).lt), by rw [ht]; exact Nat.le_trans hS.1 hz, fun q h1 h2 => by rw [ht, hq q (Nat.lt_of_lt_of_le h1 hS.1)]; exact hS.2.1 q h1 h2⟩) hS.2.2 hf2.1 hf2.2
/-- a call of another method of the object -/
theorem cv_V {z z1 : CS} {o : Option Value} {r : Nat} (hC : CallFix p m c cc nL s args Ts own) (hGx : Gx k s) (hD : cD k a) (hM : cM l k a y ws fr lo mc ms As z o r z1) (hG : GoodIn Ts (wsV own index RX0 y ws)) (hk : pK y ws bytes maxL ret n) (hyc : y.cls = RX0) (hR : fr + 1 ≤ R.frames ∧ 8 + (maxL + 11) + lo ≤ R.locals) (hf : cells + mc ≤ R.cells ∧ slots + ms ≤ R.slots) (hP : va_P (kD k) vwCl (cW k a z) H) (hS : va_S (cA a s.heap.size) s.heap H locs) (hsz : ls.size = nL) (hn : As.length = n) (hst : st0 = As.reverse ++ .ref a.1 :: rest) (hW : (rest.map fun v => v.category).sum ≤ 8) (hdg : decode cc pc = .ok (.invokevirtual index, 3))
    (kx : r ≠ 0 → ∀ (ce : Cell) (q : Addr) (H1 : Heap) (locs1 : List Loc), va_P (kD k) vwCl (cW k a z1) H1 → va_S (cA a s.heap.size) s.heap H1 locs1 → H1[q]? = some ce → ce.vm = .none → s.vm.findClass (xn r) = some ce.cls → vx_W p l e R s m args below meth c H1 locs1 (cells + mc) (slots + ms) Q (F0 m pc ls rest) q)
    (kk : r = 0 → ∀ (H1 : Heap) (locs1 : List Loc), va_P (kD k) vwCl (cW k a z1) H1 → va_S (cA a s.heap.size) s.heap H1 locs1 → W p l e R s m args below meth c H1 locs1 (cells + mc) (slots + ms) Q (F0 m (pc + 3) ls (o.toList ++ rest))) : W p l e R s m args below meth c H locs cells slots Q (F0 m pc ls st0) := by
  obtain ⟨⟨ws', hw⟩, h1, h2, h3⟩ := hk
  have hr := vx_runV (H := H) (locs := locs) (cells := cells) (slots := slots) (e := e) (below := below) (meth := meth) (g := F0 m pc ls st0) (rest := rest) (C := RX0) (b := a.1) hC (hM H.size) (cwV n hC.2.2.2.2 hG hw rfl rfl ⟨hyc, h1, h2, h3⟩ hR)
    ⟨cPc.blind, va_recv hGx.1 hP (ci := 2) (q0 := 0) rfl rfl, fun U hU hW => ⟨rfl, by rw [hU], hGx.at hS (hD.high hGx.2.1) hU hW, by rw [hU]; exact hP⟩⟩ rfl hn hsz hst (lv_room hW) hdg hf
  have step : ∀ {st₀ t T' : State} {L : List Loc}, st₀.heap = H → T'.heap = t.heap → (∀ q ∈ L, cA a H.size q.base) → va_F (cA a st₀.heap.size) st₀ t → va_S (cA a s.heap.size) s.heap T'.heap (locs ++ L) := by
    intro st₀ t T' L h0 e1 hL hF
    rw [h0] at hF
    have hF2 := hF.2
    rw [h0] at hF2
    refine ⟨Nat.le_trans hS.1 (by rw [e1, ← h0]; exact hF.1), fun q h4 h5 => ?_, fun q hq => ?_⟩
    · rw [e1, hF2 q (Nat.lt_of_lt_of_le h4 hS.1) (fun h6 => h5 (cA.up hS.1 q h6))]
      exact hS.2.1 q h4 h5
    · rcases List.mem_append.mp hq with h | h
      · exact hS.2.2 q h
      · exact cA.up hS.1 _ (hL q h)
  intro T hT X
  rcases hr T hT X with ⟨v, st₀, t, T', L, h0, X', hL, e1, e2, ⟨hr0, hv, hp, hF⟩, st⟩ | ⟨q, st₀, t, T', L, E, ce, h0, X', hL, e1, e2, ⟨hr0, hE, hp, hF⟩, hce, hcv, hcl, st⟩
  · cases hv
    obtain ⟨t2, a1, b1⟩ := kk hr0 T'.heap (locs ++ L) (by rw [e1]; exact hp) (step h0 e1 hL hF) T' rfl X'
    exact ⟨t2, st t2 a1, b1⟩
  · subst hE
    obtain ⟨t2, a1, b1⟩ := kx hr0 ce q T'.heap (locs ++ L) (by rw [e1]; exact hp) (step h0 e1 hL hF) (by rw [e1]; exact hce) hcv hcl T' rfl X'
    exact ⟨t2, st.trans a1, b1⟩
/-- .. from a method of the object that doesn't catch -/
theorem cc_V {MC MS : Nat} {z z1 zr : CS} {o oo : Option Value} {r res : Nat} (hC : CallFix p m c cc nL s args Ts own) (hGx : Gx k s) (hD : cD k a) (hEx : ∀ x ∈ c.exceptionTable.toList, False) (hlocks : meth.locks = false) (hM : cM l k a y ws fr lo mc ms As z o r z1) (hG : GoodIn Ts (wsV own index RX0 y ws)) (hk : pK y ws bytes maxL ret n) (hyc : y.cls = RX0) (hR : fr + 1 ≤ R.frames ∧ 8 + (maxL + 11) + lo ≤ R.locals) (hf : cells + mc ≤ R.cells ∧ slots + ms ≤ R.slots) (hf2 : cells + mc ≤ MC ∧ slots + ms ≤ MS) (hP : va_P (kD k) vwCl (cW k a z) H) (hS : va_S (cA a s.heap.size) s.heap H locs) (hsz : ls.size = nL) (hn : As.length = n) (hst : st0 = As.reverse ++ .ref a.1 :: rest) (hW : (rest.map fun v => v.category).sum ≤ 8) (hdg : decode cc pc = .ok (.invokevirtual index, 3))
    (kx : r ≠ 0 → res = r ∧ zr = z1)
    (kk : r = 0 → ∀ (H1 : Heap) (locs1 : List Loc), va_P (kD k) vwCl (cW k a z1) H1 → va_S (cA a s.heap.size) s.heap H1 locs1 → W p l e R s m args below meth c H1 locs1 (cells + mc) (slots + ms) (vx_MQ below (cQ k a oo res zr) (cX k a res zr) args s MC MS (cA a s.heap.size)) (F0 m (pc + 3) ls (o.toList ++ rest))) : W p l e R s m args below meth c H locs cells slots (vx_MQ below (cQ k a oo res zr) (cX k a res zr) args s MC MS (cA a s.heap.size)) (F0 m pc ls st0) := by
  refine cv_V hC hGx hD hM hG hk hyc hR hf hP hS hsz hn hst hW hdg (fun h0 ce q H1 locs1 hP1 hS1 hce hcv hcl => ?_) kk
  obtain ⟨rfl, rfl⟩ := kx h0
  exact vx_out (fun x hx => (hEx x hx).elim) hlocks hce hcv hcl (fun t ht _ => ⟨h0, rfl, by rw [ht]; exact hP1, by rw [ht]; exact hS1.1, fun q h1 h2 => by rw [ht]; exact hS1.2.1 q h1 h2⟩) hS1.2.2 hf2.1 hf2.2
end Rows
theorem gx_str {k : Kx} {s : State} (h : Gx k s) {q : String × Nat × String} (hq : q ∈ gStr) : ∃ a, vk_R q.1 q.2.1 q.2.2 a s := h.2.2.2.2.2.2.2.1 q hq
section Ends
variable {p : Program} {l : Launch} {e : Env} {R : Room} {s : State} {m : MethodId} {args : Array Value} {below : List Frame} {meth : Method} {c : Code} {H : Heap} {locs : List Loc} {cells slots : Nat}
variable {cc : ByteArray} {pc MC MS : Nat} {ls : Array Slot} {k : Kx} {a : CA} {o : Option Value} {res : Nat} {zr z1 : CS}
theorem c_iret {E : Int32} (hx : p.tables.exec = Jvm.exec) (hb : c.code = cc) (hr : meth.sig.returnType = some .int) (hlocks : meth.locks = false) (ho : o = some (.int E)) (h0 : res = 0) (hz : zr = z1) (hP : va_P (kD k) vwCl (cW k a z1) H) (hS : va_S (cA a s.heap.size) s.heap H locs) (hf : cells ≤ MC ∧ slots ≤ MS) (hdg : decode cc pc = .ok (.ireturn, 1)) :
    W p l e R s m args below meth c H locs cells slots (vx_MQ below (cQ k a o res zr) (cX k a res zr) args s MC MS (cA a s.heap.size)) (F0 m pc ls [.int E]) := by
  refine vx_ret (W.widen hf.1 hf.2 ?_)
  exact W.iret (v := E) hx hb hr (fun t ht _ => ⟨h0, by rw [ho], by rw [ht, hz]; exact hP, hS.F ht⟩) hS.2.2 hdg
theorem c_zret {E : Int32} (hx : p.tables.exec = Jvm.exec) (hb : c.code = cc) (hr : meth.sig.returnType = some .boolean) (hlocks : meth.locks = false) (hn : narrow .boolean (.int E) = .int E) (ho : o = some (.int E)) (h0 : res = 0) (hz : zr = z1) (hP : va_P (kD k) vwCl (cW k a z1) H) (hS : va_S (cA a s.heap.size) s.heap H locs) (hf : cells ≤ MC ∧ slots ≤ MS) (hdg : decode cc pc = .ok (.ireturn, 1)) :
    W p l e R s m args below meth c H locs cells slots (vx_MQ below (cQ k a o res zr) (cX k a res zr) args s MC MS (cA a s.heap.size)) (F0 m pc ls [.int E]) := by
  refine vx_ret (W.widen hf.1 hf.2 ?_)
  exact W.zret (v := E) (ty := .boolean) hx hb hr hn (fun t ht _ => ⟨h0, by rw [ho], by rw [ht, hz]; exact hP, hS.F ht⟩) hS.2.2 hdg
theorem c_lret {E : Int64} (hx : p.tables.exec = Jvm.exec) (hb : c.code = cc) (hr : meth.sig.returnType = some .long) (hlocks : meth.locks = false) (ho : o = some (.long E)) (h0 : res = 0) (hz : zr = z1) (hP : va_P (kD k) vwCl (cW k a z1) H) (hS : va_S (cA a s.heap.size) s.heap H locs) (hf : cells ≤ MC ∧ slots ≤ MS) (hdg : decode cc pc = .ok (.lreturn, 1)) :
    W p l e R s m args below meth c H locs cells slots (vx_MQ below (cQ k a o res zr) (cX k a res zr) args s MC MS (cA a s.heap.size)) (F0 m pc ls [.long E]) := by
  refine vx_ret (W.widen hf.1 hf.2 ?_)
  exact W.lret (v := E) hx hb hr (fun t ht _ => ⟨h0, by rw [ho], by rw [ht, hz]; exact hP, hS.F ht⟩) hS.2.2 hdg
theorem c_vret (hx : p.tables.exec = Jvm.exec) (hb : c.code = cc) (hr : meth.sig.returnType = none) (hlocks : meth.locks = false) (ho : o = none) (h0 : res = 0) (hz : zr = z1) (hP : va_P (kD k) vwCl (cW k a z1) H) (hS : va_S (cA a s.heap.size) s.heap H locs) (hf : cells ≤ MC ∧ slots ≤ MS) (hdg : decode cc pc = .ok (.return_, 1)) :
    W p l e R s m args below meth c H locs cells slots (vx_MQ below (cQ k a o res zr) (cX k a res zr) args s MC MS (cA a s.heap.size)) (F0 m pc ls []) := by
  refine vx_ret (W.widen hf.1 hf.2 ?_)
  exact W.vret hx hb hr (fun t ht _ => ⟨h0, by rw [ho], by rw [ht, hz]; exact hP, hS.F ht⟩) hS.2.2 hdg
end Ends

