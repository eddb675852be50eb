/-! THE TEXTS: a builder (its object, its sixteen bytes; what the bytes are is left open), a text (made, or of the launch) -/
def bW (k : Kx) (a : Nat × Nat) (f : Nat → Int32) (n : Int32) : va_W := [(a.1, .inr (1, [.ref a.2, .int 0, .int 0, .int n])), (a.2, .inl (kY k, 16, .inl f))]
def bP (k : Kx) (a : Nat × Nat) (n : Int32) (H : Heap) : Prop := ∃ f : Nat → Int32, sb_Fit f ∧ va_P (kD k) vwCl (bW k a f n) H
def b2 (a : Nat × Nat) : Nat → Prop := fun q => q = a.1 ∨ q = a.2
def tA (a : Nat × Nat) : Nat → Prop := fun q => q ≠ a.1 ∧ q ≠ a.2
def tP (U : State) (a : Nat × Nat) (n : Nat) (H : Heap) : Prop :=
  va_O "java/lang/String" a.1 (tA a) U H ∧ va_OF "java/lang/String" "coder" "B" (.int 0) a.1 (tA a) U H ∧ va_OF "java/lang/String" "value" "[B" (.ref a.2) a.1 (tA a) U H ∧ ∃ f : Nat → Int32, sb_Fit f ∧ va_T .byte a.2 n (fun j => .int (f j)) (tA a) U H
def sP (k : Kx) (a : Nat × Nat) (n : Nat) (f : Nat → Int32) (H : Heap) : Prop := va_P (kD k) vwCl [(a.1, .inr (0, [.ref a.2, .int 0, .int 0, .int 0])), (a.2, .inl (kY k, n, .inl f))] H
def yP (k : Kx) (a n : Nat) (f : Nat → Int32) (H : Heap) : Prop := va_P (kD k) vwCl [(a, .inl (kY k, n, .inl f))] H
def nB (k : Kx) (a : Nat) (H : Heap) : Prop := va_P (kD k) vwCl [(a, .inr (1, [.null, .int 0, .int 0, .int 0]))] H
def nS (k : Kx) (a : Nat) (H : Heap) : Prop := va_P (kD k) vwCl [(a, .inr (0, [.null, .int 0, .int 0, .int 0]))] H
theorem va_P.up1 {D : va_G} {cl : List vw_C} {a : Nat} {x : va_E} {H H1 : Heap} (h : va_P D cl [(a, x)] H) (hq : a < H.size → H1[a]? = H[a]?) : va_P D cl [(a, x)] H1 := h.kept (fun j y hj => by
  match j, hj with
  | 0, hj => cases hj; exact hq (h 0 _ rfl).lt
  | j + 1, hj => cases hj)
theorem va_P.up2 {D : va_G} {cl : List vw_C} {a b : Nat} {x y : va_E} {H H1 : Heap} (h : va_P D cl [(a, x), (b, y)] H) (hq : ∀ q : Nat, q < H.size → (q = a ∨ q = b) → H1[q]? = H[q]?) : va_P D cl [(a, x), (b, y)] H1 := h.kept (fun j y hj => by
  match j, hj with
  | 0, hj => cases hj; exact hq _ (h 0 _ rfl).lt (Or.inl rfl)
  | 1, hj => cases hj; exact hq _ (h 1 _ rfl).lt (Or.inr rfl)
  | j + 2, hj => cases hj)
theorem va_D1 {A : Nat → Prop} {a : Nat} {x : va_E} (h : A a) : va_D A [(a, x)] := by
  refine ⟨fun i j p q hi hj _ => ?_, fun j p hj => ?_⟩
  · match i, j, hi, hj with
    | 0, 0, _, _ => rfl
    | 0, j + 1, _, hj => cases hj
    | i + 1, _, hi, _ => cases hi
  · match j, hj with
    | 0, hj => cases hj; exact h
    | j + 1, hj => cases hj
theorem va_D2 {A : Nat → Prop} {a b : Nat} {x y : va_E} (hne : a ≠ b) (h : A a) (h' : A b) : va_D A [(a, x), (b, y)] := by
  refine ⟨fun i j p q hi hj e => ?_, fun j p hj => ?_⟩
  · match i, j, hi, hj with
    | 0, 0, _, _ => rfl
    | 0, 1, hi, hj => cases hi; cases hj; exact absurd e hne
    | 1, 0, hi, hj => cases hi; cases hj; exact absurd e.symm hne
    | 1, 1, _, _ => rfl
    | 0, j + 2, _, hj => cases hj
    | 1, j + 2, _, hj => cases hj
    | i + 2, _, hi, _ => cases hi
  · match j, hj with
    | 0, hj => cases hj; exact h
    | 1, hj => cases hj; exact h'
    | j + 2, hj => cases hj
theorem bP.up {k : Kx} {a : Nat × Nat} {z : Int32} {H H1 : Heap} (h : bP k a z H) (hq : ∀ x : Nat, x < H.size → (x = a.1 ∨ x = a.2) → H1[x]? = H[x]?) : bP k a z H1 := by
  obtain ⟨f, hf, h⟩ := h
  exact ⟨f, hf, va_P.up2 h hq⟩
theorem bP.lt {k : Kx} {a : Nat × Nat} {z : Int32} {H : Heap} (h : bP k a z H) : a.1 < H.size ∧ a.2 < H.size := by
  obtain ⟨f, hf, h⟩ := h
  exact ⟨(h 0 _ rfl).lt, (h 1 _ rfl).lt⟩
theorem tP.up {U : State} {a : Nat × Nat} {n : Nat} {H H1 : Heap} (h : tP U a n H) (hq : ∀ x : Nat, x < H.size → (x = a.1 ∨ x = a.2) → H1[x]? = H[x]?) : tP U a n H1 := by
  have hq' : ∀ x : Nat, x < H.size → ¬ tA a x → H1[x]? = H[x]? := fun x hx hn => hq x hx (by
    by_cases h1 : x = a.1
    · exact Or.inl h1
    · by_cases h2 : x = a.2
      · exact Or.inr h2
      · exact absurd ⟨h1, h2⟩ hn)
  obtain ⟨h1, h2, h3, f, hf, h4⟩ := h
  exact ⟨h1.kept hq', h2.kept hq', h3.kept hq', f, hf, h4.kept hq'⟩
theorem tP.moved {u U : State} {a : Nat × Nat} {n : Nat} {H : Heap} (hvm : u.vm.Alike U.vm) (h : tP u a n H) : tP U a n H := by
  obtain ⟨h1, h2, h3, f, hf, h4⟩ := h
  exact ⟨va_O.moved hvm h1, va_OF.moved hvm h2, va_OF.moved hvm h3, f, hf, va_T.moved hvm h4⟩
theorem tP.lt {U : State} {a : Nat × Nat} {n : Nat} {H : Heap} (h : tP U a n H) : a.1 < H.size ∧ a.2 < H.size := by
  obtain ⟨⟨c1, h1, -⟩, -, -, f, -, c2, h2, -⟩ := h
  exact ⟨(Array.getElem?_eq_some_iff.mp h1).1, (Array.getElem?_eq_some_iff.mp h2).1⟩
theorem tP.recv {U : State} {a : Nat × Nat} {n : Nat} {H : Heap} (h : tP U a n H) : ∃ cell : Cell, H[a.1]? = some cell ∧ cell.vm.isStatics = false ∧ U.vm.findClass "java/lang/String" = some cell.cls := by
  obtain ⟨⟨c1, h1, h2, h3, -⟩, -⟩ := h
  exact ⟨c1, h1, h2, h3⟩
theorem gx_text {k : Kx} {U : State} (h : Gx k U) : ∃ ad av, vk_S 4 [0, 1, 1, 1] [[], [48], [63], [45]] ad av (kA k) U U.heap ∧ vk_R "DatesoloModel" 196 "" (ad 0) U ∧ vk_R "DatesoloModel" 214 "0" (ad 1) U ∧ vk_R "DatesoloModel" 216 "?" (ad 2) U ∧ vk_R "DatesoloModel" 222 "-" (ad 3) U ∧ vk_R RX0 159 "?" (ad 2) U := h.2.2.2.2.2.2.2.2.2.2.2.2.2.2.2
theorem t_fit : ∀ i, i < 4 → sb_Fit (fun j => (([[], [48], [63], [45]] : List (List Int32)).getD i []).getD j 0) := by
  intro i hi j
  rcases (show i = 0 ∨ i = 1 ∨ i = 2 ∨ i = 3 by omega) with rfl | rfl | rfl | rfl
  all_goals (match j with
    | 0 => decide
    | 1 => decide
    | j + 2 => exact (show fits .byte (.int 0) = true by decide))
theorem tP.launch {k : Kx} {s : State} {A : Nat → Prop} {H : Heap} {locs : List Loc} {ad av : Nat → Nat} {i : Nat} (hi : i < 4) (h : vk_S 4 [0, 1, 1, 1] [[], [48], [63], [45]] ad av (kA k) s s.heap) (hS : va_S A s.heap H locs) (hAB : ∀ q, A q → kB k ≤ q) :
    tP s (ad i, av i) (([0, 1, 1, 1] : List Nat).getD i 0) H ∧ ad i < kB k ∧ av i < kB k := by
  obtain ⟨h1, h2, h3, h4⟩ := h.1 i hi
  have hq : ∀ x : Nat, x < s.heap.size → ¬ kA k x → H[x]? = s.heap[x]? := fun x h5 h6 => hS.2.1 x h5 (fun h7 => h6 (hAB x h7))
  obtain ⟨c1, a1, a2, a3, a4⟩ := h1.kept hq
  obtain ⟨c2, b1, b2, b3, b4, b5, b6, b7, b8, b9, -⟩ := h2.kept hq
  obtain ⟨c3, d1, d2, d3, d4, d5, d6, d7, d8, d9, -⟩ := h3.kept hq
  obtain ⟨c4, e1, e2, e3, e4, e5, e6, e7⟩ := h4.kept hq
  exact ⟨⟨⟨c1, a1, a2, a3, fun z => z.1 rfl⟩, ⟨c2, b1, b2, b3, b4, b5, b6, b7, b8, b9, fun z => z.1 rfl⟩, ⟨c3, d1, d2, d3, d4, d5, d6, d7, d8, d9, fun z => z.1 rfl⟩, _, t_fit i hi, c4, e1, e2, e3, e4, e5, e6, fun z => z.2 rfl⟩, Nat.not_le.mp a4, Nat.not_le.mp e7⟩
theorem tP.made {k : Kx} {s : State} {args : Array Value} {H : Heap} {a : Nat × Nat} {n : Nat} {f : Nat → Int32} (hGx : Gx k s) (htg : ∀ w ∈ GL, w.before args s = true) (hf : sb_Fit f) (hP : sP k a n f H) : tP s a n H := by
  obtain ⟨r, hr, cell, c1, c2, c3, c4⟩ := hP 0 _ rfl
  have hr : r = (RJ0, TJ0, 4) := (Option.some.inj hr).symm
  subst hr
  obtain ⟨hS, hfc, kC, hkC, -⟩ := hGx.1.1 0 _ rfl
  obtain ⟨cf, kf, fi, fd, hi, he⟩ := hS 0 (by decide)
  obtain ⟨cf', kf', fi', fd', hi', he'⟩ := hS 1 (by decide)
  have s1 := (u_facts hfc hkC (u_lays htg inG_J0 (k := 0) (by decide)) hi).1
  have s2 := (u_facts hfc hkC (u_lays htg inG_J0 (k := 1) (by decide)) hi').1
  have c5 := c4 0 (by decide)
  have c6 := c4 1 (by decide)
  rw [← he] at c5
  rw [← he'] at c6
  refine ⟨⟨cell, c1, by rw [c3]; rfl, by rw [c2]; exact hfc, fun z => z.1 rfl⟩, ⟨cf', kf', fi', fd', cell, hi', s2, c1, (by rw [c3]; exact fun q => by cases q), c6, fun z => z.1 rfl⟩, ⟨cf, kf, fi, fd, cell, hi, s1, c1, (by rw [c3]; exact fun q => by cases q), c5, fun z => z.1 rfl⟩, f, hf,
    arrV (kY k) n (fun j => .int (f j)), hP 1 _ rfl, (hGx.1.2 2 _ rfl).1 n _, (fun q => by cases q), (Nat.le_of_eq (arrV_size _ _ _).symm), (by rw [arrV_size] <;> rfl), fun j hj => arrV_read _ _ hj, fun z => z.2 rfl⟩
/-! their contracts -/
def sPc (k : Kx) (a : Nat × Nat) (n : Nat) (U : State) : Prop := Gx k U ∧ tP U a n U.heap
theorem sPc.blind {k : Kx} {a : Nat × Nat} {n : Nat} {av : List Value} : FrameBlind (va_Pc av (sPc k a n)) := fun _ U _ _ h => ⟨h.1, h.2.1.blind, tP.moved (u := U) (Vm.Alike.refl _) h.2.2⟩
/-- a method of a text that only reads it -/
def sM (l : Launch) (k : Kx) (a : Nat × Nat) (n : Nat) (y : MethodName) (ws : List Cond) (fr lo : Nat) (o : Value) : Prop :=
  Met l y ws { frames := fr, cells := 0, slots := 0, locals := lo } (va_Pc [.ref a.1] (sPc k a n)) (pQ o) 0 0 (fun _ => False)
abbrev TS : Type := List ((Nat × Nat) × Nat)
def tAll (a : Nat × Nat) (ts : TS) (U : State) (H : Heap) : Prop := ∀ t ∈ ts, tP U t.1 t.2 H ∧ ¬ b2 a t.1.1 ∧ ¬ b2 a t.1.2
theorem tAll.moved {a : Nat × Nat} {ts : TS} {u U : State} {H : Heap} (hvm : u.vm.Alike U.vm) (h : tAll a ts u H) : tAll a ts U H := fun t ht => ⟨(h t ht).1.moved hvm, (h t ht).2⟩
theorem tAll.up {a : Nat × Nat} {ts : TS} {U : State} {H H1 : Heap} (h : tAll a ts U H) (hq : ∀ x : Nat, x < H.size → ¬ b2 a x → H1[x]? = H[x]?) : tAll a ts U H1 := fun t ht => ⟨(h t ht).1.up (fun x hx e => hq x hx (by rcases e with rfl | rfl; exact (h t ht).2.1; exact (h t ht).2.2)), (h t ht).2⟩
def bPc (k : Kx) (a : Nat × Nat) (z : Int32) (ts : TS) (U : State) : Prop := Gx k U ∧ (a.1 ≠ a.2 ∧ ∀ q, b2 a q → kB k ≤ q) ∧ bP k a z U.heap ∧ tAll a ts U U.heap
def bQ (k : Kx) (a : Nat × Nat) (o : Option Value) (z : Int32) : Array Value → State → Outcome → State → Prop := fun _ st oc t => oc = .returned o ∧ bP k a z t.heap ∧ va_F (b2 a) st t
/-- a method that works on a builder and makes no cells -/
def bN (l : Launch) (k : Kx) (a : Nat × Nat) (y : MethodName) (ws : List Cond) (fr lo : Nat) (av : List Value) (ts : TS) (z : Int32) (o : Option Value) (z' : Int32) : Prop :=
  Met l y ws { frames := fr, cells := 0, slots := 0, locals := lo } (va_Pc av (bPc k a z ts)) (bQ k a o z') 0 0 (b2 a)
theorem bPc.blind {k : Kx} {a : Nat × Nat} {z : Int32} {ts : TS} {av : List Value} : FrameBlind (va_Pc av (bPc k a z ts)) := fun _ U _ _ h => ⟨h.1, h.2.1.blind, h.2.2.1, h.2.2.2.1, tAll.moved (u := U) (Vm.Alike.refl _) h.2.2.2.2⟩
theorem bW.own {k : Kx} {a : Nat × Nat} {f : Nat → Int32} {z : Int32} (h : a.1 ≠ a.2) : va_D (b2 a) (bW k a f z) := va_D2 h (Or.inl rfl) (Or.inr rfl)
theorem gS0 {own : String} {idx : Nat} {y : MethodName} {a b : Cond} (h1 : Cond.methodLink own idx y ∈ GL) (h2 : Cond.instanceMethod y ∈ GL) (h3 : Cond.initialized y.cls ∈ GL) (h4 : Cond.sameMethod y.cls y.cls y.name y.desc ∈ GL) (h5 : Cond.superclass own y.cls ∈ GL) (h6 : b ∈ GL) : GoodIn (a :: GL) (va_wsSU own idx y (b :: GL)) := gP h1 (gP h4 (gP h5 (gP h2 (gP h3 (gC h6)))))
theorem gU {own C : String} {idx : Nat} {y : MethodName} {a b : Cond} (h1 : Cond.methodLink own idx y ∈ GL) (h2 : Cond.sameMethod y.cls y.cls y.name y.desc ∈ GL) (h3 : Cond.selects C y y ∈ GL) (h4 : Cond.instanceMethod y ∈ GL) (h5 : Cond.initialized y.cls ∈ GL) (h6 : b ∈ GL) : GoodIn (a :: GL) (va_wsU own idx C y.cls y y (b :: GL)) := gP h1 (gP h2 (gP h3 (gP h4 (gP h5 (gC h6)))))
theorem gO {own C : String} {idx : Nat} {x y : MethodName} {a b : Cond} (h1 : Cond.methodLink own idx x ∈ GL) (h2 : Cond.sameMethod x.cls x.cls x.name x.desc ∈ GL) (h3 : Cond.instanceMethod x ∈ GL) (h4 : Cond.selects C x y ∈ GL) (h5 : Cond.instanceMethod y ∈ GL) (h6 : Cond.initialized y.cls ∈ GL) (h7 : b ∈ GL) : GoodIn (a :: GL) (va_wsO own idx C x.cls x y (b :: GL)) := gP h1 (gP h2 (gP h3 (gP h4 (gP h5 (gP h6 (gC h7))))))
section B6
variable {p : Program} {l : Launch} {e : Env} {R : Room} {s : State} {m : MethodId} {args : Array Value} {below : List Frame} {meth : Method} {c : Code} {H : Heap} {locs : List Loc} {cells slots : Nat} {Q : State → Prop}
variable {cc bytes : ByteArray} {nL maxL n index fr lo pc : Nat} {Ts ws : List Cond} {own : String} {y : MethodName} {ret : Option FieldType} {As rest st0 : List Value} {ls : Array Slot} {k : Kx} {A : Nat → Prop} {a : Nat × Nat} {z z1 : Int32} {o : Option Value} {ts : TS}
/-- what comes after a call -/
theorem run_go {mc ms : Nat} {Qa : State → Outcome → State → Prop} {free : Addr → Prop} (h : va_Run p l e R s m args below meth c H locs cells slots mc ms (F0 m pc ls st0) rest Qa free)
    (kk : ∀ (v : Option Value) (st₀ t : State) (L : List Loc), st₀.heap = H → s.WarmedH t.vm → Qa st₀ (.returned v) t → (∀ q ∈ L, free q.base) → W p l e R s m args below meth c t.heap (locs ++ L) (cells + mc) (slots + ms) Q (F0 m (pc + 3) ls (v.toList ++ rest))) : W p l e R s m args below meth c H locs cells slots Q (F0 m pc ls st0) := by
  intro T hT X
  obtain ⟨v, st₀, t, T', L, h0, X', hL, e1, e2, hq, st⟩ := h T hT X
  obtain ⟨t2, a1, b1⟩ := kk v st₀ t L h0 (by rw [← e2]; exact X'.warmed) hq hL T' e1 X'
  exact ⟨t2, st t2 a1, b1⟩
/-- a text is asked -/
theorem sc_V {t : Nat × Nat} {nt : Nat} {v : Value} (hC : CallFix p m c cc nL s args Ts own) (hGx : Gx k s) (hM : sM l k t nt y ws fr lo v) (hG : GoodIn Ts (wsV own index RJ0 y ws)) (hk : pK y ws bytes maxL ret 0) (hyc : y.cls = RJ0) (hT : tP s t nt H) (hR : fr + 1 ≤ R.frames ∧ 8 + (maxL + 11) + lo ≤ R.locals) (hf : cells ≤ R.cells ∧ slots ≤ R.slots) (hS : va_S A s.heap H locs) (hAB : ∀ q, A q → kB k ≤ q) (hsz : ls.size = nL) (hW : (rest.map fun v => v.category).sum ≤ 8) (hdg : decode cc pc = .ok (.invokevirtual index, 3))
    (kk : W p l e R s m args below meth c H locs cells slots Q (F0 m (pc + 3) ls (v :: rest))) : W p l e R s m args below meth c H locs cells slots Q (F0 m pc ls (.ref t.1 :: rest)) := by
  obtain ⟨⟨ws', hw⟩, h1, h2, h3⟩ := hk
  have hr := va_runV (H := H) (locs := locs) (cells := cells) (slots := slots) (e := e) (below := below) (meth := meth) (g := F0 m pc ls (.ref t.1 :: rest)) (rest := rest) (C := RJ0) (b := t.1) (As := []) hC hM (cwV 0 hC.2.2.2.2 hG hw rfl rfl ⟨hyc, h1, h2, h3⟩ hR)
    ⟨sPc.blind, hT.recv, fun U hU hW => ⟨rfl, hGx.at hS hAB hU hW, by rw [hU]; exact hT.moved hW.alike⟩⟩ rfl rfl hsz rfl (lv_room hW) hdg hf
  intro T hTT X
  obtain ⟨v, st₀, t, T', L, h0, X', hL, e1, e2, ⟨hv, hh⟩, st⟩ := hr T hTT X
  cases hv
  obtain ⟨t2, a1, b1⟩ := kk T' (by rw [e1, hh, h0]) (Stand.forget X' (fun q h => (hL q h).elim))
  exact ⟨t2, st t2 a1, b1⟩
/-- what comes after a call of a builder's method -/
theorem b_go {a0 : Array Value} (hS : va_S A s.heap H locs) (hA : ∀ q, b2 a q → A q) (h : va_Run p l e R s m args below meth c H locs cells slots 0 0 (F0 m pc ls st0) rest (bQ k a o z1 a0) (b2 a))
    (kk : ∀ (H1 : Heap) (L : List Loc), bP k a z1 H1 → va_S A s.heap H1 (locs ++ L) → (∀ x ∈ L, b2 a x.base) → H.size ≤ H1.size → (∀ x : Nat, x < H.size → ¬ b2 a x → H1[x]? = H[x]?) → W p l e R s m args below meth c H1 (locs ++ L) cells slots Q (F0 m (pc + 3) ls (o.toList ++ rest))) : W p l e R s m args below meth c H locs cells slots Q (F0 m pc ls st0) := by
  intro T hT X
  obtain ⟨v, st₀, t, T', L, h0, X', hL, e1, e2, ⟨hv, hp, hz, hq⟩, st⟩ := h T hT X
  cases hv
  rw [h0] at hz hq
  obtain ⟨t2, a1, b1⟩ := kk T'.heap L (by rw [e1]; exact hp)
    ⟨Nat.le_trans hS.1 (by rw [e1]; exact hz), fun x h4 h5 => by
      rw [e1, hq x (Nat.lt_of_lt_of_le h4 hS.1) (fun h6 => h5 (hA x h6))]
      exact hS.2.1 x h4 h5, fun x hx => (List.mem_append.mp hx).elim (hS.2.2 x) (fun h => hA _ (hL x h))⟩ hL (by rw [e1]; exact hz) (fun x h4 h5 => by rw [e1]; exact hq x h4 h5) T' rfl X'
  exact ⟨t2, st t2 a1, b1⟩
theorem b_pre (hGx : Gx k s) (hne : a.1 ≠ a.2) (hP : bP k a z H) (hts : tAll a ts s H) (hS : va_S A s.heap H locs) (hA : ∀ q, b2 a q → A q) (hAB : ∀ q, A q → kB k ≤ q) (U : State) (hU : U.heap = H) (hW : s.WarmedH U.vm) : bPc k a z ts U :=
  ⟨hGx.at hS hAB hU hW, ⟨hne, fun q h => hAB q (hA q h)⟩, by rw [hU]; exact hP, by rw [hU]; exact hts.moved hW.alike⟩
theorem b_recv (hGx : Gx k s) (hP : bP k a z H) : ∃ cell : Cell, H[a.1]? = some cell ∧ cell.vm.isStatics = false ∧ s.vm.findClass RJ4 = some cell.cls := by
  obtain ⟨f, -, hP⟩ := hP
  exact va_recv hGx.1 hP (ci := 1) (q0 := 0) rfl rfl
/-- an inherited (or private) method of a builder -/
theorem bc_U (hC : CallFix p m c cc nL s args Ts own) (hGx : Gx k s) (hM : bN l k a y ws fr lo (.ref a.1 :: As) ts z o z1) (hG : GoodIn Ts (va_wsU own index RJ4 y.cls y y ws)) (hk : pK y ws bytes maxL ret n) (hne : a.1 ≠ a.2) (hR : fr + 1 ≤ R.frames ∧ 8 + (maxL + 11) + lo ≤ R.locals) (hf : cells ≤ R.cells ∧ slots ≤ R.slots) (hP : bP k a z H) (hts : tAll a ts s H) (hS : va_S A s.heap H locs) (hA : ∀ q, b2 a q → A q) (hAB : ∀ q, A q → kB k ≤ q) (hsz : ls.size = nL) (hn : As.length = n) (hst : st0 = As.reverse ++ .ref a.1 :: rest) (hW : (rest.map fun v => v.category).sum ≤ 8) (hdg : decode cc pc = .ok (.invokevirtual index, 3))
    (kk : ∀ (H1 : Heap) (L : List Loc), bP k a z1 H1 → va_S A s.heap H1 (locs ++ L) → (∀ x ∈ L, b2 a x.base) → H.size ≤ H1.size → (∀ x : Nat, x < H.size → ¬ b2 a x → H1[x]? = H[x]?) → W p l e R s m args below meth c H1 (locs ++ L) cells slots Q (F0 m (pc + 3) ls (o.toList ++ rest))) : W p l e R s m args below meth c H locs cells slots Q (F0 m pc ls st0) := by
  obtain ⟨⟨ws', hw⟩, h1, h2, h3⟩ := hk
  exact b_go hS hA (va_runU (C := RJ4) (owner := y.cls) (b := a.1) hC hM (va_cwU n hC.2.2.2.2 hG hw rfl rfl rfl ⟨h1, h2, h3⟩ hR) ⟨bPc.blind, b_recv hGx hP, fun U hU hW => ⟨rfl, b_pre hGx hne hP hts hS hA hAB U hU hW⟩⟩ rfl hn hsz hst (lv_room hW) hdg hf) kk
/-- an overriding method of a builder -/
theorem bc_O {x : MethodName} {b0 : ByteArray} {m0 : Nat} {r0 : Option FieldType} (hC : CallFix p m c cc nL s args Ts own) (hGx : Gx k s) (hM : bN l k a y ws fr lo (.ref a.1 :: As) ts z o z1) (hG : GoodIn Ts (va_wsO own index RJ4 x.cls x y ws)) (hk : pK y ws bytes maxL ret n) (h0 : Cond.code x b0 m0 r0 ∈ Ts) (hxc : x.cls ≠ "java/lang/invoke/MethodHandle" ∧ x.cls ≠ "java/lang/invoke/VarHandle" ∧ (parseMethodDescriptor x.desc).map (fun d => d.parameters.length) = some n) (hne : a.1 ≠ a.2) (hR : fr + 1 ≤ R.frames ∧ 8 + (maxL + 11) + lo ≤ R.locals) (hf : cells ≤ R.cells ∧ slots ≤ R.slots) (hP : bP k a z H) (hts : tAll a ts s H) (hS : va_S A s.heap H locs) (hA : ∀ q, b2 a q → A q) (hAB : ∀ q, A q → kB k ≤ q) (hsz : ls.size = nL) (hn : As.length = n) (hst : st0 = As.reverse ++ .ref a.1 :: rest) (hW : (rest.map fun v => v.category).sum ≤ 8) (hdg : decode cc pc = .ok (.invokevirtual index, 3))
    (kk : ∀ (H1 : Heap) (L : List Loc), bP k a z1 H1 → va_S A s.heap H1 (locs ++ L) → (∀ x ∈ L, b2 a x.base) → H.size ≤ H1.size → (∀ x : Nat, x < H.size → ¬ b2 a x → H1[x]? = H[x]?) → W p l e R s m args below meth c H1 (locs ++ L) cells slots Q (F0 m (pc + 3) ls (o.toList ++ rest))) : W p l e R s m args below meth c H locs cells slots Q (F0 m pc ls st0) := by
  obtain ⟨⟨ws', hw⟩, -, -, -⟩ := hk
  exact b_go hS hA (va_runU (C := RJ4) (owner := x.cls) (b := a.1) hC hM (va_cwO n hC.2.2.2.2 hG hw rfl rfl h0 hxc hR) ⟨bPc.blind, b_recv hGx hP, fun U hU hW => ⟨rfl, b_pre hGx hne hP hts hS hA hAB U hU hW⟩⟩ rfl hn hsz hst (lv_room hW) hdg hf) kk
/-- a method of StringBuilder itself -/
theorem bc_V (hC : CallFix p m c cc nL s args Ts own) (hGx : Gx k s) (hM : bN l k a y ws fr lo (.ref a.1 :: As) ts z o z1) (hG : GoodIn Ts (wsV own index RJ4 y ws)) (hk : pK y ws bytes maxL ret n) (hyc : y.cls = RJ4) (hne : a.1 ≠ a.2) (hR : fr + 1 ≤ R.frames ∧ 8 + (maxL + 11) + lo ≤ R.locals) (hf : cells ≤ R.cells ∧ slots ≤ R.slots) (hP : bP k a z H) (hts : tAll a ts s H) (hS : va_S A s.heap H locs) (hA : ∀ q, b2 a q → A q) (hAB : ∀ q, A q → kB k ≤ q) (hsz : ls.size = nL) (hn : As.length = n) (hst : st0 = As.reverse ++ .ref a.1 :: rest) (hW : (rest.map fun v => v.category).sum ≤ 8) (hdg : decode cc pc = .ok (.invokevirtual index, 3))
    (kk : ∀ (H1 : Heap) (L : List Loc), bP k a z1 H1 → va_S A s.heap H1 (locs ++ L) → (∀ x ∈ L, b2 a x.base) → H.size ≤ H1.size → (∀ x : Nat, x < H.size → ¬ b2 a x → H1[x]? = H[x]?) → W p l e R s m args below meth c H1 (locs ++ L) cells slots Q (F0 m (pc + 3) ls (o.toList ++ rest))) : W p l e R s m args below meth c H locs cells slots Q (F0 m pc ls st0) := by
  obtain ⟨⟨ws', hw⟩, h1, h2, h3⟩ := hk
  exact b_go hS hA (va_runV (C := RJ4) (b := a.1) hC hM (cwV n hC.2.2.2.2 hG hw rfl rfl ⟨hyc, h1, h2, h3⟩ hR) ⟨bPc.blind, b_recv hGx hP, fun U hU hW => ⟨rfl, b_pre hGx hne hP hts hS hA hAB U hU hW⟩⟩ rfl hn hsz hst (lv_room hW) hdg hf) kk
/-- super.append(..) -/
theorem bc_SU (hC : CallFix p m c cc nL s args Ts own) (hGx : Gx k s) (hM : bN l k a y ws fr lo (.ref a.1 :: As) ts z o z1) (hG : GoodIn Ts (va_wsSU own index y ws)) (hk : pK y ws bytes maxL ret n) (hno : y.name ≠ "<init>") (hne : a.1 ≠ a.2) (hR : fr + 1 ≤ R.frames ∧ 8 + (maxL + 11) + lo ≤ R.locals) (hf : cells ≤ R.cells ∧ slots ≤ R.slots) (hP : bP k a z H) (hts : tAll a ts s H) (hS : va_S A s.heap H locs) (hA : ∀ q, b2 a q → A q) (hAB : ∀ q, A q → kB k ≤ q) (hsz : ls.size = nL) (hn : As.length = n) (hst : st0 = As.reverse ++ .ref a.1 :: rest) (hW : (rest.map fun v => v.category).sum ≤ 8) (hdg : decode cc pc = .ok (.invokespecial index, 3))
    (kk : ∀ (H1 : Heap) (L : List Loc), bP k a z1 H1 → va_S A s.heap H1 (locs ++ L) → (∀ x ∈ L, b2 a x.base) → H.size ≤ H1.size → (∀ x : Nat, x < H.size → ¬ b2 a x → H1[x]? = H[x]?) → W p l e R s m args below meth c H1 (locs ++ L) cells slots Q (F0 m (pc + 3) ls (o.toList ++ rest))) : W p l e R s m args below meth c H locs cells slots Q (F0 m pc ls st0) := by
  obtain ⟨⟨ws', hw⟩, h1, h2, h3⟩ := hk
  exact b_go hS hA (va_runSU (C := RJ4) (b := a.1) (hGx.1.1 1 _ rfl).2 hC hM (va_cwSU n hC.2.2.2.2 hG hw rfl rfl ⟨hno, h3⟩ hR) ⟨bPc.blind, b_recv hGx hP, fun U hU hW => ⟨rfl, b_pre hGx hne hP hts hS hA hAB U hU hW⟩⟩ rfl hn hsz hst (lv_room hW) hdg hf) kk
/-- a static method on a builder, or on its bytes -/
theorem bc_S (hC : CallFix p m c cc nL s args Ts own) (hGx : Gx k s) (hM : bN l k a y ws fr lo As ts z o z1) (hG : GoodIn Ts (va_wsS own index y ws)) (hk : pK y ws bytes maxL ret n) (hne : a.1 ≠ a.2) (hR : fr + 1 ≤ R.frames ∧ 8 + (maxL + 11) + lo ≤ R.locals) (hf : cells ≤ R.cells ∧ slots ≤ R.slots) (hP : bP k a z H) (hts : tAll a ts s H) (hS : va_S A s.heap H locs) (hA : ∀ q, b2 a q → A q) (hAB : ∀ q, A q → kB k ≤ q) (hsz : ls.size = nL) (hn : As.length = n) (hst : st0 = As.reverse ++ rest) (hW : (rest.map fun v => v.category).sum ≤ 8) (hdg : decode cc pc = .ok (.invokestatic index, 3))
    (kk : ∀ (H1 : Heap) (L : List Loc), bP k a z1 H1 → va_S A s.heap H1 (locs ++ L) → (∀ x ∈ L, b2 a x.base) → H.size ≤ H1.size → (∀ x : Nat, x < H.size → ¬ b2 a x → H1[x]? = H[x]?) → W p l e R s m args below meth c H1 (locs ++ L) cells slots Q (F0 m (pc + 3) ls (o.toList ++ rest))) : W p l e R s m args below meth c H locs cells slots Q (F0 m pc ls st0) := by
  obtain ⟨⟨ws', hw⟩, h1, h2, h3⟩ := hk
  exact b_go hS hA (va_runS hC hM (va_cwS n hC.2.2.2.2 hG hw rfl rfl ⟨h1, h2, h3⟩ hR) ⟨bPc.blind, fun U hU hW => ⟨rfl, b_pre hGx hne hP hts hS hA hAB U hU hW⟩⟩ rfl hn hsz hst (lv_room hW) hdg hf) kk
/-- a text's method that writes into a builder's bytes -/
theorem bc_T {t : Nat × Nat} {nt : Nat} (hC : CallFix p m c cc nL s args Ts own) (hGx : Gx k s) (hM : bN l k a y ws fr lo (.ref t.1 :: As) [(t, nt)] z o z1) (hG : GoodIn Ts (wsV own index RJ0 y ws)) (hk : pK y ws bytes maxL ret n) (hyc : y.cls = RJ0) (hne : a.1 ≠ a.2) (hR : fr + 1 ≤ R.frames ∧ 8 + (maxL + 11) + lo ≤ R.locals) (hf : cells ≤ R.cells ∧ slots ≤ R.slots) (hP : bP k a z H) (hts : tAll a [(t, nt)] s H) (hS : va_S A s.heap H locs) (hA : ∀ q, b2 a q → A q) (hAB : ∀ q, A q → kB k ≤ q) (hsz : ls.size = nL) (hn : As.length = n) (hst : st0 = As.reverse ++ .ref t.1 :: rest) (hW : (rest.map fun v => v.category).sum ≤ 8) (hdg : decode cc pc = .ok (.invokevirtual index, 3))
    (kk : ∀ (H1 : Heap) (L : List Loc), bP k a z1 H1 → va_S A s.heap H1 (locs ++ L) → (∀ x ∈ L, b2 a x.base) → H.size ≤ H1.size → (∀ x : Nat, x < H.size → ¬ b2 a x → H1[x]? = H[x]?) → W p l e R s m args below meth c H1 (locs ++ L) cells slots Q (F0 m (pc + 3) ls (o.toList ++ rest))) : W p l e R s m args below meth c H locs cells slots Q (F0 m pc ls st0) := by
  obtain ⟨⟨ws', hw⟩, h1, h2, h3⟩ := hk
  exact b_go hS hA (va_runV (C := RJ0) (b := t.1) hC hM (cwV n hC.2.2.2.2 hG hw rfl rfl ⟨hyc, h1, h2, h3⟩ hR) ⟨bPc.blind, (hts _ List.mem_cons_self).1.recv, fun U hU hW => ⟨rfl, b_pre hGx hne hP hts hS hA hAB U hU hW⟩⟩ rfl hn hsz hst (lv_room hW) hdg hf) kk
end B6
theorem gx_cs {k : Kx} {s : State} (h : Gx k s) : va_Z "java/lang/String" "COMPACT_STRINGS" "Z" (.int 1) (kA k) s s.heap := h.2.2.2.2.2.2.2.2.2.2.2.2.1
theorem gx_ones {k : Kx} {s : State} (h : Gx k s) : ∃ t, va_Z "java/lang/Integer" "DigitOnes" "[B" (.ref t) (kA k) s s.heap ∧ va_T .byte t 100 (fun j => .int (gOnes j)) (kA k) s s.heap := h.2.2.2.2.2.2.2.2.2.2.2.2.2.1
theorem gx_tens {k : Kx} {s : State} (h : Gx k s) : ∃ t, va_Z "java/lang/Integer" "DigitTens" "[B" (.ref t) (kA k) s s.heap ∧ va_T .byte t 100 (fun j => .int (gTens j)) (kA k) s s.heap := h.2.2.2.2.2.2.2.2.2.2.2.2.2.2.1
theorem b_bst {k : Kx} {a : Nat × Nat} {f : Nat → Int32} {j : Nat} {x z : Int32} {H : Heap} (hf : sb_Fit f) (hP : va_P (kD k) vwCl (bW k a (upd f j (vp_nar .byte x)) z) H) : bP k a z H := ⟨_, sb_fitU hf (pk_fb x), hP⟩
section E6
variable {p : Program} {l : Launch} {e : Env} {R : Room} {s : State} {m : MethodId} {args : Array Value} {below : List Frame} {meth : Method} {c : Code} {H : Heap} {locs : List Loc}
variable {cc : ByteArray} {pc : Nat} {ls : Array Slot} {k : Kx} {a : Nat × Nat} {z1 : Int32}
theorem b_iret {E : Int32} {r : Int32 × Int32} (hx : p.tables.exec = Jvm.exec) (hb : c.code = cc) (hr : meth.sig.returnType = some .int) (hlocks : meth.locks = false) (hm : (E, z1) = r) (hP : bP k a z1 H) (hS : va_S (b2 a) s.heap H locs) (hdg : decode cc pc = .ok (.ireturn, 1)) :
    W p l e R s m args below meth c H locs 0 0 (MQ below (bQ k a (some (.int r.1)) r.2) args s 0 0 (b2 a)) (F0 m pc ls [.int E]) := by
  subst hm
  exact W.iret (v := E) hx hb hr (fun t ht _ => ⟨rfl, by rw [ht]; exact hP, hS.F ht⟩) hS.2.2 hdg
theorem b_zret {E : Int32} {r : Int32 × Int32} (hx : p.tables.exec = Jvm.exec) (hb : c.code = cc) (hr : meth.sig.returnType = some .boolean) (hlocks : meth.locks = false) (hn : narrow .boolean (.int E) = .int E) (hm : (E, z1) = r) (hP : bP k a z1 H) (hS : va_S (b2 a) s.heap H locs) (hdg : decode cc pc = .ok (.ireturn, 1)) :
    W p l e R s m args below meth c H locs 0 0 (MQ below (bQ k a (some (.int r.1)) r.2) args s 0 0 (b2 a)) (F0 m pc ls [.int E]) := by
  subst hm
  exact W.zret (v := E) (ty := .boolean) hx hb hr hn (fun t ht _ => ⟨rfl, by rw [ht]; exact hP, hS.F ht⟩) hS.2.2 hdg
theorem b_vret {r : Unit × Int32} (hx : p.tables.exec = Jvm.exec) (hb : c.code = cc) (hr : meth.sig.returnType = none) (hlocks : meth.locks = false) (hm : ((), z1) = r) (hP : bP k a z1 H) (hS : va_S (b2 a) s.heap H locs) (hdg : decode cc pc = .ok (.return_, 1)) :
    W p l e R s m args below meth c H locs 0 0 (MQ below (bQ k a none r.2) args s 0 0 (b2 a)) (F0 m pc ls []) := by
  subst hm
  exact W.vret hx hb hr (fun t ht _ => ⟨rfl, by rw [ht]; exact hP, hS.F ht⟩) hS.2.2 hdg
theorem b_tret {q : Nat} {rt : FieldType} {r : Unit × Int32} (hx : p.tables.exec = Jvm.exec) (hb : c.code = cc) (hr : meth.sig.returnType = some rt) (hrt : (∃ n, rt = .object n) ∨ ∃ t, rt = .array t) (hlocks : meth.locks = false) (hm : ((), z1) = r) (hP : bP k a z1 H) (hS : va_S (b2 a) s.heap H locs) (hdg : decode cc pc = .ok (.areturn, 1)) :
    W p l e R s m args below meth c H locs 0 0 (MQ below (bQ k a (some (.ref q)) r.2) args s 0 0 (b2 a)) (F0 m pc ls [.ref q]) := by
  subst hm
  exact W.aret (v := .ref q) hx hb hr hrt (Or.inr ⟨_, rfl⟩) (fun t ht _ => ⟨rfl, by rw [ht]; exact hP, hS.F ht⟩) hS.2.2 hdg
end E6

