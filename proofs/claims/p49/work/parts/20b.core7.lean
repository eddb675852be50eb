/-! ROWS FOR WHO MAKES A BUILDER AND A TEXT -/
section B7
variable {p : Program} {l : Launch} {e : Env} {R : Room} {s : State} {m : MethodId} {args : Array Value} {below : List Frame} {meth : Method} {c : Code} {H : Heap} {locs : List Loc} {cells slots : Nat} {Q : State → Prop}
variable {cc bytes : ByteArray} {nL maxL n index fr lo pc : Nat} {Ts ws : List Cond} {own : String} {y : MethodName} {ret : Option FieldType} {As rest st0 : List Value} {ls : Array Slot} {k : Kx} {A : Nat → Prop} {a : Nat × Nat} {z z1 : Int32} {o : Option Value} {ts : TS}
/-- new StringBuilder() -/
theorem b_make {i1 i2 : Nat} (hC : CallFix p m c cc nL s args Ts own) (htg : ∀ w ∈ GL, w.before args s = true) (hGx : Gx k s) (hcl : (Cond.classLink own i1 RJ4).before args s = true) (hinst : (Cond.instantiable RJ4 4).before args s = true) (hini : (Cond.initialized RJ4).before args s = true) (hlk : (Cond.methodLink own i2 yJ4_init_da8c8).before args s = true) (hiI : (Cond.instanceMethod yJ4_init_da8c8).before args s = true) (hG : GoodIn Ts wsJ4_init_da8c8) (hS : va_S A s.heap H locs) (hAB : ∀ q, A q → kB k ≤ q) (hR : 3 ≤ R.frames ∧ 8 + (1 + 11) + 80 ≤ R.locals) (hf : cells + 2 ≤ R.cells ∧ slots + 20 ≤ R.slots) (hsz : ls.size = nL) (hW : (rest.map fun v => v.category).sum ≤ 7)
    (d1 : decode cc pc = .ok (.new i1, 3)) (d2 : decode cc (pc + 3) = .ok (.dup, 1)) (d3 : decode cc (pc + 4) = .ok (.invokespecial i2, 3))
    (kk : ∀ (b : Nat × Nat) (H1 : Heap), H.size ≤ b.1 → H.size ≤ b.2 → b.1 ≠ b.2 → bP k b 0 H1 → H.size ≤ H1.size → (∀ x : Nat, x < H.size → H1[x]? = H[x]?) → va_S A s.heap H1 locs → W p l e R s m args below meth c H1 locs (cells + 2) (slots + 20) Q (F0 m (pc + 7) ls (.ref b.1 :: rest))) : W p l e R s m args below meth c H locs cells slots Q (F0 m pc ls rest) := by
  obtain ⟨hx, hb, hml, hown, hts9⟩ := id hC
  refine nb_new hx hb htg hown hcl hinst hini hGx hS ⟨by omega, by omega⟩ d1 (fun x H1 hx1 hz1 hN hq1 hS1 => ?_)
  refine lv_dup hx hb d2 rfl ?_
  have hBx : kB k ≤ x := Nat.le_trans hGx.2.1 (Nat.le_trans hS.1 hx1)
  have hxl : x < H1.size := (hN 0 _ rfl).lt
  obtain ⟨⟨ws', hw⟩, h1, h2, h3⟩ := kk_J4_init_da8c8
  refine run_go (rest := .ref x :: rest) (va_runI (rest := .ref x :: rest) (b := x) (As := []) hC (c_J4_init_da8c8 l k x) ⟨callB_of 0 hC.2.2.2.2 hG hw rfl rfl hini hlk ⟨h1, h2, h3⟩ hR, rfl, hiI⟩ ⟨niPc.blind, fun U hU hW => ⟨rfl, hGx.at hS1 hAB hU hW, by rw [hU]; exact hN, hBx⟩⟩ rfl rfl hsz rfl (lv_room (by simp only [List.map_cons, List.sum_cons]; show 1 + _ ≤ 8; omega)) d3 ⟨by omega, by omega⟩) (fun v st₀ t L h0 hW9 ⟨hv, ⟨x2, hx2, hB⟩, hz, hq⟩ hL => ?_)
  cases hv
  rw [h0] at hx2 hz hq
  have hx0 : s.heap.size ≤ x := Nat.le_trans hS.1 hx1
  refine m_forget (fun q hq => by rw [hL q hq]; exact hx0) ?_
  have hq2 : ∀ y : Nat, y < H.size → t.heap[y]? = H[y]? := fun y hy => (hq y (Nat.lt_of_lt_of_le hy hz1) (Nat.ne_of_lt (Nat.lt_of_lt_of_le hy hx1))).trans (hq1 y hy)
  exact kk (x, x2) t.heap hx1 (Nat.le_trans hz1 hx2) (Nat.ne_of_lt (Nat.lt_of_lt_of_le hxl hx2)) hB (Nat.le_trans hz1 hz) hq2 ⟨Nat.le_trans hS.1 (Nat.le_trans hz1 hz), fun y h4 h5 => (hq2 y (Nat.lt_of_lt_of_le h4 hS.1)).trans (hS.2.1 y h4 h5), hS.2.2⟩
theorem b_own {L : List Loc} {H1 : Heap} (ho : s.heap.size ≤ a.1 ∧ s.heap.size ≤ a.2) (hS : va_S A s.heap H locs) (hz : H.size ≤ H1.size) (hq : ∀ x : Nat, x < H.size → ¬ b2 a x → H1[x]? = H[x]?) : va_S A s.heap H1 locs :=
  ⟨Nat.le_trans hS.1 hz, fun x h1 h2 => (hq x (Nat.lt_of_lt_of_le h1 hS.1) (fun h => by rcases h with rfl | rfl; exact Nat.lt_irrefl _ (Nat.lt_of_lt_of_le h1 ho.1); exact Nat.lt_irrefl _ (Nat.lt_of_lt_of_le h1 ho.2))).trans (hS.2.1 x h1 h2), hS.2.2⟩
theorem b_high {hGx : Gx k s} (ho : s.heap.size ≤ a.1 ∧ s.heap.size ≤ a.2) (hAB : ∀ q, A q → kB k ≤ q) : ∀ q, (A q ∨ b2 a q) → kB k ≤ q := fun q h => by
  rcases h with h | rfl | rfl
  · exact hAB q h
  · exact Nat.le_trans hGx.2.1 ho.1
  · exact Nat.le_trans hGx.2.1 ho.2
theorem b_low (ho : s.heap.size ≤ a.1 ∧ s.heap.size ≤ a.2) : ∀ q, b2 a q → s.heap.size ≤ q := fun q h => by
  rcases h with rfl | rfl
  · exact ho.1
  · exact ho.2
/-- a builder of one's own: a method of StringBuilder -/
theorem bo_V (hC : CallFix p m c cc nL s args Ts own) (hGx : Gx k s) (hM : bN l k a y ws fr lo (.ref a.1 :: As) ts z o z1) (hG : GoodIn Ts (wsV own index RJ4 y ws)) (hk : pK y ws bytes maxL ret n) (hyc : y.cls = RJ4) (hne : a.1 ≠ a.2) (ho : s.heap.size ≤ a.1 ∧ s.heap.size ≤ a.2) (hR : fr + 1 ≤ R.frames ∧ 8 + (maxL + 11) + lo ≤ R.locals) (hf : cells ≤ R.cells ∧ slots ≤ R.slots) (hP : bP k a z H) (hts : tAll a ts s H) (hS : va_S A s.heap H locs) (hAB : ∀ q, A q → kB k ≤ q) (hsz : ls.size = nL) (hn : As.length = n) (hst : st0 = As.reverse ++ .ref a.1 :: rest) (hW : (rest.map fun v => v.category).sum ≤ 8) (hdg : decode cc pc = .ok (.invokevirtual index, 3))
    (kk : ∀ (H1 : Heap), bP k a z1 H1 → H.size ≤ H1.size → (∀ x : Nat, x < H.size → ¬ b2 a x → H1[x]? = H[x]?) → va_S A s.heap H1 locs → W p l e R s m args below meth c H1 locs cells slots Q (F0 m (pc + 3) ls (o.toList ++ rest))) : W p l e R s m args below meth c H locs cells slots Q (F0 m pc ls st0) :=
  bc_V (A := fun q => A q ∨ b2 a q) hC hGx hM hG hk hyc hne hR hf hP hts (hS.wide fun _ h => Or.inl h) (fun _ h => Or.inr h) (b_high (hGx := hGx) ho hAB) hsz hn hst hW hdg
    (fun H1 L hP1 _ hL hz hq => m_forget (fun q h => b_low ho _ (hL q h)) (kk H1 hP1 hz hq (b_own (L := L) ho hS hz hq)))
/-- .. a static method -/
theorem bo_S (hC : CallFix p m c cc nL s args Ts own) (hGx : Gx k s) (hM : bN l k a y ws fr lo As ts z o z1) (hG : GoodIn Ts (va_wsS own index y ws)) (hk : pK y ws bytes maxL ret n) (hne : a.1 ≠ a.2) (ho : s.heap.size ≤ a.1 ∧ s.heap.size ≤ a.2) (hR : fr + 1 ≤ R.frames ∧ 8 + (maxL + 11) + lo ≤ R.locals) (hf : cells ≤ R.cells ∧ slots ≤ R.slots) (hP : bP k a z H) (hts : tAll a ts s H) (hS : va_S A s.heap H locs) (hAB : ∀ q, A q → kB k ≤ q) (hsz : ls.size = nL) (hn : As.length = n) (hst : st0 = As.reverse ++ rest) (hW : (rest.map fun v => v.category).sum ≤ 8) (hdg : decode cc pc = .ok (.invokestatic index, 3))
    (kk : ∀ (H1 : Heap), bP k a z1 H1 → H.size ≤ H1.size → (∀ x : Nat, x < H.size → ¬ b2 a x → H1[x]? = H[x]?) → va_S A s.heap H1 locs → W p l e R s m args below meth c H1 locs cells slots Q (F0 m (pc + 3) ls (o.toList ++ rest))) : W p l e R s m args below meth c H locs cells slots Q (F0 m pc ls st0) :=
  bc_S (A := fun q => A q ∨ b2 a q) hC hGx hM hG hk hne hR hf hP hts (hS.wide fun _ h => Or.inl h) (fun _ h => Or.inr h) (b_high (hGx := hGx) ho hAB) hsz hn hst hW hdg
    (fun H1 L hP1 _ hL hz hq => m_forget (fun q h => b_low ho _ (hL q h)) (kk H1 hP1 hz hq (b_own (L := L) ho hS hz hq)))
/-- .. its text -/
theorem bo_str (hC : CallFix p m c cc nL s args Ts own) (hGx : Gx k s) (hz0 : ¬ z < 0) (hz1 : z.toNatClampNeg < 16) (hG : GoodIn Ts (wsV own index RJ4 yJ4_toString_0e30d wsJ4_toString_0e30d)) (hne : a.1 ≠ a.2) (ho : s.heap.size ≤ a.1 ∧ s.heap.size ≤ a.2) (hR : 6 ≤ R.frames ∧ 8 + (1 + 11) + 300 ≤ R.locals) (hf : cells + 2 ≤ R.cells ∧ slots + 20 ≤ R.slots) (hP : bP k a z H) (hS : va_S A s.heap H locs) (hAB : ∀ q, A q → kB k ≤ q) (hsz : ls.size = nL) (hW : (rest.map fun v => v.category).sum ≤ 8) (hdg : decode cc pc = .ok (.invokevirtual index, 3))
    (kk : ∀ (t : Nat × Nat) (H1 : Heap), H.size ≤ t.1 → H.size ≤ t.2 → tP s t z.toNatClampNeg H1 → H.size ≤ H1.size → (∀ x : Nat, x < H.size → ¬ b2 a x → H1[x]? = H[x]?) → va_S A s.heap H1 locs → W p l e R s m args below meth c H1 locs (cells + 2) (slots + 20) Q (F0 m (pc + 3) ls (.ref t.1 :: rest))) : W p l e R s m args below meth c H locs cells slots Q (F0 m pc ls (.ref a.1 :: rest)) := by
  obtain ⟨⟨ws', hw⟩, h1, h2, h3⟩ := kk_J4_toString_0e30d
  refine run_go (rest := rest) (va_runV (rest := rest) (C := RJ4) (b := a.1) (As := []) hC (c_J4_toString_0e30d l k a z hz0 hz1) (cwV 0 hC.2.2.2.2 hG hw rfl rfl ⟨rfl, h1, h2, h3⟩ hR) ⟨bPc.blind, b_recv hGx hP, fun U hU hW => ⟨rfl, b_pre (A := fun q => A q ∨ b2 a q) hGx hne hP (fun _ h => absurd h List.not_mem_nil) (hS.wide fun _ h => Or.inl h) (fun _ h => Or.inr h) (b_high (hGx := hGx) ho hAB) U hU hW⟩⟩ rfl rfl hsz rfl (lv_room hW) hdg hf) (fun v st₀ t L h0 hW9 ⟨⟨t', hv, ht1, ht2, hT⟩, hz, hq⟩ hL => ?_)
  cases hv
  rw [h0] at ht1 ht2 hz hq
  exact m_forget (fun q h => b_low ho _ (hL q h)) (kk t' t.heap ht1 ht2 (hT.moved hW9.alike.symm) hz hq (b_own (L := L) ho hS hz hq))
end B7
/-! methods that answer with a text -/
def tNew : Nat → Nat × Nat → Prop := fun n a => n ≤ a.1 ∧ n ≤ a.2
def tAny : Nat → Nat × Nat → Prop := fun _ _ => True
def qTQ (F : Nat → Nat × Nat → Prop) (n : Nat) : Array Value → State → Outcome → State → Prop := fun _ st oc t => (∃ a : Nat × Nat, oc = .returned (some (.ref a.1)) ∧ F st.heap.size a ∧ tP t a n t.heap) ∧ va_F (nA st.heap.size) st t
def qT (l : Launch) (k : Kx) (y : MethodName) (ws : List Cond) (fr lo mc ms : Nat) (av : List Value) (ds : List (Nat × DT)) (F : Nat → Nat × Nat → Prop) (n : Nat) : Prop :=
  Met l y ws { frames := fr, cells := mc, slots := ms, locals := lo } (va_Pc av (qPc k ds)) (qTQ F n) mc ms (fun _ => False)
theorem qt_S {p : Program} {l : Launch} {e : Env} {R : Room} {s : State} {m : MethodId} {args : Array Value} {below : List Frame} {meth : Method} {c : Code} {H : Heap} {locs : List Loc} {cells slots : Nat} {Q : State → Prop} {cc bytes : ByteArray} {nL maxL n index fr lo mc ms pc nt : Nat} {Ts ws : List Cond} {own : String} {y : MethodName} {ret : Option FieldType} {As rest st0 : List Value} {ls : Array Slot} {k : Kx} {A : Nat → Prop} {ds : List (Nat × DT)} {F : Nat → Nat × Nat → Prop}
    (hC : CallFix p m c cc nL s args Ts own) (hGx : Gx k s) (hM : qT l k y ws fr lo mc ms As ds F nt) (hG : GoodIn Ts (va_wsS own index y ws)) (hk : pK y ws bytes maxL ret n) (hd : ∀ d ∈ ds, dP k d.1 d.2 H) (hR : fr + 1 ≤ R.frames ∧ 8 + (maxL + 11) + lo ≤ R.locals) (hf : cells + mc ≤ R.cells ∧ slots + ms ≤ R.slots) (hS : va_S A s.heap H locs) (hAB : ∀ q, A q → kB k ≤ q) (hsz : ls.size = nL) (hn : As.length = n) (hst : st0 = As.reverse ++ rest) (hW : (rest.map fun v => v.category).sum ≤ 8) (hdg : decode cc pc = .ok (.invokestatic index, 3))
    (kk : ∀ (t : Nat × Nat) (H1 : Heap), F H.size t → tP s t nt H1 → H.size ≤ H1.size → (∀ q : Nat, q < H.size → H1[q]? = H[q]?) → va_S A s.heap H1 locs → W p l e R s m args below meth c H1 locs (cells + mc) (slots + ms) Q (F0 m (pc + 3) ls (.ref t.1 :: rest))) : W p l e R s m args below meth c H locs cells slots Q (F0 m pc ls st0) := by
  obtain ⟨⟨ws', hw⟩, h1, h2, h3⟩ := hk
  refine run_go (va_runS hC hM (va_cwS n hC.2.2.2.2 hG hw rfl rfl ⟨h1, h2, h3⟩ hR) ⟨qPc.blind, fun U hU hW => ⟨rfl, hGx.at hS hAB hU hW, fun d hd' => by rw [hU]; exact hd d hd'⟩⟩ rfl hn hsz hst (lv_room hW) hdg hf) (fun v st₀ t L h0 hW9 ⟨⟨t', hv, hF, hT⟩, hz, hq⟩ hL => ?_)
  cases hv
  rw [h0] at hF hz hq
  have hq' : ∀ q : Nat, q < H.size → t.heap[q]? = H[q]? := fun q h1 => hq q h1 (Nat.not_le.mpr h1)
  exact m_forget (fun q h => (hL q h).elim) (kk t' t.heap hF (hT.moved hW9.alike.symm) hz hq' ⟨Nat.le_trans hS.1 hz, fun q h1 h2 => (hq' q (Nat.lt_of_lt_of_le h1 hS.1)).trans (hS.2.1 q h1 h2), hS.2.2⟩)
theorem ap_lt {b t : Nat × Nat} {n : Nat} (h1 : t.1 < n ∧ t.2 < n) (h2 : n ≤ b.1 ∧ n ≤ b.2) : ¬ b2 b t.1 ∧ ¬ b2 b t.2 := by
  refine ⟨fun h => ?_, fun h => ?_⟩ <;> rcases h with h | h <;> omega
theorem ap_ge {b t : Nat × Nat} {n : Nat} (h1 : b.1 < n ∧ b.2 < n) (h2 : n ≤ t.1 ∧ n ≤ t.2) : ¬ b2 b t.1 ∧ ¬ b2 b t.2 := by
  refine ⟨fun h => ?_, fun h => ?_⟩ <;> rcases h with h | h <;> omega
theorem tA1 {s : State} {b t : Nat × Nat} {n : Nat} {H : Heap} (hT : tP s t n H) (h : ¬ b2 b t.1 ∧ ¬ b2 b t.2) : tAll b [(t, n)] s H := fun x hx => by
  cases List.mem_singleton.mp hx
  exact ⟨hT, h⟩
theorem tP.upb {s : State} {b t : Nat × Nat} {n : Nat} {H H1 : Heap} (hT : tP s t n H) (h : ¬ b2 b t.1 ∧ ¬ b2 b t.2) (hq : ∀ x : Nat, x < H.size → ¬ b2 b x → H1[x]? = H[x]?) : tP s t n H1 := hT.up (fun x hx e => hq x hx (by rcases e with rfl | rfl; exact h.1; exact h.2))
theorem bl_15 {z : Int32} (h : ¬ (z < 0 ∨ 16 ≤ z.toNatClampNeg)) : ¬ z < 0 ∧ z.toNatClampNeg < 16 := ⟨fun q => h (Or.inl q), Nat.not_le.mp fun q => h (Or.inr q)⟩
def rJ (r : Int64) : Option Value → Nat → Heap → Prop := fun v _ _ => v = some (.long r)
theorem q_lret {p : Program} {l : Launch} {e : Env} {R : Room} {s : State} {m : MethodId} {args : Array Value} {below : List Frame} {meth : Method} {c : Code} {H : Heap} {cells slots MC MS pc : Nat} {cc : ByteArray} {ls : Array Slot} {E r : Int64} (hx : p.tables.exec = Jvm.exec) (hb : c.code = cc) (hr : meth.sig.returnType = some .long) (hlocks : meth.locks = false) (hm : E = r) (hS : va_S (nA s.heap.size) s.heap H []) (hf : cells ≤ MC ∧ slots ≤ MS) (hdg : decode cc pc = .ok (.lreturn, 1)) :
    W p l e R s m args below meth c H [] cells slots (MQ below (qQ (rJ r)) args s MC MS (fun _ => False)) (F0 m pc ls [.long E]) :=
  W.widen hf.1 hf.2 (W.lret (v := E) hx hb hr (fun t ht _ => ⟨⟨_, rfl, congrArg (fun z => some (Value.long z)) hm⟩, hS.F ht⟩) (fun _ h => absurd h List.not_mem_nil) hdg)
def mTQ (k : Kx) (b : CA) (L : List Nat) (n : Nat) (z : MS) : Array Value → State → Outcome → State → Prop := fun _ st oc t => (∃ a : Nat × Nat, oc = .returned (some (.ref a.1)) ∧ tP t a n t.heap) ∧ (∃ q, mV k b L q z t.heap) ∧ va_F (cA b st.heap.size) st t
def mT (l : Launch) (k : Kx) (b : CA) (L : List Nat) (y : MethodName) (ws : List Cond) (fr lo mc ms : Nat) (av : List Value) (ds : List (Nat × DT)) (z : MS) (n : Nat) (z' : MS) : Prop :=
  ∀ (sz : Nat) (q : Nat → Nat), Met l y ws { frames := fr, cells := mc, slots := ms, locals := lo } (va_Pc (.ref b.1 :: av) (mPc k b L sz q z ds)) (mTQ k b L n z') mc ms (c5 b)
theorem m_tret {p : Program} {l : Launch} {e : Env} {R : Room} {s : State} {m : MethodId} {args : Array Value} {below : List Frame} {meth : Method} {c : Code} {H : Heap} {locs : List Loc} {cells slots MC MS9 pc : Nat} {cc : ByteArray} {ls : Array Slot} {k : Kx} {b : CA} {L : List Nat} {q : Nat → Nat} {z1 : MS} {t : Nat × Nat} {nt : Nat} {r : Nat × MS} (hx : p.tables.exec = Jvm.exec) (hb : c.code = cc) (hr : meth.sig.returnType = some (.object "java/lang/String")) (hlocks : meth.locks = false) (hm : (nt, z1) = r) (hT : tP s t nt H) (hV : mV k b L q z1 H) (hS : mS b s.heap H locs) (hf : cells ≤ MC ∧ slots ≤ MS9) (hdg : decode cc pc = .ok (.areturn, 1)) :
    W p l e R s m args below meth c H locs cells slots (MQ below (mTQ k b L r.1 r.2) args s MC MS9 (c5 b)) (F0 m pc ls [.ref t.1]) := by
  subst hm
  exact W.widen hf.1 hf.2 (W.aret (v := .ref t.1) hx hb hr (Or.inl ⟨_, rfl⟩) (Or.inr ⟨_, rfl⟩) (fun t2 ht hW => ⟨⟨t, rfl, by rw [ht]; exact hT.moved hW.alike⟩, ⟨q, by rw [ht]; exact hV⟩, hS.1.F ht⟩) hS.2 hdg)

