/-! ROWS FOR THE WALKS OF THE REFERENCE: its constructor of dates, its ends -/
def dB (k : Kx) (a : Nat) (H : Heap) : Prop := va_P (kD k) vwCl [(a, .inr (4, [.int 0, .int 0, .int 0]))] H
def iPc (k : Kx) (a : Nat) (U : State) : Prop := Gx k U ∧ dB k a U.heap
def iQ (k : Kx) (a : Nat) (v : DT) : Array Value → State → Outcome → State → Prop := fun _ st oc t => oc = .returned none ∧ dP k a v t.heap ∧ va_F (fun q => q = a) st t
theorem iPc.blind {k : Kx} {a : Nat} {av : List Value} : FrameBlind (va_Pc av (iPc k a)) := fun _ _ _ _ h => ⟨h.1, h.2.1.blind, h.2.2⟩
theorem kk_X2_init : pK yX2_init wsX2_init cX2_init 4 none 3 := ⟨⟨_, rfl⟩, by decide +kernel, by decide +kernel, by decide +kernel⟩
set_option maxRecDepth 100000 in
set_option maxHeartbeats 4000000 in
theorem c_X2_init (l : Launch) (k : Kx) (a : Nat) (v : DT) : Met l yX2_init wsX2_init { frames := 1, cells := 0, slots := 0, locals := 40 } (va_Pc [.ref a, .int v.1, .int v.2.1, .int v.2.2] (iPc k a)) (iQ k a v) 0 0 (fun q => q = a) := by
  refine Met.ofW (cc := cX2_init) (maxL := 4) (ret := none) (by decide) rfl ?_
  intro p e s m args below meth c s₁ B hml hv
  obtain ⟨rfl, hGx, hP⟩ := hv
  have hx := B.exec
  have hb := B.bytes
  have hr := B.returns
  have hts := atoms_spec (ws := wsX2_init) B.pre
  have hown : s.vm.findClass RX2 = some m.cls := findClass_of_methodNamed B.named
  have hlocks := B.notSynchronized
  have htg : ∀ w ∈ GL, w.before _ s = true := fun w h => hts w (List.mem_cons_of_mem _ h)
  have hin : meth.name = "<init>" := (name_of_methodNamed B.named B.method).1
  have hP : va_P (kD k) vwCl [(a, .inr (4, [.int 0, .int 0, .int 0]))] s.heap := hP
  have hD : va_D (fun q => q = a) [(a, .inr (4, [.int 0, .int 0, .int 0]))] := by
    refine ⟨fun i j x y hi hj _ => ?_, fun j x hx => ?_⟩
    · match i, j, hi, hj with
      | 0, 0, _, _ => rfl
      | 0, j + 1, _, hj => cases hj
      | i + 1, _, hi, _ => cases hi
    · match j, hx with
      | 0, hx => cases hx; rfl
      | j + 1, hx => cases hx
  have hS : va_S (fun q => q = a) s.heap s.heap [] := va_S.rf
  have hl := lv_entry ([.ref a, .int v.1, .int v.2.1, .int v.2.2]) (n := 4) (Nat.le_of_ble_eq_true rfl)
  rw [lg_entry_eq]
  generalize (lg_sl ([.ref a, .int v.1, .int v.2.1, .int v.2.2]) ++ List.replicate (4 - (lg_sl ([.ref a, .int v.1, .int v.2.1, .int v.2.2])).length) Slot.unset).toArray = ls at hl ⊢
  have hl : lv_has ls 4 [(0, .ref a), (1, .int v.1), (2, .int v.2.1), (3, .int v.2.2)] := hl
  refine lv_aload_n hx hb dX2_init_0 rfl (lv_at hl 0 rfl) ?_
  refine W.objInit hx hb hown (htg _ w_997) (htg _ w_54) (htg _ w_55) rfl (by rw [hml]; exact hl.1) rfl dX2_init_1 (Nat.le_of_ble_eq_true rfl) (Nat.le_of_ble_eq_true rfl) ?_
  refine W.eq (g2 := F0 m 4 ls []) rfl ?_
  refine lv_aload_n hx hb dX2_init_4 rfl (lv_at hl 0 rfl) ?_
  refine lv_iload_n hx hb dX2_init_5 rfl (lv_at hl 1 rfl) ?_
  refine va_putF (D := kD k) (ci := 4) (v := .int v.1) (ty := .int) (C := RX2) (T := TX2) (N := 3) (H0 := s.heap) hx hb htg inG_X2 tyX2 tyX2_ok nmX2 hown hGx.1 hP hD hS 0 rfl rfl 0 (by decide) (htg _ w_998) (fun _ h9 => h9) rfl hin rfl (by decide +kernel) rfl rfl (by decide) dX2_init_6 (fun H1 locs1 hP1 hD1 hS1 => ?_)
  refine lv_aload_n hx hb dX2_init_9 rfl (lv_at hl 0 rfl) ?_
  refine lv_iload_n hx hb dX2_init_10 rfl (lv_at hl 2 rfl) ?_
  refine va_putF (D := kD k) (ci := 4) (v := .int v.2.1) (ty := .int) (C := RX2) (T := TX2) (N := 3) (H0 := s.heap) hx hb htg inG_X2 tyX2 tyX2_ok nmX2 hown hGx.1 hP1 hD1 hS1 0 rfl rfl 1 (by decide) (htg _ w_1000) (fun _ h9 => h9) rfl hin rfl (by decide +kernel) rfl rfl (by simp) dX2_init_11 (fun H2 locs2 hP2 hD2 hS2 => ?_)
  refine lv_aload_n hx hb dX2_init_14 rfl (lv_at hl 0 rfl) ?_
  refine lv_iload_n hx hb dX2_init_15 rfl (lv_at hl 3 rfl) ?_
  refine va_putF (D := kD k) (ci := 4) (v := .int v.2.2) (ty := .int) (C := RX2) (T := TX2) (N := 3) (H0 := s.heap) hx hb htg inG_X2 tyX2 tyX2_ok nmX2 hown hGx.1 hP2 hD2 hS2 0 rfl rfl 2 (by decide) (htg _ w_1002) (fun _ h9 => h9) rfl hin rfl (by decide +kernel) rfl rfl (by simp) dX2_init_16 (fun H3 locs3 hP3 hD3 hS3 => ?_)
  exact W.vret hx hb hr (fun t ht _ => ⟨rfl, by rw [ht]; exact hP3, hS3.F ht⟩) hS3.2.2 dX2_init_19
section Q5
variable {p : Program} {l : Launch} {e : Env} {R : Room} {s : State} {m : MethodId} {args : Array Value} {below : List Frame} {meth : Method} {c : Code} {H : Heap} {locs : List Loc} {cells slots : Nat} {Q : State → Prop}
variable {cc bytes : ByteArray} {nL maxL n index MC MS pc : Nat} {Ts ws : List Cond} {own : String} {rest st0 : List Value} {ls : Array Slot} {k : Kx} {A : Nat → Prop} {P : Option Value → Nat → Heap → Prop}
theorem m_forget {ex : List Loc} {g : JFrame} (h : ∀ y ∈ ex, s.heap.size ≤ y.base) (kk : W p l e R s m args below meth c H locs cells slots Q g) : W p l e R s m args below meth c H (locs ++ ex) cells slots Q g := fun T hT X => kk T hT (Stand.forget X h)
/-- the constructor of a date, at a cell that the method has made -/
theorem q_init {a : Nat} {v : DT} (hC : CallFix p m c cc nL s args Ts own) (hGx : Gx k s) (hG : GoodIn Ts wsX2_init) (hlk : (Cond.methodLink own index yX2_init).before args s = true) (hini : (Cond.initialized RX2).before args s = true) (hinst : (Cond.instanceMethod yX2_init).before args s = true) (hN : dB k a H) (ha : s.heap.size ≤ a) (hR : 2 ≤ R.frames ∧ 8 + (4 + 11) + 40 ≤ R.locals) (hf : cells ≤ R.cells ∧ slots ≤ R.slots) (hS : va_S A s.heap H locs) (hA : ∀ q, s.heap.size ≤ q → A q) (hAB : ∀ q, A q → kB k ≤ q) (hsz : ls.size = nL) (hst : st0 = [.int v.2.2, .int v.2.1, .int v.1, .ref a] ++ rest) (hW : (rest.map fun v => v.category).sum ≤ 8) (hdg : decode cc pc = .ok (.invokespecial index, 3))
    (kk : ∀ H1 : Heap, dP k a v H1 → H.size ≤ H1.size → (∀ x : Nat, x < H.size → x ≠ a → H1[x]? = H[x]?) → va_S A s.heap H1 locs → W p l e R s m args below meth c H1 locs cells slots Q (F0 m (pc + 3) ls rest)) : W p l e R s m args below meth c H locs cells slots Q (F0 m pc ls st0) := by
  obtain ⟨⟨ws', hw⟩, h1, h2, h3⟩ := kk_X2_init
  have hr := va_runI (H := H) (locs := locs) (cells := cells) (slots := slots) (e := e) (below := below) (meth := meth) (g := F0 m pc ls st0) (rest := rest) (b := a) (As := [.int v.1, .int v.2.1, .int v.2.2]) hC (c_X2_init l k a v) ⟨callB_of 3 hC.2.2.2.2 hG hw rfl rfl hini hlk ⟨h1, h2, h3⟩ hR, rfl, hinst⟩ ⟨iPc.blind, fun U hU hW => ⟨rfl, hGx.at hS hAB hU hW, by rw [hU]; exact hN⟩⟩ rfl rfl hsz hst (lv_room hW) hdg hf
  intro T hT X
  obtain ⟨v2, st₀, t, T', L, h0, X', hL, e1, e2, ⟨hv, hp, hz, hq⟩, st⟩ := hr T hT X
  cases hv
  rw [h0] at hz hq
  obtain ⟨t2, a1, b1⟩ := kk T'.heap (by rw [e1]; exact hp) (by rw [e1]; exact hz) (fun x h4 h5 => by rw [e1]; exact hq x h4 h5)
    ⟨Nat.le_trans hS.1 (by rw [e1]; exact hz), fun x h4 h5 => by
      rw [e1, hq x (Nat.lt_of_lt_of_le h4 hS.1) (fun h6 => Nat.lt_irrefl _ (Nat.lt_of_lt_of_le h4 (h6 ▸ ha)))]
      exact hS.2.1 x h4 h5, hS.2.2⟩ T' rfl (Stand.forget X' (fun y h => by rw [hL y h]; exact ha))
  exact ⟨t2, st t2 a1, b1⟩
theorem q_iret {E r : Int32} (hx : p.tables.exec = Jvm.exec) (hb : c.code = cc) (hr : meth.sig.returnType = some .int) (hlocks : meth.locks = false) (hm : E = r) (hS : va_S (nA s.heap.size) s.heap H []) (hf : cells ≤ MC ∧ slots ≤ MS) (hdg : decode cc pc = .ok (.ireturn, 1)) :
    W p l e R s m args below meth c H [] cells slots (MQ below (qQ (rI r)) args s MC MS (fun _ => False)) (F0 m pc ls [.int E]) :=
  W.widen hf.1 hf.2 (W.iret (v := E) hx hb hr (fun t ht _ => ⟨⟨_, rfl, congrArg (fun z => some (Value.int z)) hm⟩, hS.F ht⟩) (fun _ h => absurd h List.not_mem_nil) hdg)
theorem q_zret {E r : Int32} (hx : p.tables.exec = Jvm.exec) (hb : c.code = cc) (hr : meth.sig.returnType = some .boolean) (hlocks : meth.locks = false) (hn : narrow .boolean (.int E) = .int E) (hm : E = r) (hS : va_S (nA s.heap.size) s.heap H []) (hf : cells ≤ MC ∧ slots ≤ MS) (hdg : decode cc pc = .ok (.ireturn, 1)) :
    W p l e R s m args below meth c H [] cells slots (MQ below (qQ (rI r)) args s MC MS (fun _ => False)) (F0 m pc ls [.int E]) :=
  W.widen hf.1 hf.2 (W.zret (v := E) (ty := .boolean) hx hb hr hn (fun t ht _ => ⟨⟨_, rfl, congrArg (fun z => some (Value.int z)) hm⟩, hS.F ht⟩) (fun _ h => absurd h List.not_mem_nil) hdg)
theorem q_dret {a : Nat} {v r : DT} (hx : p.tables.exec = Jvm.exec) (hb : c.code = cc) (hr : meth.sig.returnType = some (.object "DatesoloModel$Date")) (hlocks : meth.locks = false) (hm : v = r) (hd : dP k a v H) (ha : s.heap.size ≤ a) (hS : va_S (nA s.heap.size) s.heap H []) (hf : cells ≤ MC ∧ slots ≤ MS) (hdg : decode cc pc = .ok (.areturn, 1)) :
    W p l e R s m args below meth c H [] cells slots (MQ below (qQ (rD k r)) args s MC MS (fun _ => False)) (F0 m pc ls [.ref a]) :=
  W.widen hf.1 hf.2 (W.aret (v := .ref a) hx hb hr (Or.inl ⟨_, rfl⟩) (Or.inr ⟨_, rfl⟩) (fun t ht _ => ⟨⟨_, rfl, a, rfl, ha, by rw [ht, ← hm]; exact hd⟩, hS.F ht⟩) (fun _ h => absurd h List.not_mem_nil) hdg)
theorem q_mret {a : Nat} {v : DT} {r : Option DT} (hx : p.tables.exec = Jvm.exec) (hb : c.code = cc) (hr : meth.sig.returnType = some (.object "DatesoloModel$Date")) (hlocks : meth.locks = false) (hm : some v = r) (hd : dP k a v H) (ha : s.heap.size ≤ a) (hS : va_S (nA s.heap.size) s.heap H []) (hf : cells ≤ MC ∧ slots ≤ MS) (hdg : decode cc pc = .ok (.areturn, 1)) :
    W p l e R s m args below meth c H [] cells slots (MQ below (qQ (rN k r)) args s MC MS (fun _ => False)) (F0 m pc ls [.ref a]) := by
  subst hm
  exact q_dret (r := v) hx hb hr hlocks rfl hd ha hS hf hdg
theorem q_nret {r : Option DT} (hx : p.tables.exec = Jvm.exec) (hb : c.code = cc) (hr : meth.sig.returnType = some (.object "DatesoloModel$Date")) (hlocks : meth.locks = false) (hm : none = r) (hS : va_S (nA s.heap.size) s.heap H []) (hf : cells ≤ MC ∧ slots ≤ MS) (hdg : decode cc pc = .ok (.areturn, 1)) :
    W p l e R s m args below meth c H [] cells slots (MQ below (qQ (rN k r)) args s MC MS (fun _ => False)) (F0 m pc ls [.null]) := by
  subst hm
  exact W.widen hf.1 hf.2 (W.aret (v := .null) hx hb hr (Or.inl ⟨_, rfl⟩) (Or.inl rfl) (fun t ht _ => ⟨⟨_, rfl, rfl⟩, hS.F ht⟩) (fun _ h => absurd h List.not_mem_nil) hdg)
end Q5
theorem vs_up {A : Nat → Prop} {k : Kx} {H0 H : Heap} {locs : List Loc} (hAB : ∀ q, A q → kB k ≤ q) (h : va_S A H0 H locs) : va_S (kA k) H0 H locs := ⟨h.1, fun q h1 h2 => h.2.1 q h1 (fun h3 => h2 (hAB q h3)), fun q hq => hAB _ (h.2.2 q hq)⟩
theorem m_hLn {b : CA} {L : List Nat} {H0 H : Heap} {locs : List Loc} (hLb : ∀ x ∈ L, x < H0.size) (hS : mS b H0 H locs) : ∀ x ∈ L, x < H.size := fun x hx => Nat.lt_of_lt_of_le (hLb x hx) hS.1.1
theorem m_q2 {H0 H1 H2 : Heap} {a : Nat} (ha : H0.size ≤ a) (hz : H0.size ≤ H1.size) (h1 : ∀ x : Nat, x < H0.size → H1[x]? = H0[x]?) (h2 : ∀ x : Nat, x < H1.size → x ≠ a → H2[x]? = H1[x]?) : ∀ x : Nat, x < H0.size → H2[x]? = H0[x]? :=
  fun x hx => (h2 x (Nat.lt_of_lt_of_le hx hz) (Nat.ne_of_lt (Nat.lt_of_lt_of_le hx ha))).trans (h1 x hx)
section M5
variable {p : Program} {l : Launch} {e : Env} {R : Room} {s : State} {m : MethodId} {args : Array Value} {below : List Frame} {meth : Method} {c : Code} {H : Heap} {locs : List Loc} {cells slots : Nat} {Q : State → Prop}
variable {cc : ByteArray} {MC MS9 pc : Nat} {own : String} {rest : List Value} {ls : Array Slot} {k : Kx} {b : CA} {L : List Nat} {q : Nat → Nat} {z1 : MS}
theorem m_new2 {idx : Nat} {A : Nat → Prop} (hx : p.tables.exec = Jvm.exec) (hb : c.code = cc) (htg : ∀ w ∈ GL, w.before args s = true) (hown : s.vm.findClass own = some m.cls) (hcl : (Cond.classLink own idx RX2).before args s = true) (hinst : (Cond.instantiable RX2 3).before args s = true) (hini : (Cond.initialized RX2).before args s = true) (hGx : Gx k s) (hS : va_S A s.heap H locs) (hf : cells + 1 ≤ R.cells ∧ slots + 3 ≤ R.slots) (hdg : decode cc pc = .ok (.new idx, 3))
    (kk : ∀ (a : Nat) (H1 : Heap), H.size ≤ a → H.size ≤ H1.size → dB k a H1 → (∀ x : Nat, x < H.size → H1[x]? = H[x]?) → va_S A s.heap H1 locs → W p l e R s m args below meth c H1 locs (cells + 1) (slots + 3) Q (F0 m (pc + 3) ls (.ref a :: rest))) : W p l e R s m args below meth c H locs cells slots Q (F0 m pc ls rest) :=
  m_new hx hb htg hown hcl hinst hini hGx hS hf hdg (fun H1 hN hz hq hS1 => kk H.size H1 (Nat.le_refl _) (by omega) hN hq hS1)
theorem m_iret {E : Int32} {r : Int32 × MS} (hx : p.tables.exec = Jvm.exec) (hb : c.code = cc) (hr : meth.sig.returnType = some .int) (hlocks : meth.locks = false) (hm : (E, z1) = r) (hV : mV k b L q z1 H) (hS : mS b s.heap H locs) (hf : cells ≤ MC ∧ slots ≤ MS9) (hdg : decode cc pc = .ok (.ireturn, 1)) :
    W p l e R s m args below meth c H locs cells slots (MQ below (mQ k b L (some (.int r.1)) r.2) args s MC MS9 (c5 b)) (F0 m pc ls [.int E]) := by
  subst hm
  exact W.widen hf.1 hf.2 (W.iret (v := E) hx hb hr (fun t ht _ => ⟨rfl, ⟨q, by rw [ht]; exact hV⟩, hS.1.F ht⟩) hS.2 hdg)
theorem m_zret {E : Int32} {r : Int32 × MS} (hx : p.tables.exec = Jvm.exec) (hb : c.code = cc) (hr : meth.sig.returnType = some .boolean) (hlocks : meth.locks = false) (hn : narrow .boolean (.int E) = .int E) (hm : (E, z1) = r) (hV : mV k b L q z1 H) (hS : mS b s.heap H locs) (hf : cells ≤ MC ∧ slots ≤ MS9) (hdg : decode cc pc = .ok (.ireturn, 1)) :
    W p l e R s m args below meth c H locs cells slots (MQ below (mQ k b L (some (.int r.1)) r.2) args s MC MS9 (c5 b)) (F0 m pc ls [.int E]) := by
  subst hm
  exact W.widen hf.1 hf.2 (W.zret (v := E) (ty := .boolean) hx hb hr hn (fun t ht _ => ⟨rfl, ⟨q, by rw [ht]; exact hV⟩, hS.1.F ht⟩) hS.2 hdg)
theorem m_lret {E : Int64} {r : Int64 × MS} (hx : p.tables.exec = Jvm.exec) (hb : c.code = cc) (hr : meth.sig.returnType = some .long) (hlocks : meth.locks = false) (hm : (E, z1) = r) (hV : mV k b L q z1 H) (hS : mS b s.heap H locs) (hf : cells ≤ MC ∧ slots ≤ MS9) (hdg : decode cc pc = .ok (.lreturn, 1)) :
    W p l e R s m args below meth c H locs cells slots (MQ below (mQ k b L (some (.long r.1)) r.2) args s MC MS9 (c5 b)) (F0 m pc ls [.long E]) := by
  subst hm
  exact W.widen hf.1 hf.2 (W.lret (v := E) hx hb hr (fun t ht _ => ⟨rfl, ⟨q, by rw [ht]; exact hV⟩, hS.1.F ht⟩) hS.2 hdg)
end M5
/-! an array of numbers that the method has made -/
def aP (k : Kx) (a n : Nat) (f : Nat → Int32) (H : Heap) : Prop := va_P (kD k) vwCl [(a, .inl (kI k, n, .inl f))] H
def aF (k : Kx) (L : List Nat) (a n : Nat) (f : Nat → Int32) (H : Heap) : Prop := aP k a n f H ∧ ∀ x ∈ L, a ≠ x
theorem aP.lt {k : Kx} {a n : Nat} {f : Nat → Int32} {H : Heap} (h : aP k a n f H) : a < H.size := (h 0 _ rfl).lt
theorem aP.up {k : Kx} {a n : Nat} {f : Nat → Int32} {H H1 : Heap} (h : aP k a n f H) (hq : H1[a]? = H[a]?) : aP k a n f H1 := va_P.kept h (fun j x hx => by
  match j, hx with
  | 0, hx => cases hx; exact hq
  | j + 1, hx => cases hx)
theorem aF.up {k : Kx} {L : List Nat} {a n : Nat} {f : Nat → Int32} {H H1 : Heap} (h : aF k L a n f H) (hq : ∀ x : Nat, x < H.size → (∀ y ∈ L, x ≠ y) → H1[x]? = H[x]?) : aF k L a n f H1 := ⟨h.1.up (hq a h.1.lt h.2), h.2⟩
theorem aF.made {k : Kx} {L : List Nat} {a n n0 : Nat} {f : Nat → Int32} {H : Heap} (hL : ∀ x ∈ L, x < n0) (hn : n0 ≤ a) (h : aP k a n f H) : aF k L a n f H := ⟨h, fun x hx e => Nat.lt_irrefl _ (Nat.lt_of_lt_of_le (hL x hx) (e ▸ hn))⟩
theorem m_q1 {H0 H1 H2 : Heap} (hz : H0.size ≤ H1.size) (h1 : ∀ x : Nat, x < H0.size → H1[x]? = H0[x]?) (h2 : ∀ x : Nat, x < H1.size → H2[x]? = H1[x]?) : ∀ x : Nat, x < H0.size → H2[x]? = H0[x]? := fun x hx => (h2 x (Nat.lt_of_lt_of_le hx hz)).trans (h1 x hx)
section N5
variable {p : Program} {l : Launch} {e : Env} {R : Room} {s : State} {m : MethodId} {args : Array Value} {below : List Frame} {meth : Method} {c : Code} {H : Heap} {locs : List Loc} {cells slots : Nat} {Q : State → Prop}
variable {cc : ByteArray} {pc a n j : Nat} {rest : List Value} {ls : Array Slot} {k : Kx} {A : Nat → Prop} {b : CA} {L : List Nat} {q : Nat → Nat} {z : MS} {f : Nat → Int32}
theorem m_rlen {r : Nat} (hx : p.tables.exec = Jvm.exec) (hb : c.code = cc) (hGx : Gx k s) (hV : mV k b L q z H) (hdg : decode cc pc = .ok (.arraylength, 1)) (kk : W p l e R s m args below meth c H locs cells slots Q (F0 m (pc + 1) ls (.int 3 :: rest))) : W p l e R s m args below meth c H locs cells slots Q (F0 m pc ls (.ref (srow b r) :: rest)) := by
  unfold srow
  by_cases h : r = 0
  · rw [if_pos h]; exact va_alen (D := kD k) (v := 3) hx hb hGx.1 hV.1 3 1 rfl rfl (show Int32.ofNat 3 = 3 by decide) hdg kk
  · rw [if_neg h]; exact va_alen (D := kD k) (v := 3) hx hb hGx.1 hV.1 4 1 rfl rfl (show Int32.ofNat 3 = 3 by decide) hdg kk
theorem m_newI {i : Int32} (hx : p.tables.exec = Jvm.exec) (hb : c.code = cc) (harr : (Cond.arrayClass .int).before args s = true) (hGx : Gx k s) (hS : va_S A s.heap H locs) (hn : ¬ i < 0) (hN : i.toNatClampNeg = n) (hbytes : n * componentBytes .int ≤ 536870912) (hf : cells + 1 ≤ R.cells ∧ slots + n ≤ R.slots) (hdg : decode cc pc = .ok (.newarray .int, 2))
    (kk : ∀ (a : Nat) (H1 : Heap), H.size ≤ a → H.size ≤ H1.size → aP k a n (fun _ => 0) H1 → (∀ x : Nat, x < H.size → H1[x]? = H[x]?) → va_S A s.heap H1 locs → W p l e R s m args below meth c H1 locs (cells + 1) (slots + n) Q (F0 m (pc + 2) ls (.ref a :: rest))) : W p l e R s m args below meth c H locs cells slots Q (F0 m pc ls (.int i :: rest)) := by
  refine va_newaK (atype := .int) hx hb harr rfl hdg rfl hn hN hbytes hf.1 hf.2 rfl fun H1 cA e1 z1 o1 hAr hNm => ?_
  have hcA : cA = kI k := Option.some.inj (hNm.symm.trans (hGx.1.2 1 _ rfl).2)
  subst hcA
  refine kk H.size H1 (Nat.le_refl _) (by omega) (fun j x hj => ?_) o1 ⟨Nat.le_trans hS.1 (by omega), fun x h1 h2 => (o1 x (Nat.lt_of_lt_of_le h1 hS.1)).trans (hS.2.1 x h1 h2), hS.2.2⟩
  match j, hj with
  | 0, hj => cases hj; exact e1
  | j + 1, hj => cases hj
theorem m_niast {i x : Int32} (hx : p.tables.exec = Jvm.exec) (hb : c.code = cc) (hGx : Gx k s) (ha : s.heap.size ≤ a) (hN : aP k a n f H) (hin : vp_in i n) (hj : i.toNatClampNeg = j) (hS : va_S A s.heap H locs) (hA : ∀ q, s.heap.size ≤ q → A q) (hdg : decode cc pc = .ok (.iastore, 1))
    (kk : ∀ H1 : Heap, aP k a n (upd f j x) H1 → H.size ≤ H1.size → (∀ y : Nat, y < H.size → y ≠ a → H1[y]? = H[y]?) → va_S A s.heap H1 locs → W p l e R s m args below meth c H1 locs cells slots Q (F0 m (pc + 1) ls rest)) : W p l e R s m args below meth c H locs cells slots Q (F0 m pc ls (.int x :: .int i :: .ref a :: rest)) := by
  subst hj
  refine W.iast hx hb (hN 0 _ rfl) ((hGx.1.2 1 _ rfl).1 n (fun j => .int (f j))) (fun q => by cases q) (by show ¬ (i < 0 ∨ (arrV _ _ _).slots.size ≤ _); rw [arrV_size]; exact hin) rfl rfl hdg fun H1 e z oq => ?_
  refine m_forget (fun y hy => ?_) (kk H1 (fun j w hj => ?_) (Nat.le_of_eq z.symm) (fun y _ h => oq y h) ⟨Nat.le_trans hS.1 (Nat.le_of_eq z.symm), fun y h1 h2 => (oq y (fun h3 => Nat.lt_irrefl _ (Nat.lt_of_lt_of_le h1 (h3 ▸ ha)))).trans (hS.2.1 y h1 h2), hS.2.2⟩)
  · cases List.mem_singleton.mp hy; exact ha
  · match j, hj with
    | 0, hj =>
      cases hj
      show H1[a]? = some (vp_cell _ _)
      rw [e, vp_cell_i, vp_cell_i, arrV_store]
      congr 2
      funext q
      by_cases hq : q = i.toNatClampNeg
      · subst hq
        simp [updV, upd]
      · simp [updV, upd, hq]
    | j + 1, hj => cases hj
theorem m_niald {i v : Int32} (hx : p.tables.exec = Jvm.exec) (hb : c.code = cc) (hGx : Gx k s) (hN : aP k a n f H) (hin : vp_in i n) (hj : i.toNatClampNeg = j) (hv : f j = v) (hdg : decode cc pc = .ok (.iaload, 1))
    (kk : W p l e R s m args below meth c H locs cells slots Q (F0 m (pc + 1) ls (.int v :: rest))) : W p l e R s m args below meth c H locs cells slots Q (F0 m pc ls (.int i :: .ref a :: rest)) := by
  subst hj hv
  exact va_iald (D := kD k) hx hb hGx.1 hN 0 1 rfl rfl hin hdg kk
theorem m_nlen (v : Int32) (hx : p.tables.exec = Jvm.exec) (hb : c.code = cc) (hGx : Gx k s) (hN : aP k a n f H) (hv : Int32.ofNat n = v) (hdg : decode cc pc = .ok (.arraylength, 1))
    (kk : W p l e R s m args below meth c H locs cells slots Q (F0 m (pc + 1) ls (.int v :: rest))) : W p l e R s m args below meth c H locs cells slots Q (F0 m pc ls (.ref a :: rest)) :=
  va_alen (D := kD k) hx hb hGx.1 hN 0 1 rfl rfl hv hdg kk
end N5
section B5
variable {p : Program} {l : Launch} {e : Env} {R : Room} {s : State} {m : MethodId} {args : Array Value} {below : List Frame} {meth : Method} {c : Code} {H : Heap} {locs : List Loc} {cells slots : Nat} {Q : State → Prop}
variable {cc : ByteArray} {pc : Nat} {rest : List Value} {ls : Array Slot}
/-- x != 0 ? 1 : 0 -/
theorem bl_ne {x : Int32} {o1 o2 : Int} (hx : p.tables.exec = Jvm.exec) (hb : c.code = cc) (d0 : decode cc pc = .ok (.ifCond .eq o1, 3)) (d1 : decode cc (pc + 3) = .ok (.iconst 1, 1)) (d2 : decode cc (pc + 4) = .ok (.goto o2, 3)) (d3 : decode cc (pc + 7) = .ok (.iconst 0, 1)) (h1 : (pc : Int) + o1 = ((pc + 7 : Nat) : Int)) (h2 : ((pc + 4 : Nat) : Int) + o2 = ((pc + 8 : Nat) : Int))
    (kk : W p l e R s m args below meth c H locs cells slots Q (F0 m (pc + 8) ls (.int (if x = 0 then 0 else 1) :: rest))) : W p l e R s m args below meth c H locs cells slots Q (F0 m pc ls (.int x :: rest)) := by
  refine lv_if_eq (tgt := pc + 7) hx hb d0 h1 (fun h => ?_) (fun h => ?_)
  · rw [if_pos h] at kk; exact lv_iconst (v := 0) hx hb d3 (by decide) kk
  · rw [if_neg h] at kk; exact lv_iconst (v := 1) hx hb d1 (by decide) (lv_goto (tgt := pc + 8) hx hb d2 h2 kk)
end B5

