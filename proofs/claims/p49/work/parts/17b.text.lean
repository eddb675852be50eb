
/-! makers: a builder's and a text's constructors, copies of bytes -/
def niPc (k : Kx) (x : Nat) (U : State) : Prop := Gx k U ∧ nB k x U.heap ∧ kB k ≤ x
def niQ (k : Kx) (x : Nat) : Array Value → State → Outcome → State → Prop := fun _ st oc t => oc = .returned none ∧ (∃ x2, st.heap.size ≤ x2 ∧ bP k (x, x2) 0 t.heap) ∧ va_F (fun q => q = x) st t
theorem niPc.blind {k : Kx} {x : Nat} {av : List Value} : FrameBlind (va_Pc av (niPc k x)) := fun _ _ _ _ h => ⟨h.1, h.2.1.blind, h.2.2⟩
def pQ0 : Array Value → State → Outcome → State → Prop := fun _ st oc t => oc = .returned none ∧ t.heap = st.heap
def ryPc (k : Kx) (c0 : Nat) (f : Nat → Int32) (U : State) : Prop := Gx k U ∧ yP k c0 16 f U.heap ∧ sb_Fit f
def ryQ (k : Kx) (n : Nat) : Array Value → State → Outcome → State → Prop := fun _ st oc t => (∃ (c : Nat) (f : Nat → Int32), oc = .returned (some (.ref c)) ∧ st.heap.size ≤ c ∧ sb_Fit f ∧ yP k c n f t.heap) ∧ va_F (fun _ => False) st t
theorem ryPc.blind {k : Kx} {c0 : Nat} {f : Nat → Int32} {av : List Value} : FrameBlind (va_Pc av (ryPc k c0 f)) := fun _ _ _ _ h => ⟨h.1, h.2.1.blind, h.2.2⟩
def x2A (a : Nat × Nat) (x : Nat) : Nat → Prop := fun q => b2 a q ∨ q = x
def tiPc (k : Kx) (x : Nat) (a : Nat × Nat) (z : Int32) (U : State) : Prop := Gx k U ∧ nS k x U.heap ∧ kB k ≤ x ∧ ¬ b2 a x ∧ (a.1 ≠ a.2 ∧ ∀ q, b2 a q → kB k ≤ q) ∧ bP k a z U.heap
def tiQ (k : Kx) (x : Nat) (a : Nat × Nat) (n : Nat) : Array Value → State → Outcome → State → Prop := fun _ st oc t => oc = .returned none ∧ (∃ (x2 : Nat) (f : Nat → Int32), st.heap.size ≤ x2 ∧ sb_Fit f ∧ sP k (x, x2) n f t.heap) ∧ va_F (x2A a x) st t
theorem tiPc.blind {k : Kx} {x : Nat} {a : Nat × Nat} {z : Int32} {av : List Value} : FrameBlind (va_Pc av (tiPc k x a z)) := fun _ _ _ _ h => ⟨h.1, h.2.1.blind, h.2.2⟩
def toQ (k : Kx) (a : Nat × Nat) (n : Nat) : Array Value → State → Outcome → State → Prop := fun _ st oc t => (∃ t' : Nat × Nat, oc = .returned (some (.ref t'.1)) ∧ st.heap.size ≤ t'.1 ∧ st.heap.size ≤ t'.2 ∧ tP t t' n t.heap) ∧ va_F (b2 a) st t
theorem va_S.wide {A B : Nat → Prop} {H0 H : Heap} {locs : List Loc} (h : va_S A H0 H locs) (hAB : ∀ q, A q → B q) : va_S B H0 H locs := ⟨h.1, fun q h1 h2 => h.2.1 q h1 (fun h3 => h2 (hAB q h3)), fun q hq => hAB _ (h.2.2 q hq)⟩
theorem nn_toInt (z : Int32) (hz : ¬ z < 0) : z.toInt = (z.toNatClampNeg : Int) := by
  have hz0 : (0 : Int) ≤ z.toInt := by
    have := Int32.not_lt.mp hz
    simpa using Int32.le_iff_toInt_le.mp this
  show z.toInt = ((z.toInt.toNat : Nat) : Int)
  omega
theorem min16 {z : Int32} (hz0 : ¬ z < 0) (hz1 : z.toNatClampNeg < 16) : (if z < 16 - 0 then z else 16 - 0) = z := if_pos (by rw [Int32.lt_iff_toInt_lt, nn_toInt z hz0, show ((16 : Int32) - 0).toInt = 16 by decide]; omega)
theorem m_low {p : Program} {l : Launch} {e : Env} {R : Room} {s : State} {m : MethodId} {args : Array Value} {below : List Frame} {meth : Method} {c : Code} {H : Heap} {locs : List Loc} {cells slots : Nat} {Q : State → Prop} {g : JFrame} (kk : W p l e R s m args below meth c H (locs.filter fun y => decide (y.base < s.heap.size)) cells slots Q g) : W p l e R s m args below meth c H locs cells slots Q g :=
  fun T hT X => kk T hT { X with same := X.same.weaken (fun y hy hlt => List.mem_filter.mpr ⟨hy, decide_eq_true hlt⟩) (Nat.le_refl _) (Nat.le_refl _) }
section M6
variable {p : Program} {l : Launch} {e : Env} {R : Room} {s : State} {m : MethodId} {args : Array Value} {below : List Frame} {meth : Method} {c : Code} {H : Heap} {locs : List Loc} {cells slots : Nat} {Q : State → Prop}
variable {cc bytes : ByteArray} {nL maxL n index fr lo mc ms pc : Nat} {Ts ws : List Cond} {own : String} {y : MethodName} {ret : Option FieldType} {As rest st0 : List Value} {ls : Array Slot} {k : Kx} {A : Nat → Prop}
/-- a new array of bytes -/
theorem y_new {i : Int32} (hx : p.tables.exec = Jvm.exec) (hb : c.code = cc) (harr : (Cond.arrayClass .byte).before args s = true) (hGx : Gx k s) (hS : va_S A s.heap H locs) (hn : ¬ i < 0) (hN : i.toNatClampNeg = n) (hbytes : n * componentBytes .byte ≤ 536870912) (hf : cells + 1 ≤ R.cells ∧ slots + n ≤ R.slots) (hdg : decode cc pc = .ok (.newarray .byte, 2))
    (kk : ∀ (a : Nat) (H1 : Heap), H.size ≤ a → H.size ≤ H1.size → yP k a n (fun _ => 0) H1 → (∀ x : Nat, x < H.size → H1[x]? = H[x]?) → va_S A s.heap H1 locs → W p l e R s m args below meth c H1 locs (cells + 1) (slots + n) Q (F0 m (pc + 2) ls (.ref a :: rest))) : W p l e R s m args below meth c H locs cells slots Q (F0 m pc ls (.int i :: rest)) := by
  refine va_newaK (atype := .byte) hx hb harr rfl hdg rfl hn hN hbytes hf.1 hf.2 rfl fun H1 cA e1 z1 o1 hAr hNm => ?_
  have hcA : cA = kY k := Option.some.inj (hNm.symm.trans (hGx.1.2 2 _ rfl).2)
  subst hcA
  refine kk H.size H1 (Nat.le_refl _) (by omega) (fun j x hj => ?_) o1 ⟨Nat.le_trans hS.1 (by omega), fun x h1 h2 => (o1 x (Nat.lt_of_lt_of_le h1 hS.1)).trans (hS.2.1 x h1 h2), hS.2.2⟩
  match j, hj with
  | 0, hj => cases hj; exact e1
  | j + 1, hj => cases hj
theorem nb_new {idx : Nat} (hx : p.tables.exec = Jvm.exec) (hb : c.code = cc) (htg : ∀ w ∈ GL, w.before args s = true) (hown : s.vm.findClass own = some m.cls) (hcl : (Cond.classLink own idx RJ4).before args s = true) (hinst : (Cond.instantiable RJ4 4).before args s = true) (hini : (Cond.initialized RJ4).before args s = true) (hGx : Gx k s) (hS : va_S A s.heap H locs) (hf : cells + 1 ≤ R.cells ∧ slots + 4 ≤ R.slots) (hdg : decode cc pc = .ok (.new idx, 3))
    (kk : ∀ (a : Nat) (H1 : Heap), H.size ≤ a → H.size ≤ H1.size → nB k a H1 → (∀ x : Nat, x < H.size → H1[x]? = H[x]?) → va_S A s.heap H1 locs → W p l e R s m args below meth c H1 locs (cells + 1) (slots + 4) Q (F0 m (pc + 3) ls (.ref a :: rest))) : W p l e R s m args below meth c H locs cells slots Q (F0 m pc ls rest) := by
  have hKn := hGx.1.1 1 _ rfl
  refine W.newcK hx hb hown hcl hinst hini rfl hdg hf.1 hf.2 hKn.2.1 rfl fun H1 kC hkC e1 z1 o1 => ?_
  refine kk H.size H1 (Nat.le_refl _) (by omega) (fun j x hj => ?_) o1 ⟨Nat.le_trans hS.1 (by omega), fun x h1 h2 => (o1 x (Nat.lt_of_lt_of_le h1 hS.1)).trans (hS.2.1 x h1 h2), hS.2.2⟩
  match j, hj with
  | 0, hj => cases hj; exact ⟨_, rfl, (u_born tyJ4 htg inG_J4 hKn hkC e1 tyJ4_ok).to (fun j hj => by rcases (show j = 0 ∨ j = 1 ∨ j = 2 ∨ j = 3 by omega) with rfl | rfl | rfl | rfl <;> rfl)⟩
  | j + 1, hj => cases hj
theorem nt_new {idx : Nat} (hx : p.tables.exec = Jvm.exec) (hb : c.code = cc) (htg : ∀ w ∈ GL, w.before args s = true) (hown : s.vm.findClass own = some m.cls) (hcl : (Cond.classLink own idx RJ0).before args s = true) (hinst : (Cond.instantiable RJ0 4).before args s = true) (hini : (Cond.initialized RJ0).before args s = true) (hGx : Gx k s) (hS : va_S A s.heap H locs) (hf : cells + 1 ≤ R.cells ∧ slots + 4 ≤ R.slots) (hdg : decode cc pc = .ok (.new idx, 3))
    (kk : ∀ (a : Nat) (H1 : Heap), H.size ≤ a → H.size ≤ H1.size → nS k a H1 → (∀ x : Nat, x < H.size → H1[x]? = H[x]?) → va_S A s.heap H1 locs → W p l e R s m args below meth c H1 locs (cells + 1) (slots + 4) Q (F0 m (pc + 3) ls (.ref a :: rest))) : W p l e R s m args below meth c H locs cells slots Q (F0 m pc ls rest) := by
  have hKn := hGx.1.1 0 _ rfl
  refine W.newcK hx hb hown hcl hinst hini rfl hdg hf.1 hf.2 hKn.2.1 rfl fun H1 kC hkC e1 z1 o1 => ?_
  refine kk H.size H1 (Nat.le_refl _) (by omega) (fun j x hj => ?_) o1 ⟨Nat.le_trans hS.1 (by omega), fun x h1 h2 => (o1 x (Nat.lt_of_lt_of_le h1 hS.1)).trans (hS.2.1 x h1 h2), hS.2.2⟩
  match j, hj with
  | 0, hj => cases hj; exact ⟨_, rfl, (u_born tyJ0 htg inG_J0 hKn hkC e1 tyJ0_ok).to (fun j hj => by rcases (show j = 0 ∨ j = 1 ∨ j = 2 ∨ j = 3 by omega) with rfl | rfl | rfl | rfl <;> rfl)⟩
  | j + 1, hj => cases hj
end M6

theorem kk_J0_coder_7d493 : pK yJ0_coder_7d493 wsJ0_coder_7d493 cJ0_coder_7d493 1 (some .byte) 0 := ⟨⟨_, rfl⟩, by decide +kernel, by decide +kernel, by decide +kernel⟩
set_option maxRecDepth 100000 in
set_option maxHeartbeats 4000000 in
theorem c_J0_coder_7d493 (l : Launch) (k : Kx) (t : Nat × Nat) (nt : Nat) : sM l k t nt yJ0_coder_7d493 wsJ0_coder_7d493 0 0 (.int 0) := by
  refine Met.ofW (cc := cJ0_coder_7d493) (maxL := 1) (ret := (some .byte)) (by decide) rfl ?_
  intro p e s m args below meth c s₁ B hml hv
  obtain ⟨rfl, hGx, hT⟩ := hv
  have hx := B.exec
  have hb := B.bytes
  have hr := B.returns
  have hts9 := atoms_spec (ws := wsJ0_coder_7d493) B.pre
  have hown : s.vm.findClass RJ0 = some m.cls := findClass_of_methodNamed B.named
  have hlocks := B.notSynchronized
  have htg : ∀ w ∈ GL, w.before _ s = true := fun w h => hts9 w (List.mem_cons_of_mem _ h)
  have hC : CallFix p m c cJ0_coder_7d493 1 s _ wsJ0_coder_7d493 RJ0 := ⟨hx, hb, hml, hown, hts9⟩
  have hl := lv_entry ([.ref t.1]) (n := 1) (Nat.le_of_ble_eq_true rfl)
  rw [lg_entry_eq]
  generalize (lg_sl ([.ref t.1]) ++ List.replicate (1 - (lg_sl ([.ref t.1])).length) Slot.unset).toArray = ls at hl ⊢
  have hl : lv_has ls 1 [(0, .ref t.1)] := hl
  refine va_gets hx hb (gx_cs hGx) va_S.rf hown (htg _ w_536) (fun _ h9 => h9) dJ0_coder_7d493_0 ?_
  refine lv_if_eq (tgt := 13) hx hb dJ0_coder_7d493_3 (by decide) (fun h => absurd h (by decide)) (fun _ => ?_)
  refine lv_aload_n hx hb dJ0_coder_7d493_6 rfl (lv_at hl 0 rfl) ?_
  refine vk_getf hx hb hT.2.1 va_S.rf hown (htg _ w_566) (fun _ h9 => h9) dJ0_coder_7d493_7 ?_
  refine lv_goto (tgt := 14) hx hb dJ0_coder_7d493_10 (by decide) ?_
  exact W.zret (v := 0) (ty := .byte) hx hb hr (by decide) (fun t ht _ => ⟨rfl, ht⟩) (fun _ h => absurd h List.not_mem_nil) dJ0_coder_7d493_14
theorem kk_J0_length_8abf5 : pK yJ0_length_8abf5 wsJ0_length_8abf5 cJ0_length_8abf5 1 (some .int) 0 := ⟨⟨_, rfl⟩, by decide +kernel, by decide +kernel, by decide +kernel⟩
set_option maxRecDepth 100000 in
set_option maxHeartbeats 4000000 in
theorem c_J0_length_8abf5 (l : Launch) (k : Kx) (t : Nat × Nat) (nt : Nat) : sM l k t nt yJ0_length_8abf5 wsJ0_length_8abf5 1 40 (.int (Int32.ofNat nt)) := by
  refine Met.ofW (cc := cJ0_length_8abf5) (maxL := 1) (ret := (some .int)) (by decide) rfl ?_
  intro p e s m args below meth c s₁ B hml hv
  obtain ⟨rfl, hGx, hT⟩ := hv
  have hx := B.exec
  have hb := B.bytes
  have hr := B.returns
  have hts9 := atoms_spec (ws := wsJ0_length_8abf5) B.pre
  have hown : s.vm.findClass RJ0 = some m.cls := findClass_of_methodNamed B.named
  have hlocks := B.notSynchronized
  have htg : ∀ w ∈ GL, w.before _ s = true := fun w h => hts9 w (List.mem_cons_of_mem _ h)
  have hC : CallFix p m c cJ0_length_8abf5 1 s _ wsJ0_length_8abf5 RJ0 := ⟨hx, hb, hml, hown, hts9⟩
  have hl := lv_entry ([.ref t.1]) (n := 1) (Nat.le_of_ble_eq_true rfl)
  rw [lg_entry_eq]
  generalize (lg_sl ([.ref t.1]) ++ List.replicate (1 - (lg_sl ([.ref t.1])).length) Slot.unset).toArray = ls at hl ⊢
  have hl : lv_has ls 1 [(0, .ref t.1)] := hl
  refine lv_aload_n hx hb dJ0_length_8abf5_0 rfl (lv_at hl 0 rfl) ?_
  refine vk_getf hx hb hT.2.2.1 va_S.rf hown (htg _ w_565) (fun _ h9 => h9) dJ0_length_8abf5_1 ?_
  obtain ⟨f, -, hT4⟩ := hT.2.2.2
  refine va_tlen hx hb hT4 va_S.rf rfl dJ0_length_8abf5_4 ?_
  refine lv_aload_n hx hb dJ0_length_8abf5_5 rfl (lv_at hl 0 rfl) ?_
  refine sc_V (A := fun _ => False) hC hGx (c_J0_coder_7d493 l k t nt) (gV w_532 w_533 w_534 w_39 w_535) kk_J0_coder_7d493 rfl hT ⟨Nat.le_of_ble_eq_true rfl, Nat.le_of_ble_eq_true rfl⟩ ⟨Nat.le_of_ble_eq_true rfl, Nat.le_of_ble_eq_true rfl⟩ va_S.rf (fun _ h => h.elim) hl.1 (Nat.le_of_ble_eq_true rfl) dJ0_length_8abf5_6 ?_
  refine lv_ishr hx hb dJ0_length_8abf5_9 ?_
  rw [sb_shr0]
  exact W.iret hx hb hr (fun t ht _ => ⟨rfl, ht⟩) (fun _ h => absurd h List.not_mem_nil) dJ0_length_8abf5_10
def o_J0_getBytes_840e7 (p1 p2 : Int32) (nt : Nat) (z : Int32) : Option (Unit × Int32) := if p2 = 0 then (if p1 < 0 ∨ 16 < p1.toNatClampNeg + nt then none else some ((), z)) else none
theorem kk_J0_getBytes_840e7 : pK yJ0_getBytes_840e7 wsJ0_getBytes_840e7 cJ0_getBytes_840e7 4 none 3 := ⟨⟨_, rfl⟩, by decide +kernel, by decide +kernel, by decide +kernel⟩
set_option maxRecDepth 100000 in
set_option maxHeartbeats 4000000 in
theorem k_J0_getBytes_840e7 (l : Launch) (k : Kx) (a : Nat × Nat) (p1 p2 : Int32) (t : Nat × Nat) (nt : Nat) (z : Int32) {r : Unit × Int32} (hm : o_J0_getBytes_840e7 p1 p2 nt z = some r) : bN l k a yJ0_getBytes_840e7 wsJ0_getBytes_840e7 1 60 [.ref t.1, .ref a.2, .int p1, .int p2] [(t, nt)] z none r.2 := by
  unfold o_J0_getBytes_840e7 at hm
  by_cases h1 : p2 = 0
  · rw [if_pos h1] at hm
    subst h1
    by_cases h2 : p1 < 0 ∨ 16 < p1.toNatClampNeg + nt
    · rw [if_pos h2] at hm; cases hm
    rw [if_neg h2] at hm
    obtain rfl := Option.some.inj hm
    refine Met.ofW (cc := cJ0_getBytes_840e7) (maxL := 4) (ret := none) (by decide) rfl ?_
    intro p e s m args below meth c s₁ B hml hv
    obtain ⟨rfl, hGx, ⟨hne, hab⟩, ⟨f, hf, hP⟩, hts⟩ := hv
    have hx := B.exec
    have hb := B.bytes
    have hr := B.returns
    have hts9 := atoms_spec (ws := wsJ0_getBytes_840e7) B.pre
    have hown : s.vm.findClass RJ0 = some m.cls := findClass_of_methodNamed B.named
    have hlocks := B.notSynchronized
    have htg : ∀ w ∈ GL, w.before _ s = true := fun w h => hts9 w (List.mem_cons_of_mem _ h)
    have hC : CallFix p m c cJ0_getBytes_840e7 4 s _ wsJ0_getBytes_840e7 RJ0 := ⟨hx, hb, hml, hown, hts9⟩
    have hl := lv_entry ([.ref t.1, .ref a.2, .int p1, .int 0]) (n := 4) (Nat.le_of_ble_eq_true rfl)
    rw [lg_entry_eq]
    generalize (lg_sl ([.ref t.1, .ref a.2, .int p1, .int 0]) ++ List.replicate (4 - (lg_sl ([.ref t.1, .ref a.2, .int p1, .int 0])).length) Slot.unset).toArray = ls at hl ⊢
    obtain ⟨hT, hn1, hn2⟩ := hts _ List.mem_cons_self
    obtain ⟨g, hg, hT4⟩ := hT.2.2.2
    have hT5 : va_T .byte t.2 nt (fun j => .int (g j)) (b2 a) s s.heap := hT4.narrow (fun q hq => ⟨fun e => hn1 (e ▸ hq), fun e => hn2 (e ▸ hq)⟩)
    have h3 : p1.toNatClampNeg + nt ≤ 16 := Nat.not_lt.mp fun q => h2 (Or.inr q)
    have h4 : ¬ p1 < 0 := fun q => h2 (Or.inl q)
    have h5 : ¬ Int32.ofNat nt < 0 ∧ (Int32.ofNat nt).toNatClampNeg = nt := by
      have : ∀ n, n ≤ 16 → ¬ Int32.ofNat n < 0 ∧ (Int32.ofNat n).toNatClampNeg = n := by decide
      exact this nt (by omega)
    have hl : lv_has ls 4 [(0, .ref t.1), (1, .ref a.2), (2, .int p1), (3, .int 0)] := hl
    have hAB : ∀ q, b2 a q → kB k ≤ q := hab
    refine lv_aload_n hx hb dJ0_getBytes_840e7_0 rfl (lv_at hl 0 rfl) ?_
    refine sc_V (A := b2 a) hC hGx (c_J0_coder_7d493 l k t nt) (gV w_532 w_533 w_534 w_39 w_535) kk_J0_coder_7d493 rfl hT ⟨Nat.le_of_ble_eq_true rfl, Nat.le_of_ble_eq_true rfl⟩ ⟨Nat.le_of_ble_eq_true rfl, Nat.le_of_ble_eq_true rfl⟩ va_S.rf hAB hl.1 (Nat.le_of_ble_eq_true rfl) dJ0_getBytes_840e7_1 ?_
    refine lv_iload_n hx hb dJ0_getBytes_840e7_4 rfl (lv_at hl 3 rfl) ?_
    refine lv_icmp_ne (tgt := 28) hx hb dJ0_getBytes_840e7_5 (by decide) (fun h => absurd h (by decide)) (fun _ => ?_)
    refine lv_aload_n hx hb dJ0_getBytes_840e7_8 rfl (lv_at hl 0 rfl) ?_
    refine vk_getf hx hb hT.2.2.1 va_S.rf hown (htg _ w_565) (fun _ h9 => h9) dJ0_getBytes_840e7_9 ?_
    refine lv_iconst (v := 0) hx hb dJ0_getBytes_840e7_12 (by decide) ?_
    refine lv_aload_n hx hb dJ0_getBytes_840e7_13 rfl (lv_at hl 1 rfl) ?_
    refine lv_iload_n hx hb dJ0_getBytes_840e7_14 rfl (lv_at hl 2 rfl) ?_
    refine lv_iload_n hx hb dJ0_getBytes_840e7_15 rfl (lv_at hl 3 rfl) ?_
    refine lv_ishl hx hb dJ0_getBytes_840e7_16 ?_
    rw [sb_shl0]
    refine lv_aload_n hx hb dJ0_getBytes_840e7_17 rfl (lv_at hl 0 rfl) ?_
    refine vk_getf hx hb hT.2.2.1 va_S.rf hown (htg _ w_565) (fun _ h9 => h9) dJ0_getBytes_840e7_18 ?_
    refine va_tlen hx hb hT4 va_S.rf rfl dJ0_getBytes_840e7_21 ?_
    refine vk_copyt (D := kD k) (A := b2 a) hx hb (hml.trans hl.1.symm) hown (htg _ w_548) (htg _ w_394) (htg _ w_393) (htg _ w_43) hGx.1 hP (bW.own hne) va_S.rf hT5 1 2 rfl rfl (by decide) h4 h5.1 (by rw [h5.2]; show 0 + nt ≤ nt; omega) (by rw [h5.2]; exact h3) (fun i _ => hg _) (Nat.le_of_ble_eq_true rfl) (Nat.le_of_ble_eq_true rfl) dJ0_getBytes_840e7_22 (fun H locs hP1 _ hS => ?_)
    have hP : bP k a z H := ⟨_, sb_fitC hg hf, hP1⟩
    refine lv_goto (tgt := 43) hx hb dJ0_getBytes_840e7_25 (by decide) ?_
    exact b_vret (r := ((), z)) hx hb hr hlocks rfl hP hS dJ0_getBytes_840e7_43
  · rw [if_neg h1] at hm; cases hm
