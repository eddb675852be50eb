/-! THE CLAIM OUT OF ONE WALK OF THE LAW'S BODY. Your part is whole_start (and what it stands on); all else here is the same for every law, but numbers. -/
def R_law : String := "DatesoloLaw"
def lw_P (b : Addr) (xs : List Int32) (args : Array Value) (s : State) : Prop := args = #[.ref b] ∧ s.IntsAt b xs ∧ xs.length ≤ 2560 ∧ (Jvm.Cond.and given_1 narrow_1).before args s = true
def lw_Q (_ : Array Value) (s : State) (o : Outcome) (t : State) : Prop := o = .returned (some (.int 1)) ∧ Framed s o t [] room_1.cells room_1.slots
def lw_Z (below : List Frame) (a : Array Value) (s : State) : State → Prop := fun t => ∃ o, t.status = .running ∧ Ended t below o ∧ lw_Q a s o t
/-- the law's own end, with 1 on the stack, nothing written that was there before, its room as the claim has it -/
theorem lw_ret {p : Program} {l : Launch} {e : Env} {s : State} {m : MethodId} {below : List Frame} {meth : Method} {c : Code} {b : Nat} (hx : p.tables.exec = Jvm.exec) (hb : c.code = code) (hr : meth.sig.returnType = ret) (hlocks : meth.locks = false) {pc : Nat} {H : Heap} {ls : Array Slot} (hdg : decode code pc = .ok (.ireturn, 1)) : W p l e room_1 s m #[Value.ref b] below meth c H [] room_1.cells room_1.slots (lw_Z below #[Value.ref b] s) (F0 m pc ls [.int 1]) := by
  intro T hT X
  obtain ⟨fs, hret, hrun, hended, hW, hframe⟩ := X.leave (v := some (.int 1)) (hlocks := hlocks) (fun h => by rw [hr] at h; cases h)
  have hmeth' : T.vm.method? m = some meth := X.method'
  refine ⟨T.setFrames fs, ?_, .returned (some (.int 1)), hrun, hended, rfl, ⟨_, rfl⟩, hW, hframe⟩
  jvm_step X.here [X.here.top, hx, hb, hdg, hmeth', hr, ret, narrow_b1]
  (try refine ⟨rfl, ?_⟩); (try refine ⟨rfl, ?_⟩)
  first | (intro acts; rw [hret _ acts rfl rfl rfl]) | rw [hret _ _ rfl rfl rfl]
  exact Steps.refl _
/-- what holds at the law's entry: the machine, the code, the tables' words (any of lw_tbl by 'hts w (by decide +kernel)'), the script of L ints xs at the cell b, what the Statement gives of the start (any of its parts by flat_of_before) -/
def lw_At (p : Program) (s : State) (m : MethodId) (meth : Method) (c : Code) (b L : Nat) (xs : Nat → Int32) : Prop :=
  p.tables.exec = Jvm.exec ∧ c.code = code ∧ meth.sig.returnType = ret ∧ c.maxLocals = 7 ∧ s.vm.findClass R_law = some m.cls ∧ (∀ w ∈ lw_tbl, w.before #[Value.ref b] s = true) ∧ va_X b L xs s s.heap ∧ b < s.heap.size ∧ meth.locks = false ∧ (Jvm.Cond.and given_1 narrow_1).before #[Value.ref b] s = true
-- ===== YOUR PART BEGINS =====
set_option maxRecDepth 100000 in
set_option maxHeartbeats 8000000 in
theorem whole_start {p : Program} {e : Env} {s : State} {m : MethodId} {below : List Frame} {meth : Method} {c : Code} (l : Launch) (hflags : l.flags = flags0) {b L : Nat} {xs : Nat → Int32} (hL : L ≤ 2560) (C0 : lw_At p s m meth c b L xs) : W p l e room_1 s m #[Value.ref b] below meth c s.heap [] 0 0 (lw_Z below #[Value.ref b] s) (entryFrame m ([Value.ref b] : List Value).toArray 7) := by
  obtain ⟨hx, hb, hr, hml, hown, hts, hX, hbl, hlocks, hgv⟩ := C0
  obtain ⟨k, hk0, hGx, hAY⟩ := gx_start hgv hts
  have hl9 : l.stackTraces = false := by rw [Launch.stackTraces, hflags]; rfl
  have htg : ∀ w ∈ GL, w.before #[Value.ref b] s = true := fun w h => hts w (GL_tbl h)
  have hC : CallFix p m c cL_law 7 s #[Value.ref b] (Cond.tt :: GL) RL := ⟨hx, hb, hml, hown, fun w h => (List.mem_cons.mp h).elim (fun e => by rw [e]; rfl) (htg w)⟩
  have hAB : ∀ q, nA s.heap.size q → kB k ≤ q := hAn hGx
  have hS : va_S (nA s.heap.size) s.heap s.heap [] := va_S.rf
  have hl := lv_entry ([.ref b]) (n := 7) (Nat.le_of_ble_eq_true rfl)
  rw [lg_entry_eq]
  generalize (lg_sl ([.ref b]) ++ List.replicate (7 - (lg_sl ([.ref b])).length) Slot.unset).toArray = ls at hl ⊢
  have hl : lv_has ls 7 [(0, .ref b)] := hl
  refine n0_new (cells := 0) (slots := 0) hx hb htg hown (htg _ w_48) (htg _ w_49) (htg _ w_26) hGx hS ⟨Nat.le_of_ble_eq_true rfl, Nat.le_of_ble_eq_true rfl⟩ dL_law_0 (fun x H1 hx1 hz1 hN1 hq1 hS => ?_)
  refine lv_dup hx hb dL_law_3 rfl ?_
  have hxl := (hN1 0 _ rfl).lt
  refine run_go (rest := [.ref x]) (va_runI (rest := [.ref x]) (b := x) (As := []) hC (c_X0_init l k x) ⟨callB_of 0 hC.2.2.2.2 (gC w_52) kk_X0_init.1.choose_spec rfl rfl (htg _ w_26) (htg _ w_50) kk_X0_init.2 ⟨Nat.le_of_ble_eq_true rfl, Nat.le_of_ble_eq_true rfl⟩, rfl, (htg _ w_51)⟩ ⟨ciPc.blind, fun U hU hW => ⟨rfl, hGx.at hS hAB hU hW, by rw [hU]; exact hN1, by omega⟩⟩ rfl rfl hl.1 rfl (lv_room (Nat.le_of_ble_eq_true rfl)) dL_law_4 ⟨Nat.le_of_ble_eq_true rfl, Nat.le_of_ble_eq_true rfl⟩) (fun v st₀ t L1 h0 hW ⟨hv, ⟨a, hax, hDa, hPa, ha5⟩, hz, hq⟩ hL1 => ?_)
  cases hv
  rw [h0] at hDa ha5 hz hq
  refine m_forget (locs := []) (fun y hy => by rw [hL1 y hy]; omega) ?_
  generalize t.heap = H2 at hPa hz hq ⊢
  have hS : va_S (nA s.heap.size) s.heap H2 [] := ⟨Nat.le_trans hS.1 hz, fun y h1 h2 => (hq y (by omega) (by omega)).trans (hS.2.1 y h1 h2), fun _ h => absurd h List.not_mem_nil⟩
  refine lv_astore_n (lv' := [(1, .ref a.1), (0, .ref b)]) hx hb dL_law_7 rfl hl (by decide) (by rw [hax]; rfl) (fun ls hl => ?_)
  refine n3_new hx hb htg hown (htg _ w_985) (htg _ w_986) (htg _ w_27) hGx hS ⟨Nat.le_of_ble_eq_true rfl, Nat.le_of_ble_eq_true rfl⟩ dL_law_8 (fun y H3 hy hz3 hN3 hq3 hS => ?_)
  refine lv_dup hx hb dL_law_11 rfl ?_
  have hyl := (hN3 0 _ rfl).lt
  refine run_go (rest := [.ref y]) (va_runI (rest := [.ref y]) (b := y) (As := []) hC (c_X3_init l k y) ⟨callB_of 0 hC.2.2.2.2 (gC w_989) kk_X3_init.1.choose_spec rfl rfl (htg _ w_27) (htg _ w_987) kk_X3_init.2 ⟨Nat.le_of_ble_eq_true rfl, Nat.le_of_ble_eq_true rfl⟩, rfl, (htg _ w_988)⟩ ⟨miPc.blind, fun U hU hW => ⟨rfl, hGx.at hS hAB hU hW, by rw [hU]; exact hN3, by have := hS.1; omega, hAY.moved hW.alike⟩⟩ rfl rfl hl.1 rfl (lv_room (Nat.le_of_ble_eq_true rfl)) dL_law_12 ⟨Nat.le_of_ble_eq_true rfl, Nat.le_of_ble_eq_true rfl⟩) (fun v st₀ t L1 h0 hW ⟨hv, ⟨b2, q, hby, hDb, hV, hb5, hqi⟩, hz4, hq4⟩ hL1 => ?_)
  cases hv
  rw [h0] at hDb hb5 hqi hz4 hq4
  have hs3 := hS.1
  refine m_forget (locs := []) (fun x9 hx9 => by rw [hL1 x9 hx9]; omega) ?_
  generalize t.heap = H4 at hV hz4 hq4 ⊢
  have hS : va_S (nA s.heap.size) s.heap H4 [] := ⟨Nat.le_trans hS.1 hz4, fun x9 h1 h2 => (hq4 x9 (by omega) (by omega)).trans (hS.2.1 x9 h1 h2), fun _ h => absurd h List.not_mem_nil⟩
  refine lv_astore_n (lv' := [(2, .ref b2.1), (1, .ref a.1), (0, .ref b)]) hx hb dL_law_15 rfl hl (by decide) (by rw [hby]; rfl) (fun ls hl => ?_)
  refine n1_new hx hb htg hown (htg _ w_609) (htg _ w_610) (htg _ w_29) hGx hS ⟨Nat.le_of_ble_eq_true rfl, Nat.le_of_ble_eq_true rfl⟩ dL_law_16 (fun o H5 ho hz5 hO hq5 hS => ?_)
  refine lv_dup hx hb dL_law_19 rfl ?_
  refine run_go (rest := [.ref o]) (va_runIN (rest := [.ref o]) (b := o) (As := []) hC (c_X1_init l k o) ⟨va_cnB 0 hC.2.2.2.2 (gC w_612) kk_X1_init.1.choose_spec rfl rfl (gx_nm hGx (q := ("DatesoloLaw", 184, ⟨"DatesoloLaw$Out", "<init>", "()V"⟩, "DatesoloLaw")) (by decide +kernel)) (htg _ w_29) kk_X1_init.2 ⟨Nat.le_of_ble_eq_true rfl, Nat.le_of_ble_eq_true rfl⟩, rfl, (htg _ w_611)⟩ ⟨fun _ _ _ _ h => ⟨h.1, h.2.blind⟩, fun U hU hW => ⟨rfl, hGx.at hS hAB hU hW⟩⟩ rfl rfl hl.1 rfl (lv_room (Nat.le_of_ble_eq_true rfl)) dL_law_20 ⟨Nat.le_of_ble_eq_true rfl, Nat.le_of_ble_eq_true rfl⟩) (fun v st₀ t L1 h0 hW ⟨hv, hh⟩ hL1 => ?_)
  cases hv
  rw [hh, h0]
  refine m_forget (locs := []) (fun q hq => (hL1 q hq).elim) ?_
  refine lv_astore_n (lv' := [(3, .ref o), (2, .ref b2.1), (1, .ref a.1), (0, .ref b)]) hx hb dL_law_23 rfl hl (by decide) rfl (fun ls hl => ?_)
  refine lv_iconst (v := 0) hx hb dL_law_24 (by decide) ?_
  refine lv_istore (lv' := [(4, .int 0), (3, .ref o), (2, .ref b2.1), (1, .ref a.1), (0, .ref b)]) hx hb dL_law_25 hl (by decide) rfl (fun ls hl => ?_)
  obtain ⟨hLD, hI⟩ := law_world (a := a) (b := b2) (o := o) (H := H5) (Nat.le_of_eq hk0) hx1 hxl hax hDa ha5 hz1 hPa hz hy hyl hz3 hDb hb5 hqi hV hz4 ho hO hz5 (fun x9 h9 => (hq4 x9 (by omega) (by omega)).trans (hq3 x9 h9)) hq5
  have hend : ∀ (H1 : Heap) (ls1 : Array Slot) (cells slots : Nat), va_S (nA s.heap.size) s.heap H1 [] → cells ≤ 450000 → slots ≤ 4000000 → W p l e room_1 s m #[.ref b] below meth c H1 [] cells slots (lw_Z below #[Value.ref b] s) (F0 m 2255 ls1 []) := by
    intro H1 ls1 cells slots _ hc1 hs1
    refine lv_iconst (v := 1) hx hb dL_law_2255 (by decide) ?_
    exact W.widen (Nat.le_trans hc1 rm_c) (Nat.le_trans hs1 rm_s) (lw_ret hx hb hr hlocks dL_law_2256)
  have hn : L / 5 ≤ 512 := by omega
  exact law_loop hl9 hC hGx hLD hX hbl hL hend (L / 5) 0 z0C 0 z0M ls H5 _ _ (by omega) (by omega) hl hI hS (by show 0 + 1 + 4 + 1 + 10 + 1 + 0 + L / 5 * 772 ≤ 450000; omega) (by show 0 + 6 + 12 + 5 + 40 + 2 + 0 + L / 5 * 6282 ≤ 4000000; omega) (law_total xs (L / 5))
-- ===== YOUR PART ENDS =====
set_option maxHeartbeats 4000000 in
theorem lw_walk (l : Launch) (hflags : l.flags = flags0) (b : Addr) (xs : List Int32) : MetFree l x (headSpec (Jvm.Cond.code x code maxLocals ret :: tables_1) room_1) (lw_P b xs) (fun _ _ _ _ _ => True) lw_Q := by
  refine MetFree.of_bodyS (code := code) (maxLocals := maxLocals) (ret := ret) (by decide) ?_ ?_
  · intro args s m h hn
    obtain ⟨meth, c, h1, h2, h3, h4, h5, h6, -, -⟩ := Cond.code_spec hn (atoms_spec (ws := Jvm.Cond.code x code maxLocals ret :: tables_1) h _ List.mem_cons_self)
    exact ⟨meth, c, h1, h2, h3, h4, h5, h6⟩
  · intro p e s m args below meth c s₁ B hml0 hP _
    obtain ⟨rfl, hx, hbd, hgv⟩ := hP
    obtain ⟨scr, harrAt, hlist, hof, hsmall⟩ := hx
    obtain ⟨hcb, hkn, -, -⟩ := State.arrayAt?_spec harrAt
    have hown : s.vm.findClass R_law = some m.cls := findClass_of_methodNamed B.named
    have hts0 : ∀ c ∈ (Jvm.Cond.code x code maxLocals ret :: tables_1), c.before #[Value.ref b] s = true := atoms_spec (ws := Jvm.Cond.code x code maxLocals ret :: tables_1) B.pre
    have hts : ∀ w ∈ lw_tbl, w.before #[Value.ref b] s = true := lw_hts (fun w hw => hts0 w (List.mem_cons_of_mem _ hw))
    have hml : c.maxLocals = 7 := B.maxLocals_eq (hts0 _ List.mem_cons_self)
    have X₀ : Stand p l e room_1 s m #[Value.ref b] below meth c s₁ [] 0 0 := Stand.of_body B
    have hh0 : s₁.heap = s.heap := by rw [B.state]; rfl
    have hsz : scr.slots.size = xs.length := by rw [← Array.length_toList, hlist, List.length_map]
    have hval : ∀ j : Nat, j < xs.length → scr.slots[j]? = some (.int (xs.getD j 0)) := fun j hj => by
      rw [← Array.getElem?_toList, hlist]
      simp [hj]
    have hbl : b < s.heap.size := (Array.getElem?_eq_some_iff.mp hcb).1
    have hX : va_X b xs.length (fun j => xs.getD j 0) s s.heap := ⟨scr, hcb, hof, hkn, hsz, hval⟩
    have K : W p l e room_1 s m #[Value.ref b] below meth c s₁.heap [] 0 0 (lw_Z below #[Value.ref b] s) (entryFrame m ([Value.ref b] : List Value).toArray 7) := by
      rw [hh0]
      exact whole_start l hflags hbd ⟨B.exec, B.bytes, B.returns, hml, hown, hts, hX, hbl, B.notSynchronized, hgv⟩
    obtain ⟨t, a1, o, b1, b2, b3⟩ := K s₁ rfl X₀
    exact ⟨t, o, a1, b1, b2, b3⟩
theorem lw_pre_spec {args : Array Value} {s : State} (h : (Jvm.Cond.and given_1 narrow_1).before args s = true) (hr : rest_1_c.before args s = true) : ∃ (b : Addr) (xs : List Int32), lw_P b xs args s := by
  have hs := flat_of_before _ h
  have hq := flat_of_before _ hr
  have hc : (Cond.count 1).before args s = true := hs _ (by decide +kernel)
  have harr : (Cond.arrayOf (.arg 0) .int).before args s = true := hs _ (by decide +kernel)
  have hle : (Cond.le (.length (.arg 0)) (.int 2560)).before args s = true := hs _ (by decide +kernel)
  have hlen : (Cond.isInt (.length (.arg 0))).before args s = true := hq _ (by decide +kernel)
  have hall : (Cond.all (.arg 0) (.isInt (.elem (.arg 0) (.index 0)))).before args s = true := hq _ (by decide +kernel)
  obtain ⟨b, xs, hb, hx⟩ := State.ints_of_pre rfl harr hlen hall
  have hsm : xs.length < 2 ^ 31 := hx.choose_spec.2.2.2
  have hev : (Term.length (.arg 0)).eval args s none [] s = some (.int xs.length.toInt32) := hx.length_eval hb
  have hv := Cond.le_ints hev (show (Term.int 2560).eval args s none [] s = some (.int 2560) from rfl)
  have hd : xs.length.toInt32 ≤ 2560 := by
    simpa [Cond.before, Cond.holds, hv] using hle
  have hN : xs.length ≤ 2560 := (Int32.ofNat_le_ofNat hsm (by decide)).mp (show Int32.ofNat xs.length ≤ Int32.ofNat 2560 from hd)
  exact ⟨b, xs, Cond.one_arg hc (show args[0]? = some (.ref b) from hb), hx, hN, h⟩
theorem lw_comes (l : Launch) (hflags : l.flags = flags0) : Comes l x (Jvm.Cond.code x code maxLocals ret :: tables_1) room_1 (fun tb e args s => Calls_1 tb e args s ∧ rest_1 tb e args s ∧ Pre_1 tb e args s)
    (fun _ _ args s o t => lw_Q args s o t) := by
  intro p e ha hc hk s m args below hf hfit hheap happ hpre
  obtain ⟨b, xs, hP⟩ := lw_pre_spec hpre.2.2 hpre.2.1
  obtain ⟨k, o, h1, h2, h3, hQ⟩ := lw_walk l hflags b xs p e ha hc hk s m args below hf ((Spec.applies_iff_loose hf).mp happ).1 hP trivial
  exact ⟨k, o, h1, h2, h3, hQ⟩
theorem lw_frame {s t : State} {o : Outcome} {args : Array Value} (h : Framed s o t [] room_1.cells room_1.slots) :
    Framed s o t (fieldLocs frame_1_writes args s ++ arrayLocs frame_1_arrays args s ++ staticLocs frame_1_statics s) room_1.cells room_1.slots := h
theorem lw_limb (L : Cond) (hL : ∀ (args : Array Value) (s t : State), L.after args s (.returned (some (.int 1))) t = true) :
    ArmFor flags0 classFile x code maxLocals ret World_1 tables_1 room_1 Calls_1 rest_1 Pre_1
      (fun tb e a s o t => postC L tb e a s o t ∧ Framed s o t (fieldLocs frame_1_writes a s ++ arrayLocs frame_1_arrays a s ++ staticLocs frame_1_statics s) room_1.cells room_1.slots) := by
  intro l hflags _ _ p e ha hc hk s m args below hf hfit hheap happ hpre
  obtain ⟨k, o, h1, h2, h3, rfl, hF⟩ := lw_comes l hflags p e ha hc hk s m args below hf hfit hheap happ hpre
  exact ⟨k, _, h1, h2, h3, hL args s _, lw_frame hF⟩
theorem i_vc : Claimed_1_1 ∧ Claimed_1_2 := ⟨lw_limb limb_1_1 (fun args s t => by simp [limb_1_1, Cond.after, Cond.holds, Cond.value]), lw_limb limb_1_2 (fun args s t => Cond.after_iff.mpr (by
  first | (rw [show limb_1_2 = Cond.eq .result (.int 1) from rfl, Cond.eq_ints (x := 1) (y := 1) rfl rfl]; simp; done) | (simp [limb_1_2, Cond.value, Term.eval]; done)))⟩

