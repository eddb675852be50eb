def o_X3_plusWeeks (p0 : Int32) (p1 : Int32) (z : MS) : Option (Int32 × MS) := ((o_X3_moves p0 (1 : Int32) p1 (0 : Int32) z).bind fun x_1 => some (x_1.1, x_1.2))
theorem kk_X3_plusWeeks : pK yX3_plusWeeks wsX3_plusWeeks cX3_plusWeeks 3 (some .int) 2 := ⟨⟨_, rfl⟩, by decide +kernel, by decide +kernel, by decide +kernel⟩
set_option maxRecDepth 100000 in
set_option maxHeartbeats 4000000 in
theorem k_X3_plusWeeks (l : Launch) (k : Kx) (b : CA) (L : List Nat) (hD : mD k b L) (p0 : Int32) (p1 : Int32) (z : MS) {r : (Int32 × MS)} (hm : o_X3_plusWeeks p0 p1 z = some r) : mM l k b L yX3_plusWeeks wsX3_plusWeeks 7 183 1 3 [.int p0, .int p1] [] z (some (.int r.1)) r.2 := by
  intro sz q
  refine Met.ofW (cc := cX3_plusWeeks) (maxL := 3) (ret := (some .int)) (by decide) rfl ?_
  intro p e s m args below meth c s₁ B hml hv
  obtain ⟨rfl, rfl, hGx, hV, hLb, hds⟩ := hv
  have hx := B.exec
  have hb := B.bytes
  have hr := B.returns
  have hts := atoms_spec (ws := wsX3_plusWeeks) B.pre
  have hown : s.vm.findClass RX3 = some m.cls := findClass_of_methodNamed B.named
  have hlocks := B.notSynchronized
  have htg : ∀ w ∈ GL, w.before _ s = true := fun w h => hts w (List.mem_cons_of_mem _ h)
  have hC : CallFix p m c cX3_plusWeeks 3 s _ wsX3_plusWeeks RX3 := ⟨hx, hb, hml, hown, hts⟩
  have hA : ∀ q, s.heap.size ≤ q → cA b s.heap.size q := fun q h => cA.new q h
  have hAB : ∀ q, cA b s.heap.size q → kB k ≤ q := hD.high hGx.2.1
  have hS : mS b s.heap s.heap [] := mS.rf
  have hl := lv_entry ([.ref b.1, .int p0, .int p1]) (n := 3) (Nat.le_of_ble_eq_true rfl)
  rw [lg_entry_eq]
  generalize (lg_sl ([.ref b.1, .int p0, .int p1]) ++ List.replicate (3 - (lg_sl ([.ref b.1, .int p0, .int p1])).length) Slot.unset).toArray = ls at hl ⊢
  have hl : lv_has ls 3 [(0, .ref b.1), (1, .int p0), (2, .int p1)] := hl
  refine lv_aload_n hx hb dX3_plusWeeks_0 rfl (lv_at hl 0 rfl) ?_
  refine lv_iload_n hx hb dX3_plusWeeks_1 rfl (lv_at hl 1 rfl) ?_
  refine lv_iconst (v := 1) hx hb dX3_plusWeeks_2 (by decide) ?_
  refine lv_iload_n hx hb dX3_plusWeeks_3 rfl (lv_at hl 2 rfl) ?_
  refine lv_iconst (v := 0) hx hb dX3_plusWeeks_4 (by decide) ?_
  obtain ⟨x_1, hx_1, hm⟩ := Option.bind_eq_some_iff.mp hm
  refine mc_V hC hGx hD (k_X3_moves l k b L hD p0 (1 : Int32) p1 (0 : Int32)  z hx_1) (gV w_1144 w_1145 w_20 w_27 w_1146) kk_X3_moves rfl (List.forall_mem_nil _) hLb ⟨Nat.le_of_ble_eq_true rfl, Nat.le_of_ble_eq_true rfl⟩ ⟨Nat.le_of_ble_eq_true rfl, Nat.le_of_ble_eq_true rfl⟩ hV hS hl.1 rfl rfl (Nat.le_of_ble_eq_true rfl) dX3_plusWeeks_5 (fun q_1 H locs hV hS hz hq => ?_)
  exact m_iret hx hb hr hlocks (Option.some.inj hm) hV hS ⟨Nat.le_of_ble_eq_true rfl, Nat.le_of_ble_eq_true rfl⟩ dX3_plusWeeks_8
def o_X3_plusMonths (p0 : Int32) (p1 : Int32) (z : MS) : Option (Int32 × MS) := ((o_X3_moves p0 (2 : Int32) p1 (0 : Int32) z).bind fun x_1 => some (x_1.1, x_1.2))
theorem kk_X3_plusMonths : pK yX3_plusMonths wsX3_plusMonths cX3_plusMonths 3 (some .int) 2 := ⟨⟨_, rfl⟩, by decide +kernel, by decide +kernel, by decide +kernel⟩
set_option maxRecDepth 100000 in
set_option maxHeartbeats 4000000 in
theorem k_X3_plusMonths (l : Launch) (k : Kx) (b : CA) (L : List Nat) (hD : mD k b L) (p0 : Int32) (p1 : Int32) (z : MS) {r : (Int32 × MS)} (hm : o_X3_plusMonths p0 p1 z = some r) : mM l k b L yX3_plusMonths wsX3_plusMonths 7 183 1 3 [.int p0, .int p1] [] z (some (.int r.1)) r.2 := by
  intro sz q
  refine Met.ofW (cc := cX3_plusMonths) (maxL := 3) (ret := (some .int)) (by decide) rfl ?_
  intro p e s m args below meth c s₁ B hml hv
  obtain ⟨rfl, rfl, hGx, hV, hLb, hds⟩ := hv
  have hx := B.exec
  have hb := B.bytes
  have hr := B.returns
  have hts := atoms_spec (ws := wsX3_plusMonths) B.pre
  have hown : s.vm.findClass RX3 = some m.cls := findClass_of_methodNamed B.named
  have hlocks := B.notSynchronized
  have htg : ∀ w ∈ GL, w.before _ s = true := fun w h => hts w (List.mem_cons_of_mem _ h)
  have hC : CallFix p m c cX3_plusMonths 3 s _ wsX3_plusMonths RX3 := ⟨hx, hb, hml, hown, hts⟩
  have hA : ∀ q, s.heap.size ≤ q → cA b s.heap.size q := fun q h => cA.new q h
  have hAB : ∀ q, cA b s.heap.size q → kB k ≤ q := hD.high hGx.2.1
  have hS : mS b s.heap s.heap [] := mS.rf
  have hl := lv_entry ([.ref b.1, .int p0, .int p1]) (n := 3) (Nat.le_of_ble_eq_true rfl)
  rw [lg_entry_eq]
  generalize (lg_sl ([.ref b.1, .int p0, .int p1]) ++ List.replicate (3 - (lg_sl ([.ref b.1, .int p0, .int p1])).length) Slot.unset).toArray = ls at hl ⊢
  have hl : lv_has ls 3 [(0, .ref b.1), (1, .int p0), (2, .int p1)] := hl
  refine lv_aload_n hx hb dX3_plusMonths_0 rfl (lv_at hl 0 rfl) ?_
  refine lv_iload_n hx hb dX3_plusMonths_1 rfl (lv_at hl 1 rfl) ?_
  refine lv_iconst (v := 2) hx hb dX3_plusMonths_2 (by decide) ?_
  refine lv_iload_n hx hb dX3_plusMonths_3 rfl (lv_at hl 2 rfl) ?_
  refine lv_iconst (v := 0) hx hb dX3_plusMonths_4 (by decide) ?_
  obtain ⟨x_1, hx_1, hm⟩ := Option.bind_eq_some_iff.mp hm
  refine mc_V hC hGx hD (k_X3_moves l k b L hD p0 (2 : Int32) p1 (0 : Int32)  z hx_1) (gV w_1144 w_1145 w_20 w_27 w_1146) kk_X3_moves rfl (List.forall_mem_nil _) hLb ⟨Nat.le_of_ble_eq_true rfl, Nat.le_of_ble_eq_true rfl⟩ ⟨Nat.le_of_ble_eq_true rfl, Nat.le_of_ble_eq_true rfl⟩ hV hS hl.1 rfl rfl (Nat.le_of_ble_eq_true rfl) dX3_plusMonths_5 (fun q_1 H locs hV hS hz hq => ?_)
  exact m_iret hx hb hr hlocks (Option.some.inj hm) hV hS ⟨Nat.le_of_ble_eq_true rfl, Nat.le_of_ble_eq_true rfl⟩ dX3_plusMonths_8
def o_X3_plusYears (p0 : Int32) (p1 : Int32) (z : MS) : Option (Int32 × MS) := ((o_X3_moves p0 (3 : Int32) p1 (0 : Int32) z).bind fun x_1 => some (x_1.1, x_1.2))
theorem kk_X3_plusYears : pK yX3_plusYears wsX3_plusYears cX3_plusYears 3 (some .int) 2 := ⟨⟨_, rfl⟩, by decide +kernel, by decide +kernel, by decide +kernel⟩
set_option maxRecDepth 100000 in
set_option maxHeartbeats 4000000 in
theorem k_X3_plusYears (l : Launch) (k : Kx) (b : CA) (L : List Nat) (hD : mD k b L) (p0 : Int32) (p1 : Int32) (z : MS) {r : (Int32 × MS)} (hm : o_X3_plusYears p0 p1 z = some r) : mM l k b L yX3_plusYears wsX3_plusYears 7 183 1 3 [.int p0, .int p1] [] z (some (.int r.1)) r.2 := by
  intro sz q
  refine Met.ofW (cc := cX3_plusYears) (maxL := 3) (ret := (some .int)) (by decide) rfl ?_
  intro p e s m args below meth c s₁ B hml hv
  obtain ⟨rfl, rfl, hGx, hV, hLb, hds⟩ := hv
  have hx := B.exec
  have hb := B.bytes
  have hr := B.returns
  have hts := atoms_spec (ws := wsX3_plusYears) B.pre
  have hown : s.vm.findClass RX3 = some m.cls := findClass_of_methodNamed B.named
  have hlocks := B.notSynchronized
  have htg : ∀ w ∈ GL, w.before _ s = true := fun w h => hts w (List.mem_cons_of_mem _ h)
  have hC : CallFix p m c cX3_plusYears 3 s _ wsX3_plusYears RX3 := ⟨hx, hb, hml, hown, hts⟩
  have hA : ∀ q, s.heap.size ≤ q → cA b s.heap.size q := fun q h => cA.new q h
  have hAB : ∀ q, cA b s.heap.size q → kB k ≤ q := hD.high hGx.2.1
  have hS : mS b s.heap s.heap [] := mS.rf
  have hl := lv_entry ([.ref b.1, .int p0, .int p1]) (n := 3) (Nat.le_of_ble_eq_true rfl)
  rw [lg_entry_eq]
  generalize (lg_sl ([.ref b.1, .int p0, .int p1]) ++ List.replicate (3 - (lg_sl ([.ref b.1, .int p0, .int p1])).length) Slot.unset).toArray = ls at hl ⊢
  have hl : lv_has ls 3 [(0, .ref b.1), (1, .int p0), (2, .int p1)] := hl
  refine lv_aload_n hx hb dX3_plusYears_0 rfl (lv_at hl 0 rfl) ?_
  refine lv_iload_n hx hb dX3_plusYears_1 rfl (lv_at hl 1 rfl) ?_
  refine lv_iconst (v := 3) hx hb dX3_plusYears_2 (by decide) ?_
  refine lv_iload_n hx hb dX3_plusYears_3 rfl (lv_at hl 2 rfl) ?_
  refine lv_iconst (v := 0) hx hb dX3_plusYears_4 (by decide) ?_
  obtain ⟨x_1, hx_1, hm⟩ := Option.bind_eq_some_iff.mp hm
  refine mc_V hC hGx hD (k_X3_moves l k b L hD p0 (3 : Int32) p1 (0 : Int32)  z hx_1) (gV w_1144 w_1145 w_20 w_27 w_1146) kk_X3_moves rfl (List.forall_mem_nil _) hLb ⟨Nat.le_of_ble_eq_true rfl, Nat.le_of_ble_eq_true rfl⟩ ⟨Nat.le_of_ble_eq_true rfl, Nat.le_of_ble_eq_true rfl⟩ hV hS hl.1 rfl rfl (Nat.le_of_ble_eq_true rfl) dX3_plusYears_5 (fun q_1 H locs hV hS hz hq => ?_)
  exact m_iret hx hb hr hlocks (Option.some.inj hm) hV hS ⟨Nat.le_of_ble_eq_true rfl, Nat.le_of_ble_eq_true rfl⟩ dX3_plusYears_8
def o_X3_minusDays (p0 : Int32) (p1 : Int32) (z : MS) : Option (Int32 × MS) := ((o_X3_moves p0 (0 : Int32) p1 (1 : Int32) z).bind fun x_1 => some (x_1.1, x_1.2))
theorem kk_X3_minusDays : pK yX3_minusDays wsX3_minusDays cX3_minusDays 3 (some .int) 2 := ⟨⟨_, rfl⟩, by decide +kernel, by decide +kernel, by decide +kernel⟩
set_option maxRecDepth 100000 in
set_option maxHeartbeats 4000000 in
theorem k_X3_minusDays (l : Launch) (k : Kx) (b : CA) (L : List Nat) (hD : mD k b L) (p0 : Int32) (p1 : Int32) (z : MS) {r : (Int32 × MS)} (hm : o_X3_minusDays p0 p1 z = some r) : mM l k b L yX3_minusDays wsX3_minusDays 7 183 1 3 [.int p0, .int p1] [] z (some (.int r.1)) r.2 := by
  intro sz q
  refine Met.ofW (cc := cX3_minusDays) (maxL := 3) (ret := (some .int)) (by decide) rfl ?_
  intro p e s m args below meth c s₁ B hml hv
  obtain ⟨rfl, rfl, hGx, hV, hLb, hds⟩ := hv
  have hx := B.exec
  have hb := B.bytes
  have hr := B.returns
  have hts := atoms_spec (ws := wsX3_minusDays) B.pre
  have hown : s.vm.findClass RX3 = some m.cls := findClass_of_methodNamed B.named
  have hlocks := B.notSynchronized
  have htg : ∀ w ∈ GL, w.before _ s = true := fun w h => hts w (List.mem_cons_of_mem _ h)
  have hC : CallFix p m c cX3_minusDays 3 s _ wsX3_minusDays RX3 := ⟨hx, hb, hml, hown, hts⟩
  have hA : ∀ q, s.heap.size ≤ q → cA b s.heap.size q := fun q h => cA.new q h
  have hAB : ∀ q, cA b s.heap.size q → kB k ≤ q := hD.high hGx.2.1
  have hS : mS b s.heap s.heap [] := mS.rf
  have hl := lv_entry ([.ref b.1, .int p0, .int p1]) (n := 3) (Nat.le_of_ble_eq_true rfl)
  rw [lg_entry_eq]
  generalize (lg_sl ([.ref b.1, .int p0, .int p1]) ++ List.replicate (3 - (lg_sl ([.ref b.1, .int p0, .int p1])).length) Slot.unset).toArray = ls at hl ⊢
  have hl : lv_has ls 3 [(0, .ref b.1), (1, .int p0), (2, .int p1)] := hl
  refine lv_aload_n hx hb dX3_minusDays_0 rfl (lv_at hl 0 rfl) ?_
  refine lv_iload_n hx hb dX3_minusDays_1 rfl (lv_at hl 1 rfl) ?_
  refine lv_iconst (v := 0) hx hb dX3_minusDays_2 (by decide) ?_
  refine lv_iload_n hx hb dX3_minusDays_3 rfl (lv_at hl 2 rfl) ?_
  refine lv_iconst (v := 1) hx hb dX3_minusDays_4 (by decide) ?_
  obtain ⟨x_1, hx_1, hm⟩ := Option.bind_eq_some_iff.mp hm
  refine mc_V hC hGx hD (k_X3_moves l k b L hD p0 (0 : Int32) p1 (1 : Int32)  z hx_1) (gV w_1144 w_1145 w_20 w_27 w_1146) kk_X3_moves rfl (List.forall_mem_nil _) hLb ⟨Nat.le_of_ble_eq_true rfl, Nat.le_of_ble_eq_true rfl⟩ ⟨Nat.le_of_ble_eq_true rfl, Nat.le_of_ble_eq_true rfl⟩ hV hS hl.1 rfl rfl (Nat.le_of_ble_eq_true rfl) dX3_minusDays_5 (fun q_1 H locs hV hS hz hq => ?_)
  exact m_iret hx hb hr hlocks (Option.some.inj hm) hV hS ⟨Nat.le_of_ble_eq_true rfl, Nat.le_of_ble_eq_true rfl⟩ dX3_minusDays_8
def o_X3_minusWeeks (p0 : Int32) (p1 : Int32) (z : MS) : Option (Int32 × MS) := ((o_X3_moves p0 (1 : Int32) p1 (1 : Int32) z).bind fun x_1 => some (x_1.1, x_1.2))
theorem kk_X3_minusWeeks : pK yX3_minusWeeks wsX3_minusWeeks cX3_minusWeeks 3 (some .int) 2 := ⟨⟨_, rfl⟩, by decide +kernel, by decide +kernel, by decide +kernel⟩
set_option maxRecDepth 100000 in
set_option maxHeartbeats 4000000 in
theorem k_X3_minusWeeks (l : Launch) (k : Kx) (b : CA) (L : List Nat) (hD : mD k b L) (p0 : Int32) (p1 : Int32) (z : MS) {r : (Int32 × MS)} (hm : o_X3_minusWeeks p0 p1 z = some r) : mM l k b L yX3_minusWeeks wsX3_minusWeeks 7 183 1 3 [.int p0, .int p1] [] z (some (.int r.1)) r.2 := by
  intro sz q
  refine Met.ofW (cc := cX3_minusWeeks) (maxL := 3) (ret := (some .int)) (by decide) rfl ?_
  intro p e s m args below meth c s₁ B hml hv
  obtain ⟨rfl, rfl, hGx, hV, hLb, hds⟩ := hv
  have hx := B.exec
  have hb := B.bytes
  have hr := B.returns
  have hts := atoms_spec (ws := wsX3_minusWeeks) B.pre
  have hown : s.vm.findClass RX3 = some m.cls := findClass_of_methodNamed B.named
  have hlocks := B.notSynchronized
  have htg : ∀ w ∈ GL, w.before _ s = true := fun w h => hts w (List.mem_cons_of_mem _ h)
  have hC : CallFix p m c cX3_minusWeeks 3 s _ wsX3_minusWeeks RX3 := ⟨hx, hb, hml, hown, hts⟩
  have hA : ∀ q, s.heap.size ≤ q → cA b s.heap.size q := fun q h => cA.new q h
  have hAB : ∀ q, cA b s.heap.size q → kB k ≤ q := hD.high hGx.2.1
  have hS : mS b s.heap s.heap [] := mS.rf
  have hl := lv_entry ([.ref b.1, .int p0, .int p1]) (n := 3) (Nat.le_of_ble_eq_true rfl)
  rw [lg_entry_eq]
  generalize (lg_sl ([.ref b.1, .int p0, .int p1]) ++ List.replicate (3 - (lg_sl ([.ref b.1, .int p0, .int p1])).length) Slot.unset).toArray = ls at hl ⊢
  have hl : lv_has ls 3 [(0, .ref b.1), (1, .int p0), (2, .int p1)] := hl
  refine lv_aload_n hx hb dX3_minusWeeks_0 rfl (lv_at hl 0 rfl) ?_
  refine lv_iload_n hx hb dX3_minusWeeks_1 rfl (lv_at hl 1 rfl) ?_
  refine lv_iconst (v := 1) hx hb dX3_minusWeeks_2 (by decide) ?_
  refine lv_iload_n hx hb dX3_minusWeeks_3 rfl (lv_at hl 2 rfl) ?_
  refine lv_iconst (v := 1) hx hb dX3_minusWeeks_4 (by decide) ?_
  obtain ⟨x_1, hx_1, hm⟩ := Option.bind_eq_some_iff.mp hm
  refine mc_V hC hGx hD (k_X3_moves l k b L hD p0 (1 : Int32) p1 (1 : Int32)  z hx_1) (gV w_1144 w_1145 w_20 w_27 w_1146) kk_X3_moves rfl (List.forall_mem_nil _) hLb ⟨Nat.le_of_ble_eq_true rfl, Nat.le_of_ble_eq_true rfl⟩ ⟨Nat.le_of_ble_eq_true rfl, Nat.le_of_ble_eq_true rfl⟩ hV hS hl.1 rfl rfl (Nat.le_of_ble_eq_true rfl) dX3_minusWeeks_5 (fun q_1 H locs hV hS hz hq => ?_)
  exact m_iret hx hb hr hlocks (Option.some.inj hm) hV hS ⟨Nat.le_of_ble_eq_true rfl, Nat.le_of_ble_eq_true rfl⟩ dX3_minusWeeks_8
def o_X3_minusMonths (p0 : Int32) (p1 : Int32) (z : MS) : Option (Int32 × MS) := ((o_X3_moves p0 (2 : Int32) p1 (1 : Int32) z).bind fun x_1 => some (x_1.1, x_1.2))
theorem kk_X3_minusMonths : pK yX3_minusMonths wsX3_minusMonths cX3_minusMonths 3 (some .int) 2 := ⟨⟨_, rfl⟩, by decide +kernel, by decide +kernel, by decide +kernel⟩
set_option maxRecDepth 100000 in
set_option maxHeartbeats 4000000 in
theorem k_X3_minusMonths (l : Launch) (k : Kx) (b : CA) (L : List Nat) (hD : mD k b L) (p0 : Int32) (p1 : Int32) (z : MS) {r : (Int32 × MS)} (hm : o_X3_minusMonths p0 p1 z = some r) : mM l k b L yX3_minusMonths wsX3_minusMonths 7 183 1 3 [.int p0, .int p1] [] z (some (.int r.1)) r.2 := by
  intro sz q
  refine Met.ofW (cc := cX3_minusMonths) (maxL := 3) (ret := (some .int)) (by decide) rfl ?_
  intro p e s m args below meth c s₁ B hml hv
  obtain ⟨rfl, rfl, hGx, hV, hLb, hds⟩ := hv
  have hx := B.exec
  have hb := B.bytes
  have hr := B.returns
  have hts := atoms_spec (ws := wsX3_minusMonths) B.pre
  have hown : s.vm.findClass RX3 = some m.cls := findClass_of_methodNamed B.named
  have hlocks := B.notSynchronized
  have htg : ∀ w ∈ GL, w.before _ s = true := fun w h => hts w (List.mem_cons_of_mem _ h)
  have hC : CallFix p m c cX3_minusMonths 3 s _ wsX3_minusMonths RX3 := ⟨hx, hb, hml, hown, hts⟩
  have hA : ∀ q, s.heap.size ≤ q → cA b s.heap.size q := fun q h => cA.new q h
  have hAB : ∀ q, cA b s.heap.size q → kB k ≤ q := hD.high hGx.2.1
  have hS : mS b s.heap s.heap [] := mS.rf
  have hl := lv_entry ([.ref b.1, .int p0, .int p1]) (n := 3) (Nat.le_of_ble_eq_true rfl)
  rw [lg_entry_eq]
  generalize (lg_sl ([.ref b.1, .int p0, .int p1]) ++ List.replicate (3 - (lg_sl ([.ref b.1, .int p0, .int p1])).length) Slot.unset).toArray = ls at hl ⊢
  have hl : lv_has ls 3 [(0, .ref b.1), (1, .int p0), (2, .int p1)] := hl
  refine lv_aload_n hx hb dX3_minusMonths_0 rfl (lv_at hl 0 rfl) ?_
  refine lv_iload_n hx hb dX3_minusMonths_1 rfl (lv_at hl 1 rfl) ?_
  refine lv_iconst (v := 2) hx hb dX3_minusMonths_2 (by decide) ?_
  refine lv_iload_n hx hb dX3_minusMonths_3 rfl (lv_at hl 2 rfl) ?_
  refine lv_iconst (v := 1) hx hb dX3_minusMonths_4 (by decide) ?_
  obtain ⟨x_1, hx_1, hm⟩ := Option.bind_eq_some_iff.mp hm
  refine mc_V hC hGx hD (k_X3_moves l k b L hD p0 (2 : Int32) p1 (1 : Int32)  z hx_1) (gV w_1144 w_1145 w_20 w_27 w_1146) kk_X3_moves rfl (List.forall_mem_nil _) hLb ⟨Nat.le_of_ble_eq_true rfl, Nat.le_of_ble_eq_true rfl⟩ ⟨Nat.le_of_ble_eq_true rfl, Nat.le_of_ble_eq_true rfl⟩ hV hS hl.1 rfl rfl (Nat.le_of_ble_eq_true rfl) dX3_minusMonths_5 (fun q_1 H locs hV hS hz hq => ?_)
  exact m_iret hx hb hr hlocks (Option.some.inj hm) hV hS ⟨Nat.le_of_ble_eq_true rfl, Nat.le_of_ble_eq_true rfl⟩ dX3_minusMonths_8
def o_X3_minusYears (p0 : Int32) (p1 : Int32) (z : MS) : Option (Int32 × MS) := ((o_X3_moves p0 (3 : Int32) p1 (1 : Int32) z).bind fun x_1 => some (x_1.1, x_1.2))
theorem kk_X3_minusYears : pK yX3_minusYears wsX3_minusYears cX3_minusYears 3 (some .int) 2 := ⟨⟨_, rfl⟩, by decide +kernel, by decide +kernel, by decide +kernel⟩
set_option maxRecDepth 100000 in
set_option maxHeartbeats 4000000 in
theorem k_X3_minusYears (l : Launch) (k : Kx) (b : CA) (L : List Nat) (hD : mD k b L) (p0 : Int32) (p1 : Int32) (z : MS) {r : (Int32 × MS)} (hm : o_X3_minusYears p0 p1 z = some r) : mM l k b L yX3_minusYears wsX3_minusYears 7 183 1 3 [.int p0, .int p1] [] z (some (.int r.1)) r.2 := by
  intro sz q
  refine Met.ofW (cc := cX3_minusYears) (maxL := 3) (ret := (some .int)) (by decide) rfl ?_
  intro p e s m args below meth c s₁ B hml hv
  obtain ⟨rfl, rfl, hGx, hV, hLb, hds⟩ := hv
  have hx := B.exec
  have hb := B.bytes
  have hr := B.returns
  have hts := atoms_spec (ws := wsX3_minusYears) B.pre
  have hown : s.vm.findClass RX3 = some m.cls := findClass_of_methodNamed B.named
  have hlocks := B.notSynchronized
  have htg : ∀ w ∈ GL, w.before _ s = true := fun w h => hts w (List.mem_cons_of_mem _ h)
  have hC : CallFix p m c cX3_minusYears 3 s _ wsX3_minusYears RX3 := ⟨hx, hb, hml, hown, hts⟩
  have hA : ∀ q, s.heap.size ≤ q → cA b s.heap.size q := fun q h => cA.new q h
  have hAB : ∀ q, cA b s.heap.size q → kB k ≤ q := hD.high hGx.2.1
  have hS : mS b s.heap s.heap [] := mS.rf
  have hl := lv_entry ([.ref b.1, .int p0, .int p1]) (n := 3) (Nat.le_of_ble_eq_true rfl)
  rw [lg_entry_eq]
  generalize (lg_sl ([.ref b.1, .int p0, .int p1]) ++ List.replicate (3 - (lg_sl ([.ref b.1, .int p0, .int p1])).length) Slot.unset).toArray = ls at hl ⊢
  have hl : lv_has ls 3 [(0, .ref b.1), (1, .int p0), (2, .int p1)] := hl
  refine lv_aload_n hx hb dX3_minusYears_0 rfl (lv_at hl 0 rfl) ?_
  refine lv_iload_n hx hb dX3_minusYears_1 rfl (lv_at hl 1 rfl) ?_
  refine lv_iconst (v := 3) hx hb dX3_minusYears_2 (by decide) ?_
  refine lv_iload_n hx hb dX3_minusYears_3 rfl (lv_at hl 2 rfl) ?_
  refine lv_iconst (v := 1) hx hb dX3_minusYears_4 (by decide) ?_
  obtain ⟨x_1, hx_1, hm⟩ := Option.bind_eq_some_iff.mp hm
  refine mc_V hC hGx hD (k_X3_moves l k b L hD p0 (3 : Int32) p1 (1 : Int32)  z hx_1) (gV w_1144 w_1145 w_20 w_27 w_1146) kk_X3_moves rfl (List.forall_mem_nil _) hLb ⟨Nat.le_of_ble_eq_true rfl, Nat.le_of_ble_eq_true rfl⟩ ⟨Nat.le_of_ble_eq_true rfl, Nat.le_of_ble_eq_true rfl⟩ hV hS hl.1 rfl rfl (Nat.le_of_ble_eq_true rfl) dX3_minusYears_5 (fun q_1 H locs hV hS hz hq => ?_)
  exact m_iret hx hb hr hlocks (Option.some.inj hm) hV hS ⟨Nat.le_of_ble_eq_true rfl, Nat.le_of_ble_eq_true rfl⟩ dX3_minusYears_8
def o_X3_span (p0 : Int32) (p1 : Int32) (p2 : Int32) (p3 : Int32) (z : MS) : Option (Int32 × MS) := (if m_X3_isNumber p1 = 0 then ((o_X3_fails (m_X3_isNoSpan p0) (1 : Int32) (0 : Int32) z).bind fun x_1 => (if x_1.1 = 0 then ((o_X3_tells p0 p1 p2 p3 x_1.2).bind fun x_2 => some (((12 : Int32) * p1) + p2, x_2.2)) else some ((0 : Int32), x_1.2))) else (if m_X3_isNumber p2 = 0 then ((o_X3_fails (m_X3_isNoSpan p0) (1 : Int32) (0 : Int32) z).bind fun x_3 => (if x_3.1 = 0 then ((o_X3_tells p0 p1 p2 p3 x_3.2).bind fun x_4 => some (((12 : Int32) * p1) + p2, x_4.2)) else some ((0 : Int32), x_3.2))) else (if m_X3_isNumber p3 = 0 then ((o_X3_fails (m_X3_isNoSpan p0) (1 : Int32) (0 : Int32) z).bind fun x_7 => (if x_7.1 = 0 then ((o_X3_tells p0 p1 p2 p3 x_7.2).bind fun x_8 => some (((12 : Int32) * p1) + p2, x_8.2)) else some ((0 : Int32), x_7.2))) else ((o_X3_fails (m_X3_isNoSpan p0) (0 : Int32) (0 : Int32) z).bind fun x_5 => (if x_5.1 = 0 then ((o_X3_tells p0 p1 p2 p3 x_5.2).bind fun x_6 => some (((12 : Int32) * p1) + p2, x_6.2)) else some ((0 : Int32), x_5.2))))))
theorem kk_X3_span : pK yX3_span wsX3_span cX3_span 5 (some .int) 4 := ⟨⟨_, rfl⟩, by decide +kernel, by decide +kernel, by decide +kernel⟩
set_option maxRecDepth 100000 in
set_option maxHeartbeats 4000000 in
theorem k_X3_span (l : Launch) (k : Kx) (b : CA) (L : List Nat) (hD : mD k b L) (p0 : Int32) (p1 : Int32) (p2 : Int32) (p3 : Int32) (z : MS) {r : (Int32 × MS)} (hm : o_X3_span p0 p1 p2 p3 z = some r) : mM l k b L yX3_span wsX3_span 2 45 0 0 [.int p0, .int p1, .int p2, .int p3] [] z (some (.int r.1)) r.2 := by
  intro sz q
  refine Met.ofW (cc := cX3_span) (maxL := 5) (ret := (some .int)) (by decide) rfl ?_
  intro p e s m args below meth c s₁ B hml hv
  obtain ⟨rfl, rfl, hGx, hV, hLb, hds⟩ := hv
  have hx := B.exec
  have hb := B.bytes
  have hr := B.returns
  have hts := atoms_spec (ws := wsX3_span) B.pre
  have hown : s.vm.findClass RX3 = some m.cls := findClass_of_methodNamed B.named
  have hlocks := B.notSynchronized
  have htg : ∀ w ∈ GL, w.before _ s = true := fun w h => hts w (List.mem_cons_of_mem _ h)
  have hC : CallFix p m c cX3_span 5 s _ wsX3_span RX3 := ⟨hx, hb, hml, hown, hts⟩
  have hA : ∀ q, s.heap.size ≤ q → cA b s.heap.size q := fun q h => cA.new q h
  have hAB : ∀ q, cA b s.heap.size q → kB k ≤ q := hD.high hGx.2.1
  have hS : mS b s.heap s.heap [] := mS.rf
  have hl := lv_entry ([.ref b.1, .int p0, .int p1, .int p2, .int p3]) (n := 5) (Nat.le_of_ble_eq_true rfl)
  rw [lg_entry_eq]
  generalize (lg_sl ([.ref b.1, .int p0, .int p1, .int p2, .int p3]) ++ List.replicate (5 - (lg_sl ([.ref b.1, .int p0, .int p1, .int p2, .int p3])).length) Slot.unset).toArray = ls at hl ⊢
  have hl : lv_has ls 5 [(0, .ref b.1), (1, .int p0), (2, .int p1), (3, .int p2), (4, .int p3)] := hl
  refine lv_aload_n hx hb dX3_span_0 rfl (lv_at hl 0 rfl) ?_
  refine lv_iload_n hx hb dX3_span_1 rfl (lv_at hl 1 rfl) ?_
  refine pc_S hC (c_X3_isNoSpan l p0) (gS w_1197 w_1198 w_27 w_1199) kk_X3_isNoSpan ⟨Nat.le_of_ble_eq_true rfl, Nat.le_of_ble_eq_true rfl⟩ ⟨Nat.le_of_ble_eq_true rfl, Nat.le_of_ble_eq_true rfl⟩ hl.1 rfl rfl (Nat.le_of_ble_eq_true rfl) dX3_span_2 ?_
  refine lv_iload_n hx hb dX3_span_5 rfl (lv_at hl 2 rfl) ?_
  refine pc_S hC (c_X3_isNumber l p1) (gS w_1200 w_1201 w_27 w_1202) kk_X3_isNumber ⟨Nat.le_of_ble_eq_true rfl, Nat.le_of_ble_eq_true rfl⟩ ⟨Nat.le_of_ble_eq_true rfl, Nat.le_of_ble_eq_true rfl⟩ hl.1 rfl rfl (Nat.le_of_ble_eq_true rfl) dX3_span_6 ?_
  refine lv_if_eq (tgt := 27) hx hb dX3_span_9 (by decide) (fun h_1 => ?_) (fun h_1 => ?_)
  · have hm := (if_pos h_1).symm.trans hm
    refine lv_iconst (v := 1) hx hb dX3_span_27 (by decide) ?_
    refine lv_goto (tgt := 32) hx hb dX3_span_28 (by decide) ?_
    refine lv_iconst (v := 0) hx hb dX3_span_32 (by decide) ?_
    obtain ⟨x_1, hx_1, hm⟩ := Option.bind_eq_some_iff.mp hm
    refine mc_V hC hGx hD (k_X3_fails l k b L hD (m_X3_isNoSpan p0) (1 : Int32) (0 : Int32)  z hx_1) (gV w_1056 w_1057 w_18 w_27 w_1058) kk_X3_fails rfl (List.forall_mem_nil _) hLb ⟨Nat.le_of_ble_eq_true rfl, Nat.le_of_ble_eq_true rfl⟩ ⟨Nat.le_of_ble_eq_true rfl, Nat.le_of_ble_eq_true rfl⟩ hV hS hl.1 rfl rfl (Nat.le_of_ble_eq_true rfl) dX3_span_33 (fun q_1 H locs hV hS hz hq => ?_)
    refine lv_if_eq (tgt := 41) hx hb dX3_span_36 (by decide) (fun h_2 => ?_) (fun h_2 => ?_)
    · have hm := (if_pos h_2).symm.trans hm
      refine lv_aload_n hx hb dX3_span_41 rfl (lv_at hl 0 rfl) ?_
      refine lv_iload_n hx hb dX3_span_42 rfl (lv_at hl 1 rfl) ?_
      refine lv_iload_n hx hb dX3_span_43 rfl (lv_at hl 2 rfl) ?_
      refine lv_iload_n hx hb dX3_span_44 rfl (lv_at hl 3 rfl) ?_
      refine lv_iload hx hb dX3_span_45 (lv_at hl 4 rfl) ?_
      obtain ⟨x_2, hx_2, hm⟩ := Option.bind_eq_some_iff.mp hm
      refine mc_V hC hGx hD (k_X3_tells l k b L hD p0 p1 p2 p3  x_1.2 hx_2) (gV w_1205 w_1206 w_21 w_27 w_1207) kk_X3_tells rfl (List.forall_mem_nil _) hLb ⟨Nat.le_of_ble_eq_true rfl, Nat.le_of_ble_eq_true rfl⟩ ⟨Nat.le_of_ble_eq_true rfl, Nat.le_of_ble_eq_true rfl⟩ hV hS hl.1 rfl rfl (Nat.le_of_ble_eq_true rfl) dX3_span_47 (fun q_2 H locs hV hS hz hq => ?_)
      refine lv_pop hx hb dX3_span_50 rfl ?_
      refine lv_bipush (v := 12) hx hb dX3_span_51 (by decide) ?_
      refine lv_iload_n hx hb dX3_span_53 rfl (lv_at hl 2 rfl) ?_
      refine lv_imul hx hb dX3_span_54 ?_
      refine lv_iload_n hx hb dX3_span_55 rfl (lv_at hl 3 rfl) ?_
      refine lv_iadd hx hb dX3_span_56 ?_
      exact m_iret hx hb hr hlocks (Option.some.inj hm) hV hS ⟨Nat.le_of_ble_eq_true rfl, Nat.le_of_ble_eq_true rfl⟩ dX3_span_57
    · have hm := (if_neg h_2).symm.trans hm
      refine lv_iconst (v := 0) hx hb dX3_span_39 (by decide) ?_
      exact m_iret hx hb hr hlocks (Option.some.inj hm) hV hS ⟨Nat.le_of_ble_eq_true rfl, Nat.le_of_ble_eq_true rfl⟩ dX3_span_40
  · have hm := (if_neg h_1).symm.trans hm
    refine lv_iload_n hx hb dX3_span_12 rfl (lv_at hl 3 rfl) ?_
    refine pc_S hC (c_X3_isNumber l p2) (gS w_1200 w_1201 w_27 w_1202) kk_X3_isNumber ⟨Nat.le_of_ble_eq_true rfl, Nat.le_of_ble_eq_true rfl⟩ ⟨Nat.le_of_ble_eq_true rfl, Nat.le_of_ble_eq_true rfl⟩ hl.1 rfl rfl (Nat.le_of_ble_eq_true rfl) dX3_span_13 ?_
    refine lv_if_eq (tgt := 27) hx hb dX3_span_16 (by decide) (fun h_3 => ?_) (fun h_3 => ?_)
    · have hm := (if_pos h_3).symm.trans hm
      refine lv_iconst (v := 1) hx hb dX3_span_27 (by decide) ?_
      refine lv_goto (tgt := 32) hx hb dX3_span_28 (by decide) ?_
      refine lv_iconst (v := 0) hx hb dX3_span_32 (by decide) ?_
      obtain ⟨x_3, hx_3, hm⟩ := Option.bind_eq_some_iff.mp hm
      refine mc_V hC hGx hD (k_X3_fails l k b L hD (m_X3_isNoSpan p0) (1 : Int32) (0 : Int32)  z hx_3) (gV w_1056 w_1057 w_18 w_27 w_1058) kk_X3_fails rfl (List.forall_mem_nil _) hLb ⟨Nat.le_of_ble_eq_true rfl, Nat.le_of_ble_eq_true rfl⟩ ⟨Nat.le_of_ble_eq_true rfl, Nat.le_of_ble_eq_true rfl⟩ hV hS hl.1 rfl rfl (Nat.le_of_ble_eq_true rfl) dX3_span_33 (fun q_3 H locs hV hS hz hq => ?_)
      refine lv_if_eq (tgt := 41) hx hb dX3_span_36 (by decide) (fun h_4 => ?_) (fun h_4 => ?_)
      · have hm := (if_pos h_4).symm.trans hm
        refine lv_aload_n hx hb dX3_span_41 rfl (lv_at hl 0 rfl) ?_
        refine lv_iload_n hx hb dX3_span_42 rfl (lv_at hl 1 rfl) ?_
        refine lv_iload_n hx hb dX3_span_43 rfl (lv_at hl 2 rfl) ?_
        refine lv_iload_n hx hb dX3_span_44 rfl (lv_at hl 3 rfl) ?_
        refine lv_iload hx hb dX3_span_45 (lv_at hl 4 rfl) ?_
        obtain ⟨x_4, hx_4, hm⟩ := Option.bind_eq_some_iff.mp hm
        refine mc_V hC hGx hD (k_X3_tells l k b L hD p0 p1 p2 p3  x_3.2 hx_4) (gV w_1205 w_1206 w_21 w_27 w_1207) kk_X3_tells rfl (List.forall_mem_nil _) hLb ⟨Nat.le_of_ble_eq_true rfl, Nat.le_of_ble_eq_true rfl⟩ ⟨Nat.le_of_ble_eq_true rfl, Nat.le_of_ble_eq_true rfl⟩ hV hS hl.1 rfl rfl (Nat.le_of_ble_eq_true rfl) dX3_span_47 (fun q_4 H locs hV hS hz hq => ?_)
        refine lv_pop hx hb dX3_span_50 rfl ?_
        refine lv_bipush (v := 12) hx hb dX3_span_51 (by decide) ?_
        refine lv_iload_n hx hb dX3_span_53 rfl (lv_at hl 2 rfl) ?_
        refine lv_imul hx hb dX3_span_54 ?_
        refine lv_iload_n hx hb dX3_span_55 rfl (lv_at hl 3 rfl) ?_
        refine lv_iadd hx hb dX3_span_56 ?_
        exact m_iret hx hb hr hlocks (Option.some.inj hm) hV hS ⟨Nat.le_of_ble_eq_true rfl, Nat.le_of_ble_eq_true rfl⟩ dX3_span_57
      · have hm := (if_neg h_4).symm.trans hm
        refine lv_iconst (v := 0) hx hb dX3_span_39 (by decide) ?_
        exact m_iret hx hb hr hlocks (Option.some.inj hm) hV hS ⟨Nat.le_of_ble_eq_true rfl, Nat.le_of_ble_eq_true rfl⟩ dX3_span_40
    · have hm := (if_neg h_3).symm.trans hm
      refine lv_iload hx hb dX3_span_19 (lv_at hl 4 rfl) ?_
      refine pc_S hC (c_X3_isNumber l p3) (gS w_1200 w_1201 w_27 w_1202) kk_X3_isNumber ⟨Nat.le_of_ble_eq_true rfl, Nat.le_of_ble_eq_true rfl⟩ ⟨Nat.le_of_ble_eq_true rfl, Nat.le_of_ble_eq_true rfl⟩ hl.1 rfl rfl (Nat.le_of_ble_eq_true rfl) dX3_span_21 ?_
      refine lv_if_ne (tgt := 31) hx hb dX3_span_24 (by decide) (fun h_5 => ?_) (fun h_5 => ?_)
      · have hm := (if_neg h_5).symm.trans hm
        refine lv_iconst (v := 0) hx hb dX3_span_31 (by decide) ?_
        refine lv_iconst (v := 0) hx hb dX3_span_32 (by decide) ?_
        obtain ⟨x_5, hx_5, hm⟩ := Option.bind_eq_some_iff.mp hm
        refine mc_V hC hGx hD (k_X3_fails l k b L hD (m_X3_isNoSpan p0) (0 : Int32) (0 : Int32)  z hx_5) (gV w_1056 w_1057 w_18 w_27 w_1058) kk_X3_fails rfl (List.forall_mem_nil _) hLb ⟨Nat.le_of_ble_eq_true rfl, Nat.le_of_ble_eq_true rfl⟩ ⟨Nat.le_of_ble_eq_true rfl, Nat.le_of_ble_eq_true rfl⟩ hV hS hl.1 rfl rfl (Nat.le_of_ble_eq_true rfl) dX3_span_33 (fun q_5 H locs hV hS hz hq => ?_)
        refine lv_if_eq (tgt := 41) hx hb dX3_span_36 (by decide) (fun h_6 => ?_) (fun h_6 => ?_)
        · have hm := (if_pos h_6).symm.trans hm
          refine lv_aload_n hx hb dX3_span_41 rfl (lv_at hl 0 rfl) ?_
          refine lv_iload_n hx hb dX3_span_42 rfl (lv_at hl 1 rfl) ?_
          refine lv_iload_n hx hb dX3_span_43 rfl (lv_at hl 2 rfl) ?_
          refine lv_iload_n hx hb dX3_span_44 rfl (lv_at hl 3 rfl) ?_
          refine lv_iload hx hb dX3_span_45 (lv_at hl 4 rfl) ?_
          obtain ⟨x_6, hx_6, hm⟩ := Option.bind_eq_some_iff.mp hm
          refine mc_V hC hGx hD (k_X3_tells l k b L hD p0 p1 p2 p3  x_5.2 hx_6) (gV w_1205 w_1206 w_21 w_27 w_1207) kk_X3_tells rfl (List.forall_mem_nil _) hLb ⟨Nat.le_of_ble_eq_true rfl, Nat.le_of_ble_eq_true rfl⟩ ⟨Nat.le_of_ble_eq_true rfl, Nat.le_of_ble_eq_true rfl⟩ hV hS hl.1 rfl rfl (Nat.le_of_ble_eq_true rfl) dX3_span_47 (fun q_6 H locs hV hS hz hq => ?_)
          refine lv_pop hx hb dX3_span_50 rfl ?_
          refine lv_bipush (v := 12) hx hb dX3_span_51 (by decide) ?_
          refine lv_iload_n hx hb dX3_span_53 rfl (lv_at hl 2 rfl) ?_
          refine lv_imul hx hb dX3_span_54 ?_
          refine lv_iload_n hx hb dX3_span_55 rfl (lv_at hl 3 rfl) ?_
          refine lv_iadd hx hb dX3_span_56 ?_
          exact m_iret hx hb hr hlocks (Option.some.inj hm) hV hS ⟨Nat.le_of_ble_eq_true rfl, Nat.le_of_ble_eq_true rfl⟩ dX3_span_57
        · have hm := (if_neg h_6).symm.trans hm
          refine lv_iconst (v := 0) hx hb dX3_span_39 (by decide) ?_
          exact m_iret hx hb hr hlocks (Option.some.inj hm) hV hS ⟨Nat.le_of_ble_eq_true rfl, Nat.le_of_ble_eq_true rfl⟩ dX3_span_40
      · have hm := (if_pos h_5).symm.trans hm
        refine lv_iconst (v := 1) hx hb dX3_span_27 (by decide) ?_
        refine lv_goto (tgt := 32) hx hb dX3_span_28 (by decide) ?_
        refine lv_iconst (v := 0) hx hb dX3_span_32 (by decide) ?_
        obtain ⟨x_7, hx_7, hm⟩ := Option.bind_eq_some_iff.mp hm
        refine mc_V hC hGx hD (k_X3_fails l k b L hD (m_X3_isNoSpan p0) (1 : Int32) (0 : Int32)  z hx_7) (gV w_1056 w_1057 w_18 w_27 w_1058) kk_X3_fails rfl (List.forall_mem_nil _) hLb ⟨Nat.le_of_ble_eq_true rfl, Nat.le_of_ble_eq_true rfl⟩ ⟨Nat.le_of_ble_eq_true rfl, Nat.le_of_ble_eq_true rfl⟩ hV hS hl.1 rfl rfl (Nat.le_of_ble_eq_true rfl) dX3_span_33 (fun q_7 H locs hV hS hz hq => ?_)
        refine lv_if_eq (tgt := 41) hx hb dX3_span_36 (by decide) (fun h_7 => ?_) (fun h_7 => ?_)
        · have hm := (if_pos h_7).symm.trans hm
          refine lv_aload_n hx hb dX3_span_41 rfl (lv_at hl 0 rfl) ?_
          refine lv_iload_n hx hb dX3_span_42 rfl (lv_at hl 1 rfl) ?_
          refine lv_iload_n hx hb dX3_span_43 rfl (lv_at hl 2 rfl) ?_
          refine lv_iload_n hx hb dX3_span_44 rfl (lv_at hl 3 rfl) ?_
          refine lv_iload hx hb dX3_span_45 (lv_at hl 4 rfl) ?_
          obtain ⟨x_8, hx_8, hm⟩ := Option.bind_eq_some_iff.mp hm
          refine mc_V hC hGx hD (k_X3_tells l k b L hD p0 p1 p2 p3  x_7.2 hx_8) (gV w_1205 w_1206 w_21 w_27 w_1207) kk_X3_tells rfl (List.forall_mem_nil _) hLb ⟨Nat.le_of_ble_eq_true rfl, Nat.le_of_ble_eq_true rfl⟩ ⟨Nat.le_of_ble_eq_true rfl, Nat.le_of_ble_eq_true rfl⟩ hV hS hl.1 rfl rfl (Nat.le_of_ble_eq_true rfl) dX3_span_47 (fun q_8 H locs hV hS hz hq => ?_)
          refine lv_pop hx hb dX3_span_50 rfl ?_
          refine lv_bipush (v := 12) hx hb dX3_span_51 (by decide) ?_
          refine lv_iload_n hx hb dX3_span_53 rfl (lv_at hl 2 rfl) ?_
          refine lv_imul hx hb dX3_span_54 ?_
          refine lv_iload_n hx hb dX3_span_55 rfl (lv_at hl 3 rfl) ?_
          refine lv_iadd hx hb dX3_span_56 ?_
          exact m_iret hx hb hr hlocks (Option.some.inj hm) hV hS ⟨Nat.le_of_ble_eq_true rfl, Nat.le_of_ble_eq_true rfl⟩ dX3_span_57
        · have hm := (if_neg h_7).symm.trans hm
          refine lv_iconst (v := 0) hx hb dX3_span_39 (by decide) ?_
          exact m_iret hx hb hr hlocks (Option.some.inj hm) hV hS ⟨Nat.le_of_ble_eq_true rfl, Nat.le_of_ble_eq_true rfl⟩ dX3_span_40
def o_X3_until (p0 : Int32) (p1 : Int32) (p2 : Int32) (z : MS) : Option (Int32 × MS) := (if m_X3_isNoSpan p0 = 0 then (if m_X3_isNo p1 = 0 then (if m_X3_isNo p2 = 0 then ((o_X3_fails (0 : Int32) (0 : Int32) (0 : Int32) z).bind fun x_25 => (if x_25.1 = 0 then (if p2 < 0 ∨ 6 ≤ p2.toNatClampNeg then none else (if p1 < 0 ∨ 6 ≤ p1.toNatClampNeg then none else ((o_X3_isAhead (x_25.2.2.1 p2.toNatClampNeg) (x_25.2.2.1 p1.toNatClampNeg)).bind fun x_28 => ((o_X3_fails (0 : Int32) x_28 (0 : Int32) x_25.2).bind fun x_29 => (if x_29.1 = 0 then (if p1 < 0 ∨ 6 ≤ p1.toNatClampNeg then none else (if p2 < 0 ∨ 6 ≤ p2.toNatClampNeg then none else ((o_X3_monthsOf (x_29.2.2.1 p1.toNatClampNeg) (x_29.2.2.1 p2.toNatClampNeg)).bind fun x_32 => (if p1 < 0 ∨ 6 ≤ p1.toNatClampNeg then none else (if p2 < 0 ∨ 6 ≤ p2.toNatClampNeg then none else ((o_X3_daysOf (x_29.2.2.1 p1.toNatClampNeg) (x_29.2.2.1 p2.toNatClampNeg)).bind fun x_35 => ((o_X3_tells p0 (x_32 / (12 : Int32)) (x_32 - x_32 / (12 : Int32) * (12 : Int32)) x_35 x_29.2).bind fun x_36 => some (x_36.1, x_36.2)))))))) else some ((0 : Int32), x_29.2)))))) else some ((0 : Int32), x_25.2))) else ((o_X3_fails (1 : Int32) (0 : Int32) (0 : Int32) z).bind fun x_37 => (if x_37.1 = 0 then (if p2 < 0 ∨ 6 ≤ p2.toNatClampNeg then none else (if p1 < 0 ∨ 6 ≤ p1.toNatClampNeg then none else ((o_X3_isAhead (x_37.2.2.1 p2.toNatClampNeg) (x_37.2.2.1 p1.toNatClampNeg)).bind fun x_40 => ((o_X3_fails (0 : Int32) x_40 (0 : Int32) x_37.2).bind fun x_41 => (if x_41.1 = 0 then (if p1 < 0 ∨ 6 ≤ p1.toNatClampNeg then none else (if p2 < 0 ∨ 6 ≤ p2.toNatClampNeg then none else ((o_X3_monthsOf (x_41.2.2.1 p1.toNatClampNeg) (x_41.2.2.1 p2.toNatClampNeg)).bind fun x_44 => (if p1 < 0 ∨ 6 ≤ p1.toNatClampNeg then none else (if p2 < 0 ∨ 6 ≤ p2.toNatClampNeg then none else ((o_X3_daysOf (x_41.2.2.1 p1.toNatClampNeg) (x_41.2.2.1 p2.toNatClampNeg)).bind fun x_47 => ((o_X3_tells p0 (x_44 / (12 : Int32)) (x_44 - x_44 / (12 : Int32) * (12 : Int32)) x_47 x_41.2).bind fun x_48 => some (x_48.1, x_48.2)))))))) else some ((0 : Int32), x_41.2)))))) else some ((0 : Int32), x_37.2)))) else ((o_X3_fails (1 : Int32) (0 : Int32) (0 : Int32) z).bind fun x_13 => (if x_13.1 = 0 then (if p2 < 0 ∨ 6 ≤ p2.toNatClampNeg then none else (if p1 < 0 ∨ 6 ≤ p1.toNatClampNeg then none else ((o_X3_isAhead (x_13.2.2.1 p2.toNatClampNeg) (x_13.2.2.1 p1.toNatClampNeg)).bind fun x_16 => ((o_X3_fails (0 : Int32) x_16 (0 : Int32) x_13.2).bind fun x_17 => (if x_17.1 = 0 then (if p1 < 0 ∨ 6 ≤ p1.toNatClampNeg then none else (if p2 < 0 ∨ 6 ≤ p2.toNatClampNeg then none else ((o_X3_monthsOf (x_17.2.2.1 p1.toNatClampNeg) (x_17.2.2.1 p2.toNatClampNeg)).bind fun x_20 => (if p1 < 0 ∨ 6 ≤ p1.toNatClampNeg then none else (if p2 < 0 ∨ 6 ≤ p2.toNatClampNeg then none else ((o_X3_daysOf (x_17.2.2.1 p1.toNatClampNeg) (x_17.2.2.1 p2.toNatClampNeg)).bind fun x_23 => ((o_X3_tells p0 (x_20 / (12 : Int32)) (x_20 - x_20 / (12 : Int32) * (12 : Int32)) x_23 x_17.2).bind fun x_24 => some (x_24.1, x_24.2)))))))) else some ((0 : Int32), x_17.2)))))) else some ((0 : Int32), x_13.2)))) else ((o_X3_fails (1 : Int32) (0 : Int32) (0 : Int32) z).bind fun x_1 => (if x_1.1 = 0 then (if p2 < 0 ∨ 6 ≤ p2.toNatClampNeg then none else (if p1 < 0 ∨ 6 ≤ p1.toNatClampNeg then none else ((o_X3_isAhead (x_1.2.2.1 p2.toNatClampNeg) (x_1.2.2.1 p1.toNatClampNeg)).bind fun x_4 => ((o_X3_fails (0 : Int32) x_4 (0 : Int32) x_1.2).bind fun x_5 => (if x_5.1 = 0 then (if p1 < 0 ∨ 6 ≤ p1.toNatClampNeg then none else (if p2 < 0 ∨ 6 ≤ p2.toNatClampNeg then none else ((o_X3_monthsOf (x_5.2.2.1 p1.toNatClampNeg) (x_5.2.2.1 p2.toNatClampNeg)).bind fun x_8 => (if p1 < 0 ∨ 6 ≤ p1.toNatClampNeg then none else (if p2 < 0 ∨ 6 ≤ p2.toNatClampNeg then none else ((o_X3_daysOf (x_5.2.2.1 p1.toNatClampNeg) (x_5.2.2.1 p2.toNatClampNeg)).bind fun x_11 => ((o_X3_tells p0 (x_8 / (12 : Int32)) (x_8 - x_8 / (12 : Int32) * (12 : Int32)) x_11 x_5.2).bind fun x_12 => some (x_12.1, x_12.2)))))))) else some ((0 : Int32), x_5.2)))))) else some ((0 : Int32), x_1.2))))
theorem kk_X3_until : pK yX3_until wsX3_until cX3_until 5 (some .int) 3 := ⟨⟨_, rfl⟩, by decide +kernel, by decide +kernel, by decide +kernel⟩
set_option maxRecDepth 100000 in
set_option maxHeartbeats 4000000 in
theorem k_X3_until (l : Launch) (k : Kx) (b : CA) (L : List Nat) (hD : mD k b L) (p0 : Int32) (p1 : Int32) (p2 : Int32) (z : MS) {r : (Int32 × MS)} (hm : o_X3_until p0 p1 p2 z = some r) : mM l k b L yX3_until wsX3_until 5 133 1 3 [.int p0, .int p1, .int p2] [] z (some (.int r.1)) r.2 := by
  intro sz q
  refine Met.ofW (cc := cX3_until) (maxL := 5) (ret := (some .int)) (by decide) rfl ?_
  intro p e s m args below meth c s₁ B hml hv
  obtain ⟨rfl, rfl, hGx, hV, hLb, hds⟩ := hv
  have hx := B.exec
  have hb := B.bytes
  have hr := B.returns
  have hts := atoms_spec (ws := wsX3_until) B.pre
  have hown : s.vm.findClass RX3 = some m.cls := findClass_of_methodNamed B.named
  have hlocks := B.notSynchronized
  have htg : ∀ w ∈ GL, w.before _ s = true := fun w h => hts w (List.mem_cons_of_mem _ h)
  have hC : CallFix p m c cX3_until 5 s _ wsX3_until RX3 := ⟨hx, hb, hml, hown, hts⟩
  have hA : ∀ q, s.heap.size ≤ q → cA b s.heap.size q := fun q h => cA.new q h
  have hAB : ∀ q, cA b s.heap.size q → kB k ≤ q := hD.high hGx.2.1
  have hS : mS b s.heap s.heap [] := mS.rf
  have hl := lv_entry ([.ref b.1, .int p0, .int p1, .int p2]) (n := 5) (Nat.le_of_ble_eq_true rfl)
  rw [lg_entry_eq]
  generalize (lg_sl ([.ref b.1, .int p0, .int p1, .int p2]) ++ List.replicate (5 - (lg_sl ([.ref b.1, .int p0, .int p1, .int p2])).length) Slot.unset).toArray = ls at hl ⊢
  have hl : lv_has ls 5 [(0, .ref b.1), (1, .int p0), (2, .int p1), (3, .int p2)] := hl
  refine lv_aload_n hx hb dX3_until_0 rfl (lv_at hl 0 rfl) ?_
  refine lv_iload_n hx hb dX3_until_1 rfl (lv_at hl 1 rfl) ?_
  refine pc_S hC (c_X3_isNoSpan l p0) (gS w_1197 w_1198 w_27 w_1199) kk_X3_isNoSpan ⟨Nat.le_of_ble_eq_true rfl, Nat.le_of_ble_eq_true rfl⟩ ⟨Nat.le_of_ble_eq_true rfl, Nat.le_of_ble_eq_true rfl⟩ hl.1 rfl rfl (Nat.le_of_ble_eq_true rfl) dX3_until_2 ?_
  refine lv_if_ne (tgt := 22) hx hb dX3_until_5 (by decide) (fun h_1 => ?_) (fun h_1 => ?_)
  · have hm := (if_neg h_1).symm.trans hm
    refine lv_iconst (v := 1) hx hb dX3_until_22 (by decide) ?_
    refine lv_goto (tgt := 27) hx hb dX3_until_23 (by decide) ?_
    refine lv_iconst (v := 0) hx hb dX3_until_27 (by decide) ?_
    refine lv_iconst (v := 0) hx hb dX3_until_28 (by decide) ?_
    obtain ⟨x_1, hx_1, hm⟩ := Option.bind_eq_some_iff.mp hm
    refine mc_V hC hGx hD (k_X3_fails l k b L hD (1 : Int32) (0 : Int32) (0 : Int32)  z hx_1) (gV w_1056 w_1057 w_18 w_27 w_1058) kk_X3_fails rfl (List.forall_mem_nil _) hLb ⟨Nat.le_of_ble_eq_true rfl, Nat.le_of_ble_eq_true rfl⟩ ⟨Nat.le_of_ble_eq_true rfl, Nat.le_of_ble_eq_true rfl⟩ hV hS hl.1 rfl rfl (Nat.le_of_ble_eq_true rfl) dX3_until_29 (fun q_1 H locs hV hS hz hq => ?_)
    refine lv_if_eq (tgt := 37) hx hb dX3_until_32 (by decide) (fun h_2 => ?_) (fun h_2 => ?_)
    · have hm := (if_pos h_2).symm.trans hm
      refine lv_aload_n hx hb dX3_until_37 rfl (lv_at hl 0 rfl) ?_
      refine lv_iconst (v := 0) hx hb dX3_until_38 (by decide) ?_
      refine lv_aload_n hx hb dX3_until_39 rfl (lv_at hl 0 rfl) ?_
      refine va_get (D := kD k) (ci := 5) (v := .ref b.2.1) (C := RX3) (T := TX3) (N := 5) hx hb htg inG_X3 hown hGx.1 hV.1 0 rfl rfl 1 (by decide) (htg _ w_1012) (fun _ h9 => h9) rfl dX3_until_40 ?_
      refine lv_iload_n hx hb dX3_until_43 rfl (lv_at hl 3 rfl) ?_
      by_cases h_3 : p2 < 0 ∨ 6 ≤ p2.toNatClampNeg
      · have hm := (if_pos h_3).symm.trans hm
        cases hm
      have hm := (if_neg h_3).symm.trans hm
      refine m_ald hx hb hGx hV h_3 dX3_until_44 (fun hP_2 => ?_)
      refine lv_aload_n hx hb dX3_until_45 rfl (lv_at hl 0 rfl) ?_
      refine va_get (D := kD k) (ci := 5) (v := .ref b.2.1) (C := RX3) (T := TX3) (N := 5) hx hb htg inG_X3 hown hGx.1 hV.1 0 rfl rfl 1 (by decide) (htg _ w_1012) (fun _ h9 => h9) rfl dX3_until_46 ?_
      refine lv_iload_n hx hb dX3_until_49 rfl (lv_at hl 2 rfl) ?_
      by_cases h_4 : p1 < 0 ∨ 6 ≤ p1.toNatClampNeg
      · have hm := (if_pos h_4).symm.trans hm
        cases hm
      have hm := (if_neg h_4).symm.trans hm
      refine m_ald hx hb hGx hV h_4 dX3_until_50 (fun hP_3 => ?_)
      obtain ⟨x_4, hx_4, hm⟩ := Option.bind_eq_some_iff.mp hm
      have hs_4 := hS.1.1
      have hLn_4 := m_hLn hLb hS
      have hL9 := hS.2
      refine qc_S hC hGx (k_X3_isAhead l k (x_1.2.2.1 p2.toNatClampNeg) (x_1.2.2.1 p1.toNatClampNeg) (q_1 p2.toNatClampNeg) (q_1 p1.toNatClampNeg) hx_4) (gS w_1212 w_1213 w_27 w_1214) kk_X3_isAhead (List.forall_mem_cons.mpr ⟨hP_2.1, (List.forall_mem_cons.mpr ⟨hP_3.1, (List.forall_mem_nil _)⟩)⟩) ⟨Nat.le_of_ble_eq_true rfl, Nat.le_of_ble_eq_true rfl⟩ ⟨Nat.le_of_ble_eq_true rfl, Nat.le_of_ble_eq_true rfl⟩ hS.1 hA hAB hl.1 rfl rfl (Nat.le_of_ble_eq_true rfl) dX3_until_51 (fun v_4 H hv hz hq hS => ?_)
      have hS : mS b s.heap H _ := ⟨hS, hL9⟩
      have hV := hV.up hq
      have hv : v_4 = some (.int x_4) := hv
      subst hv
      refine lv_iconst (v := 0) hx hb dX3_until_54 (by decide) ?_
      obtain ⟨x_5, hx_5, hm⟩ := Option.bind_eq_some_iff.mp hm
      refine mc_V hC hGx hD (k_X3_fails l k b L hD (0 : Int32) x_4 (0 : Int32)  x_1.2 hx_5) (gV w_1056 w_1057 w_18 w_27 w_1058) kk_X3_fails rfl (List.forall_mem_nil _) hLb ⟨Nat.le_of_ble_eq_true rfl, Nat.le_of_ble_eq_true rfl⟩ ⟨Nat.le_of_ble_eq_true rfl, Nat.le_of_ble_eq_true rfl⟩ hV hS hl.1 rfl rfl (Nat.le_of_ble_eq_true rfl) dX3_until_55 (fun q_5 H locs hV hS hz hq => ?_)
      refine lv_if_eq (tgt := 63) hx hb dX3_until_58 (by decide) (fun h_5 => ?_) (fun h_5 => ?_)
      · have hm := (if_pos h_5).symm.trans hm
        refine lv_aload_n hx hb dX3_until_63 rfl (lv_at hl 0 rfl) ?_
        refine va_get (D := kD k) (ci := 5) (v := .ref b.2.1) (C := RX3) (T := TX3) (N := 5) hx hb htg inG_X3 hown hGx.1 hV.1 0 rfl rfl 1 (by decide) (htg _ w_1012) (fun _ h9 => h9) rfl dX3_until_64 ?_
        refine lv_iload_n hx hb dX3_until_67 rfl (lv_at hl 2 rfl) ?_
        by_cases h_6 : p1 < 0 ∨ 6 ≤ p1.toNatClampNeg
        · have hm := (if_pos h_6).symm.trans hm
          cases hm
        have hm := (if_neg h_6).symm.trans hm
        refine m_ald hx hb hGx hV h_6 dX3_until_68 (fun hP_6 => ?_)
        refine lv_aload_n hx hb dX3_until_69 rfl (lv_at hl 0 rfl) ?_
        refine va_get (D := kD k) (ci := 5) (v := .ref b.2.1) (C := RX3) (T := TX3) (N := 5) hx hb htg inG_X3 hown hGx.1 hV.1 0 rfl rfl 1 (by decide) (htg _ w_1012) (fun _ h9 => h9) rfl dX3_until_70 ?_
        refine lv_iload_n hx hb dX3_until_73 rfl (lv_at hl 3 rfl) ?_
        by_cases h_7 : p2 < 0 ∨ 6 ≤ p2.toNatClampNeg
        · have hm := (if_pos h_7).symm.trans hm
          cases hm
        have hm := (if_neg h_7).symm.trans hm
        refine m_ald hx hb hGx hV h_7 dX3_until_74 (fun hP_7 => ?_)
        obtain ⟨x_8, hx_8, hm⟩ := Option.bind_eq_some_iff.mp hm
        have hs_8 := hS.1.1
        have hLn_8 := m_hLn hLb hS
        have hL9 := hS.2
        refine qc_S hC hGx (k_X3_monthsOf l k (x_5.2.2.1 p1.toNatClampNeg) (x_5.2.2.1 p2.toNatClampNeg) (q_5 p1.toNatClampNeg) (q_5 p2.toNatClampNeg) hx_8) (gS w_1215 w_1216 w_27 w_1217) kk_X3_monthsOf (List.forall_mem_cons.mpr ⟨hP_6.1, (List.forall_mem_cons.mpr ⟨hP_7.1, (List.forall_mem_nil _)⟩)⟩) ⟨Nat.le_of_ble_eq_true rfl, Nat.le_of_ble_eq_true rfl⟩ ⟨Nat.le_of_ble_eq_true rfl, Nat.le_of_ble_eq_true rfl⟩ hS.1 hA hAB hl.1 rfl rfl (Nat.le_of_ble_eq_true rfl) dX3_until_75 (fun v_8 H hv hz hq hS => ?_)
        have hS : mS b s.heap H _ := ⟨hS, hL9⟩
        have hV := hV.up hq
        have hv : v_8 = some (.int x_8) := hv
        subst hv
        refine lv_istore (lv' := [(4, .int x_8), (0, .ref b.1), (1, .int p0), (2, .int p1), (3, .int p2)]) hx hb dX3_until_78 hl (by decide) rfl (fun ls hl => ?_)
        refine lv_aload_n hx hb dX3_until_80 rfl (lv_at hl 1 rfl) ?_
        refine lv_iload_n hx hb dX3_until_81 rfl (lv_at hl 2 rfl) ?_
        refine lv_iload hx hb dX3_until_82 (lv_at hl 0 rfl) ?_
        refine lv_bipush (v := 12) hx hb dX3_until_84 (by decide) ?_
        refine lv_idiv hx hb dX3_until_86 (by decide) ?_
        refine lv_iload hx hb dX3_until_87 (lv_at hl 0 rfl) ?_
        refine lv_bipush (v := 12) hx hb dX3_until_89 (by decide) ?_
        refine lv_irem hx hb dX3_until_91 (by decide) ?_
        refine lv_aload_n hx hb dX3_until_92 rfl (lv_at hl 1 rfl) ?_
        refine va_get (D := kD k) (ci := 5) (v := .ref b.2.1) (C := RX3) (T := TX3) (N := 5) hx hb htg inG_X3 hown hGx.1 hV.1 0 rfl rfl 1 (by decide) (htg _ w_1012) (fun _ h9 => h9) rfl dX3_until_93 ?_
        refine lv_iload_n hx hb dX3_until_96 rfl (lv_at hl 3 rfl) ?_
        by_cases h_8 : p1 < 0 ∨ 6 ≤ p1.toNatClampNeg
        · have hm := (if_pos h_8).symm.trans hm
          cases hm
        have hm := (if_neg h_8).symm.trans hm
        refine m_ald hx hb hGx hV h_8 dX3_until_97 (fun hP_9 => ?_)
        refine lv_aload_n hx hb dX3_until_98 rfl (lv_at hl 1 rfl) ?_
        refine va_get (D := kD k) (ci := 5) (v := .ref b.2.1) (C := RX3) (T := TX3) (N := 5) hx hb htg inG_X3 hown hGx.1 hV.1 0 rfl rfl 1 (by decide) (htg _ w_1012) (fun _ h9 => h9) rfl dX3_until_99 ?_
        refine lv_iload_n hx hb dX3_until_102 rfl (lv_at hl 4 rfl) ?_
        by_cases h_9 : p2 < 0 ∨ 6 ≤ p2.toNatClampNeg
        · have hm := (if_pos h_9).symm.trans hm
          cases hm
        have hm := (if_neg h_9).symm.trans hm
        refine m_ald hx hb hGx hV h_9 dX3_until_103 (fun hP_10 => ?_)
        obtain ⟨x_11, hx_11, hm⟩ := Option.bind_eq_some_iff.mp hm
        have hs_11 := hS.1.1
        have hLn_11 := m_hLn hLb hS
        have hL9 := hS.2
        refine qc_S hC hGx (k_X3_daysOf l k (x_5.2.2.1 p1.toNatClampNeg) (x_5.2.2.1 p2.toNatClampNeg) (q_5 p1.toNatClampNeg) (q_5 p2.toNatClampNeg) hx_11) (gS w_1221 w_1222 w_27 w_1223) kk_X3_daysOf (List.forall_mem_cons.mpr ⟨hP_9.1, (List.forall_mem_cons.mpr ⟨hP_10.1, (List.forall_mem_nil _)⟩)⟩) ⟨Nat.le_of_ble_eq_true rfl, Nat.le_of_ble_eq_true rfl⟩ ⟨Nat.le_of_ble_eq_true rfl, Nat.le_of_ble_eq_true rfl⟩ hS.1 hA hAB hl.1 rfl rfl (Nat.le_of_ble_eq_true rfl) dX3_until_104 (fun v_11 H hv hz hq hS => ?_)
        have hS : mS b s.heap H _ := ⟨hS, hL9⟩
        have hV := hV.up hq
        have hv : v_11 = some (.int x_11) := hv
        subst hv
        obtain ⟨x_12, hx_12, hm⟩ := Option.bind_eq_some_iff.mp hm
        refine mc_V hC hGx hD (k_X3_tells l k b L hD p0 (x_8 / (12 : Int32)) (x_8 - x_8 / (12 : Int32) * (12 : Int32)) x_11  x_5.2 hx_12) (gV w_1205 w_1206 w_21 w_27 w_1207) kk_X3_tells rfl (List.forall_mem_nil _) hLb ⟨Nat.le_of_ble_eq_true rfl, Nat.le_of_ble_eq_true rfl⟩ ⟨Nat.le_of_ble_eq_true rfl, Nat.le_of_ble_eq_true rfl⟩ hV hS hl.1 rfl rfl (Nat.le_of_ble_eq_true rfl) dX3_until_107 (fun q_12 H locs hV hS hz hq => ?_)
        exact m_iret hx hb hr hlocks (Option.some.inj hm) hV hS ⟨Nat.le_of_ble_eq_true rfl, Nat.le_of_ble_eq_true rfl⟩ dX3_until_110
      · have hm := (if_neg h_5).symm.trans hm
        refine lv_iconst (v := 0) hx hb dX3_until_61 (by decide) ?_
        exact m_iret hx hb hr hlocks (Option.some.inj hm) hV hS ⟨Nat.le_of_ble_eq_true rfl, Nat.le_of_ble_eq_true rfl⟩ dX3_until_62
    · have hm := (if_neg h_2).symm.trans hm
      refine lv_iconst (v := 0) hx hb dX3_until_35 (by decide) ?_
      exact m_iret hx hb hr hlocks (Option.some.inj hm) hV hS ⟨Nat.le_of_ble_eq_true rfl, Nat.le_of_ble_eq_true rfl⟩ dX3_until_36
  · have hm := (if_pos h_1).symm.trans hm
    refine lv_iload_n hx hb dX3_until_8 rfl (lv_at hl 2 rfl) ?_
    refine pc_S hC (c_X3_isNo l p1) (gS w_1045 w_1046 w_27 w_1047) kk_X3_isNo ⟨Nat.le_of_ble_eq_true rfl, Nat.le_of_ble_eq_true rfl⟩ ⟨Nat.le_of_ble_eq_true rfl, Nat.le_of_ble_eq_true rfl⟩ hl.1 rfl rfl (Nat.le_of_ble_eq_true rfl) dX3_until_9 ?_
    refine lv_if_ne (tgt := 22) hx hb dX3_until_12 (by decide) (fun h_10 => ?_) (fun h_10 => ?_)
    · have hm := (if_neg h_10).symm.trans hm
      refine lv_iconst (v := 1) hx hb dX3_until_22 (by decide) ?_
      refine lv_goto (tgt := 27) hx hb dX3_until_23 (by decide) ?_
      refine lv_iconst (v := 0) hx hb dX3_until_27 (by decide) ?_
      refine lv_iconst (v := 0) hx hb dX3_until_28 (by decide) ?_
      obtain ⟨x_13, hx_13, hm⟩ := Option.bind_eq_some_iff.mp hm
      refine mc_V hC hGx hD (k_X3_fails l k b L hD (1 : Int32) (0 : Int32) (0 : Int32)  z hx_13) (gV w_1056 w_1057 w_18 w_27 w_1058) kk_X3_fails rfl (List.forall_mem_nil _) hLb ⟨Nat.le_of_ble_eq_true rfl, Nat.le_of_ble_eq_true rfl⟩ ⟨Nat.le_of_ble_eq_true rfl, Nat.le_of_ble_eq_true rfl⟩ hV hS hl.1 rfl rfl (Nat.le_of_ble_eq_true rfl) dX3_until_29 (fun q_13 H locs hV hS hz hq => ?_)
      refine lv_if_eq (tgt := 37) hx hb dX3_until_32 (by decide) (fun h_11 => ?_) (fun h_11 => ?_)
      · have hm := (if_pos h_11).symm.trans hm
        refine lv_aload_n hx hb dX3_until_37 rfl (lv_at hl 0 rfl) ?_
        refine lv_iconst (v := 0) hx hb dX3_until_38 (by decide) ?_
        refine lv_aload_n hx hb dX3_until_39 rfl (lv_at hl 0 rfl) ?_
        refine va_get (D := kD k) (ci := 5) (v := .ref b.2.1) (C := RX3) (T := TX3) (N := 5) hx hb htg inG_X3 hown hGx.1 hV.1 0 rfl rfl 1 (by decide) (htg _ w_1012) (fun _ h9 => h9) rfl dX3_until_40 ?_
        refine lv_iload_n hx hb dX3_until_43 rfl (lv_at hl 3 rfl) ?_
        by_cases h_12 : p2 < 0 ∨ 6 ≤ p2.toNatClampNeg
        · have hm := (if_pos h_12).symm.trans hm
          cases hm
        have hm := (if_neg h_12).symm.trans hm
        refine m_ald hx hb hGx hV h_12 dX3_until_44 (fun hP_14 => ?_)
        refine lv_aload_n hx hb dX3_until_45 rfl (lv_at hl 0 rfl) ?_
        refine va_get (D := kD k) (ci := 5) (v := .ref b.2.1) (C := RX3) (T := TX3) (N := 5) hx hb htg inG_X3 hown hGx.1 hV.1 0 rfl rfl 1 (by decide) (htg _ w_1012) (fun _ h9 => h9) rfl dX3_until_46 ?_
        refine lv_iload_n hx hb dX3_until_49 rfl (lv_at hl 2 rfl) ?_
        by_cases h_13 : p1 < 0 ∨ 6 ≤ p1.toNatClampNeg
        · have hm := (if_pos h_13).symm.trans hm
          cases hm
        have hm := (if_neg h_13).symm.trans hm
        refine m_ald hx hb hGx hV h_13 dX3_until_50 (fun hP_15 => ?_)
        obtain ⟨x_16, hx_16, hm⟩ := Option.bind_eq_some_iff.mp hm
        have hs_16 := hS.1.1
        have hLn_16 := m_hLn hLb hS
        have hL9 := hS.2
        refine qc_S hC hGx (k_X3_isAhead l k (x_13.2.2.1 p2.toNatClampNeg) (x_13.2.2.1 p1.toNatClampNeg) (q_13 p2.toNatClampNeg) (q_13 p1.toNatClampNeg) hx_16) (gS w_1212 w_1213 w_27 w_1214) kk_X3_isAhead (List.forall_mem_cons.mpr ⟨hP_14.1, (List.forall_mem_cons.mpr ⟨hP_15.1, (List.forall_mem_nil _)⟩)⟩) ⟨Nat.le_of_ble_eq_true rfl, Nat.le_of_ble_eq_true rfl⟩ ⟨Nat.le_of_ble_eq_true rfl, Nat.le_of_ble_eq_true rfl⟩ hS.1 hA hAB hl.1 rfl rfl (Nat.le_of_ble_eq_true rfl) dX3_until_51 (fun v_16 H hv hz hq hS => ?_)
        have hS : mS b s.heap H _ := ⟨hS, hL9⟩
        have hV := hV.up hq
        have hv : v_16 = some (.int x_16) := hv
        subst hv
        refine lv_iconst (v := 0) hx hb dX3_until_54 (by decide) ?_
        obtain ⟨x_17, hx_17, hm⟩ := Option.bind_eq_some_iff.mp hm
        refine mc_V hC hGx hD (k_X3_fails l k b L hD (0 : Int32) x_16 (0 : Int32)  x_13.2 hx_17) (gV w_1056 w_1057 w_18 w_27 w_1058) kk_X3_fails rfl (List.forall_mem_nil _) hLb ⟨Nat.le_of_ble_eq_true rfl, Nat.le_of_ble_eq_true rfl⟩ ⟨Nat.le_of_ble_eq_true rfl, Nat.le_of_ble_eq_true rfl⟩ hV hS hl.1 rfl rfl (Nat.le_of_ble_eq_true rfl) dX3_until_55 (fun q_17 H locs hV hS hz hq => ?_)
        refine lv_if_eq (tgt := 63) hx hb dX3_until_58 (by decide) (fun h_14 => ?_) (fun h_14 => ?_)
        · have hm := (if_pos h_14).symm.trans hm
          refine lv_aload_n hx hb dX3_until_63 rfl (lv_at hl 0 rfl) ?_
          refine va_get (D := kD k) (ci := 5) (v := .ref b.2.1) (C := RX3) (T := TX3) (N := 5) hx hb htg inG_X3 hown hGx.1 hV.1 0 rfl rfl 1 (by decide) (htg _ w_1012) (fun _ h9 => h9) rfl dX3_until_64 ?_
          refine lv_iload_n hx hb dX3_until_67 rfl (lv_at hl 2 rfl) ?_
          by_cases h_15 : p1 < 0 ∨ 6 ≤ p1.toNatClampNeg
          · have hm := (if_pos h_15).symm.trans hm
            cases hm
          have hm := (if_neg h_15).symm.trans hm
          refine m_ald hx hb hGx hV h_15 dX3_until_68 (fun hP_18 => ?_)
          refine lv_aload_n hx hb dX3_until_69 rfl (lv_at hl 0 rfl) ?_
          refine va_get (D := kD k) (ci := 5) (v := .ref b.2.1) (C := RX3) (T := TX3) (N := 5) hx hb htg inG_X3 hown hGx.1 hV.1 0 rfl rfl 1 (by decide) (htg _ w_1012) (fun _ h9 => h9) rfl dX3_until_70 ?_
          refine lv_iload_n hx hb dX3_until_73 rfl (lv_at hl 3 rfl) ?_
          by_cases h_16 : p2 < 0 ∨ 6 ≤ p2.toNatClampNeg
          · have hm := (if_pos h_16).symm.trans hm
            cases hm
          have hm := (if_neg h_16).symm.trans hm
          refine m_ald hx hb hGx hV h_16 dX3_until_74 (fun hP_19 => ?_)
          obtain ⟨x_20, hx_20, hm⟩ := Option.bind_eq_some_iff.mp hm
          have hs_20 := hS.1.1
          have hLn_20 := m_hLn hLb hS
          have hL9 := hS.2
          refine qc_S hC hGx (k_X3_monthsOf l k (x_17.2.2.1 p1.toNatClampNeg) (x_17.2.2.1 p2.toNatClampNeg) (q_17 p1.toNatClampNeg) (q_17 p2.toNatClampNeg) hx_20) (gS w_1215 w_1216 w_27 w_1217) kk_X3_monthsOf (List.forall_mem_cons.mpr ⟨hP_18.1, (List.forall_mem_cons.mpr ⟨hP_19.1, (List.forall_mem_nil _)⟩)⟩) ⟨Nat.le_of_ble_eq_true rfl, Nat.le_of_ble_eq_true rfl⟩ ⟨Nat.le_of_ble_eq_true rfl, Nat.le_of_ble_eq_true rfl⟩ hS.1 hA hAB hl.1 rfl rfl (Nat.le_of_ble_eq_true rfl) dX3_until_75 (fun v_20 H hv hz hq hS => ?_)
          have hS : mS b s.heap H _ := ⟨hS, hL9⟩
          have hV := hV.up hq
          have hv : v_20 = some (.int x_20) := hv
          subst hv
          refine lv_istore (lv' := [(4, .int x_20), (0, .ref b.1), (1, .int p0), (2, .int p1), (3, .int p2)]) hx hb dX3_until_78 hl (by decide) rfl (fun ls hl => ?_)
          refine lv_aload_n hx hb dX3_until_80 rfl (lv_at hl 1 rfl) ?_
          refine lv_iload_n hx hb dX3_until_81 rfl (lv_at hl 2 rfl) ?_
          refine lv_iload hx hb dX3_until_82 (lv_at hl 0 rfl) ?_
          refine lv_bipush (v := 12) hx hb dX3_until_84 (by decide) ?_
          refine lv_idiv hx hb dX3_until_86 (by decide) ?_
          refine lv_iload hx hb dX3_until_87 (lv_at hl 0 rfl) ?_
          refine lv_bipush (v := 12) hx hb dX3_until_89 (by decide) ?_
          refine lv_irem hx hb dX3_until_91 (by decide) ?_
          refine lv_aload_n hx hb dX3_until_92 rfl (lv_at hl 1 rfl) ?_
          refine va_get (D := kD k) (ci := 5) (v := .ref b.2.1) (C := RX3) (T := TX3) (N := 5) hx hb htg inG_X3 hown hGx.1 hV.1 0 rfl rfl 1 (by decide) (htg _ w_1012) (fun _ h9 => h9) rfl dX3_until_93 ?_
          refine lv_iload_n hx hb dX3_until_96 rfl (lv_at hl 3 rfl) ?_
          by_cases h_17 : p1 < 0 ∨ 6 ≤ p1.toNatClampNeg
          · have hm := (if_pos h_17).symm.trans hm
            cases hm
          have hm := (if_neg h_17).symm.trans hm
          refine m_ald hx hb hGx hV h_17 dX3_until_97 (fun hP_21 => ?_)
          refine lv_aload_n hx hb dX3_until_98 rfl (lv_at hl 1 rfl) ?_
          refine va_get (D := kD k) (ci := 5) (v := .ref b.2.1) (C := RX3) (T := TX3) (N := 5) hx hb htg inG_X3 hown hGx.1 hV.1 0 rfl rfl 1 (by decide) (htg _ w_1012) (fun _ h9 => h9) rfl dX3_until_99 ?_
          refine lv_iload_n hx hb dX3_until_102 rfl (lv_at hl 4 rfl) ?_
          by_cases h_18 : p2 < 0 ∨ 6 ≤ p2.toNatClampNeg
          · have hm := (if_pos h_18).symm.trans hm
            cases hm
          have hm := (if_neg h_18).symm.trans hm
          refine m_ald hx hb hGx hV h_18 dX3_until_103 (fun hP_22 => ?_)
          obtain ⟨x_23, hx_23, hm⟩ := Option.bind_eq_some_iff.mp hm
          have hs_23 := hS.1.1
          have hLn_23 := m_hLn hLb hS
          have hL9 := hS.2
          refine qc_S hC hGx (k_X3_daysOf l k (x_17.2.2.1 p1.toNatClampNeg) (x_17.2.2.1 p2.toNatClampNeg) (q_17 p1.toNatClampNeg) (q_17 p2.toNatClampNeg) hx_23) (gS w_1221 w_1222 w_27 w_1223) kk_X3_daysOf (List.forall_mem_cons.mpr ⟨hP_21.1, (List.forall_mem_cons.mpr ⟨hP_22.1, (List.forall_mem_nil _)⟩)⟩) ⟨Nat.le_of_ble_eq_true rfl, Nat.le_of_ble_eq_true rfl⟩ ⟨Nat.le_of_ble_eq_true rfl, Nat.le_of_ble_eq_true rfl⟩ hS.1 hA hAB hl.1 rfl rfl (Nat.le_of_ble_eq_true rfl) dX3_until_104 (fun v_23 H hv hz hq hS => ?_)
          have hS : mS b s.heap H _ := ⟨hS, hL9⟩
          have hV := hV.up hq
          have hv : v_23 = some (.int x_23) := hv
          subst hv
          obtain ⟨x_24, hx_24, hm⟩ := Option.bind_eq_some_iff.mp hm
          refine mc_V hC hGx hD (k_X3_tells l k b L hD p0 (x_20 / (12 : Int32)) (x_20 - x_20 / (12 : Int32) * (12 : Int32)) x_23  x_17.2 hx_24) (gV w_1205 w_1206 w_21 w_27 w_1207) kk_X3_tells rfl (List.forall_mem_nil _) hLb ⟨Nat.le_of_ble_eq_true rfl, Nat.le_of_ble_eq_true rfl⟩ ⟨Nat.le_of_ble_eq_true rfl, Nat.le_of_ble_eq_true rfl⟩ hV hS hl.1 rfl rfl (Nat.le_of_ble_eq_true rfl) dX3_until_107 (fun q_24 H locs hV hS hz hq => ?_)
          exact m_iret hx hb hr hlocks (Option.some.inj hm) hV hS ⟨Nat.le_of_ble_eq_true rfl, Nat.le_of_ble_eq_true rfl⟩ dX3_until_110
        · have hm := (if_neg h_14).symm.trans hm
          refine lv_iconst (v := 0) hx hb dX3_until_61 (by decide) ?_
          exact m_iret hx hb hr hlocks (Option.some.inj hm) hV hS ⟨Nat.le_of_ble_eq_true rfl, Nat.le_of_ble_eq_true rfl⟩ dX3_until_62
      · have hm := (if_neg h_11).symm.trans hm
        refine lv_iconst (v := 0) hx hb dX3_until_35 (by decide) ?_
        exact m_iret hx hb hr hlocks (Option.some.inj hm) hV hS ⟨Nat.le_of_ble_eq_true rfl, Nat.le_of_ble_eq_true rfl⟩ dX3_until_36
    · have hm := (if_pos h_10).symm.trans hm
      refine lv_iload_n hx hb dX3_until_15 rfl (lv_at hl 3 rfl) ?_
      refine pc_S hC (c_X3_isNo l p2) (gS w_1045 w_1046 w_27 w_1047) kk_X3_isNo ⟨Nat.le_of_ble_eq_true rfl, Nat.le_of_ble_eq_true rfl⟩ ⟨Nat.le_of_ble_eq_true rfl, Nat.le_of_ble_eq_true rfl⟩ hl.1 rfl rfl (Nat.le_of_ble_eq_true rfl) dX3_until_16 ?_
      refine lv_if_eq (tgt := 26) hx hb dX3_until_19 (by decide) (fun h_19 => ?_) (fun h_19 => ?_)
      · have hm := (if_pos h_19).symm.trans hm
        refine lv_iconst (v := 0) hx hb dX3_until_26 (by decide) ?_
        refine lv_iconst (v := 0) hx hb dX3_until_27 (by decide) ?_
        refine lv_iconst (v := 0) hx hb dX3_until_28 (by decide) ?_
        obtain ⟨x_25, hx_25, hm⟩ := Option.bind_eq_some_iff.mp hm
        refine mc_V hC hGx hD (k_X3_fails l k b L hD (0 : Int32) (0 : Int32) (0 : Int32)  z hx_25) (gV w_1056 w_1057 w_18 w_27 w_1058) kk_X3_fails rfl (List.forall_mem_nil _) hLb ⟨Nat.le_of_ble_eq_true rfl, Nat.le_of_ble_eq_true rfl⟩ ⟨Nat.le_of_ble_eq_true rfl, Nat.le_of_ble_eq_true rfl⟩ hV hS hl.1 rfl rfl (Nat.le_of_ble_eq_true rfl) dX3_until_29 (fun q_25 H locs hV hS hz hq => ?_)
        refine lv_if_eq (tgt := 37) hx hb dX3_until_32 (by decide) (fun h_20 => ?_) (fun h_20 => ?_)
        · have hm := (if_pos h_20).symm.trans hm
          refine lv_aload_n hx hb dX3_until_37 rfl (lv_at hl 0 rfl) ?_
          refine lv_iconst (v := 0) hx hb dX3_until_38 (by decide) ?_
          refine lv_aload_n hx hb dX3_until_39 rfl (lv_at hl 0 rfl) ?_
          refine va_get (D := kD k) (ci := 5) (v := .ref b.2.1) (C := RX3) (T := TX3) (N := 5) hx hb htg inG_X3 hown hGx.1 hV.1 0 rfl rfl 1 (by decide) (htg _ w_1012) (fun _ h9 => h9) rfl dX3_until_40 ?_
          refine lv_iload_n hx hb dX3_until_43 rfl (lv_at hl 3 rfl) ?_
          by_cases h_21 : p2 < 0 ∨ 6 ≤ p2.toNatClampNeg
          · have hm := (if_pos h_21).symm.trans hm
            cases hm
          have hm := (if_neg h_21).symm.trans hm
          refine m_ald hx hb hGx hV h_21 dX3_until_44 (fun hP_26 => ?_)
          refine lv_aload_n hx hb dX3_until_45 rfl (lv_at hl 0 rfl) ?_
          refine va_get (D := kD k) (ci := 5) (v := .ref b.2.1) (C := RX3) (T := TX3) (N := 5) hx hb htg inG_X3 hown hGx.1 hV.1 0 rfl rfl 1 (by decide) (htg _ w_1012) (fun _ h9 => h9) rfl dX3_until_46 ?_
          refine lv_iload_n hx hb dX3_until_49 rfl (lv_at hl 2 rfl) ?_
          by_cases h_22 : p1 < 0 ∨ 6 ≤ p1.toNatClampNeg
          · have hm := (if_pos h_22).symm.trans hm
            cases hm
          have hm := (if_neg h_22).symm.trans hm
          refine m_ald hx hb hGx hV h_22 dX3_until_50 (fun hP_27 => ?_)
          obtain ⟨x_28, hx_28, hm⟩ := Option.bind_eq_some_iff.mp hm
          have hs_28 := hS.1.1
          have hLn_28 := m_hLn hLb hS
          have hL9 := hS.2
          refine qc_S hC hGx (k_X3_isAhead l k (x_25.2.2.1 p2.toNatClampNeg) (x_25.2.2.1 p1.toNatClampNeg) (q_25 p2.toNatClampNeg) (q_25 p1.toNatClampNeg) hx_28) (gS w_1212 w_1213 w_27 w_1214) kk_X3_isAhead (List.forall_mem_cons.mpr ⟨hP_26.1, (List.forall_mem_cons.mpr ⟨hP_27.1, (List.forall_mem_nil _)⟩)⟩) ⟨Nat.le_of_ble_eq_true rfl, Nat.le_of_ble_eq_true rfl⟩ ⟨Nat.le_of_ble_eq_true rfl, Nat.le_of_ble_eq_true rfl⟩ hS.1 hA hAB hl.1 rfl rfl (Nat.le_of_ble_eq_true rfl) dX3_until_51 (fun v_28 H hv hz hq hS => ?_)
          have hS : mS b s.heap H _ := ⟨hS, hL9⟩
          have hV := hV.up hq
          have hv : v_28 = some (.int x_28) := hv
          subst hv
          refine lv_iconst (v := 0) hx hb dX3_until_54 (by decide) ?_
          obtain ⟨x_29, hx_29, hm⟩ := Option.bind_eq_some_iff.mp hm
          refine mc_V hC hGx hD (k_X3_fails l k b L hD (0 : Int32) x_28 (0 : Int32)  x_25.2 hx_29) (gV w_1056 w_1057 w_18 w_27 w_1058) kk_X3_fails rfl (List.forall_mem_nil _) hLb ⟨Nat.le_of_ble_eq_true rfl, Nat.le_of_ble_eq_true rfl⟩ ⟨Nat.le_of_ble_eq_true rfl, Nat.le_of_ble_eq_true rfl⟩ hV hS hl.1 rfl rfl (Nat.le_of_ble_eq_true rfl) dX3_until_55 (fun q_29 H locs hV hS hz hq => ?_)
          refine lv_if_eq (tgt := 63) hx hb dX3_until_58 (by decide) (fun h_23 => ?_) (fun h_23 => ?_)
          · have hm := (if_pos h_23).symm.trans hm
            refine lv_aload_n hx hb dX3_until_63 rfl (lv_at hl 0 rfl) ?_
            refine va_get (D := kD k) (ci := 5) (v := .ref b.2.1) (C := RX3) (T := TX3) (N := 5) hx hb htg inG_X3 hown hGx.1 hV.1 0 rfl rfl 1 (by decide) (htg _ w_1012) (fun _ h9 => h9) rfl dX3_until_64 ?_
            refine lv_iload_n hx hb dX3_until_67 rfl (lv_at hl 2 rfl) ?_
            by_cases h_24 : p1 < 0 ∨ 6 ≤ p1.toNatClampNeg
            · have hm := (if_pos h_24).symm.trans hm
              cases hm
            have hm := (if_neg h_24).symm.trans hm
            refine m_ald hx hb hGx hV h_24 dX3_until_68 (fun hP_30 => ?_)
            refine lv_aload_n hx hb dX3_until_69 rfl (lv_at hl 0 rfl) ?_
            refine va_get (D := kD k) (ci := 5) (v := .ref b.2.1) (C := RX3) (T := TX3) (N := 5) hx hb htg inG_X3 hown hGx.1 hV.1 0 rfl rfl 1 (by decide) (htg _ w_1012) (fun _ h9 => h9) rfl dX3_until_70 ?_
            refine lv_iload_n hx hb dX3_until_73 rfl (lv_at hl 3 rfl) ?_
            by_cases h_25 : p2 < 0 ∨ 6 ≤ p2.toNatClampNeg
            · have hm := (if_pos h_25).symm.trans hm
              cases hm
            have hm := (if_neg h_25).symm.trans hm
            refine m_ald hx hb hGx hV h_25 dX3_until_74 (fun hP_31 => ?_)
            obtain ⟨x_32, hx_32, hm⟩ := Option.bind_eq_some_iff.mp hm
            have hs_32 := hS.1.1
            have hLn_32 := m_hLn hLb hS
            have hL9 := hS.2
            refine qc_S hC hGx (k_X3_monthsOf l k (x_29.2.2.1 p1.toNatClampNeg) (x_29.2.2.1 p2.toNatClampNeg) (q_29 p1.toNatClampNeg) (q_29 p2.toNatClampNeg) hx_32) (gS w_1215 w_1216 w_27 w_1217) kk_X3_monthsOf (List.forall_mem_cons.mpr ⟨hP_30.1, (List.forall_mem_cons.mpr ⟨hP_31.1, (List.forall_mem_nil _)⟩)⟩) ⟨Nat.le_of_ble_eq_true rfl, Nat.le_of_ble_eq_true rfl⟩ ⟨Nat.le_of_ble_eq_true rfl, Nat.le_of_ble_eq_true rfl⟩ hS.1 hA hAB hl.1 rfl rfl (Nat.le_of_ble_eq_true rfl) dX3_until_75 (fun v_32 H hv hz hq hS => ?_)
            have hS : mS b s.heap H _ := ⟨hS, hL9⟩
            have hV := hV.up hq
            have hv : v_32 = some (.int x_32) := hv
            subst hv
            refine lv_istore (lv' := [(4, .int x_32), (0, .ref b.1), (1, .int p0), (2, .int p1), (3, .int p2)]) hx hb dX3_until_78 hl (by decide) rfl (fun ls hl => ?_)
            refine lv_aload_n hx hb dX3_until_80 rfl (lv_at hl 1 rfl) ?_
            refine lv_iload_n hx hb dX3_until_81 rfl (lv_at hl 2 rfl) ?_
            refine lv_iload hx hb dX3_until_82 (lv_at hl 0 rfl) ?_
            refine lv_bipush (v := 12) hx hb dX3_until_84 (by decide) ?_
            refine lv_idiv hx hb dX3_until_86 (by decide) ?_
            refine lv_iload hx hb dX3_until_87 (lv_at hl 0 rfl) ?_
            refine lv_bipush (v := 12) hx hb dX3_until_89 (by decide) ?_
            refine lv_irem hx hb dX3_until_91 (by decide) ?_
            refine lv_aload_n hx hb dX3_until_92 rfl (lv_at hl 1 rfl) ?_
            refine va_get (D := kD k) (ci := 5) (v := .ref b.2.1) (C := RX3) (T := TX3) (N := 5) hx hb htg inG_X3 hown hGx.1 hV.1 0 rfl rfl 1 (by decide) (htg _ w_1012) (fun _ h9 => h9) rfl dX3_until_93 ?_
            refine lv_iload_n hx hb dX3_until_96 rfl (lv_at hl 3 rfl) ?_
            by_cases h_26 : p1 < 0 ∨ 6 ≤ p1.toNatClampNeg
            · have hm := (if_pos h_26).symm.trans hm
              cases hm
            have hm := (if_neg h_26).symm.trans hm
            refine m_ald hx hb hGx hV h_26 dX3_until_97 (fun hP_33 => ?_)
            refine lv_aload_n hx hb dX3_until_98 rfl (lv_at hl 1 rfl) ?_
            refine va_get (D := kD k) (ci := 5) (v := .ref b.2.1) (C := RX3) (T := TX3) (N := 5) hx hb htg inG_X3 hown hGx.1 hV.1 0 rfl rfl 1 (by decide) (htg _ w_1012) (fun _ h9 => h9) rfl dX3_until_99 ?_
            refine lv_iload_n hx hb dX3_until_102 rfl (lv_at hl 4 rfl) ?_
            by_cases h_27 : p2 < 0 ∨ 6 ≤ p2.toNatClampNeg
            · have hm := (if_pos h_27).symm.trans hm
              cases hm
            have hm := (if_neg h_27).symm.trans hm
            refine m_ald hx hb hGx hV h_27 dX3_until_103 (fun hP_34 => ?_)
            obtain ⟨x_35, hx_35, hm⟩ := Option.bind_eq_some_iff.mp hm
            have hs_35 := hS.1.1
            have hLn_35 := m_hLn hLb hS
            have hL9 := hS.2
            refine qc_S hC hGx (k_X3_daysOf l k (x_29.2.2.1 p1.toNatClampNeg) (x_29.2.2.1 p2.toNatClampNeg) (q_29 p1.toNatClampNeg) (q_29 p2.toNatClampNeg) hx_35) (gS w_1221 w_1222 w_27 w_1223) kk_X3_daysOf (List.forall_mem_cons.mpr ⟨hP_33.1, (List.forall_mem_cons.mpr ⟨hP_34.1, (List.forall_mem_nil _)⟩)⟩) ⟨Nat.le_of_ble_eq_true rfl, Nat.le_of_ble_eq_true rfl⟩ ⟨Nat.le_of_ble_eq_true rfl, Nat.le_of_ble_eq_true rfl⟩ hS.1 hA hAB hl.1 rfl rfl (Nat.le_of_ble_eq_true rfl) dX3_until_104 (fun v_35 H hv hz hq hS => ?_)
            have hS : mS b s.heap H _ := ⟨hS, hL9⟩
            have hV := hV.up hq
            have hv : v_35 = some (.int x_35) := hv
            subst hv
            obtain ⟨x_36, hx_36, hm⟩ := Option.bind_eq_some_iff.mp hm
            refine mc_V hC hGx hD (k_X3_tells l k b L hD p0 (x_32 / (12 : Int32)) (x_32 - x_32 / (12 : Int32) * (12 : Int32)) x_35  x_29.2 hx_36) (gV w_1205 w_1206 w_21 w_27 w_1207) kk_X3_tells rfl (List.forall_mem_nil _) hLb ⟨Nat.le_of_ble_eq_true rfl, Nat.le_of_ble_eq_true rfl⟩ ⟨Nat.le_of_ble_eq_true rfl, Nat.le_of_ble_eq_true rfl⟩ hV hS hl.1 rfl rfl (Nat.le_of_ble_eq_true rfl) dX3_until_107 (fun q_36 H locs hV hS hz hq => ?_)
            exact m_iret hx hb hr hlocks (Option.some.inj hm) hV hS ⟨Nat.le_of_ble_eq_true rfl, Nat.le_of_ble_eq_true rfl⟩ dX3_until_110
          · have hm := (if_neg h_23).symm.trans hm
            refine lv_iconst (v := 0) hx hb dX3_until_61 (by decide) ?_
            exact m_iret hx hb hr hlocks (Option.some.inj hm) hV hS ⟨Nat.le_of_ble_eq_true rfl, Nat.le_of_ble_eq_true rfl⟩ dX3_until_62
        · have hm := (if_neg h_20).symm.trans hm
          refine lv_iconst (v := 0) hx hb dX3_until_35 (by decide) ?_
          exact m_iret hx hb hr hlocks (Option.some.inj hm) hV hS ⟨Nat.le_of_ble_eq_true rfl, Nat.le_of_ble_eq_true rfl⟩ dX3_until_36
      · have hm := (if_neg h_19).symm.trans hm
        refine lv_iconst (v := 1) hx hb dX3_until_22 (by decide) ?_
        refine lv_goto (tgt := 27) hx hb dX3_until_23 (by decide) ?_
        refine lv_iconst (v := 0) hx hb dX3_until_27 (by decide) ?_
        refine lv_iconst (v := 0) hx hb dX3_until_28 (by decide) ?_
        obtain ⟨x_37, hx_37, hm⟩ := Option.bind_eq_some_iff.mp hm
        refine mc_V hC hGx hD (k_X3_fails l k b L hD (1 : Int32) (0 : Int32) (0 : Int32)  z hx_37) (gV w_1056 w_1057 w_18 w_27 w_1058) kk_X3_fails rfl (List.forall_mem_nil _) hLb ⟨Nat.le_of_ble_eq_true rfl, Nat.le_of_ble_eq_true rfl⟩ ⟨Nat.le_of_ble_eq_true rfl, Nat.le_of_ble_eq_true rfl⟩ hV hS hl.1 rfl rfl (Nat.le_of_ble_eq_true rfl) dX3_until_29 (fun q_37 H locs hV hS hz hq => ?_)
        refine lv_if_eq (tgt := 37) hx hb dX3_until_32 (by decide) (fun h_28 => ?_) (fun h_28 => ?_)
        · have hm := (if_pos h_28).symm.trans hm
          refine lv_aload_n hx hb dX3_until_37 rfl (lv_at hl 0 rfl) ?_
          refine lv_iconst (v := 0) hx hb dX3_until_38 (by decide) ?_
          refine lv_aload_n hx hb dX3_until_39 rfl (lv_at hl 0 rfl) ?_
          refine va_get (D := kD k) (ci := 5) (v := .ref b.2.1) (C := RX3) (T := TX3) (N := 5) hx hb htg inG_X3 hown hGx.1 hV.1 0 rfl rfl 1 (by decide) (htg _ w_1012) (fun _ h9 => h9) rfl dX3_until_40 ?_
          refine lv_iload_n hx hb dX3_until_43 rfl (lv_at hl 3 rfl) ?_
          by_cases h_29 : p2 < 0 ∨ 6 ≤ p2.toNatClampNeg
          · have hm := (if_pos h_29).symm.trans hm
            cases hm
          have hm := (if_neg h_29).symm.trans hm
          refine m_ald hx hb hGx hV h_29 dX3_until_44 (fun hP_38 => ?_)
          refine lv_aload_n hx hb dX3_until_45 rfl (lv_at hl 0 rfl) ?_
          refine va_get (D := kD k) (ci := 5) (v := .ref b.2.1) (C := RX3) (T := TX3) (N := 5) hx hb htg inG_X3 hown hGx.1 hV.1 0 rfl rfl 1 (by decide) (htg _ w_1012) (fun _ h9 => h9) rfl dX3_until_46 ?_
          refine lv_iload_n hx hb dX3_until_49 rfl (lv_at hl 2 rfl) ?_
          by_cases h_30 : p1 < 0 ∨ 6 ≤ p1.toNatClampNeg
          · have hm := (if_pos h_30).symm.trans hm
            cases hm
          have hm := (if_neg h_30).symm.trans hm
          refine m_ald hx hb hGx hV h_30 dX3_until_50 (fun hP_39 => ?_)
          obtain ⟨x_40, hx_40, hm⟩ := Option.bind_eq_some_iff.mp hm
          have hs_40 := hS.1.1
          have hLn_40 := m_hLn hLb hS
          have hL9 := hS.2
          refine qc_S hC hGx (k_X3_isAhead l k (x_37.2.2.1 p2.toNatClampNeg) (x_37.2.2.1 p1.toNatClampNeg) (q_37 p2.toNatClampNeg) (q_37 p1.toNatClampNeg) hx_40) (gS w_1212 w_1213 w_27 w_1214) kk_X3_isAhead (List.forall_mem_cons.mpr ⟨hP_38.1, (List.forall_mem_cons.mpr ⟨hP_39.1, (List.forall_mem_nil _)⟩)⟩) ⟨Nat.le_of_ble_eq_true rfl, Nat.le_of_ble_eq_true rfl⟩ ⟨Nat.le_of_ble_eq_true rfl, Nat.le_of_ble_eq_true rfl⟩ hS.1 hA hAB hl.1 rfl rfl (Nat.le_of_ble_eq_true rfl) dX3_until_51 (fun v_40 H hv hz hq hS => ?_)
          have hS : mS b s.heap H _ := ⟨hS, hL9⟩
          have hV := hV.up hq
          have hv : v_40 = some (.int x_40) := hv
          subst hv
          refine lv_iconst (v := 0) hx hb dX3_until_54 (by decide) ?_
          obtain ⟨x_41, hx_41, hm⟩ := Option.bind_eq_some_iff.mp hm
          refine mc_V hC hGx hD (k_X3_fails l k b L hD (0 : Int32) x_40 (0 : Int32)  x_37.2 hx_41) (gV w_1056 w_1057 w_18 w_27 w_1058) kk_X3_fails rfl (List.forall_mem_nil _) hLb ⟨Nat.le_of_ble_eq_true rfl, Nat.le_of_ble_eq_true rfl⟩ ⟨Nat.le_of_ble_eq_true rfl, Nat.le_of_ble_eq_true rfl⟩ hV hS hl.1 rfl rfl (Nat.le_of_ble_eq_true rfl) dX3_until_55 (fun q_41 H locs hV hS hz hq => ?_)
          refine lv_if_eq (tgt := 63) hx hb dX3_until_58 (by decide) (fun h_31 => ?_) (fun h_31 => ?_)
          · have hm := (if_pos h_31).symm.trans hm
            refine lv_aload_n hx hb dX3_until_63 rfl (lv_at hl 0 rfl) ?_
            refine va_get (D := kD k) (ci := 5) (v := .ref b.2.1) (C := RX3) (T := TX3) (N := 5) hx hb htg inG_X3 hown hGx.1 hV.1 0 rfl rfl 1 (by decide) (htg _ w_1012) (fun _ h9 => h9) rfl dX3_until_64 ?_
            refine lv_iload_n hx hb dX3_until_67 rfl (lv_at hl 2 rfl) ?_
            by_cases h_32 : p1 < 0 ∨ 6 ≤ p1.toNatClampNeg
            · have hm := (if_pos h_32).symm.trans hm
              cases hm
            have hm := (if_neg h_32).symm.trans hm
            refine m_ald hx hb hGx hV h_32 dX3_until_68 (fun hP_42 => ?_)
            refine lv_aload_n hx hb dX3_until_69 rfl (lv_at hl 0 rfl) ?_
            refine va_get (D := kD k) (ci := 5) (v := .ref b.2.1) (C := RX3) (T := TX3) (N := 5) hx hb htg inG_X3 hown hGx.1 hV.1 0 rfl rfl 1 (by decide) (htg _ w_1012) (fun _ h9 => h9) rfl dX3_until_70 ?_
            refine lv_iload_n hx hb dX3_until_73 rfl (lv_at hl 3 rfl) ?_
            by_cases h_33 : p2 < 0 ∨ 6 ≤ p2.toNatClampNeg
            · have hm := (if_pos h_33).symm.trans hm
              cases hm
            have hm := (if_neg h_33).symm.trans hm
            refine m_ald hx hb hGx hV h_33 dX3_until_74 (fun hP_43 => ?_)
            obtain ⟨x_44, hx_44, hm⟩ := Option.bind_eq_some_iff.mp hm
            have hs_44 := hS.1.1
            have hLn_44 := m_hLn hLb hS
            have hL9 := hS.2
            refine qc_S hC hGx (k_X3_monthsOf l k (x_41.2.2.1 p1.toNatClampNeg) (x_41.2.2.1 p2.toNatClampNeg) (q_41 p1.toNatClampNeg) (q_41 p2.toNatClampNeg) hx_44) (gS w_1215 w_1216 w_27 w_1217) kk_X3_monthsOf (List.forall_mem_cons.mpr ⟨hP_42.1, (List.forall_mem_cons.mpr ⟨hP_43.1, (List.forall_mem_nil _)⟩)⟩) ⟨Nat.le_of_ble_eq_true rfl, Nat.le_of_ble_eq_true rfl⟩ ⟨Nat.le_of_ble_eq_true rfl, Nat.le_of_ble_eq_true rfl⟩ hS.1 hA hAB hl.1 rfl rfl (Nat.le_of_ble_eq_true rfl) dX3_until_75 (fun v_44 H hv hz hq hS => ?_)
            have hS : mS b s.heap H _ := ⟨hS, hL9⟩
            have hV := hV.up hq
            have hv : v_44 = some (.int x_44) := hv
            subst hv
            refine lv_istore (lv' := [(4, .int x_44), (0, .ref b.1), (1, .int p0), (2, .int p1), (3, .int p2)]) hx hb dX3_until_78 hl (by decide) rfl (fun ls hl => ?_)
            refine lv_aload_n hx hb dX3_until_80 rfl (lv_at hl 1 rfl) ?_
            refine lv_iload_n hx hb dX3_until_81 rfl (lv_at hl 2 rfl) ?_
            refine lv_iload hx hb dX3_until_82 (lv_at hl 0 rfl) ?_
            refine lv_bipush (v := 12) hx hb dX3_until_84 (by decide) ?_
            refine lv_idiv hx hb dX3_until_86 (by decide) ?_
            refine lv_iload hx hb dX3_until_87 (lv_at hl 0 rfl) ?_
            refine lv_bipush (v := 12) hx hb dX3_until_89 (by decide) ?_
            refine lv_irem hx hb dX3_until_91 (by decide) ?_
            refine lv_aload_n hx hb dX3_until_92 rfl (lv_at hl 1 rfl) ?_
            refine va_get (D := kD k) (ci := 5) (v := .ref b.2.1) (C := RX3) (T := TX3) (N := 5) hx hb htg inG_X3 hown hGx.1 hV.1 0 rfl rfl 1 (by decide) (htg _ w_1012) (fun _ h9 => h9) rfl dX3_until_93 ?_
            refine lv_iload_n hx hb dX3_until_96 rfl (lv_at hl 3 rfl) ?_
            by_cases h_34 : p1 < 0 ∨ 6 ≤ p1.toNatClampNeg
            · have hm := (if_pos h_34).symm.trans hm
              cases hm
            have hm := (if_neg h_34).symm.trans hm
            refine m_ald hx hb hGx hV h_34 dX3_until_97 (fun hP_45 => ?_)
            refine lv_aload_n hx hb dX3_until_98 rfl (lv_at hl 1 rfl) ?_
            refine va_get (D := kD k) (ci := 5) (v := .ref b.2.1) (C := RX3) (T := TX3) (N := 5) hx hb htg inG_X3 hown hGx.1 hV.1 0 rfl rfl 1 (by decide) (htg _ w_1012) (fun _ h9 => h9) rfl dX3_until_99 ?_
            refine lv_iload_n hx hb dX3_until_102 rfl (lv_at hl 4 rfl) ?_
            by_cases h_35 : p2 < 0 ∨ 6 ≤ p2.toNatClampNeg
            · have hm := (if_pos h_35).symm.trans hm
              cases hm
            have hm := (if_neg h_35).symm.trans hm
            refine m_ald hx hb hGx hV h_35 dX3_until_103 (fun hP_46 => ?_)
            obtain ⟨x_47, hx_47, hm⟩ := Option.bind_eq_some_iff.mp hm
            have hs_47 := hS.1.1
            have hLn_47 := m_hLn hLb hS
            have hL9 := hS.2
            refine qc_S hC hGx (k_X3_daysOf l k (x_41.2.2.1 p1.toNatClampNeg) (x_41.2.2.1 p2.toNatClampNeg) (q_41 p1.toNatClampNeg) (q_41 p2.toNatClampNeg) hx_47) (gS w_1221 w_1222 w_27 w_1223) kk_X3_daysOf (List.forall_mem_cons.mpr ⟨hP_45.1, (List.forall_mem_cons.mpr ⟨hP_46.1, (List.forall_mem_nil _)⟩)⟩) ⟨Nat.le_of_ble_eq_true rfl, Nat.le_of_ble_eq_true rfl⟩ ⟨Nat.le_of_ble_eq_true rfl, Nat.le_of_ble_eq_true rfl⟩ hS.1 hA hAB hl.1 rfl rfl (Nat.le_of_ble_eq_true rfl) dX3_until_104 (fun v_47 H hv hz hq hS => ?_)
            have hS : mS b s.heap H _ := ⟨hS, hL9⟩
            have hV := hV.up hq
            have hv : v_47 = some (.int x_47) := hv
            subst hv
            obtain ⟨x_48, hx_48, hm⟩ := Option.bind_eq_some_iff.mp hm
            refine mc_V hC hGx hD (k_X3_tells l k b L hD p0 (x_44 / (12 : Int32)) (x_44 - x_44 / (12 : Int32) * (12 : Int32)) x_47  x_41.2 hx_48) (gV w_1205 w_1206 w_21 w_27 w_1207) kk_X3_tells rfl (List.forall_mem_nil _) hLb ⟨Nat.le_of_ble_eq_true rfl, Nat.le_of_ble_eq_true rfl⟩ ⟨Nat.le_of_ble_eq_true rfl, Nat.le_of_ble_eq_true rfl⟩ hV hS hl.1 rfl rfl (Nat.le_of_ble_eq_true rfl) dX3_until_107 (fun q_48 H locs hV hS hz hq => ?_)
            exact m_iret hx hb hr hlocks (Option.some.inj hm) hV hS ⟨Nat.le_of_ble_eq_true rfl, Nat.le_of_ble_eq_true rfl⟩ dX3_until_110
          · have hm := (if_neg h_31).symm.trans hm
            refine lv_iconst (v := 0) hx hb dX3_until_61 (by decide) ?_
            exact m_iret hx hb hr hlocks (Option.some.inj hm) hV hS ⟨Nat.le_of_ble_eq_true rfl, Nat.le_of_ble_eq_true rfl⟩ dX3_until_62
        · have hm := (if_neg h_28).symm.trans hm
          refine lv_iconst (v := 0) hx hb dX3_until_35 (by decide) ?_
          exact m_iret hx hb hr hlocks (Option.some.inj hm) hV hS ⟨Nat.le_of_ble_eq_true rfl, Nat.le_of_ble_eq_true rfl⟩ dX3_until_36
def o_X3_addSpan (p0 : Int32) (p1 : Int32) (z : MS) : Option (Int32 × MS) := (if m_X3_isNoSpan p0 = 0 then (if m_X3_isNoSpan p1 = 0 then ((o_X3_fails (0 : Int32) (0 : Int32) (0 : Int32) z).bind fun x_19 => (if x_19.1 = 0 then (if p0 < 0 ∨ 2 ≤ p0.toNatClampNeg then none else (if p1 < 0 ∨ 2 ≤ p1.toNatClampNeg then none else (if m_X3_isNumber ((sget x_19.2 p0.toNatClampNeg (0 : Int32).toNatClampNeg) + (sget x_19.2 p1.toNatClampNeg (0 : Int32).toNatClampNeg)) = 0 then (if p0 < 0 ∨ 2 ≤ p0.toNatClampNeg then none else (if p1 < 0 ∨ 2 ≤ p1.toNatClampNeg then none else (if m_X3_isNumber ((sget x_19.2 p0.toNatClampNeg (1 : Int32).toNatClampNeg) + (sget x_19.2 p1.toNatClampNeg (1 : Int32).toNatClampNeg)) = 0 then (if p0 < 0 ∨ 2 ≤ p0.toNatClampNeg then none else (if p1 < 0 ∨ 2 ≤ p1.toNatClampNeg then none else (if m_X3_isNumber ((sget x_19.2 p0.toNatClampNeg (2 : Int32).toNatClampNeg) + (sget x_19.2 p1.toNatClampNeg (2 : Int32).toNatClampNeg)) = 0 then ((o_X3_fails (0 : Int32) ((((0 : Int32) ||| (1 : Int32)) ||| (1 : Int32)) ||| (1 : Int32)) (0 : Int32) x_19.2).bind fun x_35 => (if x_35.1 = 0 then ((o_X3_tells p0 ((sget x_19.2 p0.toNatClampNeg (0 : Int32).toNatClampNeg) + (sget x_19.2 p1.toNatClampNeg (0 : Int32).toNatClampNeg)) ((sget x_19.2 p0.toNatClampNeg (1 : Int32).toNatClampNeg) + (sget x_19.2 p1.toNatClampNeg (1 : Int32).toNatClampNeg)) ((sget x_19.2 p0.toNatClampNeg (2 : Int32).toNatClampNeg) + (sget x_19.2 p1.toNatClampNeg (2 : Int32).toNatClampNeg)) x_35.2).bind fun x_36 => some (x_36.1, x_36.2)) else some ((0 : Int32), x_35.2))) else ((o_X3_fails (0 : Int32) ((((0 : Int32) ||| (1 : Int32)) ||| (1 : Int32)) ||| (0 : Int32)) (0 : Int32) x_19.2).bind fun x_33 => (if x_33.1 = 0 then ((o_X3_tells p0 ((sget x_19.2 p0.toNatClampNeg (0 : Int32).toNatClampNeg) + (sget x_19.2 p1.toNatClampNeg (0 : Int32).toNatClampNeg)) ((sget x_19.2 p0.toNatClampNeg (1 : Int32).toNatClampNeg) + (sget x_19.2 p1.toNatClampNeg (1 : Int32).toNatClampNeg)) ((sget x_19.2 p0.toNatClampNeg (2 : Int32).toNatClampNeg) + (sget x_19.2 p1.toNatClampNeg (2 : Int32).toNatClampNeg)) x_33.2).bind fun x_34 => some (x_34.1, x_34.2)) else some ((0 : Int32), x_33.2)))))) else (if p0 < 0 ∨ 2 ≤ p0.toNatClampNeg then none else (if p1 < 0 ∨ 2 ≤ p1.toNatClampNeg then none else (if m_X3_isNumber ((sget x_19.2 p0.toNatClampNeg (2 : Int32).toNatClampNeg) + (sget x_19.2 p1.toNatClampNeg (2 : Int32).toNatClampNeg)) = 0 then ((o_X3_fails (0 : Int32) ((((0 : Int32) ||| (1 : Int32)) ||| (0 : Int32)) ||| (1 : Int32)) (0 : Int32) x_19.2).bind fun x_31 => (if x_31.1 = 0 then ((o_X3_tells p0 ((sget x_19.2 p0.toNatClampNeg (0 : Int32).toNatClampNeg) + (sget x_19.2 p1.toNatClampNeg (0 : Int32).toNatClampNeg)) ((sget x_19.2 p0.toNatClampNeg (1 : Int32).toNatClampNeg) + (sget x_19.2 p1.toNatClampNeg (1 : Int32).toNatClampNeg)) ((sget x_19.2 p0.toNatClampNeg (2 : Int32).toNatClampNeg) + (sget x_19.2 p1.toNatClampNeg (2 : Int32).toNatClampNeg)) x_31.2).bind fun x_32 => some (x_32.1, x_32.2)) else some ((0 : Int32), x_31.2))) else ((o_X3_fails (0 : Int32) ((((0 : Int32) ||| (1 : Int32)) ||| (0 : Int32)) ||| (0 : Int32)) (0 : Int32) x_19.2).bind fun x_29 => (if x_29.1 = 0 then ((o_X3_tells p0 ((sget x_19.2 p0.toNatClampNeg (0 : Int32).toNatClampNeg) + (sget x_19.2 p1.toNatClampNeg (0 : Int32).toNatClampNeg)) ((sget x_19.2 p0.toNatClampNeg (1 : Int32).toNatClampNeg) + (sget x_19.2 p1.toNatClampNeg (1 : Int32).toNatClampNeg)) ((sget x_19.2 p0.toNatClampNeg (2 : Int32).toNatClampNeg) + (sget x_19.2 p1.toNatClampNeg (2 : Int32).toNatClampNeg)) x_29.2).bind fun x_30 => some (x_30.1, x_30.2)) else some ((0 : Int32), x_29.2))))))))) else (if p0 < 0 ∨ 2 ≤ p0.toNatClampNeg then none else (if p1 < 0 ∨ 2 ≤ p1.toNatClampNeg then none else (if m_X3_isNumber ((sget x_19.2 p0.toNatClampNeg (1 : Int32).toNatClampNeg) + (sget x_19.2 p1.toNatClampNeg (1 : Int32).toNatClampNeg)) = 0 then (if p0 < 0 ∨ 2 ≤ p0.toNatClampNeg then none else (if p1 < 0 ∨ 2 ≤ p1.toNatClampNeg then none else (if m_X3_isNumber ((sget x_19.2 p0.toNatClampNeg (2 : Int32).toNatClampNeg) + (sget x_19.2 p1.toNatClampNeg (2 : Int32).toNatClampNeg)) = 0 then ((o_X3_fails (0 : Int32) ((((0 : Int32) ||| (0 : Int32)) ||| (1 : Int32)) ||| (1 : Int32)) (0 : Int32) x_19.2).bind fun x_27 => (if x_27.1 = 0 then ((o_X3_tells p0 ((sget x_19.2 p0.toNatClampNeg (0 : Int32).toNatClampNeg) + (sget x_19.2 p1.toNatClampNeg (0 : Int32).toNatClampNeg)) ((sget x_19.2 p0.toNatClampNeg (1 : Int32).toNatClampNeg) + (sget x_19.2 p1.toNatClampNeg (1 : Int32).toNatClampNeg)) ((sget x_19.2 p0.toNatClampNeg (2 : Int32).toNatClampNeg) + (sget x_19.2 p1.toNatClampNeg (2 : Int32).toNatClampNeg)) x_27.2).bind fun x_28 => some (x_28.1, x_28.2)) else some ((0 : Int32), x_27.2))) else ((o_X3_fails (0 : Int32) ((((0 : Int32) ||| (0 : Int32)) ||| (1 : Int32)) ||| (0 : Int32)) (0 : Int32) x_19.2).bind fun x_25 => (if x_25.1 = 0 then ((o_X3_tells p0 ((sget x_19.2 p0.toNatClampNeg (0 : Int32).toNatClampNeg) + (sget x_19.2 p1.toNatClampNeg (0 : Int32).toNatClampNeg)) ((sget x_19.2 p0.toNatClampNeg (1 : Int32).toNatClampNeg) + (sget x_19.2 p1.toNatClampNeg (1 : Int32).toNatClampNeg)) ((sget x_19.2 p0.toNatClampNeg (2 : Int32).toNatClampNeg) + (sget x_19.2 p1.toNatClampNeg (2 : Int32).toNatClampNeg)) x_25.2).bind fun x_26 => some (x_26.1, x_26.2)) else some ((0 : Int32), x_25.2)))))) else (if p0 < 0 ∨ 2 ≤ p0.toNatClampNeg then none else (if p1 < 0 ∨ 2 ≤ p1.toNatClampNeg then none else (if m_X3_isNumber ((sget x_19.2 p0.toNatClampNeg (2 : Int32).toNatClampNeg) + (sget x_19.2 p1.toNatClampNeg (2 : Int32).toNatClampNeg)) = 0 then ((o_X3_fails (0 : Int32) ((((0 : Int32) ||| (0 : Int32)) ||| (0 : Int32)) ||| (1 : Int32)) (0 : Int32) x_19.2).bind fun x_23 => (if x_23.1 = 0 then ((o_X3_tells p0 ((sget x_19.2 p0.toNatClampNeg (0 : Int32).toNatClampNeg) + (sget x_19.2 p1.toNatClampNeg (0 : Int32).toNatClampNeg)) ((sget x_19.2 p0.toNatClampNeg (1 : Int32).toNatClampNeg) + (sget x_19.2 p1.toNatClampNeg (1 : Int32).toNatClampNeg)) ((sget x_19.2 p0.toNatClampNeg (2 : Int32).toNatClampNeg) + (sget x_19.2 p1.toNatClampNeg (2 : Int32).toNatClampNeg)) x_23.2).bind fun x_24 => some (x_24.1, x_24.2)) else some ((0 : Int32), x_23.2))) else ((o_X3_fails (0 : Int32) ((((0 : Int32) ||| (0 : Int32)) ||| (0 : Int32)) ||| (0 : Int32)) (0 : Int32) x_19.2).bind fun x_21 => (if x_21.1 = 0 then ((o_X3_tells p0 ((sget x_19.2 p0.toNatClampNeg (0 : Int32).toNatClampNeg) + (sget x_19.2 p1.toNatClampNeg (0 : Int32).toNatClampNeg)) ((sget x_19.2 p0.toNatClampNeg (1 : Int32).toNatClampNeg) + (sget x_19.2 p1.toNatClampNeg (1 : Int32).toNatClampNeg)) ((sget x_19.2 p0.toNatClampNeg (2 : Int32).toNatClampNeg) + (sget x_19.2 p1.toNatClampNeg (2 : Int32).toNatClampNeg)) x_21.2).bind fun x_22 => some (x_22.1, x_22.2)) else some ((0 : Int32), x_21.2)))))))))))) else some ((0 : Int32), x_19.2))) else ((o_X3_fails (1 : Int32) (0 : Int32) (0 : Int32) z).bind fun x_37 => (if x_37.1 = 0 then (if p0 < 0 ∨ 2 ≤ p0.toNatClampNeg then none else (if p1 < 0 ∨ 2 ≤ p1.toNatClampNeg then none else (if m_X3_isNumber ((sget x_37.2 p0.toNatClampNeg (0 : Int32).toNatClampNeg) + (sget x_37.2 p1.toNatClampNeg (0 : Int32).toNatClampNeg)) = 0 then (if p0 < 0 ∨ 2 ≤ p0.toNatClampNeg then none else (if p1 < 0 ∨ 2 ≤ p1.toNatClampNeg then none else (if m_X3_isNumber ((sget x_37.2 p0.toNatClampNeg (1 : Int32).toNatClampNeg) + (sget x_37.2 p1.toNatClampNeg (1 : Int32).toNatClampNeg)) = 0 then (if p0 < 0 ∨ 2 ≤ p0.toNatClampNeg then none else (if p1 < 0 ∨ 2 ≤ p1.toNatClampNeg then none else (if m_X3_isNumber ((sget x_37.2 p0.toNatClampNeg (2 : Int32).toNatClampNeg) + (sget x_37.2 p1.toNatClampNeg (2 : Int32).toNatClampNeg)) = 0 then ((o_X3_fails (0 : Int32) ((((0 : Int32) ||| (1 : Int32)) ||| (1 : Int32)) ||| (1 : Int32)) (0 : Int32) x_37.2).bind fun x_53 => (if x_53.1 = 0 then ((o_X3_tells p0 ((sget x_37.2 p0.toNatClampNeg (0 : Int32).toNatClampNeg) + (sget x_37.2 p1.toNatClampNeg (0 : Int32).toNatClampNeg)) ((sget x_37.2 p0.toNatClampNeg (1 : Int32).toNatClampNeg) + (sget x_37.2 p1.toNatClampNeg (1 : Int32).toNatClampNeg)) ((sget x_37.2 p0.toNatClampNeg (2 : Int32).toNatClampNeg) + (sget x_37.2 p1.toNatClampNeg (2 : Int32).toNatClampNeg)) x_53.2).bind fun x_54 => some (x_54.1, x_54.2)) else some ((0 : Int32), x_53.2))) else ((o_X3_fails (0 : Int32) ((((0 : Int32) ||| (1 : Int32)) ||| (1 : Int32)) ||| (0 : Int32)) (0 : Int32) x_37.2).bind fun x_51 => (if x_51.1 = 0 then ((o_X3_tells p0 ((sget x_37.2 p0.toNatClampNeg (0 : Int32).toNatClampNeg) + (sget x_37.2 p1.toNatClampNeg (0 : Int32).toNatClampNeg)) ((sget x_37.2 p0.toNatClampNeg (1 : Int32).toNatClampNeg) + (sget x_37.2 p1.toNatClampNeg (1 : Int32).toNatClampNeg)) ((sget x_37.2 p0.toNatClampNeg (2 : Int32).toNatClampNeg) + (sget x_37.2 p1.toNatClampNeg (2 : Int32).toNatClampNeg)) x_51.2).bind fun x_52 => some (x_52.1, x_52.2)) else some ((0 : Int32), x_51.2)))))) else (if p0 < 0 ∨ 2 ≤ p0.toNatClampNeg then none else (if p1 < 0 ∨ 2 ≤ p1.toNatClampNeg then none else (if m_X3_isNumber ((sget x_37.2 p0.toNatClampNeg (2 : Int32).toNatClampNeg) + (sget x_37.2 p1.toNatClampNeg (2 : Int32).toNatClampNeg)) = 0 then ((o_X3_fails (0 : Int32) ((((0 : Int32) ||| (1 : Int32)) ||| (0 : Int32)) ||| (1 : Int32)) (0 : Int32) x_37.2).bind fun x_49 => (if x_49.1 = 0 then ((o_X3_tells p0 ((sget x_37.2 p0.toNatClampNeg (0 : Int32).toNatClampNeg) + (sget x_37.2 p1.toNatClampNeg (0 : Int32).toNatClampNeg)) ((sget x_37.2 p0.toNatClampNeg (1 : Int32).toNatClampNeg) + (sget x_37.2 p1.toNatClampNeg (1 : Int32).toNatClampNeg)) ((sget x_37.2 p0.toNatClampNeg (2 : Int32).toNatClampNeg) + (sget x_37.2 p1.toNatClampNeg (2 : Int32).toNatClampNeg)) x_49.2).bind fun x_50 => some (x_50.1, x_50.2)) else some ((0 : Int32), x_49.2))) else ((o_X3_fails (0 : Int32) ((((0 : Int32) ||| (1 : Int32)) ||| (0 : Int32)) ||| (0 : Int32)) (0 : Int32) x_37.2).bind fun x_47 => (if x_47.1 = 0 then ((o_X3_tells p0 ((sget x_37.2 p0.toNatClampNeg (0 : Int32).toNatClampNeg) + (sget x_37.2 p1.toNatClampNeg (0 : Int32).toNatClampNeg)) ((sget x_37.2 p0.toNatClampNeg (1 : Int32).toNatClampNeg) + (sget x_37.2 p1.toNatClampNeg (1 : Int32).toNatClampNeg)) ((sget x_37.2 p0.toNatClampNeg (2 : Int32).toNatClampNeg) + (sget x_37.2 p1.toNatClampNeg (2 : Int32).toNatClampNeg)) x_47.2).bind fun x_48 => some (x_48.1, x_48.2)) else some ((0 : Int32), x_47.2))))))))) else (if p0 < 0 ∨ 2 ≤ p0.toNatClampNeg then none else (if p1 < 0 ∨ 2 ≤ p1.toNatClampNeg then none else (if m_X3_isNumber ((sget x_37.2 p0.toNatClampNeg (1 : Int32).toNatClampNeg) + (sget x_37.2 p1.toNatClampNeg (1 : Int32).toNatClampNeg)) = 0 then (if p0 < 0 ∨ 2 ≤ p0.toNatClampNeg then none else (if p1 < 0 ∨ 2 ≤ p1.toNatClampNeg then none else (if m_X3_isNumber ((sget x_37.2 p0.toNatClampNeg (2 : Int32).toNatClampNeg) + (sget x_37.2 p1.toNatClampNeg (2 : Int32).toNatClampNeg)) = 0 then ((o_X3_fails (0 : Int32) ((((0 : Int32) ||| (0 : Int32)) ||| (1 : Int32)) ||| (1 : Int32)) (0 : Int32) x_37.2).bind fun x_45 => (if x_45.1 = 0 then ((o_X3_tells p0 ((sget x_37.2 p0.toNatClampNeg (0 : Int32).toNatClampNeg) + (sget x_37.2 p1.toNatClampNeg (0 : Int32).toNatClampNeg)) ((sget x_37.2 p0.toNatClampNeg (1 : Int32).toNatClampNeg) + (sget x_37.2 p1.toNatClampNeg (1 : Int32).toNatClampNeg)) ((sget x_37.2 p0.toNatClampNeg (2 : Int32).toNatClampNeg) + (sget x_37.2 p1.toNatClampNeg (2 : Int32).toNatClampNeg)) x_45.2).bind fun x_46 => some (x_46.1, x_46.2)) else some ((0 : Int32), x_45.2))) else ((o_X3_fails (0 : Int32) ((((0 : Int32) ||| (0 : Int32)) ||| (1 : Int32)) ||| (0 : Int32)) (0 : Int32) x_37.2).bind fun x_43 => (if x_43.1 = 0 then ((o_X3_tells p0 ((sget x_37.2 p0.toNatClampNeg (0 : Int32).toNatClampNeg) + (sget x_37.2 p1.toNatClampNeg (0 : Int32).toNatClampNeg)) ((sget x_37.2 p0.toNatClampNeg (1 : Int32).toNatClampNeg) + (sget x_37.2 p1.toNatClampNeg (1 : Int32).toNatClampNeg)) ((sget x_37.2 p0.toNatClampNeg (2 : Int32).toNatClampNeg) + (sget x_37.2 p1.toNatClampNeg (2 : Int32).toNatClampNeg)) x_43.2).bind fun x_44 => some (x_44.1, x_44.2)) else some ((0 : Int32), x_43.2)))))) else (if p0 < 0 ∨ 2 ≤ p0.toNatClampNeg then none else (if p1 < 0 ∨ 2 ≤ p1.toNatClampNeg then none else (if m_X3_isNumber ((sget x_37.2 p0.toNatClampNeg (2 : Int32).toNatClampNeg) + (sget x_37.2 p1.toNatClampNeg (2 : Int32).toNatClampNeg)) = 0 then ((o_X3_fails (0 : Int32) ((((0 : Int32) ||| (0 : Int32)) ||| (0 : Int32)) ||| (1 : Int32)) (0 : Int32) x_37.2).bind fun x_41 => (if x_41.1 = 0 then ((o_X3_tells p0 ((sget x_37.2 p0.toNatClampNeg (0 : Int32).toNatClampNeg) + (sget x_37.2 p1.toNatClampNeg (0 : Int32).toNatClampNeg)) ((sget x_37.2 p0.toNatClampNeg (1 : Int32).toNatClampNeg) + (sget x_37.2 p1.toNatClampNeg (1 : Int32).toNatClampNeg)) ((sget x_37.2 p0.toNatClampNeg (2 : Int32).toNatClampNeg) + (sget x_37.2 p1.toNatClampNeg (2 : Int32).toNatClampNeg)) x_41.2).bind fun x_42 => some (x_42.1, x_42.2)) else some ((0 : Int32), x_41.2))) else ((o_X3_fails (0 : Int32) ((((0 : Int32) ||| (0 : Int32)) ||| (0 : Int32)) ||| (0 : Int32)) (0 : Int32) x_37.2).bind fun x_39 => (if x_39.1 = 0 then ((o_X3_tells p0 ((sget x_37.2 p0.toNatClampNeg (0 : Int32).toNatClampNeg) + (sget x_37.2 p1.toNatClampNeg (0 : Int32).toNatClampNeg)) ((sget x_37.2 p0.toNatClampNeg (1 : Int32).toNatClampNeg) + (sget x_37.2 p1.toNatClampNeg (1 : Int32).toNatClampNeg)) ((sget x_37.2 p0.toNatClampNeg (2 : Int32).toNatClampNeg) + (sget x_37.2 p1.toNatClampNeg (2 : Int32).toNatClampNeg)) x_39.2).bind fun x_40 => some (x_40.1, x_40.2)) else some ((0 : Int32), x_39.2)))))))))))) else some ((0 : Int32), x_37.2)))) else ((o_X3_fails (1 : Int32) (0 : Int32) (0 : Int32) z).bind fun x_1 => (if x_1.1 = 0 then (if p0 < 0 ∨ 2 ≤ p0.toNatClampNeg then none else (if p1 < 0 ∨ 2 ≤ p1.toNatClampNeg then none else (if m_X3_isNumber ((sget x_1.2 p0.toNatClampNeg (0 : Int32).toNatClampNeg) + (sget x_1.2 p1.toNatClampNeg (0 : Int32).toNatClampNeg)) = 0 then (if p0 < 0 ∨ 2 ≤ p0.toNatClampNeg then none else (if p1 < 0 ∨ 2 ≤ p1.toNatClampNeg then none else (if m_X3_isNumber ((sget x_1.2 p0.toNatClampNeg (1 : Int32).toNatClampNeg) + (sget x_1.2 p1.toNatClampNeg (1 : Int32).toNatClampNeg)) = 0 then (if p0 < 0 ∨ 2 ≤ p0.toNatClampNeg then none else (if p1 < 0 ∨ 2 ≤ p1.toNatClampNeg then none else (if m_X3_isNumber ((sget x_1.2 p0.toNatClampNeg (2 : Int32).toNatClampNeg) + (sget x_1.2 p1.toNatClampNeg (2 : Int32).toNatClampNeg)) = 0 then ((o_X3_fails (0 : Int32) ((((0 : Int32) ||| (1 : Int32)) ||| (1 : Int32)) ||| (1 : Int32)) (0 : Int32) x_1.2).bind fun x_17 => (if x_17.1 = 0 then ((o_X3_tells p0 ((sget x_1.2 p0.toNatClampNeg (0 : Int32).toNatClampNeg) + (sget x_1.2 p1.toNatClampNeg (0 : Int32).toNatClampNeg)) ((sget x_1.2 p0.toNatClampNeg (1 : Int32).toNatClampNeg) + (sget x_1.2 p1.toNatClampNeg (1 : Int32).toNatClampNeg)) ((sget x_1.2 p0.toNatClampNeg (2 : Int32).toNatClampNeg) + (sget x_1.2 p1.toNatClampNeg (2 : Int32).toNatClampNeg)) x_17.2).bind fun x_18 => some (x_18.1, x_18.2)) else some ((0 : Int32), x_17.2))) else ((o_X3_fails (0 : Int32) ((((0 : Int32) ||| (1 : Int32)) ||| (1 : Int32)) ||| (0 : Int32)) (0 : Int32) x_1.2).bind fun x_15 => (if x_15.1 = 0 then ((o_X3_tells p0 ((sget x_1.2 p0.toNatClampNeg (0 : Int32).toNatClampNeg) + (sget x_1.2 p1.toNatClampNeg (0 : Int32).toNatClampNeg)) ((sget x_1.2 p0.toNatClampNeg (1 : Int32).toNatClampNeg) + (sget x_1.2 p1.toNatClampNeg (1 : Int32).toNatClampNeg)) ((sget x_1.2 p0.toNatClampNeg (2 : Int32).toNatClampNeg) + (sget x_1.2 p1.toNatClampNeg (2 : Int32).toNatClampNeg)) x_15.2).bind fun x_16 => some (x_16.1, x_16.2)) else some ((0 : Int32), x_15.2)))))) else (if p0 < 0 ∨ 2 ≤ p0.toNatClampNeg then none else (if p1 < 0 ∨ 2 ≤ p1.toNatClampNeg then none else (if m_X3_isNumber ((sget x_1.2 p0.toNatClampNeg (2 : Int32).toNatClampNeg) + (sget x_1.2 p1.toNatClampNeg (2 : Int32).toNatClampNeg)) = 0 then ((o_X3_fails (0 : Int32) ((((0 : Int32) ||| (1 : Int32)) ||| (0 : Int32)) ||| (1 : Int32)) (0 : Int32) x_1.2).bind fun x_13 => (if x_13.1 = 0 then ((o_X3_tells p0 ((sget x_1.2 p0.toNatClampNeg (0 : Int32).toNatClampNeg) + (sget x_1.2 p1.toNatClampNeg (0 : Int32).toNatClampNeg)) ((sget x_1.2 p0.toNatClampNeg (1 : Int32).toNatClampNeg) + (sget x_1.2 p1.toNatClampNeg (1 : Int32).toNatClampNeg)) ((sget x_1.2 p0.toNatClampNeg (2 : Int32).toNatClampNeg) + (sget x_1.2 p1.toNatClampNeg (2 : Int32).toNatClampNeg)) x_13.2).bind fun x_14 => some (x_14.1, x_14.2)) else some ((0 : Int32), x_13.2))) else ((o_X3_fails (0 : Int32) ((((0 : Int32) ||| (1 : Int32)) ||| (0 : Int32)) ||| (0 : Int32)) (0 : Int32) x_1.2).bind fun x_11 => (if x_11.1 = 0 then ((o_X3_tells p0 ((sget x_1.2 p0.toNatClampNeg (0 : Int32).toNatClampNeg) + (sget x_1.2 p1.toNatClampNeg (0 : Int32).toNatClampNeg)) ((sget x_1.2 p0.toNatClampNeg (1 : Int32).toNatClampNeg) + (sget x_1.2 p1.toNatClampNeg (1 : Int32).toNatClampNeg)) ((sget x_1.2 p0.toNatClampNeg (2 : Int32).toNatClampNeg) + (sget x_1.2 p1.toNatClampNeg (2 : Int32).toNatClampNeg)) x_11.2).bind fun x_12 => some (x_12.1, x_12.2)) else some ((0 : Int32), x_11.2))))))))) else (if p0 < 0 ∨ 2 ≤ p0.toNatClampNeg then none else (if p1 < 0 ∨ 2 ≤ p1.toNatClampNeg then none else (if m_X3_isNumber ((sget x_1.2 p0.toNatClampNeg (1 : Int32).toNatClampNeg) + (sget x_1.2 p1.toNatClampNeg (1 : Int32).toNatClampNeg)) = 0 then (if p0 < 0 ∨ 2 ≤ p0.toNatClampNeg then none else (if p1 < 0 ∨ 2 ≤ p1.toNatClampNeg then none else (if m_X3_isNumber ((sget x_1.2 p0.toNatClampNeg (2 : Int32).toNatClampNeg) + (sget x_1.2 p1.toNatClampNeg (2 : Int32).toNatClampNeg)) = 0 then ((o_X3_fails (0 : Int32) ((((0 : Int32) ||| (0 : Int32)) ||| (1 : Int32)) ||| (1 : Int32)) (0 : Int32) x_1.2).bind fun x_9 => (if x_9.1 = 0 then ((o_X3_tells p0 ((sget x_1.2 p0.toNatClampNeg (0 : Int32).toNatClampNeg) + (sget x_1.2 p1.toNatClampNeg (0 : Int32).toNatClampNeg)) ((sget x_1.2 p0.toNatClampNeg (1 : Int32).toNatClampNeg) + (sget x_1.2 p1.toNatClampNeg (1 : Int32).toNatClampNeg)) ((sget x_1.2 p0.toNatClampNeg (2 : Int32).toNatClampNeg) + (sget x_1.2 p1.toNatClampNeg (2 : Int32).toNatClampNeg)) x_9.2).bind fun x_10 => some (x_10.1, x_10.2)) else some ((0 : Int32), x_9.2))) else ((o_X3_fails (0 : Int32) ((((0 : Int32) ||| (0 : Int32)) ||| (1 : Int32)) ||| (0 : Int32)) (0 : Int32) x_1.2).bind fun x_7 => (if x_7.1 = 0 then ((o_X3_tells p0 ((sget x_1.2 p0.toNatClampNeg (0 : Int32).toNatClampNeg) + (sget x_1.2 p1.toNatClampNeg (0 : Int32).toNatClampNeg)) ((sget x_1.2 p0.toNatClampNeg (1 : Int32).toNatClampNeg) + (sget x_1.2 p1.toNatClampNeg (1 : Int32).toNatClampNeg)) ((sget x_1.2 p0.toNatClampNeg (2 : Int32).toNatClampNeg) + (sget x_1.2 p1.toNatClampNeg (2 : Int32).toNatClampNeg)) x_7.2).bind fun x_8 => some (x_8.1, x_8.2)) else some ((0 : Int32), x_7.2)))))) else (if p0 < 0 ∨ 2 ≤ p0.toNatClampNeg then none else (if p1 < 0 ∨ 2 ≤ p1.toNatClampNeg then none else (if m_X3_isNumber ((sget x_1.2 p0.toNatClampNeg (2 : Int32).toNatClampNeg) + (sget x_1.2 p1.toNatClampNeg (2 : Int32).toNatClampNeg)) = 0 then ((o_X3_fails (0 : Int32) ((((0 : Int32) ||| (0 : Int32)) ||| (0 : Int32)) ||| (1 : Int32)) (0 : Int32) x_1.2).bind fun x_5 => (if x_5.1 = 0 then ((o_X3_tells p0 ((sget x_1.2 p0.toNatClampNeg (0 : Int32).toNatClampNeg) + (sget x_1.2 p1.toNatClampNeg (0 : Int32).toNatClampNeg)) ((sget x_1.2 p0.toNatClampNeg (1 : Int32).toNatClampNeg) + (sget x_1.2 p1.toNatClampNeg (1 : Int32).toNatClampNeg)) ((sget x_1.2 p0.toNatClampNeg (2 : Int32).toNatClampNeg) + (sget x_1.2 p1.toNatClampNeg (2 : Int32).toNatClampNeg)) x_5.2).bind fun x_6 => some (x_6.1, x_6.2)) else some ((0 : Int32), x_5.2))) else ((o_X3_fails (0 : Int32) ((((0 : Int32) ||| (0 : Int32)) ||| (0 : Int32)) ||| (0 : Int32)) (0 : Int32) x_1.2).bind fun x_3 => (if x_3.1 = 0 then ((o_X3_tells p0 ((sget x_1.2 p0.toNatClampNeg (0 : Int32).toNatClampNeg) + (sget x_1.2 p1.toNatClampNeg (0 : Int32).toNatClampNeg)) ((sget x_1.2 p0.toNatClampNeg (1 : Int32).toNatClampNeg) + (sget x_1.2 p1.toNatClampNeg (1 : Int32).toNatClampNeg)) ((sget x_1.2 p0.toNatClampNeg (2 : Int32).toNatClampNeg) + (sget x_1.2 p1.toNatClampNeg (2 : Int32).toNatClampNeg)) x_3.2).bind fun x_4 => some (x_4.1, x_4.2)) else some ((0 : Int32), x_3.2)))))))))))) else some ((0 : Int32), x_1.2))))
theorem kk_X3_addSpan : pK yX3_addSpan wsX3_addSpan cX3_addSpan 6 (some .int) 2 := ⟨⟨_, rfl⟩, by decide +kernel, by decide +kernel, by decide +kernel⟩
set_option maxRecDepth 100000 in
set_option maxHeartbeats 4000000 in
theorem k_X3_addSpan (l : Launch) (k : Kx) (b : CA) (L : List Nat) (hD : mD k b L) (p0 : Int32) (p1 : Int32) (z : MS) {r : (Int32 × MS)} (hm : o_X3_addSpan p0 p1 z = some r) : mM l k b L yX3_addSpan wsX3_addSpan 2 45 1 3 [.int p0, .int p1] [] z (some (.int r.1)) r.2 := by
  intro sz q
  refine Met.ofW (cc := cX3_addSpan) (maxL := 6) (ret := (some .int)) (by decide) rfl ?_
  intro p e s m args below meth c s₁ B hml hv
  obtain ⟨rfl, rfl, hGx, hV, hLb, hds⟩ := hv
  have hx := B.exec
  have hb := B.bytes
  have hr := B.returns
  have hts := atoms_spec (ws := wsX3_addSpan) B.pre
  have hown : s.vm.findClass RX3 = some m.cls := findClass_of_methodNamed B.named
  have hlocks := B.notSynchronized
  have htg : ∀ w ∈ GL, w.before _ s = true := fun w h => hts w (List.mem_cons_of_mem _ h)
  have hC : CallFix p m c cX3_addSpan 6 s _ wsX3_addSpan RX3 := ⟨hx, hb, hml, hown, hts⟩
  have hA : ∀ q, s.heap.size ≤ q → cA b s.heap.size q := fun q h => cA.new q h
  have hAB : ∀ q, cA b s.heap.size q → kB k ≤ q := hD.high hGx.2.1
  have hS : mS b s.heap s.heap [] := mS.rf
  have hl := lv_entry ([.ref b.1, .int p0, .int p1]) (n := 6) (Nat.le_of_ble_eq_true rfl)
  rw [lg_entry_eq]
  generalize (lg_sl ([.ref b.1, .int p0, .int p1]) ++ List.replicate (6 - (lg_sl ([.ref b.1, .int p0, .int p1])).length) Slot.unset).toArray = ls at hl ⊢
  have hl : lv_has ls 6 [(0, .ref b.1), (1, .int p0), (2, .int p1)] := hl
  refine lv_aload_n hx hb dX3_addSpan_0 rfl (lv_at hl 0 rfl) ?_
  refine lv_iload_n hx hb dX3_addSpan_1 rfl (lv_at hl 1 rfl) ?_
  refine pc_S hC (c_X3_isNoSpan l p0) (gS w_1197 w_1198 w_27 w_1199) kk_X3_isNoSpan ⟨Nat.le_of_ble_eq_true rfl, Nat.le_of_ble_eq_true rfl⟩ ⟨Nat.le_of_ble_eq_true rfl, Nat.le_of_ble_eq_true rfl⟩ hl.1 rfl rfl (Nat.le_of_ble_eq_true rfl) dX3_addSpan_2 ?_
  refine lv_if_ne (tgt := 15) hx hb dX3_addSpan_5 (by decide) (fun h_1 => ?_) (fun h_1 => ?_)
  · have hm := (if_neg h_1).symm.trans hm
    refine lv_iconst (v := 1) hx hb dX3_addSpan_15 (by decide) ?_
    refine lv_goto (tgt := 20) hx hb dX3_addSpan_16 (by decide) ?_
    refine lv_iconst (v := 0) hx hb dX3_addSpan_20 (by decide) ?_
    refine lv_iconst (v := 0) hx hb dX3_addSpan_21 (by decide) ?_
    obtain ⟨x_1, hx_1, hm⟩ := Option.bind_eq_some_iff.mp hm
    refine mc_V hC hGx hD (k_X3_fails l k b L hD (1 : Int32) (0 : Int32) (0 : Int32)  z hx_1) (gV w_1056 w_1057 w_18 w_27 w_1058) kk_X3_fails rfl (List.forall_mem_nil _) hLb ⟨Nat.le_of_ble_eq_true rfl, Nat.le_of_ble_eq_true rfl⟩ ⟨Nat.le_of_ble_eq_true rfl, Nat.le_of_ble_eq_true rfl⟩ hV hS hl.1 rfl rfl (Nat.le_of_ble_eq_true rfl) dX3_addSpan_22 (fun q_1 H locs hV hS hz hq => ?_)
    refine lv_if_eq (tgt := 30) hx hb dX3_addSpan_25 (by decide) (fun h_2 => ?_) (fun h_2 => ?_)
    · have hm := (if_pos h_2).symm.trans hm
      refine lv_iconst (v := 3) hx hb dX3_addSpan_30 (by decide) ?_
      have hLn_2 := m_hLn hLb hS
      have hL9 := hS.2
      have hV_2 := hV
      have hs_2 := hS.1.1
      refine m_newI (n := 3) hx hb (htg _ w_77) hGx hS.1 (by decide) (by decide) (by decide) ⟨Nat.le_of_ble_eq_true rfl, Nat.le_of_ble_eq_true rfl⟩ dX3_addSpan_31 (fun a_2 H hn_2 hz_2 hA_2 hq hS => ?_)
      have hS : mS b s.heap H _ := ⟨hS, hL9⟩
      have hV := hV.up hq
      have hA_2 := aF.made hLn_2 hn_2 hA_2
      have hq_2 := hq
      refine lv_astore_n (lv' := [(3, .ref a_2), (0, .ref b.1), (1, .int p0), (2, .int p1)]) hx hb dX3_addSpan_33 rfl hl (by decide) rfl (fun ls hl => ?_)
      refine lv_iconst (v := 0) hx hb dX3_addSpan_34 (by decide) ?_
      refine lv_istore (lv' := [(4, .int (0 : Int32)), (3, .ref a_2), (0, .ref b.1), (1, .int p0), (2, .int p1)]) hx hb dX3_addSpan_35 hl (by decide) rfl (fun ls hl => ?_)
      refine lv_iconst (v := 0) hx hb dX3_addSpan_37 (by decide) ?_
      refine lv_istore (lv' := [(5, .int (0 : Int32)), (4, .int (0 : Int32)), (3, .ref a_2), (0, .ref b.1), (1, .int p0), (2, .int p1)]) hx hb dX3_addSpan_38 hl (by decide) rfl (fun ls hl => ?_)
      refine lv_iload hx hb dX3_addSpan_40 (lv_at hl 0 rfl) ?_
      refine lv_iconst (v := 3) hx hb dX3_addSpan_42 (by decide) ?_
      refine lv_icmp_ge (tgt := 95) hx hb dX3_addSpan_43 (by decide) (fun h => absurd h (by decide)) (fun _ => ?_)
      refine lv_aload_n hx hb dX3_addSpan_46 rfl (lv_at hl 2 rfl) ?_
      refine lv_iload hx hb dX3_addSpan_47 (lv_at hl 0 rfl) ?_
      refine lv_aload_n hx hb dX3_addSpan_49 rfl (lv_at hl 3 rfl) ?_
      refine va_get (D := kD k) (ci := 5) (v := .ref b.2.2.1) (C := RX3) (T := TX3) (N := 5) hx hb htg inG_X3 hown hGx.1 hV.1 0 rfl rfl 2 (by decide) (htg _ w_1013) (fun _ h9 => h9) rfl dX3_addSpan_50 ?_
      refine lv_iload_n hx hb dX3_addSpan_53 rfl (lv_at hl 4 rfl) ?_
      by_cases h_3 : p0 < 0 ∨ 2 ≤ p0.toNatClampNeg
      · have hm := (if_pos h_3).symm.trans hm
        cases hm
      have hm := (if_neg h_3).symm.trans hm
      refine m_lds hx hb hGx hV h_3 dX3_addSpan_54 ?_
      refine lv_iload hx hb dX3_addSpan_55 (lv_at hl 0 rfl) ?_
      refine m_sld hx hb hGx hV (show ¬ ((0 : Int32) < 0 ∨ 3 ≤ ((0 : Int32)).toNatClampNeg) by decide) dX3_addSpan_57 ?_
      refine lv_aload_n hx hb dX3_addSpan_58 rfl (lv_at hl 3 rfl) ?_
      refine va_get (D := kD k) (ci := 5) (v := .ref b.2.2.1) (C := RX3) (T := TX3) (N := 5) hx hb htg inG_X3 hown hGx.1 hV.1 0 rfl rfl 2 (by decide) (htg _ w_1013) (fun _ h9 => h9) rfl dX3_addSpan_59 ?_
      refine lv_iload_n hx hb dX3_addSpan_62 rfl (lv_at hl 5 rfl) ?_
      by_cases h_4 : p1 < 0 ∨ 2 ≤ p1.toNatClampNeg
      · have hm := (if_pos h_4).symm.trans hm
        cases hm
      have hm := (if_neg h_4).symm.trans hm
      refine m_lds hx hb hGx hV h_4 dX3_addSpan_63 ?_
      refine lv_iload hx hb dX3_addSpan_64 (lv_at hl 0 rfl) ?_
      refine m_sld hx hb hGx hV (show ¬ ((0 : Int32) < 0 ∨ 3 ≤ ((0 : Int32)).toNatClampNeg) by decide) dX3_addSpan_66 ?_
      refine lv_iadd hx hb dX3_addSpan_67 ?_
      have hL9 := hS.2
      refine m_niast (j := 0) hx hb hGx (Nat.le_trans hs_2 hn_2) hA_2.1 (show ¬ ((0 : Int32) < 0 ∨ 3 ≤ ((0 : Int32)).toNatClampNeg) by decide) (by decide) hS.1 hA dX3_addSpan_68 (fun H hA_2 hz9 hq9 hS => ?_)
      have hq_2 := m_q2 hn_2 hz_2 hq_2 hq9
      have hz_2 := Nat.le_trans hz_2 hz9
      have hS : mS b s.heap H _ := ⟨hS, hL9⟩
      have hV := hV_2.up hq_2
      have hA_2 := aF.made hLn_2 hn_2 hA_2
      refine lv_iload hx hb dX3_addSpan_69 (lv_at hl 1 rfl) ?_
      refine lv_aload_n hx hb dX3_addSpan_71 rfl (lv_at hl 2 rfl) ?_
      refine lv_iload hx hb dX3_addSpan_72 (lv_at hl 0 rfl) ?_
      refine m_niald (j := 0) (v := ((sget x_1.2 p0.toNatClampNeg (0 : Int32).toNatClampNeg) + (sget x_1.2 p1.toNatClampNeg (0 : Int32).toNatClampNeg))) hx hb hGx hA_2.1 (show ¬ ((0 : Int32) < 0 ∨ 3 ≤ ((0 : Int32)).toNatClampNeg) by decide) (by decide) rfl dX3_addSpan_74 ?_
      refine pc_S hC (c_X3_isNumber l ((sget x_1.2 p0.toNatClampNeg (0 : Int32).toNatClampNeg) + (sget x_1.2 p1.toNatClampNeg (0 : Int32).toNatClampNeg))) (gS w_1200 w_1201 w_27 w_1202) kk_X3_isNumber ⟨Nat.le_of_ble_eq_true rfl, Nat.le_of_ble_eq_true rfl⟩ ⟨Nat.le_of_ble_eq_true rfl, Nat.le_of_ble_eq_true rfl⟩ hl.1 rfl rfl (Nat.le_of_ble_eq_true rfl) dX3_addSpan_75 ?_
      refine lv_if_ne (tgt := 85) hx hb dX3_addSpan_78 (by decide) (fun h_5 => ?_) (fun h_5 => ?_)
      · have hm := (if_neg h_5).symm.trans hm
        refine lv_iconst (v := 0) hx hb dX3_addSpan_85 (by decide) ?_
        refine lv_ior hx hb dX3_addSpan_86 ?_
        refine lv_istore (lv' := [(4, .int ((0 : Int32) ||| (0 : Int32))), (5, .int (0 : Int32)), (3, .ref a_2), (0, .ref b.1), (1, .int p0), (2, .int p1)]) hx hb dX3_addSpan_87 hl (by decide) rfl (fun ls hl => ?_)
        refine lv_iinc (v := (1 : Int32)) (lv' := [(5, .int (1 : Int32)), (4, .int ((0 : Int32) ||| (0 : Int32))), (3, .ref a_2), (0, .ref b.1), (1, .int p0), (2, .int p1)]) hx hb dX3_addSpan_89 hl (k := 1) rfl (by decide) (by decide) rfl (fun ls hl => ?_)
        refine lv_goto (tgt := 40) hx hb dX3_addSpan_92 (by decide) ?_
        refine lv_iload hx hb dX3_addSpan_40 (lv_at hl 0 rfl) ?_
        refine lv_iconst (v := 3) hx hb dX3_addSpan_42 (by decide) ?_
        refine lv_icmp_ge (tgt := 95) hx hb dX3_addSpan_43 (by decide) (fun h => absurd h (by decide)) (fun _ => ?_)
        refine lv_aload_n hx hb dX3_addSpan_46 rfl (lv_at hl 2 rfl) ?_
        refine lv_iload hx hb dX3_addSpan_47 (lv_at hl 0 rfl) ?_
        refine lv_aload_n hx hb dX3_addSpan_49 rfl (lv_at hl 3 rfl) ?_
        refine va_get (D := kD k) (ci := 5) (v := .ref b.2.2.1) (C := RX3) (T := TX3) (N := 5) hx hb htg inG_X3 hown hGx.1 hV.1 0 rfl rfl 2 (by decide) (htg _ w_1013) (fun _ h9 => h9) rfl dX3_addSpan_50 ?_
        refine lv_iload_n hx hb dX3_addSpan_53 rfl (lv_at hl 4 rfl) ?_
        by_cases h_6 : p0 < 0 ∨ 2 ≤ p0.toNatClampNeg
        · have hm := (if_pos h_6).symm.trans hm
          cases hm
        have hm := (if_neg h_6).symm.trans hm
        refine m_lds hx hb hGx hV h_6 dX3_addSpan_54 ?_
        refine lv_iload hx hb dX3_addSpan_55 (lv_at hl 0 rfl) ?_
        refine m_sld hx hb hGx hV (show ¬ ((1 : Int32) < 0 ∨ 3 ≤ ((1 : Int32)).toNatClampNeg) by decide) dX3_addSpan_57 ?_
        refine lv_aload_n hx hb dX3_addSpan_58 rfl (lv_at hl 3 rfl) ?_
        refine va_get (D := kD k) (ci := 5) (v := .ref b.2.2.1) (C := RX3) (T := TX3) (N := 5) hx hb htg inG_X3 hown hGx.1 hV.1 0 rfl rfl 2 (by decide) (htg _ w_1013) (fun _ h9 => h9) rfl dX3_addSpan_59 ?_
        refine lv_iload_n hx hb dX3_addSpan_62 rfl (lv_at hl 5 rfl) ?_
        by_cases h_7 : p1 < 0 ∨ 2 ≤ p1.toNatClampNeg
        · have hm := (if_pos h_7).symm.trans hm
          cases hm
        have hm := (if_neg h_7).symm.trans hm
        refine m_lds hx hb hGx hV h_7 dX3_addSpan_63 ?_
        refine lv_iload hx hb dX3_addSpan_64 (lv_at hl 0 rfl) ?_
        refine m_sld hx hb hGx hV (show ¬ ((1 : Int32) < 0 ∨ 3 ≤ ((1 : Int32)).toNatClampNeg) by decide) dX3_addSpan_66 ?_
        refine lv_iadd hx hb dX3_addSpan_67 ?_
        have hL9 := hS.2
        refine m_niast (j := 1) hx hb hGx (Nat.le_trans hs_2 hn_2) hA_2.1 (show ¬ ((1 : Int32) < 0 ∨ 3 ≤ ((1 : Int32)).toNatClampNeg) by decide) (by decide) hS.1 hA dX3_addSpan_68 (fun H hA_2 hz9 hq9 hS => ?_)
        have hq_2 := m_q2 hn_2 hz_2 hq_2 hq9
        have hz_2 := Nat.le_trans hz_2 hz9
        have hS : mS b s.heap H _ := ⟨hS, hL9⟩
        have hV := hV_2.up hq_2
        have hA_2 := aF.made hLn_2 hn_2 hA_2
        refine lv_iload hx hb dX3_addSpan_69 (lv_at hl 1 rfl) ?_
        refine lv_aload_n hx hb dX3_addSpan_71 rfl (lv_at hl 2 rfl) ?_
        refine lv_iload hx hb dX3_addSpan_72 (lv_at hl 0 rfl) ?_
        refine m_niald (j := 1) (v := ((sget x_1.2 p0.toNatClampNeg (1 : Int32).toNatClampNeg) + (sget x_1.2 p1.toNatClampNeg (1 : Int32).toNatClampNeg))) hx hb hGx hA_2.1 (show ¬ ((1 : Int32) < 0 ∨ 3 ≤ ((1 : Int32)).toNatClampNeg) by decide) (by decide) rfl dX3_addSpan_74 ?_
        refine pc_S hC (c_X3_isNumber l ((sget x_1.2 p0.toNatClampNeg (1 : Int32).toNatClampNeg) + (sget x_1.2 p1.toNatClampNeg (1 : Int32).toNatClampNeg))) (gS w_1200 w_1201 w_27 w_1202) kk_X3_isNumber ⟨Nat.le_of_ble_eq_true rfl, Nat.le_of_ble_eq_true rfl⟩ ⟨Nat.le_of_ble_eq_true rfl, Nat.le_of_ble_eq_true rfl⟩ hl.1 rfl rfl (Nat.le_of_ble_eq_true rfl) dX3_addSpan_75 ?_
        refine lv_if_ne (tgt := 85) hx hb dX3_addSpan_78 (by decide) (fun h_8 => ?_) (fun h_8 => ?_)
        · have hm := (if_neg h_8).symm.trans hm
          refine lv_iconst (v := 0) hx hb dX3_addSpan_85 (by decide) ?_
          refine lv_ior hx hb dX3_addSpan_86 ?_
          refine lv_istore (lv' := [(4, .int (((0 : Int32) ||| (0 : Int32)) ||| (0 : Int32))), (5, .int (1 : Int32)), (3, .ref a_2), (0, .ref b.1), (1, .int p0), (2, .int p1)]) hx hb dX3_addSpan_87 hl (by decide) rfl (fun ls hl => ?_)
          refine lv_iinc (v := (2 : Int32)) (lv' := [(5, .int (2 : Int32)), (4, .int (((0 : Int32) ||| (0 : Int32)) ||| (0 : Int32))), (3, .ref a_2), (0, .ref b.1), (1, .int p0), (2, .int p1)]) hx hb dX3_addSpan_89 hl (k := 1) rfl (by decide) (by decide) rfl (fun ls hl => ?_)
          refine lv_goto (tgt := 40) hx hb dX3_addSpan_92 (by decide) ?_
          refine lv_iload hx hb dX3_addSpan_40 (lv_at hl 0 rfl) ?_
          refine lv_iconst (v := 3) hx hb dX3_addSpan_42 (by decide) ?_
          refine lv_icmp_ge (tgt := 95) hx hb dX3_addSpan_43 (by decide) (fun h => absurd h (by decide)) (fun _ => ?_)
          refine lv_aload_n hx hb dX3_addSpan_46 rfl (lv_at hl 2 rfl) ?_
          refine lv_iload hx hb dX3_addSpan_47 (lv_at hl 0 rfl) ?_
          refine lv_aload_n hx hb dX3_addSpan_49 rfl (lv_at hl 3 rfl) ?_
          refine va_get (D := kD k) (ci := 5) (v := .ref b.2.2.1) (C := RX3) (T := TX3) (N := 5) hx hb htg inG_X3 hown hGx.1 hV.1 0 rfl rfl 2 (by decide) (htg _ w_1013) (fun _ h9 => h9) rfl dX3_addSpan_50 ?_
          refine lv_iload_n hx hb dX3_addSpan_53 rfl (lv_at hl 4 rfl) ?_
          by_cases h_9 : p0 < 0 ∨ 2 ≤ p0.toNatClampNeg
          · have hm := (if_pos h_9).symm.trans hm
            cases hm
          have hm := (if_neg h_9).symm.trans hm
          refine m_lds hx hb hGx hV h_9 dX3_addSpan_54 ?_
          refine lv_iload hx hb dX3_addSpan_55 (lv_at hl 0 rfl) ?_
          refine m_sld hx hb hGx hV (show ¬ ((2 : Int32) < 0 ∨ 3 ≤ ((2 : Int32)).toNatClampNeg) by decide) dX3_addSpan_57 ?_
          refine lv_aload_n hx hb dX3_addSpan_58 rfl (lv_at hl 3 rfl) ?_
          refine va_get (D := kD k) (ci := 5) (v := .ref b.2.2.1) (C := RX3) (T := TX3) (N := 5) hx hb htg inG_X3 hown hGx.1 hV.1 0 rfl rfl 2 (by decide) (htg _ w_1013) (fun _ h9 => h9) rfl dX3_addSpan_59 ?_
          refine lv_iload_n hx hb dX3_addSpan_62 rfl (lv_at hl 5 rfl) ?_
          by_cases h_10 : p1 < 0 ∨ 2 ≤ p1.toNatClampNeg
          · have hm := (if_pos h_10).symm.trans hm
            cases hm
          have hm := (if_neg h_10).symm.trans hm
          refine m_lds hx hb hGx hV h_10 dX3_addSpan_63 ?_
          refine lv_iload hx hb dX3_addSpan_64 (lv_at hl 0 rfl) ?_
          refine m_sld hx hb hGx hV (show ¬ ((2 : Int32) < 0 ∨ 3 ≤ ((2 : Int32)).toNatClampNeg) by decide) dX3_addSpan_66 ?_
          refine lv_iadd hx hb dX3_addSpan_67 ?_
          have hL9 := hS.2
          refine m_niast (j := 2) hx hb hGx (Nat.le_trans hs_2 hn_2) hA_2.1 (show ¬ ((2 : Int32) < 0 ∨ 3 ≤ ((2 : Int32)).toNatClampNeg) by decide) (by decide) hS.1 hA dX3_addSpan_68 (fun H hA_2 hz9 hq9 hS => ?_)
          have hq_2 := m_q2 hn_2 hz_2 hq_2 hq9
          have hz_2 := Nat.le_trans hz_2 hz9
          have hS : mS b s.heap H _ := ⟨hS, hL9⟩
          have hV := hV_2.up hq_2
          have hA_2 := aF.made hLn_2 hn_2 hA_2
          refine lv_iload hx hb dX3_addSpan_69 (lv_at hl 1 rfl) ?_
          refine lv_aload_n hx hb dX3_addSpan_71 rfl (lv_at hl 2 rfl) ?_
          refine lv_iload hx hb dX3_addSpan_72 (lv_at hl 0 rfl) ?_
          refine m_niald (j := 2) (v := ((sget x_1.2 p0.toNatClampNeg (2 : Int32).toNatClampNeg) + (sget x_1.2 p1.toNatClampNeg (2 : Int32).toNatClampNeg))) hx hb hGx hA_2.1 (show ¬ ((2 : Int32) < 0 ∨ 3 ≤ ((2 : Int32)).toNatClampNeg) by decide) (by decide) rfl dX3_addSpan_74 ?_
          refine pc_S hC (c_X3_isNumber l ((sget x_1.2 p0.toNatClampNeg (2 : Int32).toNatClampNeg) + (sget x_1.2 p1.toNatClampNeg (2 : Int32).toNatClampNeg))) (gS w_1200 w_1201 w_27 w_1202) kk_X3_isNumber ⟨Nat.le_of_ble_eq_true rfl, Nat.le_of_ble_eq_true rfl⟩ ⟨Nat.le_of_ble_eq_true rfl, Nat.le_of_ble_eq_true rfl⟩ hl.1 rfl rfl (Nat.le_of_ble_eq_true rfl) dX3_addSpan_75 ?_
          refine lv_if_ne (tgt := 85) hx hb dX3_addSpan_78 (by decide) (fun h_11 => ?_) (fun h_11 => ?_)
          · have hm := (if_neg h_11).symm.trans hm
            refine lv_iconst (v := 0) hx hb dX3_addSpan_85 (by decide) ?_
            refine lv_ior hx hb dX3_addSpan_86 ?_
            refine lv_istore (lv' := [(4, .int ((((0 : Int32) ||| (0 : Int32)) ||| (0 : Int32)) ||| (0 : Int32))), (5, .int (2 : Int32)), (3, .ref a_2), (0, .ref b.1), (1, .int p0), (2, .int p1)]) hx hb dX3_addSpan_87 hl (by decide) rfl (fun ls hl => ?_)
            refine lv_iinc (v := (3 : Int32)) (lv' := [(5, .int (3 : Int32)), (4, .int ((((0 : Int32) ||| (0 : Int32)) ||| (0 : Int32)) ||| (0 : Int32))), (3, .ref a_2), (0, .ref b.1), (1, .int p0), (2, .int p1)]) hx hb dX3_addSpan_89 hl (k := 1) rfl (by decide) (by decide) rfl (fun ls hl => ?_)
            refine lv_goto (tgt := 40) hx hb dX3_addSpan_92 (by decide) ?_
            refine lv_iload hx hb dX3_addSpan_40 (lv_at hl 0 rfl) ?_
            refine lv_iconst (v := 3) hx hb dX3_addSpan_42 (by decide) ?_
            refine lv_icmp_ge (tgt := 95) hx hb dX3_addSpan_43 (by decide) (fun _ => ?_) (fun h => absurd h (by decide))
            refine lv_aload_n hx hb dX3_addSpan_95 rfl (lv_at hl 3 rfl) ?_
            refine lv_iconst (v := 0) hx hb dX3_addSpan_96 (by decide) ?_
            refine lv_iload hx hb dX3_addSpan_97 (lv_at hl 1 rfl) ?_
            refine lv_iconst (v := 0) hx hb dX3_addSpan_99 (by decide) ?_
            obtain ⟨x_3, hx_3, hm⟩ := Option.bind_eq_some_iff.mp hm
            refine mc_V hC hGx hD (k_X3_fails l k b L hD (0 : Int32) ((((0 : Int32) ||| (0 : Int32)) ||| (0 : Int32)) ||| (0 : Int32)) (0 : Int32)  x_1.2 hx_3) (gV w_1056 w_1057 w_18 w_27 w_1058) kk_X3_fails rfl (List.forall_mem_nil _) hLb ⟨Nat.le_of_ble_eq_true rfl, Nat.le_of_ble_eq_true rfl⟩ ⟨Nat.le_of_ble_eq_true rfl, Nat.le_of_ble_eq_true rfl⟩ hV hS hl.1 rfl rfl (Nat.le_of_ble_eq_true rfl) dX3_addSpan_100 (fun q_3 H locs hV hS hz hq => ?_)
            have hA_2 := hA_2.up hq
            refine lv_if_eq (tgt := 110) hx hb dX3_addSpan_103 (by decide) (fun h_12 => ?_) (fun h_12 => ?_)
            · have hm := (if_pos h_12).symm.trans hm
              refine lv_aload_n hx hb dX3_addSpan_110 rfl (lv_at hl 3 rfl) ?_
              refine lv_iload_n hx hb dX3_addSpan_111 rfl (lv_at hl 4 rfl) ?_
              refine lv_aload_n hx hb dX3_addSpan_112 rfl (lv_at hl 2 rfl) ?_
              refine lv_iconst (v := 0) hx hb dX3_addSpan_113 (by decide) ?_
              refine m_niald (j := 0) (v := ((sget x_1.2 p0.toNatClampNeg (0 : Int32).toNatClampNeg) + (sget x_1.2 p1.toNatClampNeg (0 : Int32).toNatClampNeg))) hx hb hGx hA_2.1 (show ¬ ((0 : Int32) < 0 ∨ 3 ≤ ((0 : Int32)).toNatClampNeg) by decide) (by decide) rfl dX3_addSpan_114 ?_
              refine lv_aload_n hx hb dX3_addSpan_115 rfl (lv_at hl 2 rfl) ?_
              refine lv_iconst (v := 1) hx hb dX3_addSpan_116 (by decide) ?_
              refine m_niald (j := 1) (v := ((sget x_1.2 p0.toNatClampNeg (1 : Int32).toNatClampNeg) + (sget x_1.2 p1.toNatClampNeg (1 : Int32).toNatClampNeg))) hx hb hGx hA_2.1 (show ¬ ((1 : Int32) < 0 ∨ 3 ≤ ((1 : Int32)).toNatClampNeg) by decide) (by decide) rfl dX3_addSpan_117 ?_
              refine lv_aload_n hx hb dX3_addSpan_118 rfl (lv_at hl 2 rfl) ?_
              refine lv_iconst (v := 2) hx hb dX3_addSpan_119 (by decide) ?_
              refine m_niald (j := 2) (v := ((sget x_1.2 p0.toNatClampNeg (2 : Int32).toNatClampNeg) + (sget x_1.2 p1.toNatClampNeg (2 : Int32).toNatClampNeg))) hx hb hGx hA_2.1 (show ¬ ((2 : Int32) < 0 ∨ 3 ≤ ((2 : Int32)).toNatClampNeg) by decide) (by decide) rfl dX3_addSpan_120 ?_
              obtain ⟨x_4, hx_4, hm⟩ := Option.bind_eq_some_iff.mp hm
              refine mc_V hC hGx hD (k_X3_tells l k b L hD p0 ((sget x_1.2 p0.toNatClampNeg (0 : Int32).toNatClampNeg) + (sget x_1.2 p1.toNatClampNeg (0 : Int32).toNatClampNeg)) ((sget x_1.2 p0.toNatClampNeg (1 : Int32).toNatClampNeg) + (sget x_1.2 p1.toNatClampNeg (1 : Int32).toNatClampNeg)) ((sget x_1.2 p0.toNatClampNeg (2 : Int32).toNatClampNeg) + (sget x_1.2 p1.toNatClampNeg (2 : Int32).toNatClampNeg))  x_3.2 hx_4) (gV w_1205 w_1206 w_21 w_27 w_1207) kk_X3_tells rfl (List.forall_mem_nil _) hLb ⟨Nat.le_of_ble_eq_true rfl, Nat.le_of_ble_eq_true rfl⟩ ⟨Nat.le_of_ble_eq_true rfl, Nat.le_of_ble_eq_true rfl⟩ hV hS hl.1 rfl rfl (Nat.le_of_ble_eq_true rfl) dX3_addSpan_121 (fun q_4 H locs hV hS hz hq => ?_)
              have hA_2 := hA_2.up hq
              exact m_iret hx hb hr hlocks (Option.some.inj hm) hV hS ⟨Nat.le_of_ble_eq_true rfl, Nat.le_of_ble_eq_true rfl⟩ dX3_addSpan_124
            · have hm := (if_neg h_12).symm.trans hm
              refine lv_iconst (v := 0) hx hb dX3_addSpan_106 (by decide) ?_
              refine lv_goto (tgt := 124) hx hb dX3_addSpan_107 (by decide) ?_
              exact m_iret hx hb hr hlocks (Option.some.inj hm) hV hS ⟨Nat.le_of_ble_eq_true rfl, Nat.le_of_ble_eq_true rfl⟩ dX3_addSpan_124
          · have hm := (if_pos h_11).symm.trans hm
            refine lv_iconst (v := 1) hx hb dX3_addSpan_81 (by decide) ?_
            refine lv_goto (tgt := 86) hx hb dX3_addSpan_82 (by decide) ?_
            refine lv_ior hx hb dX3_addSpan_86 ?_
            refine lv_istore (lv' := [(4, .int ((((0 : Int32) ||| (0 : Int32)) ||| (0 : Int32)) ||| (1 : Int32))), (5, .int (2 : Int32)), (3, .ref a_2), (0, .ref b.1), (1, .int p0), (2, .int p1)]) hx hb dX3_addSpan_87 hl (by decide) rfl (fun ls hl => ?_)
            refine lv_iinc (v := (3 : Int32)) (lv' := [(5, .int (3 : Int32)), (4, .int ((((0 : Int32) ||| (0 : Int32)) ||| (0 : Int32)) ||| (1 : Int32))), (3, .ref a_2), (0, .ref b.1), (1, .int p0), (2, .int p1)]) hx hb dX3_addSpan_89 hl (k := 1) rfl (by decide) (by decide) rfl (fun ls hl => ?_)
            refine lv_goto (tgt := 40) hx hb dX3_addSpan_92 (by decide) ?_
            refine lv_iload hx hb dX3_addSpan_40 (lv_at hl 0 rfl) ?_
            refine lv_iconst (v := 3) hx hb dX3_addSpan_42 (by decide) ?_
            refine lv_icmp_ge (tgt := 95) hx hb dX3_addSpan_43 (by decide) (fun _ => ?_) (fun h => absurd h (by decide))
            refine lv_aload_n hx hb dX3_addSpan_95 rfl (lv_at hl 3 rfl) ?_
            refine lv_iconst (v := 0) hx hb dX3_addSpan_96 (by decide) ?_
            refine lv_iload hx hb dX3_addSpan_97 (lv_at hl 1 rfl) ?_
            refine lv_iconst (v := 0) hx hb dX3_addSpan_99 (by decide) ?_
            obtain ⟨x_5, hx_5, hm⟩ := Option.bind_eq_some_iff.mp hm
            refine mc_V hC hGx hD (k_X3_fails l k b L hD (0 : Int32) ((((0 : Int32) ||| (0 : Int32)) ||| (0 : Int32)) ||| (1 : Int32)) (0 : Int32)  x_1.2 hx_5) (gV w_1056 w_1057 w_18 w_27 w_1058) kk_X3_fails rfl (List.forall_mem_nil _) hLb ⟨Nat.le_of_ble_eq_true rfl, Nat.le_of_ble_eq_true rfl⟩ ⟨Nat.le_of_ble_eq_true rfl, Nat.le_of_ble_eq_true rfl⟩ hV hS hl.1 rfl rfl (Nat.le_of_ble_eq_true rfl) dX3_addSpan_100 (fun q_5 H locs hV hS hz hq => ?_)
            have hA_2 := hA_2.up hq
            refine lv_if_eq (tgt := 110) hx hb dX3_addSpan_103 (by decide) (fun h_13 => ?_) (fun h_13 => ?_)
            · have hm := (if_pos h_13).symm.trans hm
              refine lv_aload_n hx hb dX3_addSpan_110 rfl (lv_at hl 3 rfl) ?_
              refine lv_iload_n hx hb dX3_addSpan_111 rfl (lv_at hl 4 rfl) ?_
              refine lv_aload_n hx hb dX3_addSpan_112 rfl (lv_at hl 2 rfl) ?_
              refine lv_iconst (v := 0) hx hb dX3_addSpan_113 (by decide) ?_
              refine m_niald (j := 0) (v := ((sget x_1.2 p0.toNatClampNeg (0 : Int32).toNatClampNeg) + (sget x_1.2 p1.toNatClampNeg (0 : Int32).toNatClampNeg))) hx hb hGx hA_2.1 (show ¬ ((0 : Int32) < 0 ∨ 3 ≤ ((0 : Int32)).toNatClampNeg) by decide) (by decide) rfl dX3_addSpan_114 ?_
              refine lv_aload_n hx hb dX3_addSpan_115 rfl (lv_at hl 2 rfl) ?_
              refine lv_iconst (v := 1) hx hb dX3_addSpan_116 (by decide) ?_
              refine m_niald (j := 1) (v := ((sget x_1.2 p0.toNatClampNeg (1 : Int32).toNatClampNeg) + (sget x_1.2 p1.toNatClampNeg (1 : Int32).toNatClampNeg))) hx hb hGx hA_2.1 (show ¬ ((1 : Int32) < 0 ∨ 3 ≤ ((1 : Int32)).toNatClampNeg) by decide) (by decide) rfl dX3_addSpan_117 ?_
              refine lv_aload_n hx hb dX3_addSpan_118 rfl (lv_at hl 2 rfl) ?_
              refine lv_iconst (v := 2) hx hb dX3_addSpan_119 (by decide) ?_
              refine m_niald (j := 2) (v := ((sget x_1.2 p0.toNatClampNeg (2 : Int32).toNatClampNeg) + (sget x_1.2 p1.toNatClampNeg (2 : Int32).toNatClampNeg))) hx hb hGx hA_2.1 (show ¬ ((2 : Int32) < 0 ∨ 3 ≤ ((2 : Int32)).toNatClampNeg) by decide) (by decide) rfl dX3_addSpan_120 ?_
              obtain ⟨x_6, hx_6, hm⟩ := Option.bind_eq_some_iff.mp hm
              refine mc_V hC hGx hD (k_X3_tells l k b L hD p0 ((sget x_1.2 p0.toNatClampNeg (0 : Int32).toNatClampNeg) + (sget x_1.2 p1.toNatClampNeg (0 : Int32).toNatClampNeg)) ((sget x_1.2 p0.toNatClampNeg (1 : Int32).toNatClampNeg) + (sget x_1.2 p1.toNatClampNeg (1 : Int32).toNatClampNeg)) ((sget x_1.2 p0.toNatClampNeg (2 : Int32).toNatClampNeg) + (sget x_1.2 p1.toNatClampNeg (2 : Int32).toNatClampNeg))  x_5.2 hx_6) (gV w_1205 w_1206 w_21 w_27 w_1207) kk_X3_tells rfl (List.forall_mem_nil _) hLb ⟨Nat.le_of_ble_eq_true rfl, Nat.le_of_ble_eq_true rfl⟩ ⟨Nat.le_of_ble_eq_true rfl, Nat.le_of_ble_eq_true rfl⟩ hV hS hl.1 rfl rfl (Nat.le_of_ble_eq_true rfl) dX3_addSpan_121 (fun q_6 H locs hV hS hz hq => ?_)
              have hA_2 := hA_2.up hq
              exact m_iret hx hb hr hlocks (Option.some.inj hm) hV hS ⟨Nat.le_of_ble_eq_true rfl, Nat.le_of_ble_eq_true rfl⟩ dX3_addSpan_124
            · have hm := (if_neg h_13).symm.trans hm
              refine lv_iconst (v := 0) hx hb dX3_addSpan_106 (by decide) ?_
              refine lv_goto (tgt := 124) hx hb dX3_addSpan_107 (by decide) ?_
              exact m_iret hx hb hr hlocks (Option.some.inj hm) hV hS ⟨Nat.le_of_ble_eq_true rfl, Nat.le_of_ble_eq_true rfl⟩ dX3_addSpan_124
        · have hm := (if_pos h_8).symm.trans hm
          refine lv_iconst (v := 1) hx hb dX3_addSpan_81 (by decide) ?_
          refine lv_goto (tgt := 86) hx hb dX3_addSpan_82 (by decide) ?_
          refine lv_ior hx hb dX3_addSpan_86 ?_
          refine lv_istore (lv' := [(4, .int (((0 : Int32) ||| (0 : Int32)) ||| (1 : Int32))), (5, .int (1 : Int32)), (3, .ref a_2), (0, .ref b.1), (1, .int p0), (2, .int p1)]) hx hb dX3_addSpan_87 hl (by decide) rfl (fun ls hl => ?_)
          refine lv_iinc (v := (2 : Int32)) (lv' := [(5, .int (2 : Int32)), (4, .int (((0 : Int32) ||| (0 : Int32)) ||| (1 : Int32))), (3, .ref a_2), (0, .ref b.1), (1, .int p0), (2, .int p1)]) hx hb dX3_addSpan_89 hl (k := 1) rfl (by decide) (by decide) rfl (fun ls hl => ?_)
          refine lv_goto (tgt := 40) hx hb dX3_addSpan_92 (by decide) ?_
          refine lv_iload hx hb dX3_addSpan_40 (lv_at hl 0 rfl) ?_
          refine lv_iconst (v := 3) hx hb dX3_addSpan_42 (by decide) ?_
          refine lv_icmp_ge (tgt := 95) hx hb dX3_addSpan_43 (by decide) (fun h => absurd h (by decide)) (fun _ => ?_)
          refine lv_aload_n hx hb dX3_addSpan_46 rfl (lv_at hl 2 rfl) ?_
          refine lv_iload hx hb dX3_addSpan_47 (lv_at hl 0 rfl) ?_
          refine lv_aload_n hx hb dX3_addSpan_49 rfl (lv_at hl 3 rfl) ?_
          refine va_get (D := kD k) (ci := 5) (v := .ref b.2.2.1) (C := RX3) (T := TX3) (N := 5) hx hb htg inG_X3 hown hGx.1 hV.1 0 rfl rfl 2 (by decide) (htg _ w_1013) (fun _ h9 => h9) rfl dX3_addSpan_50 ?_
          refine lv_iload_n hx hb dX3_addSpan_53 rfl (lv_at hl 4 rfl) ?_
          by_cases h_14 : p0 < 0 ∨ 2 ≤ p0.toNatClampNeg
          · have hm := (if_pos h_14).symm.trans hm
            cases hm
          have hm := (if_neg h_14).symm.trans hm
          refine m_lds hx hb hGx hV h_14 dX3_addSpan_54 ?_
          refine lv_iload hx hb dX3_addSpan_55 (lv_at hl 0 rfl) ?_
          refine m_sld hx hb hGx hV (show ¬ ((2 : Int32) < 0 ∨ 3 ≤ ((2 : Int32)).toNatClampNeg) by decide) dX3_addSpan_57 ?_
          refine lv_aload_n hx hb dX3_addSpan_58 rfl (lv_at hl 3 rfl) ?_
          refine va_get (D := kD k) (ci := 5) (v := .ref b.2.2.1) (C := RX3) (T := TX3) (N := 5) hx hb htg inG_X3 hown hGx.1 hV.1 0 rfl rfl 2 (by decide) (htg _ w_1013) (fun _ h9 => h9) rfl dX3_addSpan_59 ?_
          refine lv_iload_n hx hb dX3_addSpan_62 rfl (lv_at hl 5 rfl) ?_
          by_cases h_15 : p1 < 0 ∨ 2 ≤ p1.toNatClampNeg
          · have hm := (if_pos h_15).symm.trans hm
            cases hm
          have hm := (if_neg h_15).symm.trans hm
          refine m_lds hx hb hGx hV h_15 dX3_addSpan_63 ?_
          refine lv_iload hx hb dX3_addSpan_64 (lv_at hl 0 rfl) ?_
          refine m_sld hx hb hGx hV (show ¬ ((2 : Int32) < 0 ∨ 3 ≤ ((2 : Int32)).toNatClampNeg) by decide) dX3_addSpan_66 ?_
          refine lv_iadd hx hb dX3_addSpan_67 ?_
          have hL9 := hS.2
          refine m_niast (j := 2) hx hb hGx (Nat.le_trans hs_2 hn_2) hA_2.1 (show ¬ ((2 : Int32) < 0 ∨ 3 ≤ ((2 : Int32)).toNatClampNeg) by decide) (by decide) hS.1 hA dX3_addSpan_68 (fun H hA_2 hz9 hq9 hS => ?_)
          have hq_2 := m_q2 hn_2 hz_2 hq_2 hq9
          have hz_2 := Nat.le_trans hz_2 hz9
          have hS : mS b s.heap H _ := ⟨hS, hL9⟩
          have hV := hV_2.up hq_2
          have hA_2 := aF.made hLn_2 hn_2 hA_2
          refine lv_iload hx hb dX3_addSpan_69 (lv_at hl 1 rfl) ?_
          refine lv_aload_n hx hb dX3_addSpan_71 rfl (lv_at hl 2 rfl) ?_
          refine lv_iload hx hb dX3_addSpan_72 (lv_at hl 0 rfl) ?_
          refine m_niald (j := 2) (v := ((sget x_1.2 p0.toNatClampNeg (2 : Int32).toNatClampNeg) + (sget x_1.2 p1.toNatClampNeg (2 : Int32).toNatClampNeg))) hx hb hGx hA_2.1 (show ¬ ((2 : Int32) < 0 ∨ 3 ≤ ((2 : Int32)).toNatClampNeg) by decide) (by decide) rfl dX3_addSpan_74 ?_
          refine pc_S hC (c_X3_isNumber l ((sget x_1.2 p0.toNatClampNeg (2 : Int32).toNatClampNeg) + (sget x_1.2 p1.toNatClampNeg (2 : Int32).toNatClampNeg))) (gS w_1200 w_1201 w_27 w_1202) kk_X3_isNumber ⟨Nat.le_of_ble_eq_true rfl, Nat.le_of_ble_eq_true rfl⟩ ⟨Nat.le_of_ble_eq_true rfl, Nat.le_of_ble_eq_true rfl⟩ hl.1 rfl rfl (Nat.le_of_ble_eq_true rfl) dX3_addSpan_75 ?_
          refine lv_if_ne (tgt := 85) hx hb dX3_addSpan_78 (by decide) (fun h_16 => ?_) (fun h_16 => ?_)
          · have hm := (if_neg h_16).symm.trans hm
            refine lv_iconst (v := 0) hx hb dX3_addSpan_85 (by decide) ?_
            refine lv_ior hx hb dX3_addSpan_86 ?_
            refine lv_istore (lv' := [(4, .int ((((0 : Int32) ||| (0 : Int32)) ||| (1 : Int32)) ||| (0 : Int32))), (5, .int (2 : Int32)), (3, .ref a_2), (0, .ref b.1), (1, .int p0), (2, .int p1)]) hx hb dX3_addSpan_87 hl (by decide) rfl (fun ls hl => ?_)
            refine lv_iinc (v := (3 : Int32)) (lv' := [(5, .int (3 : Int32)), (4, .int ((((0 : Int32) ||| (0 : Int32)) ||| (1 : Int32)) ||| (0 : Int32))), (3, .ref a_2), (0, .ref b.1), (1, .int p0), (2, .int p1)]) hx hb dX3_addSpan_89 hl (k := 1) rfl (by decide) (by decide) rfl (fun ls hl => ?_)
            refine lv_goto (tgt := 40) hx hb dX3_addSpan_92 (by decide) ?_
            refine lv_iload hx hb dX3_addSpan_40 (lv_at hl 0 rfl) ?_
            refine lv_iconst (v := 3) hx hb dX3_addSpan_42 (by decide) ?_
            refine lv_icmp_ge (tgt := 95) hx hb dX3_addSpan_43 (by decide) (fun _ => ?_) (fun h => absurd h (by decide))
            refine lv_aload_n hx hb dX3_addSpan_95 rfl (lv_at hl 3 rfl) ?_
            refine lv_iconst (v := 0) hx hb dX3_addSpan_96 (by decide) ?_
            refine lv_iload hx hb dX3_addSpan_97 (lv_at hl 1 rfl) ?_
            refine lv_iconst (v := 0) hx hb dX3_addSpan_99 (by decide) ?_
            obtain ⟨x_7, hx_7, hm⟩ := Option.bind_eq_some_iff.mp hm
            refine mc_V hC hGx hD (k_X3_fails l k b L hD (0 : Int32) ((((0 : Int32) ||| (0 : Int32)) ||| (1 : Int32)) ||| (0 : Int32)) (0 : Int32)  x_1.2 hx_7) (gV w_1056 w_1057 w_18 w_27 w_1058) kk_X3_fails rfl (List.forall_mem_nil _) hLb ⟨Nat.le_of_ble_eq_true rfl, Nat.le_of_ble_eq_true rfl⟩ ⟨Nat.le_of_ble_eq_true rfl, Nat.le_of_ble_eq_true rfl⟩ hV hS hl.1 rfl rfl (Nat.le_of_ble_eq_true rfl) dX3_addSpan_100 (fun q_7 H locs hV hS hz hq => ?_)
            have hA_2 := hA_2.up hq
            refine lv_if_eq (tgt := 110) hx hb dX3_addSpan_103 (by decide) (fun h_17 => ?_) (fun h_17 => ?_)
            · have hm := (if_pos h_17).symm.trans hm
              refine lv_aload_n hx hb dX3_addSpan_110 rfl (lv_at hl 3 rfl) ?_
              refine lv_iload_n hx hb dX3_addSpan_111 rfl (lv_at hl 4 rfl) ?_
              refine lv_aload_n hx hb dX3_addSpan_112 rfl (lv_at hl 2 rfl) ?_
              refine lv_iconst (v := 0) hx hb dX3_addSpan_113 (by decide) ?_
              refine m_niald (j := 0) (v := ((sget x_1.2 p0.toNatClampNeg (0 : Int32).toNatClampNeg) + (sget x_1.2 p1.toNatClampNeg (0 : Int32).toNatClampNeg))) hx hb hGx hA_2.1 (show ¬ ((0 : Int32) < 0 ∨ 3 ≤ ((0 : Int32)).toNatClampNeg) by decide) (by decide) rfl dX3_addSpan_114 ?_
              refine lv_aload_n hx hb dX3_addSpan_115 rfl (lv_at hl 2 rfl) ?_
              refine lv_iconst (v := 1) hx hb dX3_addSpan_116 (by decide) ?_
              refine m_niald (j := 1) (v := ((sget x_1.2 p0.toNatClampNeg (1 : Int32).toNatClampNeg) + (sget x_1.2 p1.toNatClampNeg (1 : Int32).toNatClampNeg))) hx hb hGx hA_2.1 (show ¬ ((1 : Int32) < 0 ∨ 3 ≤ ((1 : Int32)).toNatClampNeg) by decide) (by decide) rfl dX3_addSpan_117 ?_
              refine lv_aload_n hx hb dX3_addSpan_118 rfl (lv_at hl 2 rfl) ?_
              refine lv_iconst (v := 2) hx hb dX3_addSpan_119 (by decide) ?_
              refine m_niald (j := 2) (v := ((sget x_1.2 p0.toNatClampNeg (2 : Int32).toNatClampNeg) + (sget x_1.2 p1.toNatClampNeg (2 : Int32).toNatClampNeg))) hx hb hGx hA_2.1 (show ¬ ((2 : Int32) < 0 ∨ 3 ≤ ((2 : Int32)).toNatClampNeg) by decide) (by decide) rfl dX3_addSpan_120 ?_
              obtain ⟨x_8, hx_8, hm⟩ := Option.bind_eq_some_iff.mp hm
              refine mc_V hC hGx hD (k_X3_tells l k b L hD p0 ((sget x_1.2 p0.toNatClampNeg (0 : Int32).toNatClampNeg) + (sget x_1.2 p1.toNatClampNeg (0 : Int32).toNatClampNeg)) ((sget x_1.2 p0.toNatClampNeg (1 : Int32).toNatClampNeg) + (sget x_1.2 p1.toNatClampNeg (1 : Int32).toNatClampNeg)) ((sget x_1.2 p0.toNatClampNeg (2 : Int32).toNatClampNeg) + (sget x_1.2 p1.toNatClampNeg (2 : Int32).toNatClampNeg))  x_7.2 hx_8) (gV w_1205 w_1206 w_21 w_27 w_1207) kk_X3_tells rfl (List.forall_mem_nil _) hLb ⟨Nat.le_of_ble_eq_true rfl, Nat.le_of_ble_eq_true rfl⟩ ⟨Nat.le_of_ble_eq_true rfl, Nat.le_of_ble_eq_true rfl⟩ hV hS hl.1 rfl rfl (Nat.le_of_ble_eq_true rfl) dX3_addSpan_121 (fun q_8 H locs hV hS hz hq => ?_)
              have hA_2 := hA_2.up hq
              exact m_iret hx hb hr hlocks (Option.some.inj hm) hV hS ⟨Nat.le_of_ble_eq_true rfl, Nat.le_of_ble_eq_true rfl⟩ dX3_addSpan_124
            · have hm := (if_neg h_17).symm.trans hm
              refine lv_iconst (v := 0) hx hb dX3_addSpan_106 (by decide) ?_
              refine lv_goto (tgt := 124) hx hb dX3_addSpan_107 (by decide) ?_
              exact m_iret hx hb hr hlocks (Option.some.inj hm) hV hS ⟨Nat.le_of_ble_eq_true rfl, Nat.le_of_ble_eq_true rfl⟩ dX3_addSpan_124
          · have hm := (if_pos h_16).symm.trans hm
            refine lv_iconst (v := 1) hx hb dX3_addSpan_81 (by decide) ?_
            refine lv_goto (tgt := 86) hx hb dX3_addSpan_82 (by decide) ?_
            refine lv_ior hx hb dX3_addSpan_86 ?_
            refine lv_istore (lv' := [(4, .int ((((0 : Int32) ||| (0 : Int32)) ||| (1 : Int32)) ||| (1 : Int32))), (5, .int (2 : Int32)), (3, .ref a_2), (0, .ref b.1), (1, .int p0), (2, .int p1)]) hx hb dX3_addSpan_87 hl (by decide) rfl (fun ls hl => ?_)
            refine lv_iinc (v := (3 : Int32)) (lv' := [(5, .int (3 : Int32)), (4, .int ((((0 : Int32) ||| (0 : Int32)) ||| (1 : Int32)) ||| (1 : Int32))), (3, .ref a_2), (0, .ref b.1), (1, .int p0), (2, .int p1)]) hx hb dX3_addSpan_89 hl (k := 1) rfl (by decide) (by decide) rfl (fun ls hl => ?_)
            refine lv_goto (tgt := 40) hx hb dX3_addSpan_92 (by decide) ?_
            refine lv_iload hx hb dX3_addSpan_40 (lv_at hl 0 rfl) ?_
            refine lv_iconst (v := 3) hx hb dX3_addSpan_42 (by decide) ?_
            refine lv_icmp_ge (tgt := 95) hx hb dX3_addSpan_43 (by decide) (fun _ => ?_) (fun h => absurd h (by decide))
            refine lv_aload_n hx hb dX3_addSpan_95 rfl (lv_at hl 3 rfl) ?_
            refine lv_iconst (v := 0) hx hb dX3_addSpan_96 (by decide) ?_
            refine lv_iload hx hb dX3_addSpan_97 (lv_at hl 1 rfl) ?_
            refine lv_iconst (v := 0) hx hb dX3_addSpan_99 (by decide) ?_
            obtain ⟨x_9, hx_9, hm⟩ := Option.bind_eq_some_iff.mp hm
            refine mc_V hC hGx hD (k_X3_fails l k b L hD (0 : Int32) ((((0 : Int32) ||| (0 : Int32)) ||| (1 : Int32)) ||| (1 : Int32)) (0 : Int32)  x_1.2 hx_9) (gV w_1056 w_1057 w_18 w_27 w_1058) kk_X3_fails rfl (List.forall_mem_nil _) hLb ⟨Nat.le_of_ble_eq_true rfl, Nat.le_of_ble_eq_true rfl⟩ ⟨Nat.le_of_ble_eq_true rfl, Nat.le_of_ble_eq_true rfl⟩ hV hS hl.1 rfl rfl (Nat.le_of_ble_eq_true rfl) dX3_addSpan_100 (fun q_9 H locs hV hS hz hq => ?_)
            have hA_2 := hA_2.up hq
            refine lv_if_eq (tgt := 110) hx hb dX3_addSpan_103 (by decide) (fun h_18 => ?_) (fun h_18 => ?_)
            · have hm := (if_pos h_18).symm.trans hm
              refine lv_aload_n hx hb dX3_addSpan_110 rfl (lv_at hl 3 rfl) ?_
              refine lv_iload_n hx hb dX3_addSpan_111 rfl (lv_at hl 4 rfl) ?_
              refine lv_aload_n hx hb dX3_addSpan_112 rfl (lv_at hl 2 rfl) ?_
              refine lv_iconst (v := 0) hx hb dX3_addSpan_113 (by decide) ?_
              refine m_niald (j := 0) (v := ((sget x_1.2 p0.toNatClampNeg (0 : Int32).toNatClampNeg) + (sget x_1.2 p1.toNatClampNeg (0 : Int32).toNatClampNeg))) hx hb hGx hA_2.1 (show ¬ ((0 : Int32) < 0 ∨ 3 ≤ ((0 : Int32)).toNatClampNeg) by decide) (by decide) rfl dX3_addSpan_114 ?_
              refine lv_aload_n hx hb dX3_addSpan_115 rfl (lv_at hl 2 rfl) ?_
              refine lv_iconst (v := 1) hx hb dX3_addSpan_116 (by decide) ?_
              refine m_niald (j := 1) (v := ((sget x_1.2 p0.toNatClampNeg (1 : Int32).toNatClampNeg) + (sget x_1.2 p1.toNatClampNeg (1 : Int32).toNatClampNeg))) hx hb hGx hA_2.1 (show ¬ ((1 : Int32) < 0 ∨ 3 ≤ ((1 : Int32)).toNatClampNeg) by decide) (by decide) rfl dX3_addSpan_117 ?_
              refine lv_aload_n hx hb dX3_addSpan_118 rfl (lv_at hl 2 rfl) ?_
              refine lv_iconst (v := 2) hx hb dX3_addSpan_119 (by decide) ?_
              refine m_niald (j := 2) (v := ((sget x_1.2 p0.toNatClampNeg (2 : Int32).toNatClampNeg) + (sget x_1.2 p1.toNatClampNeg (2 : Int32).toNatClampNeg))) hx hb hGx hA_2.1 (show ¬ ((2 : Int32) < 0 ∨ 3 ≤ ((2 : Int32)).toNatClampNeg) by decide) (by decide) rfl dX3_addSpan_120 ?_
              obtain ⟨x_10, hx_10, hm⟩ := Option.bind_eq_some_iff.mp hm
              refine mc_V hC hGx hD (k_X3_tells l k b L hD p0 ((sget x_1.2 p0.toNatClampNeg (0 : Int32).toNatClampNeg) + (sget x_1.2 p1.toNatClampNeg (0 : Int32).toNatClampNeg)) ((sget x_1.2 p0.toNatClampNeg (1 : Int32).toNatClampNeg) + (sget x_1.2 p1.toNatClampNeg (1 : Int32).toNatClampNeg)) ((sget x_1.2 p0.toNatClampNeg (2 : Int32).toNatClampNeg) + (sget x_1.2 p1.toNatClampNeg (2 : Int32).toNatClampNeg))  x_9.2 hx_10) (gV w_1205 w_1206 w_21 w_27 w_1207) kk_X3_tells rfl (List.forall_mem_nil _) hLb ⟨Nat.le_of_ble_eq_true rfl, Nat.le_of_ble_eq_true rfl⟩ ⟨Nat.le_of_ble_eq_true rfl, Nat.le_of_ble_eq_true rfl⟩ hV hS hl.1 rfl rfl (Nat.le_of_ble_eq_true rfl) dX3_addSpan_121 (fun q_10 H locs hV hS hz hq => ?_)
              have hA_2 := hA_2.up hq
              exact m_iret hx hb hr hlocks (Option.some.inj hm) hV hS ⟨Nat.le_of_ble_eq_true rfl, Nat.le_of_ble_eq_true rfl⟩ dX3_addSpan_124
            · have hm := (if_neg h_18).symm.trans hm
              refine lv_iconst (v := 0) hx hb dX3_addSpan_106 (by decide) ?_
              refine lv_goto (tgt := 124) hx hb dX3_addSpan_107 (by decide) ?_
              exact m_iret hx hb hr hlocks (Option.some.inj hm) hV hS ⟨Nat.le_of_ble_eq_true rfl, Nat.le_of_ble_eq_true rfl⟩ dX3_addSpan_124
      · have hm := (if_pos h_5).symm.trans hm
        refine lv_iconst (v := 1) hx hb dX3_addSpan_81 (by decide) ?_
        refine lv_goto (tgt := 86) hx hb dX3_addSpan_82 (by decide) ?_
        refine lv_ior hx hb dX3_addSpan_86 ?_
        refine lv_istore (lv' := [(4, .int ((0 : Int32) ||| (1 : Int32))), (5, .int (0 : Int32)), (3, .ref a_2), (0, .ref b.1), (1, .int p0), (2, .int p1)]) hx hb dX3_addSpan_87 hl (by decide) rfl (fun ls hl => ?_)
        refine lv_iinc (v := (1 : Int32)) (lv' := [(5, .int (1 : Int32)), (4, .int ((0 : Int32) ||| (1 : Int32))), (3, .ref a_2), (0, .ref b.1), (1, .int p0), (2, .int p1)]) hx hb dX3_addSpan_89 hl (k := 1) rfl (by decide) (by decide) rfl (fun ls hl => ?_)
        refine lv_goto (tgt := 40) hx hb dX3_addSpan_92 (by decide) ?_
        refine lv_iload hx hb dX3_addSpan_40 (lv_at hl 0 rfl) ?_
        refine lv_iconst (v := 3) hx hb dX3_addSpan_42 (by decide) ?_
        refine lv_icmp_ge (tgt := 95) hx hb dX3_addSpan_43 (by decide) (fun h => absurd h (by decide)) (fun _ => ?_)
        refine lv_aload_n hx hb dX3_addSpan_46 rfl (lv_at hl 2 rfl) ?_
        refine lv_iload hx hb dX3_addSpan_47 (lv_at hl 0 rfl) ?_
        refine lv_aload_n hx hb dX3_addSpan_49 rfl (lv_at hl 3 rfl) ?_
        refine va_get (D := kD k) (ci := 5) (v := .ref b.2.2.1) (C := RX3) (T := TX3) (N := 5) hx hb htg inG_X3 hown hGx.1 hV.1 0 rfl rfl 2 (by decide) (htg _ w_1013) (fun _ h9 => h9) rfl dX3_addSpan_50 ?_
        refine lv_iload_n hx hb dX3_addSpan_53 rfl (lv_at hl 4 rfl) ?_
        by_cases h_19 : p0 < 0 ∨ 2 ≤ p0.toNatClampNeg
        · have hm := (if_pos h_19).symm.trans hm
          cases hm
        have hm := (if_neg h_19).symm.trans hm
        refine m_lds hx hb hGx hV h_19 dX3_addSpan_54 ?_
        refine lv_iload hx hb dX3_addSpan_55 (lv_at hl 0 rfl) ?_
        refine m_sld hx hb hGx hV (show ¬ ((1 : Int32) < 0 ∨ 3 ≤ ((1 : Int32)).toNatClampNeg) by decide) dX3_addSpan_57 ?_
        refine lv_aload_n hx hb dX3_addSpan_58 rfl (lv_at hl 3 rfl) ?_
        refine va_get (D := kD k) (ci := 5) (v := .ref b.2.2.1) (C := RX3) (T := TX3) (N := 5) hx hb htg inG_X3 hown hGx.1 hV.1 0 rfl rfl 2 (by decide) (htg _ w_1013) (fun _ h9 => h9) rfl dX3_addSpan_59 ?_
        refine lv_iload_n hx hb dX3_addSpan_62 rfl (lv_at hl 5 rfl) ?_
        by_cases h_20 : p1 < 0 ∨ 2 ≤ p1.toNatClampNeg
        · have hm := (if_pos h_20).symm.trans hm
          cases hm
        have hm := (if_neg h_20).symm.trans hm
        refine m_lds hx hb hGx hV h_20 dX3_addSpan_63 ?_
        refine lv_iload hx hb dX3_addSpan_64 (lv_at hl 0 rfl) ?_
        refine m_sld hx hb hGx hV (show ¬ ((1 : Int32) < 0 ∨ 3 ≤ ((1 : Int32)).toNatClampNeg) by decide) dX3_addSpan_66 ?_
        refine lv_iadd hx hb dX3_addSpan_67 ?_
        have hL9 := hS.2
        refine m_niast (j := 1) hx hb hGx (Nat.le_trans hs_2 hn_2) hA_2.1 (show ¬ ((1 : Int32) < 0 ∨ 3 ≤ ((1 : Int32)).toNatClampNeg) by decide) (by decide) hS.1 hA dX3_addSpan_68 (fun H hA_2 hz9 hq9 hS => ?_)
        have hq_2 := m_q2 hn_2 hz_2 hq_2 hq9
        have hz_2 := Nat.le_trans hz_2 hz9
        have hS : mS b s.heap H _ := ⟨hS, hL9⟩
        have hV := hV_2.up hq_2
        have hA_2 := aF.made hLn_2 hn_2 hA_2
        refine lv_iload hx hb dX3_addSpan_69 (lv_at hl 1 rfl) ?_
        refine lv_aload_n hx hb dX3_addSpan_71 rfl (lv_at hl 2 rfl) ?_
        refine lv_iload hx hb dX3_addSpan_72 (lv_at hl 0 rfl) ?_
        refine m_niald (j := 1) (v := ((sget x_1.2 p0.toNatClampNeg (1 : Int32).toNatClampNeg) + (sget x_1.2 p1.toNatClampNeg (1 : Int32).toNatClampNeg))) hx hb hGx hA_2.1 (show ¬ ((1 : Int32) < 0 ∨ 3 ≤ ((1 : Int32)).toNatClampNeg) by decide) (by decide) rfl dX3_addSpan_74 ?_
        refine pc_S hC (c_X3_isNumber l ((sget x_1.2 p0.toNatClampNeg (1 : Int32).toNatClampNeg) + (sget x_1.2 p1.toNatClampNeg (1 : Int32).toNatClampNeg))) (gS w_1200 w_1201 w_27 w_1202) kk_X3_isNumber ⟨Nat.le_of_ble_eq_true rfl, Nat.le_of_ble_eq_true rfl⟩ ⟨Nat.le_of_ble_eq_true rfl, Nat.le_of_ble_eq_true rfl⟩ hl.1 rfl rfl (Nat.le_of_ble_eq_true rfl) dX3_addSpan_75 ?_
        refine lv_if_ne (tgt := 85) hx hb dX3_addSpan_78 (by decide) (fun h_21 => ?_) (fun h_21 => ?_)
        · have hm := (if_neg h_21).symm.trans hm
          refine lv_iconst (v := 0) hx hb dX3_addSpan_85 (by decide) ?_
          refine lv_ior hx hb dX3_addSpan_86 ?_
          refine lv_istore (lv' := [(4, .int (((0 : Int32) ||| (1 : Int32)) ||| (0 : Int32))), (5, .int (1 : Int32)), (3, .ref a_2), (0, .ref b.1), (1, .int p0), (2, .int p1)]) hx hb dX3_addSpan_87 hl (by decide) rfl (fun ls hl => ?_)
          refine lv_iinc (v := (2 : Int32)) (lv' := [(5, .int (2 : Int32)), (4, .int (((0 : Int32) ||| (1 : Int32)) ||| (0 : Int32))), (3, .ref a_2), (0, .ref b.1), (1, .int p0), (2, .int p1)]) hx hb dX3_addSpan_89 hl (k := 1) rfl (by decide) (by decide) rfl (fun ls hl => ?_)
          refine lv_goto (tgt := 40) hx hb dX3_addSpan_92 (by decide) ?_
          refine lv_iload hx hb dX3_addSpan_40 (lv_at hl 0 rfl) ?_
          refine lv_iconst (v := 3) hx hb dX3_addSpan_42 (by decide) ?_
          refine lv_icmp_ge (tgt := 95) hx hb dX3_addSpan_43 (by decide) (fun h => absurd h (by decide)) (fun _ => ?_)
          refine lv_aload_n hx hb dX3_addSpan_46 rfl (lv_at hl 2 rfl) ?_
          refine lv_iload hx hb dX3_addSpan_47 (lv_at hl 0 rfl) ?_
          refine lv_aload_n hx hb dX3_addSpan_49 rfl (lv_at hl 3 rfl) ?_
          refine va_get (D := kD k) (ci := 5) (v := .ref b.2.2.1) (C := RX3) (T := TX3) (N := 5) hx hb htg inG_X3 hown hGx.1 hV.1 0 rfl rfl 2 (by decide) (htg _ w_1013) (fun _ h9 => h9) rfl dX3_addSpan_50 ?_
          refine lv_iload_n hx hb dX3_addSpan_53 rfl (lv_at hl 4 rfl) ?_
          by_cases h_22 : p0 < 0 ∨ 2 ≤ p0.toNatClampNeg
          · have hm := (if_pos h_22).symm.trans hm
            cases hm
          have hm := (if_neg h_22).symm.trans hm
          refine m_lds hx hb hGx hV h_22 dX3_addSpan_54 ?_
          refine lv_iload hx hb dX3_addSpan_55 (lv_at hl 0 rfl) ?_
          refine m_sld hx hb hGx hV (show ¬ ((2 : Int32) < 0 ∨ 3 ≤ ((2 : Int32)).toNatClampNeg) by decide) dX3_addSpan_57 ?_
          refine lv_aload_n hx hb dX3_addSpan_58 rfl (lv_at hl 3 rfl) ?_
          refine va_get (D := kD k) (ci := 5) (v := .ref b.2.2.1) (C := RX3) (T := TX3) (N := 5) hx hb htg inG_X3 hown hGx.1 hV.1 0 rfl rfl 2 (by decide) (htg _ w_1013) (fun _ h9 => h9) rfl dX3_addSpan_59 ?_
          refine lv_iload_n hx hb dX3_addSpan_62 rfl (lv_at hl 5 rfl) ?_
          by_cases h_23 : p1 < 0 ∨ 2 ≤ p1.toNatClampNeg
          · have hm := (if_pos h_23).symm.trans hm
            cases hm
          have hm := (if_neg h_23).symm.trans hm
          refine m_lds hx hb hGx hV h_23 dX3_addSpan_63 ?_
          refine lv_iload hx hb dX3_addSpan_64 (lv_at hl 0 rfl) ?_
          refine m_sld hx hb hGx hV (show ¬ ((2 : Int32) < 0 ∨ 3 ≤ ((2 : Int32)).toNatClampNeg) by decide) dX3_addSpan_66 ?_
          refine lv_iadd hx hb dX3_addSpan_67 ?_
          have hL9 := hS.2
          refine m_niast (j := 2) hx hb hGx (Nat.le_trans hs_2 hn_2) hA_2.1 (show ¬ ((2 : Int32) < 0 ∨ 3 ≤ ((2 : Int32)).toNatClampNeg) by decide) (by decide) hS.1 hA dX3_addSpan_68 (fun H hA_2 hz9 hq9 hS => ?_)
          have hq_2 := m_q2 hn_2 hz_2 hq_2 hq9
          have hz_2 := Nat.le_trans hz_2 hz9
          have hS : mS b s.heap H _ := ⟨hS, hL9⟩
          have hV := hV_2.up hq_2
          have hA_2 := aF.made hLn_2 hn_2 hA_2
          refine lv_iload hx hb dX3_addSpan_69 (lv_at hl 1 rfl) ?_
          refine lv_aload_n hx hb dX3_addSpan_71 rfl (lv_at hl 2 rfl) ?_
          refine lv_iload hx hb dX3_addSpan_72 (lv_at hl 0 rfl) ?_
          refine m_niald (j := 2) (v := ((sget x_1.2 p0.toNatClampNeg (2 : Int32).toNatClampNeg) + (sget x_1.2 p1.toNatClampNeg (2 : Int32).toNatClampNeg))) hx hb hGx hA_2.1 (show ¬ ((2 : Int32) < 0 ∨ 3 ≤ ((2 : Int32)).toNatClampNeg) by decide) (by decide) rfl dX3_addSpan_74 ?_
          refine pc_S hC (c_X3_isNumber l ((sget x_1.2 p0.toNatClampNeg (2 : Int32).toNatClampNeg) + (sget x_1.2 p1.toNatClampNeg (2 : Int32).toNatClampNeg))) (gS w_1200 w_1201 w_27 w_1202) kk_X3_isNumber ⟨Nat.le_of_ble_eq_true rfl, Nat.le_of_ble_eq_true rfl⟩ ⟨Nat.le_of_ble_eq_true rfl, Nat.le_of_ble_eq_true rfl⟩ hl.1 rfl rfl (Nat.le_of_ble_eq_true rfl) dX3_addSpan_75 ?_
          refine lv_if_ne (tgt := 85) hx hb dX3_addSpan_78 (by decide) (fun h_24 => ?_) (fun h_24 => ?_)
          · have hm := (if_neg h_24).symm.trans hm
            refine lv_iconst (v := 0) hx hb dX3_addSpan_85 (by decide) ?_
            refine lv_ior hx hb dX3_addSpan_86 ?_
            refine lv_istore (lv' := [(4, .int ((((0 : Int32) ||| (1 : Int32)) ||| (0 : Int32)) ||| (0 : Int32))), (5, .int (2 : Int32)), (3, .ref a_2), (0, .ref b.1), (1, .int p0), (2, .int p1)]) hx hb dX3_addSpan_87 hl (by decide) rfl (fun ls hl => ?_)
            refine lv_iinc (v := (3 : Int32)) (lv' := [(5, .int (3 : Int32)), (4, .int ((((0 : Int32) ||| (1 : Int32)) ||| (0 : Int32)) ||| (0 : Int32))), (3, .ref a_2), (0, .ref b.1), (1, .int p0), (2, .int p1)]) hx hb dX3_addSpan_89 hl (k := 1) rfl (by decide) (by decide) rfl (fun ls hl => ?_)
            refine lv_goto (tgt := 40) hx hb dX3_addSpan_92 (by decide) ?_
            refine lv_iload hx hb dX3_addSpan_40 (lv_at hl 0 rfl) ?_
            refine lv_iconst (v := 3) hx hb dX3_addSpan_42 (by decide) ?_
            refine lv_icmp_ge (tgt := 95) hx hb dX3_addSpan_43 (by decide) (fun _ => ?_) (fun h => absurd h (by decide))
            refine lv_aload_n hx hb dX3_addSpan_95 rfl (lv_at hl 3 rfl) ?_
            refine lv_iconst (v := 0) hx hb dX3_addSpan_96 (by decide) ?_
            refine lv_iload hx hb dX3_addSpan_97 (lv_at hl 1 rfl) ?_
            refine lv_iconst (v := 0) hx hb dX3_addSpan_99 (by decide) ?_
            obtain ⟨x_11, hx_11, hm⟩ := Option.bind_eq_some_iff.mp hm
            refine mc_V hC hGx hD (k_X3_fails l k b L hD (0 : Int32) ((((0 : Int32) ||| (1 : Int32)) ||| (0 : Int32)) ||| (0 : Int32)) (0 : Int32)  x_1.2 hx_11) (gV w_1056 w_1057 w_18 w_27 w_1058) kk_X3_fails rfl (List.forall_mem_nil _) hLb ⟨Nat.le_of_ble_eq_true rfl, Nat.le_of_ble_eq_true rfl⟩ ⟨Nat.le_of_ble_eq_true rfl, Nat.le_of_ble_eq_true rfl⟩ hV hS hl.1 rfl rfl (Nat.le_of_ble_eq_true rfl) dX3_addSpan_100 (fun q_11 H locs hV hS hz hq => ?_)
            have hA_2 := hA_2.up hq
            refine lv_if_eq (tgt := 110) hx hb dX3_addSpan_103 (by decide) (fun h_25 => ?_) (fun h_25 => ?_)
            · have hm := (if_pos h_25).symm.trans hm
              refine lv_aload_n hx hb dX3_addSpan_110 rfl (lv_at hl 3 rfl) ?_
              refine lv_iload_n hx hb dX3_addSpan_111 rfl (lv_at hl 4 rfl) ?_
              refine lv_aload_n hx hb dX3_addSpan_112 rfl (lv_at hl 2 rfl) ?_
              refine lv_iconst (v := 0) hx hb dX3_addSpan_113 (by decide) ?_
              refine m_niald (j := 0) (v := ((sget x_1.2 p0.toNatClampNeg (0 : Int32).toNatClampNeg) + (sget x_1.2 p1.toNatClampNeg (0 : Int32).toNatClampNeg))) hx hb hGx hA_2.1 (show ¬ ((0 : Int32) < 0 ∨ 3 ≤ ((0 : Int32)).toNatClampNeg) by decide) (by decide) rfl dX3_addSpan_114 ?_
              refine lv_aload_n hx hb dX3_addSpan_115 rfl (lv_at hl 2 rfl) ?_
              refine lv_iconst (v := 1) hx hb dX3_addSpan_116 (by decide) ?_
              refine m_niald (j := 1) (v := ((sget x_1.2 p0.toNatClampNeg (1 : Int32).toNatClampNeg) + (sget x_1.2 p1.toNatClampNeg (1 : Int32).toNatClampNeg))) hx hb hGx hA_2.1 (show ¬ ((1 : Int32) < 0 ∨ 3 ≤ ((1 : Int32)).toNatClampNeg) by decide) (by decide) rfl dX3_addSpan_117 ?_
              refine lv_aload_n hx hb dX3_addSpan_118 rfl (lv_at hl 2 rfl) ?_
              refine lv_iconst (v := 2) hx hb dX3_addSpan_119 (by decide) ?_
              refine m_niald (j := 2) (v := ((sget x_1.2 p0.toNatClampNeg (2 : Int32).toNatClampNeg) + (sget x_1.2 p1.toNatClampNeg (2 : Int32).toNatClampNeg))) hx hb hGx hA_2.1 (show ¬ ((2 : Int32) < 0 ∨ 3 ≤ ((2 : Int32)).toNatClampNeg) by decide) (by decide) rfl dX3_addSpan_120 ?_
              obtain ⟨x_12, hx_12, hm⟩ := Option.bind_eq_some_iff.mp hm
              refine mc_V hC hGx hD (k_X3_tells l k b L hD p0 ((sget x_1.2 p0.toNatClampNeg (0 : Int32).toNatClampNeg) + (sget x_1.2 p1.toNatClampNeg (0 : Int32).toNatClampNeg)) ((sget x_1.2 p0.toNatClampNeg (1 : Int32).toNatClampNeg) + (sget x_1.2 p1.toNatClampNeg (1 : Int32).toNatClampNeg)) ((sget x_1.2 p0.toNatClampNeg (2 : Int32).toNatClampNeg) + (sget x_1.2 p1.toNatClampNeg (2 : Int32).toNatClampNeg))  x_11.2 hx_12) (gV w_1205 w_1206 w_21 w_27 w_1207) kk_X3_tells rfl (List.forall_mem_nil _) hLb ⟨Nat.le_of_ble_eq_true rfl, Nat.le_of_ble_eq_true rfl⟩ ⟨Nat.le_of_ble_eq_true rfl, Nat.le_of_ble_eq_true rfl⟩ hV hS hl.1 rfl rfl (Nat.le_of_ble_eq_true rfl) dX3_addSpan_121 (fun q_12 H locs hV hS hz hq => ?_)
              have hA_2 := hA_2.up hq
              exact m_iret hx hb hr hlocks (Option.some.inj hm) hV hS ⟨Nat.le_of_ble_eq_true rfl, Nat.le_of_ble_eq_true rfl⟩ dX3_addSpan_124
            · have hm := (if_neg h_25).symm.trans hm
              refine lv_iconst (v := 0) hx hb dX3_addSpan_106 (by decide) ?_
              refine lv_goto (tgt := 124) hx hb dX3_addSpan_107 (by decide) ?_
              exact m_iret hx hb hr hlocks (Option.some.inj hm) hV hS ⟨Nat.le_of_ble_eq_true rfl, Nat.le_of_ble_eq_true rfl⟩ dX3_addSpan_124
          · have hm := (if_pos h_24).symm.trans hm
            refine lv_iconst (v := 1) hx hb dX3_addSpan_81 (by decide) ?_
            refine lv_goto (tgt := 86) hx hb dX3_addSpan_82 (by decide) ?_
            refine lv_ior hx hb dX3_addSpan_86 ?_
            refine lv_istore (lv' := [(4, .int ((((0 : Int32) ||| (1 : Int32)) ||| (0 : Int32)) ||| (1 : Int32))), (5, .int (2 : Int32)), (3, .ref a_2), (0, .ref b.1), (1, .int p0), (2, .int p1)]) hx hb dX3_addSpan_87 hl (by decide) rfl (fun ls hl => ?_)
            refine lv_iinc (v := (3 : Int32)) (lv' := [(5, .int (3 : Int32)), (4, .int ((((0 : Int32) ||| (1 : Int32)) ||| (0 : Int32)) ||| (1 : Int32))), (3, .ref a_2), (0, .ref b.1), (1, .int p0), (2, .int p1)]) hx hb dX3_addSpan_89 hl (k := 1) rfl (by decide) (by decide) rfl (fun ls hl => ?_)
            refine lv_goto (tgt := 40) hx hb dX3_addSpan_92 (by decide) ?_
            refine lv_iload hx hb dX3_addSpan_40 (lv_at hl 0 rfl) ?_
            refine lv_iconst (v := 3) hx hb dX3_addSpan_42 (by decide) ?_
            refine lv_icmp_ge (tgt := 95) hx hb dX3_addSpan_43 (by decide) (fun _ => ?_) (fun h => absurd h (by decide))
            refine lv_aload_n hx hb dX3_addSpan_95 rfl (lv_at hl 3 rfl) ?_
            refine lv_iconst (v := 0) hx hb dX3_addSpan_96 (by decide) ?_
            refine lv_iload hx hb dX3_addSpan_97 (lv_at hl 1 rfl) ?_
            refine lv_iconst (v := 0) hx hb dX3_addSpan_99 (by decide) ?_
            obtain ⟨x_13, hx_13, hm⟩ := Option.bind_eq_some_iff.mp hm
            refine mc_V hC hGx hD (k_X3_fails l k b L hD (0 : Int32) ((((0 : Int32) ||| (1 : Int32)) ||| (0 : Int32)) ||| (1 : Int32)) (0 : Int32)  x_1.2 hx_13) (gV w_1056 w_1057 w_18 w_27 w_1058) kk_X3_fails rfl (List.forall_mem_nil _) hLb ⟨Nat.le_of_ble_eq_true rfl, Nat.le_of_ble_eq_true rfl⟩ ⟨Nat.le_of_ble_eq_true rfl, Nat.le_of_ble_eq_true rfl⟩ hV hS hl.1 rfl rfl (Nat.le_of_ble_eq_true rfl) dX3_addSpan_100 (fun q_13 H locs hV hS hz hq => ?_)
            have hA_2 := hA_2.up hq
            refine lv_if_eq (tgt := 110) hx hb dX3_addSpan_103 (by decide) (fun h_26 => ?_) (fun h_26 => ?_)
            · have hm := (if_pos h_26).symm.trans hm
              refine lv_aload_n hx hb dX3_addSpan_110 rfl (lv_at hl 3 rfl) ?_
              refine lv_iload_n hx hb dX3_addSpan_111 rfl (lv_at hl 4 rfl) ?_
              refine lv_aload_n hx hb dX3_addSpan_112 rfl (lv_at hl 2 rfl) ?_
              refine lv_iconst (v := 0) hx hb dX3_addSpan_113 (by decide) ?_
              refine m_niald (j := 0) (v := ((sget x_1.2 p0.toNatClampNeg (0 : Int32).toNatClampNeg) + (sget x_1.2 p1.toNatClampNeg (0 : Int32).toNatClampNeg))) hx hb hGx hA_2.1 (show ¬ ((0 : Int32) < 0 ∨ 3 ≤ ((0 : Int32)).toNatClampNeg) by decide) (by decide) rfl dX3_addSpan_114 ?_
              refine lv_aload_n hx hb dX3_addSpan_115 rfl (lv_at hl 2 rfl) ?_
              refine lv_iconst (v := 1) hx hb dX3_addSpan_116 (by decide) ?_
              refine m_niald (j := 1) (v := ((sget x_1.2 p0.toNatClampNeg (1 : Int32).toNatClampNeg) + (sget x_1.2 p1.toNatClampNeg (1 : Int32).toNatClampNeg))) hx hb hGx hA_2.1 (show ¬ ((1 : Int32) < 0 ∨ 3 ≤ ((1 : Int32)).toNatClampNeg) by decide) (by decide) rfl dX3_addSpan_117 ?_
              refine lv_aload_n hx hb dX3_addSpan_118 rfl (lv_at hl 2 rfl) ?_
              refine lv_iconst (v := 2) hx hb dX3_addSpan_119 (by decide) ?_
              refine m_niald (j := 2) (v := ((sget x_1.2 p0.toNatClampNeg (2 : Int32).toNatClampNeg) + (sget x_1.2 p1.toNatClampNeg (2 : Int32).toNatClampNeg))) hx hb hGx hA_2.1 (show ¬ ((2 : Int32) < 0 ∨ 3 ≤ ((2 : Int32)).toNatClampNeg) by decide) (by decide) rfl dX3_addSpan_120 ?_
              obtain ⟨x_14, hx_14, hm⟩ := Option.bind_eq_some_iff.mp hm
              refine mc_V hC hGx hD (k_X3_tells l k b L hD p0 ((sget x_1.2 p0.toNatClampNeg (0 : Int32).toNatClampNeg) + (sget x_1.2 p1.toNatClampNeg (0 : Int32).toNatClampNeg)) ((sget x_1.2 p0.toNatClampNeg (1 : Int32).toNatClampNeg) + (sget x_1.2 p1.toNatClampNeg (1 : Int32).toNatClampNeg)) ((sget x_1.2 p0.toNatClampNeg (2 : Int32).toNatClampNeg) + (sget x_1.2 p1.toNatClampNeg (2 : Int32).toNatClampNeg))  x_13.2 hx_14) (gV w_1205 w_1206 w_21 w_27 w_1207) kk_X3_tells rfl (List.forall_mem_nil _) hLb ⟨Nat.le_of_ble_eq_true rfl, Nat.le_of_ble_eq_true rfl⟩ ⟨Nat.le_of_ble_eq_true rfl, Nat.le_of_ble_eq_true rfl⟩ hV hS hl.1 rfl rfl (Nat.le_of_ble_eq_true rfl) dX3_addSpan_121 (fun q_14 H locs hV hS hz hq => ?_)
              have hA_2 := hA_2.up hq
              exact m_iret hx hb hr hlocks (Option.some.inj hm) hV hS ⟨Nat.le_of_ble_eq_true rfl, Nat.le_of_ble_eq_true rfl⟩ dX3_addSpan_124
            · have hm := (if_neg h_26).symm.trans hm
              refine lv_iconst (v := 0) hx hb dX3_addSpan_106 (by decide) ?_
              refine lv_goto (tgt := 124) hx hb dX3_addSpan_107 (by decide) ?_
              exact m_iret hx hb hr hlocks (Option.some.inj hm) hV hS ⟨Nat.le_of_ble_eq_true rfl, Nat.le_of_ble_eq_true rfl⟩ dX3_addSpan_124
        · have hm := (if_pos h_21).symm.trans hm
          refine lv_iconst (v := 1) hx hb dX3_addSpan_81 (by decide) ?_
          refine lv_goto (tgt := 86) hx hb dX3_addSpan_82 (by decide) ?_
          refine lv_ior hx hb dX3_addSpan_86 ?_
          refine lv_istore (lv' := [(4, .int (((0 : Int32) ||| (1 : Int32)) ||| (1 : Int32))), (5, .int (1 : Int32)), (3, .ref a_2), (0, .ref b.1), (1, .int p0), (2, .int p1)]) hx hb dX3_addSpan_87 hl (by decide) rfl (fun ls hl => ?_)
          refine lv_iinc (v := (2 : Int32)) (lv' := [(5, .int (2 : Int32)), (4, .int (((0 : Int32) ||| (1 : Int32)) ||| (1 : Int32))), (3, .ref a_2), (0, .ref b.1), (1, .int p0), (2, .int p1)]) hx hb dX3_addSpan_89 hl (k := 1) rfl (by decide) (by decide) rfl (fun ls hl => ?_)
          refine lv_goto (tgt := 40) hx hb dX3_addSpan_92 (by decide) ?_
          refine lv_iload hx hb dX3_addSpan_40 (lv_at hl 0 rfl) ?_
          refine lv_iconst (v := 3) hx hb dX3_addSpan_42 (by decide) ?_
          refine lv_icmp_ge (tgt := 95) hx hb dX3_addSpan_43 (by decide) (fun h => absurd h (by decide)) (fun _ => ?_)
          refine lv_aload_n hx hb dX3_addSpan_46 rfl (lv_at hl 2 rfl) ?_
          refine lv_iload hx hb dX3_addSpan_47 (lv_at hl 0 rfl) ?_
          refine lv_aload_n hx hb dX3_addSpan_49 rfl (lv_at hl 3 rfl) ?_
          refine va_get (D := kD k) (ci := 5) (v := .ref b.2.2.1) (C := RX3) (T := TX3) (N := 5) hx hb htg inG_X3 hown hGx.1 hV.1 0 rfl rfl 2 (by decide) (htg _ w_1013) (fun _ h9 => h9) rfl dX3_addSpan_50 ?_
          refine lv_iload_n hx hb dX3_addSpan_53 rfl (lv_at hl 4 rfl) ?_
          by_cases h_27 : p0 < 0 ∨ 2 ≤ p0.toNatClampNeg
          · have hm := (if_pos h_27).symm.trans hm
            cases hm
          have hm := (if_neg h_27).symm.trans hm
          refine m_lds hx hb hGx hV h_27 dX3_addSpan_54 ?_
          refine lv_iload hx hb dX3_addSpan_55 (lv_at hl 0 rfl) ?_
          refine m_sld hx hb hGx hV (show ¬ ((2 : Int32) < 0 ∨ 3 ≤ ((2 : Int32)).toNatClampNeg) by decide) dX3_addSpan_57 ?_
          refine lv_aload_n hx hb dX3_addSpan_58 rfl (lv_at hl 3 rfl) ?_
          refine va_get (D := kD k) (ci := 5) (v := .ref b.2.2.1) (C := RX3) (T := TX3) (N := 5) hx hb htg inG_X3 hown hGx.1 hV.1 0 rfl rfl 2 (by decide) (htg _ w_1013) (fun _ h9 => h9) rfl dX3_addSpan_59 ?_
          refine lv_iload_n hx hb dX3_addSpan_62 rfl (lv_at hl 5 rfl) ?_
          by_cases h_28 : p1 < 0 ∨ 2 ≤ p1.toNatClampNeg
          · have hm := (if_pos h_28).symm.trans hm
            cases hm
          have hm := (if_neg h_28).symm.trans hm
          refine m_lds hx hb hGx hV h_28 dX3_addSpan_63 ?_
          refine lv_iload hx hb dX3_addSpan_64 (lv_at hl 0 rfl) ?_
          refine m_sld hx hb hGx hV (show ¬ ((2 : Int32) < 0 ∨ 3 ≤ ((2 : Int32)).toNatClampNeg) by decide) dX3_addSpan_66 ?_
          refine lv_iadd hx hb dX3_addSpan_67 ?_
          have hL9 := hS.2
          refine m_niast (j := 2) hx hb hGx (Nat.le_trans hs_2 hn_2) hA_2.1 (show ¬ ((2 : Int32) < 0 ∨ 3 ≤ ((2 : Int32)).toNatClampNeg) by decide) (by decide) hS.1 hA dX3_addSpan_68 (fun H hA_2 hz9 hq9 hS => ?_)
          have hq_2 := m_q2 hn_2 hz_2 hq_2 hq9
          have hz_2 := Nat.le_trans hz_2 hz9
          have hS : mS b s.heap H _ := ⟨hS, hL9⟩
          have hV := hV_2.up hq_2
          have hA_2 := aF.made hLn_2 hn_2 hA_2
          refine lv_iload hx hb dX3_addSpan_69 (lv_at hl 1 rfl) ?_
          refine lv_aload_n hx hb dX3_addSpan_71 rfl (lv_at hl 2 rfl) ?_
          refine lv_iload hx hb dX3_addSpan_72 (lv_at hl 0 rfl) ?_
          refine m_niald (j := 2) (v := ((sget x_1.2 p0.toNatClampNeg (2 : Int32).toNatClampNeg) + (sget x_1.2 p1.toNatClampNeg (2 : Int32).toNatClampNeg))) hx hb hGx hA_2.1 (show ¬ ((2 : Int32) < 0 ∨ 3 ≤ ((2 : Int32)).toNatClampNeg) by decide) (by decide) rfl dX3_addSpan_74 ?_
          refine pc_S hC (c_X3_isNumber l ((sget x_1.2 p0.toNatClampNeg (2 : Int32).toNatClampNeg) + (sget x_1.2 p1.toNatClampNeg (2 : Int32).toNatClampNeg))) (gS w_1200 w_1201 w_27 w_1202) kk_X3_isNumber ⟨Nat.le_of_ble_eq_true rfl, Nat.le_of_ble_eq_true rfl⟩ ⟨Nat.le_of_ble_eq_true rfl, Nat.le_of_ble_eq_true rfl⟩ hl.1 rfl rfl (Nat.le_of_ble_eq_true rfl) dX3_addSpan_75 ?_
          refine lv_if_ne (tgt := 85) hx hb dX3_addSpan_78 (by decide) (fun h_29 => ?_) (fun h_29 => ?_)
          · have hm := (if_neg h_29).symm.trans hm
            refine lv_iconst (v := 0) hx hb dX3_addSpan_85 (by decide) ?_
            refine lv_ior hx hb dX3_addSpan_86 ?_
            refine lv_istore (lv' := [(4, .int ((((0 : Int32) ||| (1 : Int32)) ||| (1 : Int32)) ||| (0 : Int32))), (5, .int (2 : Int32)), (3, .ref a_2), (0, .ref b.1), (1, .int p0), (2, .int p1)]) hx hb dX3_addSpan_87 hl (by decide) rfl (fun ls hl => ?_)
            refine lv_iinc (v := (3 : Int32)) (lv' := [(5, .int (3 : Int32)), (4, .int ((((0 : Int32) ||| (1 : Int32)) ||| (1 : Int32)) ||| (0 : Int32))), (3, .ref a_2), (0, .ref b.1), (1, .int p0), (2, .int p1)]) hx hb dX3_addSpan_89 hl (k := 1) rfl (by decide) (by decide) rfl (fun ls hl => ?_)
            refine lv_goto (tgt := 40) hx hb dX3_addSpan_92 (by decide) ?_
            refine lv_iload hx hb dX3_addSpan_40 (lv_at hl 0 rfl) ?_
            refine lv_iconst (v := 3) hx hb dX3_addSpan_42 (by decide) ?_
            refine lv_icmp_ge (tgt := 95) hx hb dX3_addSpan_43 (by decide) (fun _ => ?_) (fun h => absurd h (by decide))
            refine lv_aload_n hx hb dX3_addSpan_95 rfl (lv_at hl 3 rfl) ?_
            refine lv_iconst (v := 0) hx hb dX3_addSpan_96 (by decide) ?_
            refine lv_iload hx hb dX3_addSpan_97 (lv_at hl 1 rfl) ?_
            refine lv_iconst (v := 0) hx hb dX3_addSpan_99 (by decide) ?_
            obtain ⟨x_15, hx_15, hm⟩ := Option.bind_eq_some_iff.mp hm
            refine mc_V hC hGx hD (k_X3_fails l k b L hD (0 : Int32) ((((0 : Int32) ||| (1 : Int32)) ||| (1 : Int32)) ||| (0 : Int32)) (0 : Int32)  x_1.2 hx_15) (gV w_1056 w_1057 w_18 w_27 w_1058) kk_X3_fails rfl (List.forall_mem_nil _) hLb ⟨Nat.le_of_ble_eq_true rfl, Nat.le_of_ble_eq_true rfl⟩ ⟨Nat.le_of_ble_eq_true rfl, Nat.le_of_ble_eq_true rfl⟩ hV hS hl.1 rfl rfl (Nat.le_of_ble_eq_true rfl) dX3_addSpan_100 (fun q_15 H locs hV hS hz hq => ?_)
            have hA_2 := hA_2.up hq
            refine lv_if_eq (tgt := 110) hx hb dX3_addSpan_103 (by decide) (fun h_30 => ?_) (fun h_30 => ?_)
            · have hm := (if_pos h_30).symm.trans hm
              refine lv_aload_n hx hb dX3_addSpan_110 rfl (lv_at hl 3 rfl) ?_
              refine lv_iload_n hx hb dX3_addSpan_111 rfl (lv_at hl 4 rfl) ?_
              refine lv_aload_n hx hb dX3_addSpan_112 rfl (lv_at hl 2 rfl) ?_
              refine lv_iconst (v := 0) hx hb dX3_addSpan_113 (by decide) ?_
              refine m_niald (j := 0) (v := ((sget x_1.2 p0.toNatClampNeg (0 : Int32).toNatClampNeg) + (sget x_1.2 p1.toNatClampNeg (0 : Int32).toNatClampNeg))) hx hb hGx hA_2.1 (show ¬ ((0 : Int32) < 0 ∨ 3 ≤ ((0 : Int32)).toNatClampNeg) by decide) (by decide) rfl dX3_addSpan_114 ?_
              refine lv_aload_n hx hb dX3_addSpan_115 rfl (lv_at hl 2 rfl) ?_
              refine lv_iconst (v := 1) hx hb dX3_addSpan_116 (by decide) ?_
              refine m_niald (j := 1) (v := ((sget x_1.2 p0.toNatClampNeg (1 : Int32).toNatClampNeg) + (sget x_1.2 p1.toNatClampNeg (1 : Int32).toNatClampNeg))) hx hb hGx hA_2.1 (show ¬ ((1 : Int32) < 0 ∨ 3 ≤ ((1 : Int32)).toNatClampNeg) by decide) (by decide) rfl dX3_addSpan_117 ?_
              refine lv_aload_n hx hb dX3_addSpan_118 rfl (lv_at hl 2 rfl) ?_
              refine lv_iconst (v := 2) hx hb dX3_addSpan_119 (by decide) ?_
              refine m_niald (j := 2) (v := ((sget x_1.2 p0.toNatClampNeg (2 : Int32).toNatClampNeg) + (sget x_1.2 p1.toNatClampNeg (2 : Int32).toNatClampNeg))) hx hb hGx hA_2.1 (show ¬ ((2 : Int32) < 0 ∨ 3 ≤ ((2 : Int32)).toNatClampNeg) by decide) (by decide) rfl dX3_addSpan_120 ?_
              obtain ⟨x_16, hx_16, hm⟩ := Option.bind_eq_some_iff.mp hm
              refine mc_V hC hGx hD (k_X3_tells l k b L hD p0 ((sget x_1.2 p0.toNatClampNeg (0 : Int32).toNatClampNeg) + (sget x_1.2 p1.toNatClampNeg (0 : Int32).toNatClampNeg)) ((sget x_1.2 p0.toNatClampNeg (1 : Int32).toNatClampNeg) + (sget x_1.2 p1.toNatClampNeg (1 : Int32).toNatClampNeg)) ((sget x_1.2 p0.toNatClampNeg (2 : Int32).toNatClampNeg) + (sget x_1.2 p1.toNatClampNeg (2 : Int32).toNatClampNeg))  x_15.2 hx_16) (gV w_1205 w_1206 w_21 w_27 w_1207) kk_X3_tells rfl (List.forall_mem_nil _) hLb ⟨Nat.le_of_ble_eq_true rfl, Nat.le_of_ble_eq_true rfl⟩ ⟨Nat.le_of_ble_eq_true rfl, Nat.le_of_ble_eq_true rfl⟩ hV hS hl.1 rfl rfl (Nat.le_of_ble_eq_true rfl) dX3_addSpan_121 (fun q_16 H locs hV hS hz hq => ?_)
              have hA_2 := hA_2.up hq
              exact m_iret hx hb hr hlocks (Option.some.inj hm) hV hS ⟨Nat.le_of_ble_eq_true rfl, Nat.le_of_ble_eq_true rfl⟩ dX3_addSpan_124
            · have hm := (if_neg h_30).symm.trans hm
              refine lv_iconst (v := 0) hx hb dX3_addSpan_106 (by decide) ?_
              refine lv_goto (tgt := 124) hx hb dX3_addSpan_107 (by decide) ?_
              exact m_iret hx hb hr hlocks (Option.some.inj hm) hV hS ⟨Nat.le_of_ble_eq_true rfl, Nat.le_of_ble_eq_true rfl⟩ dX3_addSpan_124
          · have hm := (if_pos h_29).symm.trans hm
            refine lv_iconst (v := 1) hx hb dX3_addSpan_81 (by decide) ?_
            refine lv_goto (tgt := 86) hx hb dX3_addSpan_82 (by decide) ?_
            refine lv_ior hx hb dX3_addSpan_86 ?_
            refine lv_istore (lv' := [(4, .int ((((0 : Int32) ||| (1 : Int32)) ||| (1 : Int32)) ||| (1 : Int32))), (5, .int (2 : Int32)), (3, .ref a_2), (0, .ref b.1), (1, .int p0), (2, .int p1)]) hx hb dX3_addSpan_87 hl (by decide) rfl (fun ls hl => ?_)
            refine lv_iinc (v := (3 : Int32)) (lv' := [(5, .int (3 : Int32)), (4, .int ((((0 : Int32) ||| (1 : Int32)) ||| (1 : Int32)) ||| (1 : Int32))), (3, .ref a_2), (0, .ref b.1), (1, .int p0), (2, .int p1)]) hx hb dX3_addSpan_89 hl (k := 1) rfl (by decide) (by decide) rfl (fun ls hl => ?_)
            refine lv_goto (tgt := 40) hx hb dX3_addSpan_92 (by decide) ?_
            refine lv_iload hx hb dX3_addSpan_40 (lv_at hl 0 rfl) ?_
            refine lv_iconst (v := 3) hx hb dX3_addSpan_42 (by decide) ?_
            refine lv_icmp_ge (tgt := 95) hx hb dX3_addSpan_43 (by decide) (fun _ => ?_) (fun h => absurd h (by decide))
            refine lv_aload_n hx hb dX3_addSpan_95 rfl (lv_at hl 3 rfl) ?_
            refine lv_iconst (v := 0) hx hb dX3_addSpan_96 (by decide) ?_
            refine lv_iload hx hb dX3_addSpan_97 (lv_at hl 1 rfl) ?_
            refine lv_iconst (v := 0) hx hb dX3_addSpan_99 (by decide) ?_
            obtain ⟨x_17, hx_17, hm⟩ := Option.bind_eq_some_iff.mp hm
            refine mc_V hC hGx hD (k_X3_fails l k b L hD (0 : Int32) ((((0 : Int32) ||| (1 : Int32)) ||| (1 : Int32)) ||| (1 : Int32)) (0 : Int32)  x_1.2 hx_17) (gV w_1056 w_1057 w_18 w_27 w_1058) kk_X3_fails rfl (List.forall_mem_nil _) hLb ⟨Nat.le_of_ble_eq_true rfl, Nat.le_of_ble_eq_true rfl⟩ ⟨Nat.le_of_ble_eq_true rfl, Nat.le_of_ble_eq_true rfl⟩ hV hS hl.1 rfl rfl (Nat.le_of_ble_eq_true rfl) dX3_addSpan_100 (fun q_17 H locs hV hS hz hq => ?_)
            have hA_2 := hA_2.up hq
            refine lv_if_eq (tgt := 110) hx hb dX3_addSpan_103 (by decide) (fun h_31 => ?_) (fun h_31 => ?_)
            · have hm := (if_pos h_31).symm.trans hm
              refine lv_aload_n hx hb dX3_addSpan_110 rfl (lv_at hl 3 rfl) ?_
              refine lv_iload_n hx hb dX3_addSpan_111 rfl (lv_at hl 4 rfl) ?_
              refine lv_aload_n hx hb dX3_addSpan_112 rfl (lv_at hl 2 rfl) ?_
              refine lv_iconst (v := 0) hx hb dX3_addSpan_113 (by decide) ?_
              refine m_niald (j := 0) (v := ((sget x_1.2 p0.toNatClampNeg (0 : Int32).toNatClampNeg) + (sget x_1.2 p1.toNatClampNeg (0 : Int32).toNatClampNeg))) hx hb hGx hA_2.1 (show ¬ ((0 : Int32) < 0 ∨ 3 ≤ ((0 : Int32)).toNatClampNeg) by decide) (by decide) rfl dX3_addSpan_114 ?_
              refine lv_aload_n hx hb dX3_addSpan_115 rfl (lv_at hl 2 rfl) ?_
              refine lv_iconst (v := 1) hx hb dX3_addSpan_116 (by decide) ?_
              refine m_niald (j := 1) (v := ((sget x_1.2 p0.toNatClampNeg (1 : Int32).toNatClampNeg) + (sget x_1.2 p1.toNatClampNeg (1 : Int32).toNatClampNeg))) hx hb hGx hA_2.1 (show ¬ ((1 : Int32) < 0 ∨ 3 ≤ ((1 : Int32)).toNatClampNeg) by decide) (by decide) rfl dX3_addSpan_117 ?_
              refine lv_aload_n hx hb dX3_addSpan_118 rfl (lv_at hl 2 rfl) ?_
              refine lv_iconst (v := 2) hx hb dX3_addSpan_119 (by decide) ?_
              refine m_niald (j := 2) (v := ((sget x_1.2 p0.toNatClampNeg (2 : Int32).toNatClampNeg) + (sget x_1.2 p1.toNatClampNeg (2 : Int32).toNatClampNeg))) hx hb hGx hA_2.1 (show ¬ ((2 : Int32) < 0 ∨ 3 ≤ ((2 : Int32)).toNatClampNeg) by decide) (by decide) rfl dX3_addSpan_120 ?_
              obtain ⟨x_18, hx_18, hm⟩ := Option.bind_eq_some_iff.mp hm
              refine mc_V hC hGx hD (k_X3_tells l k b L hD p0 ((sget x_1.2 p0.toNatClampNeg (0 : Int32).toNatClampNeg) + (sget x_1.2 p1.toNatClampNeg (0 : Int32).toNatClampNeg)) ((sget x_1.2 p0.toNatClampNeg (1 : Int32).toNatClampNeg) + (sget x_1.2 p1.toNatClampNeg (1 : Int32).toNatClampNeg)) ((sget x_1.2 p0.toNatClampNeg (2 : Int32).toNatClampNeg) + (sget x_1.2 p1.toNatClampNeg (2 : Int32).toNatClampNeg))  x_17.2 hx_18) (gV w_1205 w_1206 w_21 w_27 w_1207) kk_X3_tells rfl (List.forall_mem_nil _) hLb ⟨Nat.le_of_ble_eq_true rfl, Nat.le_of_ble_eq_true rfl⟩ ⟨Nat.le_of_ble_eq_true rfl, Nat.le_of_ble_eq_true rfl⟩ hV hS hl.1 rfl rfl (Nat.le_of_ble_eq_true rfl) dX3_addSpan_121 (fun q_18 H locs hV hS hz hq => ?_)
              have hA_2 := hA_2.up hq
              exact m_iret hx hb hr hlocks (Option.some.inj hm) hV hS ⟨Nat.le_of_ble_eq_true rfl, Nat.le_of_ble_eq_true rfl⟩ dX3_addSpan_124
            · have hm := (if_neg h_31).symm.trans hm
              refine lv_iconst (v := 0) hx hb dX3_addSpan_106 (by decide) ?_
              refine lv_goto (tgt := 124) hx hb dX3_addSpan_107 (by decide) ?_
              exact m_iret hx hb hr hlocks (Option.some.inj hm) hV hS ⟨Nat.le_of_ble_eq_true rfl, Nat.le_of_ble_eq_true rfl⟩ dX3_addSpan_124
    · have hm := (if_neg h_2).symm.trans hm
      refine lv_iconst (v := 0) hx hb dX3_addSpan_28 (by decide) ?_
      exact m_iret hx hb hr hlocks (Option.some.inj hm) hV hS ⟨Nat.le_of_ble_eq_true rfl, Nat.le_of_ble_eq_true rfl⟩ dX3_addSpan_29
  · have hm := (if_pos h_1).symm.trans hm
    refine lv_iload_n hx hb dX3_addSpan_8 rfl (lv_at hl 2 rfl) ?_
    refine pc_S hC (c_X3_isNoSpan l p1) (gS w_1197 w_1198 w_27 w_1199) kk_X3_isNoSpan ⟨Nat.le_of_ble_eq_true rfl, Nat.le_of_ble_eq_true rfl⟩ ⟨Nat.le_of_ble_eq_true rfl, Nat.le_of_ble_eq_true rfl⟩ hl.1 rfl rfl (Nat.le_of_ble_eq_true rfl) dX3_addSpan_9 ?_
    refine lv_if_eq (tgt := 19) hx hb dX3_addSpan_12 (by decide) (fun h_32 => ?_) (fun h_32 => ?_)
    · have hm := (if_pos h_32).symm.trans hm
      refine lv_iconst (v := 0) hx hb dX3_addSpan_19 (by decide) ?_
      refine lv_iconst (v := 0) hx hb dX3_addSpan_20 (by decide) ?_
      refine lv_iconst (v := 0) hx hb dX3_addSpan_21 (by decide) ?_
      obtain ⟨x_19, hx_19, hm⟩ := Option.bind_eq_some_iff.mp hm
      refine mc_V hC hGx hD (k_X3_fails l k b L hD (0 : Int32) (0 : Int32) (0 : Int32)  z hx_19) (gV w_1056 w_1057 w_18 w_27 w_1058) kk_X3_fails rfl (List.forall_mem_nil _) hLb ⟨Nat.le_of_ble_eq_true rfl, Nat.le_of_ble_eq_true rfl⟩ ⟨Nat.le_of_ble_eq_true rfl, Nat.le_of_ble_eq_true rfl⟩ hV hS hl.1 rfl rfl (Nat.le_of_ble_eq_true rfl) dX3_addSpan_22 (fun q_19 H locs hV hS hz hq => ?_)
      refine lv_if_eq (tgt := 30) hx hb dX3_addSpan_25 (by decide) (fun h_33 => ?_) (fun h_33 => ?_)
      · have hm := (if_pos h_33).symm.trans hm
        refine lv_iconst (v := 3) hx hb dX3_addSpan_30 (by decide) ?_
        have hLn_20 := m_hLn hLb hS
        have hL9 := hS.2
        have hV_20 := hV
        have hs_20 := hS.1.1
        refine m_newI (n := 3) hx hb (htg _ w_77) hGx hS.1 (by decide) (by decide) (by decide) ⟨Nat.le_of_ble_eq_true rfl, Nat.le_of_ble_eq_true rfl⟩ dX3_addSpan_31 (fun a_20 H hn_20 hz_20 hA_20 hq hS => ?_)
        have hS : mS b s.heap H _ := ⟨hS, hL9⟩
        have hV := hV.up hq
        have hA_20 := aF.made hLn_20 hn_20 hA_20
        have hq_20 := hq
        refine lv_astore_n (lv' := [(3, .ref a_20), (0, .ref b.1), (1, .int p0), (2, .int p1)]) hx hb dX3_addSpan_33 rfl hl (by decide) rfl (fun ls hl => ?_)
        refine lv_iconst (v := 0) hx hb dX3_addSpan_34 (by decide) ?_
        refine lv_istore (lv' := [(4, .int (0 : Int32)), (3, .ref a_20), (0, .ref b.1), (1, .int p0), (2, .int p1)]) hx hb dX3_addSpan_35 hl (by decide) rfl (fun ls hl => ?_)
        refine lv_iconst (v := 0) hx hb dX3_addSpan_37 (by decide) ?_
        refine lv_istore (lv' := [(5, .int (0 : Int32)), (4, .int (0 : Int32)), (3, .ref a_20), (0, .ref b.1), (1, .int p0), (2, .int p1)]) hx hb dX3_addSpan_38 hl (by decide) rfl (fun ls hl => ?_)
        refine lv_iload hx hb dX3_addSpan_40 (lv_at hl 0 rfl) ?_
        refine lv_iconst (v := 3) hx hb dX3_addSpan_42 (by decide) ?_
        refine lv_icmp_ge (tgt := 95) hx hb dX3_addSpan_43 (by decide) (fun h => absurd h (by decide)) (fun _ => ?_)
        refine lv_aload_n hx hb dX3_addSpan_46 rfl (lv_at hl 2 rfl) ?_
        refine lv_iload hx hb dX3_addSpan_47 (lv_at hl 0 rfl) ?_
        refine lv_aload_n hx hb dX3_addSpan_49 rfl (lv_at hl 3 rfl) ?_
        refine va_get (D := kD k) (ci := 5) (v := .ref b.2.2.1) (C := RX3) (T := TX3) (N := 5) hx hb htg inG_X3 hown hGx.1 hV.1 0 rfl rfl 2 (by decide) (htg _ w_1013) (fun _ h9 => h9) rfl dX3_addSpan_50 ?_
        refine lv_iload_n hx hb dX3_addSpan_53 rfl (lv_at hl 4 rfl) ?_
        by_cases h_34 : p0 < 0 ∨ 2 ≤ p0.toNatClampNeg
        · have hm := (if_pos h_34).symm.trans hm
          cases hm
        have hm := (if_neg h_34).symm.trans hm
        refine m_lds hx hb hGx hV h_34 dX3_addSpan_54 ?_
        refine lv_iload hx hb dX3_addSpan_55 (lv_at hl 0 rfl) ?_
        refine m_sld hx hb hGx hV (show ¬ ((0 : Int32) < 0 ∨ 3 ≤ ((0 : Int32)).toNatClampNeg) by decide) dX3_addSpan_57 ?_
        refine lv_aload_n hx hb dX3_addSpan_58 rfl (lv_at hl 3 rfl) ?_
        refine va_get (D := kD k) (ci := 5) (v := .ref b.2.2.1) (C := RX3) (T := TX3) (N := 5) hx hb htg inG_X3 hown hGx.1 hV.1 0 rfl rfl 2 (by decide) (htg _ w_1013) (fun _ h9 => h9) rfl dX3_addSpan_59 ?_
        refine lv_iload_n hx hb dX3_addSpan_62 rfl (lv_at hl 5 rfl) ?_
        by_cases h_35 : p1 < 0 ∨ 2 ≤ p1.toNatClampNeg
        · have hm := (if_pos h_35).symm.trans hm
          cases hm
        have hm := (if_neg h_35).symm.trans hm
        refine m_lds hx hb hGx hV h_35 dX3_addSpan_63 ?_
        refine lv_iload hx hb dX3_addSpan_64 (lv_at hl 0 rfl) ?_
        refine m_sld hx hb hGx hV (show ¬ ((0 : Int32) < 0 ∨ 3 ≤ ((0 : Int32)).toNatClampNeg) by decide) dX3_addSpan_66 ?_
        refine lv_iadd hx hb dX3_addSpan_67 ?_
        have hL9 := hS.2
        refine m_niast (j := 0) hx hb hGx (Nat.le_trans hs_20 hn_20) hA_20.1 (show ¬ ((0 : Int32) < 0 ∨ 3 ≤ ((0 : Int32)).toNatClampNeg) by decide) (by decide) hS.1 hA dX3_addSpan_68 (fun H hA_20 hz9 hq9 hS => ?_)
        have hq_20 := m_q2 hn_20 hz_20 hq_20 hq9
        have hz_20 := Nat.le_trans hz_20 hz9
        have hS : mS b s.heap H _ := ⟨hS, hL9⟩
        have hV := hV_20.up hq_20
        have hA_20 := aF.made hLn_20 hn_20 hA_20
        refine lv_iload hx hb dX3_addSpan_69 (lv_at hl 1 rfl) ?_
        refine lv_aload_n hx hb dX3_addSpan_71 rfl (lv_at hl 2 rfl) ?_
        refine lv_iload hx hb dX3_addSpan_72 (lv_at hl 0 rfl) ?_
        refine m_niald (j := 0) (v := ((sget x_19.2 p0.toNatClampNeg (0 : Int32).toNatClampNeg) + (sget x_19.2 p1.toNatClampNeg (0 : Int32).toNatClampNeg))) hx hb hGx hA_20.1 (show ¬ ((0 : Int32) < 0 ∨ 3 ≤ ((0 : Int32)).toNatClampNeg) by decide) (by decide) rfl dX3_addSpan_74 ?_
        refine pc_S hC (c_X3_isNumber l ((sget x_19.2 p0.toNatClampNeg (0 : Int32).toNatClampNeg) + (sget x_19.2 p1.toNatClampNeg (0 : Int32).toNatClampNeg))) (gS w_1200 w_1201 w_27 w_1202) kk_X3_isNumber ⟨Nat.le_of_ble_eq_true rfl, Nat.le_of_ble_eq_true rfl⟩ ⟨Nat.le_of_ble_eq_true rfl, Nat.le_of_ble_eq_true rfl⟩ hl.1 rfl rfl (Nat.le_of_ble_eq_true rfl) dX3_addSpan_75 ?_
        refine lv_if_ne (tgt := 85) hx hb dX3_addSpan_78 (by decide) (fun h_36 => ?_) (fun h_36 => ?_)
        · have hm := (if_neg h_36).symm.trans hm
          refine lv_iconst (v := 0) hx hb dX3_addSpan_85 (by decide) ?_
          refine lv_ior hx hb dX3_addSpan_86 ?_
          refine lv_istore (lv' := [(4, .int ((0 : Int32) ||| (0 : Int32))), (5, .int (0 : Int32)), (3, .ref a_20), (0, .ref b.1), (1, .int p0), (2, .int p1)]) hx hb dX3_addSpan_87 hl (by decide) rfl (fun ls hl => ?_)
          refine lv_iinc (v := (1 : Int32)) (lv' := [(5, .int (1 : Int32)), (4, .int ((0 : Int32) ||| (0 : Int32))), (3, .ref a_20), (0, .ref b.1), (1, .int p0), (2, .int p1)]) hx hb dX3_addSpan_89 hl (k := 1) rfl (by decide) (by decide) rfl (fun ls hl => ?_)
          refine lv_goto (tgt := 40) hx hb dX3_addSpan_92 (by decide) ?_
          refine lv_iload hx hb dX3_addSpan_40 (lv_at hl 0 rfl) ?_
          refine lv_iconst (v := 3) hx hb dX3_addSpan_42 (by decide) ?_
          refine lv_icmp_ge (tgt := 95) hx hb dX3_addSpan_43 (by decide) (fun h => absurd h (by decide)) (fun _ => ?_)
          refine lv_aload_n hx hb dX3_addSpan_46 rfl (lv_at hl 2 rfl) ?_
          refine lv_iload hx hb dX3_addSpan_47 (lv_at hl 0 rfl) ?_
          refine lv_aload_n hx hb dX3_addSpan_49 rfl (lv_at hl 3 rfl) ?_
          refine va_get (D := kD k) (ci := 5) (v := .ref b.2.2.1) (C := RX3) (T := TX3) (N := 5) hx hb htg inG_X3 hown hGx.1 hV.1 0 rfl rfl 2 (by decide) (htg _ w_1013) (fun _ h9 => h9) rfl dX3_addSpan_50 ?_
          refine lv_iload_n hx hb dX3_addSpan_53 rfl (lv_at hl 4 rfl) ?_
          by_cases h_37 : p0 < 0 ∨ 2 ≤ p0.toNatClampNeg
          · have hm := (if_pos h_37).symm.trans hm
            cases hm
          have hm := (if_neg h_37).symm.trans hm
          refine m_lds hx hb hGx hV h_37 dX3_addSpan_54 ?_
          refine lv_iload hx hb dX3_addSpan_55 (lv_at hl 0 rfl) ?_
          refine m_sld hx hb hGx hV (show ¬ ((1 : Int32) < 0 ∨ 3 ≤ ((1 : Int32)).toNatClampNeg) by decide) dX3_addSpan_57 ?_
          refine lv_aload_n hx hb dX3_addSpan_58 rfl (lv_at hl 3 rfl) ?_
          refine va_get (D := kD k) (ci := 5) (v := .ref b.2.2.1) (C := RX3) (T := TX3) (N := 5) hx hb htg inG_X3 hown hGx.1 hV.1 0 rfl rfl 2 (by decide) (htg _ w_1013) (fun _ h9 => h9) rfl dX3_addSpan_59 ?_
          refine lv_iload_n hx hb dX3_addSpan_62 rfl (lv_at hl 5 rfl) ?_
          by_cases h_38 : p1 < 0 ∨ 2 ≤ p1.toNatClampNeg
          · have hm := (if_pos h_38).symm.trans hm
            cases hm
          have hm := (if_neg h_38).symm.trans hm
          refine m_lds hx hb hGx hV h_38 dX3_addSpan_63 ?_
          refine lv_iload hx hb dX3_addSpan_64 (lv_at hl 0 rfl) ?_
          refine m_sld hx hb hGx hV (show ¬ ((1 : Int32) < 0 ∨ 3 ≤ ((1 : Int32)).toNatClampNeg) by decide) dX3_addSpan_66 ?_
          refine lv_iadd hx hb dX3_addSpan_67 ?_
          have hL9 := hS.2
          refine m_niast (j := 1) hx hb hGx (Nat.le_trans hs_20 hn_20) hA_20.1 (show ¬ ((1 : Int32) < 0 ∨ 3 ≤ ((1 : Int32)).toNatClampNeg) by decide) (by decide) hS.1 hA dX3_addSpan_68 (fun H hA_20 hz9 hq9 hS => ?_)
          have hq_20 := m_q2 hn_20 hz_20 hq_20 hq9
          have hz_20 := Nat.le_trans hz_20 hz9
          have hS : mS b s.heap H _ := ⟨hS, hL9⟩
          have hV := hV_20.up hq_20
          have hA_20 := aF.made hLn_20 hn_20 hA_20
          refine lv_iload hx hb dX3_addSpan_69 (lv_at hl 1 rfl) ?_
          refine lv_aload_n hx hb dX3_addSpan_71 rfl (lv_at hl 2 rfl) ?_
          refine lv_iload hx hb dX3_addSpan_72 (lv_at hl 0 rfl) ?_
          refine m_niald (j := 1) (v := ((sget x_19.2 p0.toNatClampNeg (1 : Int32).toNatClampNeg) + (sget x_19.2 p1.toNatClampNeg (1 : Int32).toNatClampNeg))) hx hb hGx hA_20.1 (show ¬ ((1 : Int32) < 0 ∨ 3 ≤ ((1 : Int32)).toNatClampNeg) by decide) (by decide) rfl dX3_addSpan_74 ?_
          refine pc_S hC (c_X3_isNumber l ((sget x_19.2 p0.toNatClampNeg (1 : Int32).toNatClampNeg) + (sget x_19.2 p1.toNatClampNeg (1 : Int32).toNatClampNeg))) (gS w_1200 w_1201 w_27 w_1202) kk_X3_isNumber ⟨Nat.le_of_ble_eq_true rfl, Nat.le_of_ble_eq_true rfl⟩ ⟨Nat.le_of_ble_eq_true rfl, Nat.le_of_ble_eq_true rfl⟩ hl.1 rfl rfl (Nat.le_of_ble_eq_true rfl) dX3_addSpan_75 ?_
          refine lv_if_ne (tgt := 85) hx hb dX3_addSpan_78 (by decide) (fun h_39 => ?_) (fun h_39 => ?_)
          · have hm := (if_neg h_39).symm.trans hm
            refine lv_iconst (v := 0) hx hb dX3_addSpan_85 (by decide) ?_
            refine lv_ior hx hb dX3_addSpan_86 ?_
            refine lv_istore (lv' := [(4, .int (((0 : Int32) ||| (0 : Int32)) ||| (0 : Int32))), (5, .int (1 : Int32)), (3, .ref a_20), (0, .ref b.1), (1, .int p0), (2, .int p1)]) hx hb dX3_addSpan_87 hl (by decide) rfl (fun ls hl => ?_)
            refine lv_iinc (v := (2 : Int32)) (lv' := [(5, .int (2 : Int32)), (4, .int (((0 : Int32) ||| (0 : Int32)) ||| (0 : Int32))), (3, .ref a_20), (0, .ref b.1), (1, .int p0), (2, .int p1)]) hx hb dX3_addSpan_89 hl (k := 1) rfl (by decide) (by decide) rfl (fun ls hl => ?_)
            refine lv_goto (tgt := 40) hx hb dX3_addSpan_92 (by decide) ?_
            refine lv_iload hx hb dX3_addSpan_40 (lv_at hl 0 rfl) ?_
            refine lv_iconst (v := 3) hx hb dX3_addSpan_42 (by decide) ?_
            refine lv_icmp_ge (tgt := 95) hx hb dX3_addSpan_43 (by decide) (fun h => absurd h (by decide)) (fun _ => ?_)
            refine lv_aload_n hx hb dX3_addSpan_46 rfl (lv_at hl 2 rfl) ?_
            refine lv_iload hx hb dX3_addSpan_47 (lv_at hl 0 rfl) ?_
            refine lv_aload_n hx hb dX3_addSpan_49 rfl (lv_at hl 3 rfl) ?_
            refine va_get (D := kD k) (ci := 5) (v := .ref b.2.2.1) (C := RX3) (T := TX3) (N := 5) hx hb htg inG_X3 hown hGx.1 hV.1 0 rfl rfl 2 (by decide) (htg _ w_1013) (fun _ h9 => h9) rfl dX3_addSpan_50 ?_
            refine lv_iload_n hx hb dX3_addSpan_53 rfl (lv_at hl 4 rfl) ?_
            by_cases h_40 : p0 < 0 ∨ 2 ≤ p0.toNatClampNeg
            · have hm := (if_pos h_40).symm.trans hm
              cases hm
            have hm := (if_neg h_40).symm.trans hm
            refine m_lds hx hb hGx hV h_40 dX3_addSpan_54 ?_
            refine lv_iload hx hb dX3_addSpan_55 (lv_at hl 0 rfl) ?_
            refine m_sld hx hb hGx hV (show ¬ ((2 : Int32) < 0 ∨ 3 ≤ ((2 : Int32)).toNatClampNeg) by decide) dX3_addSpan_57 ?_
            refine lv_aload_n hx hb dX3_addSpan_58 rfl (lv_at hl 3 rfl) ?_
            refine va_get (D := kD k) (ci := 5) (v := .ref b.2.2.1) (C := RX3) (T := TX3) (N := 5) hx hb htg inG_X3 hown hGx.1 hV.1 0 rfl rfl 2 (by decide) (htg _ w_1013) (fun _ h9 => h9) rfl dX3_addSpan_59 ?_
            refine lv_iload_n hx hb dX3_addSpan_62 rfl (lv_at hl 5 rfl) ?_
            by_cases h_41 : p1 < 0 ∨ 2 ≤ p1.toNatClampNeg
            · have hm := (if_pos h_41).symm.trans hm
              cases hm
            have hm := (if_neg h_41).symm.trans hm
            refine m_lds hx hb hGx hV h_41 dX3_addSpan_63 ?_
            refine lv_iload hx hb dX3_addSpan_64 (lv_at hl 0 rfl) ?_
            refine m_sld hx hb hGx hV (show ¬ ((2 : Int32) < 0 ∨ 3 ≤ ((2 : Int32)).toNatClampNeg) by decide) dX3_addSpan_66 ?_
            refine lv_iadd hx hb dX3_addSpan_67 ?_
            have hL9 := hS.2
            refine m_niast (j := 2) hx hb hGx (Nat.le_trans hs_20 hn_20) hA_20.1 (show ¬ ((2 : Int32) < 0 ∨ 3 ≤ ((2 : Int32)).toNatClampNeg) by decide) (by decide) hS.1 hA dX3_addSpan_68 (fun H hA_20 hz9 hq9 hS => ?_)
            have hq_20 := m_q2 hn_20 hz_20 hq_20 hq9
            have hz_20 := Nat.le_trans hz_20 hz9
            have hS : mS b s.heap H _ := ⟨hS, hL9⟩
            have hV := hV_20.up hq_20
            have hA_20 := aF.made hLn_20 hn_20 hA_20
            refine lv_iload hx hb dX3_addSpan_69 (lv_at hl 1 rfl) ?_
            refine lv_aload_n hx hb dX3_addSpan_71 rfl (lv_at hl 2 rfl) ?_
            refine lv_iload hx hb dX3_addSpan_72 (lv_at hl 0 rfl) ?_
            refine m_niald (j := 2) (v := ((sget x_19.2 p0.toNatClampNeg (2 : Int32).toNatClampNeg) + (sget x_19.2 p1.toNatClampNeg (2 : Int32).toNatClampNeg))) hx hb hGx hA_20.1 (show ¬ ((2 : Int32) < 0 ∨ 3 ≤ ((2 : Int32)).toNatClampNeg) by decide) (by decide) rfl dX3_addSpan_74 ?_
            refine pc_S hC (c_X3_isNumber l ((sget x_19.2 p0.toNatClampNeg (2 : Int32).toNatClampNeg) + (sget x_19.2 p1.toNatClampNeg (2 : Int32).toNatClampNeg))) (gS w_1200 w_1201 w_27 w_1202) kk_X3_isNumber ⟨Nat.le_of_ble_eq_true rfl, Nat.le_of_ble_eq_true rfl⟩ ⟨Nat.le_of_ble_eq_true rfl, Nat.le_of_ble_eq_true rfl⟩ hl.1 rfl rfl (Nat.le_of_ble_eq_true rfl) dX3_addSpan_75 ?_
            refine lv_if_ne (tgt := 85) hx hb dX3_addSpan_78 (by decide) (fun h_42 => ?_) (fun h_42 => ?_)
            · have hm := (if_neg h_42).symm.trans hm
              refine lv_iconst (v := 0) hx hb dX3_addSpan_85 (by decide) ?_
              refine lv_ior hx hb dX3_addSpan_86 ?_
              refine lv_istore (lv' := [(4, .int ((((0 : Int32) ||| (0 : Int32)) ||| (0 : Int32)) ||| (0 : Int32))), (5, .int (2 : Int32)), (3, .ref a_20), (0, .ref b.1), (1, .int p0), (2, .int p1)]) hx hb dX3_addSpan_87 hl (by decide) rfl (fun ls hl => ?_)
              refine lv_iinc (v := (3 : Int32)) (lv' := [(5, .int (3 : Int32)), (4, .int ((((0 : Int32) ||| (0 : Int32)) ||| (0 : Int32)) ||| (0 : Int32))), (3, .ref a_20), (0, .ref b.1), (1, .int p0), (2, .int p1)]) hx hb dX3_addSpan_89 hl (k := 1) rfl (by decide) (by decide) rfl (fun ls hl => ?_)
              refine lv_goto (tgt := 40) hx hb dX3_addSpan_92 (by decide) ?_
              refine lv_iload hx hb dX3_addSpan_40 (lv_at hl 0 rfl) ?_
              refine lv_iconst (v := 3) hx hb dX3_addSpan_42 (by decide) ?_
              refine lv_icmp_ge (tgt := 95) hx hb dX3_addSpan_43 (by decide) (fun _ => ?_) (fun h => absurd h (by decide))
              refine lv_aload_n hx hb dX3_addSpan_95 rfl (lv_at hl 3 rfl) ?_
              refine lv_iconst (v := 0) hx hb dX3_addSpan_96 (by decide) ?_
              refine lv_iload hx hb dX3_addSpan_97 (lv_at hl 1 rfl) ?_
              refine lv_iconst (v := 0) hx hb dX3_addSpan_99 (by decide) ?_
              obtain ⟨x_21, hx_21, hm⟩ := Option.bind_eq_some_iff.mp hm
              refine mc_V hC hGx hD (k_X3_fails l k b L hD (0 : Int32) ((((0 : Int32) ||| (0 : Int32)) ||| (0 : Int32)) ||| (0 : Int32)) (0 : Int32)  x_19.2 hx_21) (gV w_1056 w_1057 w_18 w_27 w_1058) kk_X3_fails rfl (List.forall_mem_nil _) hLb ⟨Nat.le_of_ble_eq_true rfl, Nat.le_of_ble_eq_true rfl⟩ ⟨Nat.le_of_ble_eq_true rfl, Nat.le_of_ble_eq_true rfl⟩ hV hS hl.1 rfl rfl (Nat.le_of_ble_eq_true rfl) dX3_addSpan_100 (fun q_21 H locs hV hS hz hq => ?_)
              have hA_20 := hA_20.up hq
              refine lv_if_eq (tgt := 110) hx hb dX3_addSpan_103 (by decide) (fun h_43 => ?_) (fun h_43 => ?_)
              · have hm := (if_pos h_43).symm.trans hm
                refine lv_aload_n hx hb dX3_addSpan_110 rfl (lv_at hl 3 rfl) ?_
                refine lv_iload_n hx hb dX3_addSpan_111 rfl (lv_at hl 4 rfl) ?_
                refine lv_aload_n hx hb dX3_addSpan_112 rfl (lv_at hl 2 rfl) ?_
                refine lv_iconst (v := 0) hx hb dX3_addSpan_113 (by decide) ?_
                refine m_niald (j := 0) (v := ((sget x_19.2 p0.toNatClampNeg (0 : Int32).toNatClampNeg) + (sget x_19.2 p1.toNatClampNeg (0 : Int32).toNatClampNeg))) hx hb hGx hA_20.1 (show ¬ ((0 : Int32) < 0 ∨ 3 ≤ ((0 : Int32)).toNatClampNeg) by decide) (by decide) rfl dX3_addSpan_114 ?_
                refine lv_aload_n hx hb dX3_addSpan_115 rfl (lv_at hl 2 rfl) ?_
                refine lv_iconst (v := 1) hx hb dX3_addSpan_116 (by decide) ?_
                refine m_niald (j := 1) (v := ((sget x_19.2 p0.toNatClampNeg (1 : Int32).toNatClampNeg) + (sget x_19.2 p1.toNatClampNeg (1 : Int32).toNatClampNeg))) hx hb hGx hA_20.1 (show ¬ ((1 : Int32) < 0 ∨ 3 ≤ ((1 : Int32)).toNatClampNeg) by decide) (by decide) rfl dX3_addSpan_117 ?_
                refine lv_aload_n hx hb dX3_addSpan_118 rfl (lv_at hl 2 rfl) ?_
                refine lv_iconst (v := 2) hx hb dX3_addSpan_119 (by decide) ?_
                refine m_niald (j := 2) (v := ((sget x_19.2 p0.toNatClampNeg (2 : Int32).toNatClampNeg) + (sget x_19.2 p1.toNatClampNeg (2 : Int32).toNatClampNeg))) hx hb hGx hA_20.1 (show ¬ ((2 : Int32) < 0 ∨ 3 ≤ ((2 : Int32)).toNatClampNeg) by decide) (by decide) rfl dX3_addSpan_120 ?_
                obtain ⟨x_22, hx_22, hm⟩ := Option.bind_eq_some_iff.mp hm
                refine mc_V hC hGx hD (k_X3_tells l k b L hD p0 ((sget x_19.2 p0.toNatClampNeg (0 : Int32).toNatClampNeg) + (sget x_19.2 p1.toNatClampNeg (0 : Int32).toNatClampNeg)) ((sget x_19.2 p0.toNatClampNeg (1 : Int32).toNatClampNeg) + (sget x_19.2 p1.toNatClampNeg (1 : Int32).toNatClampNeg)) ((sget x_19.2 p0.toNatClampNeg (2 : Int32).toNatClampNeg) + (sget x_19.2 p1.toNatClampNeg (2 : Int32).toNatClampNeg))  x_21.2 hx_22) (gV w_1205 w_1206 w_21 w_27 w_1207) kk_X3_tells rfl (List.forall_mem_nil _) hLb ⟨Nat.le_of_ble_eq_true rfl, Nat.le_of_ble_eq_true rfl⟩ ⟨Nat.le_of_ble_eq_true rfl, Nat.le_of_ble_eq_true rfl⟩ hV hS hl.1 rfl rfl (Nat.le_of_ble_eq_true rfl) dX3_addSpan_121 (fun q_22 H locs hV hS hz hq => ?_)
                have hA_20 := hA_20.up hq
                exact m_iret hx hb hr hlocks (Option.some.inj hm) hV hS ⟨Nat.le_of_ble_eq_true rfl, Nat.le_of_ble_eq_true rfl⟩ dX3_addSpan_124
              · have hm := (if_neg h_43).symm.trans hm
                refine lv_iconst (v := 0) hx hb dX3_addSpan_106 (by decide) ?_
                refine lv_goto (tgt := 124) hx hb dX3_addSpan_107 (by decide) ?_
                exact m_iret hx hb hr hlocks (Option.some.inj hm) hV hS ⟨Nat.le_of_ble_eq_true rfl, Nat.le_of_ble_eq_true rfl⟩ dX3_addSpan_124
            · have hm := (if_pos h_42).symm.trans hm
              refine lv_iconst (v := 1) hx hb dX3_addSpan_81 (by decide) ?_
              refine lv_goto (tgt := 86) hx hb dX3_addSpan_82 (by decide) ?_
              refine lv_ior hx hb dX3_addSpan_86 ?_
              refine lv_istore (lv' := [(4, .int ((((0 : Int32) ||| (0 : Int32)) ||| (0 : Int32)) ||| (1 : Int32))), (5, .int (2 : Int32)), (3, .ref a_20), (0, .ref b.1), (1, .int p0), (2, .int p1)]) hx hb dX3_addSpan_87 hl (by decide) rfl (fun ls hl => ?_)
              refine lv_iinc (v := (3 : Int32)) (lv' := [(5, .int (3 : Int32)), (4, .int ((((0 : Int32) ||| (0 : Int32)) ||| (0 : Int32)) ||| (1 : Int32))), (3, .ref a_20), (0, .ref b.1), (1, .int p0), (2, .int p1)]) hx hb dX3_addSpan_89 hl (k := 1) rfl (by decide) (by decide) rfl (fun ls hl => ?_)
              refine lv_goto (tgt := 40) hx hb dX3_addSpan_92 (by decide) ?_
              refine lv_iload hx hb dX3_addSpan_40 (lv_at hl 0 rfl) ?_
              refine lv_iconst (v := 3) hx hb dX3_addSpan_42 (by decide) ?_
              refine lv_icmp_ge (tgt := 95) hx hb dX3_addSpan_43 (by decide) (fun _ => ?_) (fun h => absurd h (by decide))
              refine lv_aload_n hx hb dX3_addSpan_95 rfl (lv_at hl 3 rfl) ?_
              refine lv_iconst (v := 0) hx hb dX3_addSpan_96 (by decide) ?_
              refine lv_iload hx hb dX3_addSpan_97 (lv_at hl 1 rfl) ?_
              refine lv_iconst (v := 0) hx hb dX3_addSpan_99 (by decide) ?_
              obtain ⟨x_23, hx_23, hm⟩ := Option.bind_eq_some_iff.mp hm
              refine mc_V hC hGx hD (k_X3_fails l k b L hD (0 : Int32) ((((0 : Int32) ||| (0 : Int32)) ||| (0 : Int32)) ||| (1 : Int32)) (0 : Int32)  x_19.2 hx_23) (gV w_1056 w_1057 w_18 w_27 w_1058) kk_X3_fails rfl (List.forall_mem_nil _) hLb ⟨Nat.le_of_ble_eq_true rfl, Nat.le_of_ble_eq_true rfl⟩ ⟨Nat.le_of_ble_eq_true rfl, Nat.le_of_ble_eq_true rfl⟩ hV hS hl.1 rfl rfl (Nat.le_of_ble_eq_true rfl) dX3_addSpan_100 (fun q_23 H locs hV hS hz hq => ?_)
              have hA_20 := hA_20.up hq
              refine lv_if_eq (tgt := 110) hx hb dX3_addSpan_103 (by decide) (fun h_44 => ?_) (fun h_44 => ?_)
              · have hm := (if_pos h_44).symm.trans hm
                refine lv_aload_n hx hb dX3_addSpan_110 rfl (lv_at hl 3 rfl) ?_
                refine lv_iload_n hx hb dX3_addSpan_111 rfl (lv_at hl 4 rfl) ?_
                refine lv_aload_n hx hb dX3_addSpan_112 rfl (lv_at hl 2 rfl) ?_
                refine lv_iconst (v := 0) hx hb dX3_addSpan_113 (by decide) ?_
                refine m_niald (j := 0) (v := ((sget x_19.2 p0.toNatClampNeg (0 : Int32).toNatClampNeg) + (sget x_19.2 p1.toNatClampNeg (0 : Int32).toNatClampNeg))) hx hb hGx hA_20.1 (show ¬ ((0 : Int32) < 0 ∨ 3 ≤ ((0 : Int32)).toNatClampNeg) by decide) (by decide) rfl dX3_addSpan_114 ?_
                refine lv_aload_n hx hb dX3_addSpan_115 rfl (lv_at hl 2 rfl) ?_
                refine lv_iconst (v := 1) hx hb dX3_addSpan_116 (by decide) ?_
                refine m_niald (j := 1) (v := ((sget x_19.2 p0.toNatClampNeg (1 : Int32).toNatClampNeg) + (sget x_19.2 p1.toNatClampNeg (1 : Int32).toNatClampNeg))) hx hb hGx hA_20.1 (show ¬ ((1 : Int32) < 0 ∨ 3 ≤ ((1 : Int32)).toNatClampNeg) by decide) (by decide) rfl dX3_addSpan_117 ?_
                refine lv_aload_n hx hb dX3_addSpan_118 rfl (lv_at hl 2 rfl) ?_
                refine lv_iconst (v := 2) hx hb dX3_addSpan_119 (by decide) ?_
                refine m_niald (j := 2) (v := ((sget x_19.2 p0.toNatClampNeg (2 : Int32).toNatClampNeg) + (sget x_19.2 p1.toNatClampNeg (2 : Int32).toNatClampNeg))) hx hb hGx hA_20.1 (show ¬ ((2 : Int32) < 0 ∨ 3 ≤ ((2 : Int32)).toNatClampNeg) by decide) (by decide) rfl dX3_addSpan_120 ?_
                obtain ⟨x_24, hx_24, hm⟩ := Option.bind_eq_some_iff.mp hm
                refine mc_V hC hGx hD (k_X3_tells l k b L hD p0 ((sget x_19.2 p0.toNatClampNeg (0 : Int32).toNatClampNeg) + (sget x_19.2 p1.toNatClampNeg (0 : Int32).toNatClampNeg)) ((sget x_19.2 p0.toNatClampNeg (1 : Int32).toNatClampNeg) + (sget x_19.2 p1.toNatClampNeg (1 : Int32).toNatClampNeg)) ((sget x_19.2 p0.toNatClampNeg (2 : Int32).toNatClampNeg) + (sget x_19.2 p1.toNatClampNeg (2 : Int32).toNatClampNeg))  x_23.2 hx_24) (gV w_1205 w_1206 w_21 w_27 w_1207) kk_X3_tells rfl (List.forall_mem_nil _) hLb ⟨Nat.le_of_ble_eq_true rfl, Nat.le_of_ble_eq_true rfl⟩ ⟨Nat.le_of_ble_eq_true rfl, Nat.le_of_ble_eq_true rfl⟩ hV hS hl.1 rfl rfl (Nat.le_of_ble_eq_true rfl) dX3_addSpan_121 (fun q_24 H locs hV hS hz hq => ?_)
                have hA_20 := hA_20.up hq
                exact m_iret hx hb hr hlocks (Option.some.inj hm) hV hS ⟨Nat.le_of_ble_eq_true rfl, Nat.le_of_ble_eq_true rfl⟩ dX3_addSpan_124
              · have hm := (if_neg h_44).symm.trans hm
                refine lv_iconst (v := 0) hx hb dX3_addSpan_106 (by decide) ?_
                refine lv_goto (tgt := 124) hx hb dX3_addSpan_107 (by decide) ?_
                exact m_iret hx hb hr hlocks (Option.some.inj hm) hV hS ⟨Nat.le_of_ble_eq_true rfl, Nat.le_of_ble_eq_true rfl⟩ dX3_addSpan_124
          · have hm := (if_pos h_39).symm.trans hm
            refine lv_iconst (v := 1) hx hb dX3_addSpan_81 (by decide) ?_
            refine lv_goto (tgt := 86) hx hb dX3_addSpan_82 (by decide) ?_
            refine lv_ior hx hb dX3_addSpan_86 ?_
            refine lv_istore (lv' := [(4, .int (((0 : Int32) ||| (0 : Int32)) ||| (1 : Int32))), (5, .int (1 : Int32)), (3, .ref a_20), (0, .ref b.1), (1, .int p0), (2, .int p1)]) hx hb dX3_addSpan_87 hl (by decide) rfl (fun ls hl => ?_)
            refine lv_iinc (v := (2 : Int32)) (lv' := [(5, .int (2 : Int32)), (4, .int (((0 : Int32) ||| (0 : Int32)) ||| (1 : Int32))), (3, .ref a_20), (0, .ref b.1), (1, .int p0), (2, .int p1)]) hx hb dX3_addSpan_89 hl (k := 1) rfl (by decide) (by decide) rfl (fun ls hl => ?_)
            refine lv_goto (tgt := 40) hx hb dX3_addSpan_92 (by decide) ?_
            refine lv_iload hx hb dX3_addSpan_40 (lv_at hl 0 rfl) ?_
            refine lv_iconst (v := 3) hx hb dX3_addSpan_42 (by decide) ?_
            refine lv_icmp_ge (tgt := 95) hx hb dX3_addSpan_43 (by decide) (fun h => absurd h (by decide)) (fun _ => ?_)
            refine lv_aload_n hx hb dX3_addSpan_46 rfl (lv_at hl 2 rfl) ?_
            refine lv_iload hx hb dX3_addSpan_47 (lv_at hl 0 rfl) ?_
            refine lv_aload_n hx hb dX3_addSpan_49 rfl (lv_at hl 3 rfl) ?_
            refine va_get (D := kD k) (ci := 5) (v := .ref b.2.2.1) (C := RX3) (T := TX3) (N := 5) hx hb htg inG_X3 hown hGx.1 hV.1 0 rfl rfl 2 (by decide) (htg _ w_1013) (fun _ h9 => h9) rfl dX3_addSpan_50 ?_
            refine lv_iload_n hx hb dX3_addSpan_53 rfl (lv_at hl 4 rfl) ?_
            by_cases h_45 : p0 < 0 ∨ 2 ≤ p0.toNatClampNeg
            · have hm := (if_pos h_45).symm.trans hm
              cases hm
            have hm := (if_neg h_45).symm.trans hm
            refine m_lds hx hb hGx hV h_45 dX3_addSpan_54 ?_
            refine lv_iload hx hb dX3_addSpan_55 (lv_at hl 0 rfl) ?_
            refine m_sld hx hb hGx hV (show ¬ ((2 : Int32) < 0 ∨ 3 ≤ ((2 : Int32)).toNatClampNeg) by decide) dX3_addSpan_57 ?_
            refine lv_aload_n hx hb dX3_addSpan_58 rfl (lv_at hl 3 rfl) ?_
            refine va_get (D := kD k) (ci := 5) (v := .ref b.2.2.1) (C := RX3) (T := TX3) (N := 5) hx hb htg inG_X3 hown hGx.1 hV.1 0 rfl rfl 2 (by decide) (htg _ w_1013) (fun _ h9 => h9) rfl dX3_addSpan_59 ?_
            refine lv_iload_n hx hb dX3_addSpan_62 rfl (lv_at hl 5 rfl) ?_
            by_cases h_46 : p1 < 0 ∨ 2 ≤ p1.toNatClampNeg
            · have hm := (if_pos h_46).symm.trans hm
              cases hm
            have hm := (if_neg h_46).symm.trans hm
            refine m_lds hx hb hGx hV h_46 dX3_addSpan_63 ?_
            refine lv_iload hx hb dX3_addSpan_64 (lv_at hl 0 rfl) ?_
            refine m_sld hx hb hGx hV (show ¬ ((2 : Int32) < 0 ∨ 3 ≤ ((2 : Int32)).toNatClampNeg) by decide) dX3_addSpan_66 ?_
            refine lv_iadd hx hb dX3_addSpan_67 ?_
            have hL9 := hS.2
            refine m_niast (j := 2) hx hb hGx (Nat.le_trans hs_20 hn_20) hA_20.1 (show ¬ ((2 : Int32) < 0 ∨ 3 ≤ ((2 : Int32)).toNatClampNeg) by decide) (by decide) hS.1 hA dX3_addSpan_68 (fun H hA_20 hz9 hq9 hS => ?_)
            have hq_20 := m_q2 hn_20 hz_20 hq_20 hq9
            have hz_20 := Nat.le_trans hz_20 hz9
            have hS : mS b s.heap H _ := ⟨hS, hL9⟩
            have hV := hV_20.up hq_20
            have hA_20 := aF.made hLn_20 hn_20 hA_20
            refine lv_iload hx hb dX3_addSpan_69 (lv_at hl 1 rfl) ?_
            refine lv_aload_n hx hb dX3_addSpan_71 rfl (lv_at hl 2 rfl) ?_
            refine lv_iload hx hb dX3_addSpan_72 (lv_at hl 0 rfl) ?_
            refine m_niald (j := 2) (v := ((sget x_19.2 p0.toNatClampNeg (2 : Int32).toNatClampNeg) + (sget x_19.2 p1.toNatClampNeg (2 : Int32).toNatClampNeg))) hx hb hGx hA_20.1 (show ¬ ((2 : Int32) < 0 ∨ 3 ≤ ((2 : Int32)).toNatClampNeg) by decide) (by decide) rfl dX3_addSpan_74 ?_
            refine pc_S hC (c_X3_isNumber l ((sget x_19.2 p0.toNatClampNeg (2 : Int32).toNatClampNeg) + (sget x_19.2 p1.toNatClampNeg (2 : Int32).toNatClampNeg))) (gS w_1200 w_1201 w_27 w_1202) kk_X3_isNumber ⟨Nat.le_of_ble_eq_true rfl, Nat.le_of_ble_eq_true rfl⟩ ⟨Nat.le_of_ble_eq_true rfl, Nat.le_of_ble_eq_true rfl⟩ hl.1 rfl rfl (Nat.le_of_ble_eq_true rfl) dX3_addSpan_75 ?_
            refine lv_if_ne (tgt := 85) hx hb dX3_addSpan_78 (by decide) (fun h_47 => ?_) (fun h_47 => ?_)
            · have hm := (if_neg h_47).symm.trans hm
              refine lv_iconst (v := 0) hx hb dX3_addSpan_85 (by decide) ?_
              refine lv_ior hx hb dX3_addSpan_86 ?_
              refine lv_istore (lv' := [(4, .int ((((0 : Int32) ||| (0 : Int32)) ||| (1 : Int32)) ||| (0 : Int32))), (5, .int (2 : Int32)), (3, .ref a_20), (0, .ref b.1), (1, .int p0), (2, .int p1)]) hx hb dX3_addSpan_87 hl (by decide) rfl (fun ls hl => ?_)
              refine lv_iinc (v := (3 : Int32)) (lv' := [(5, .int (3 : Int32)), (4, .int ((((0 : Int32) ||| (0 : Int32)) ||| (1 : Int32)) ||| (0 : Int32))), (3, .ref a_20), (0, .ref b.1), (1, .int p0), (2, .int p1)]) hx hb dX3_addSpan_89 hl (k := 1) rfl (by decide) (by decide) rfl (fun ls hl => ?_)
              refine lv_goto (tgt := 40) hx hb dX3_addSpan_92 (by decide) ?_
              refine lv_iload hx hb dX3_addSpan_40 (lv_at hl 0 rfl) ?_
              refine lv_iconst (v := 3) hx hb dX3_addSpan_42 (by decide) ?_
              refine lv_icmp_ge (tgt := 95) hx hb dX3_addSpan_43 (by decide) (fun _ => ?_) (fun h => absurd h (by decide))
              refine lv_aload_n hx hb dX3_addSpan_95 rfl (lv_at hl 3 rfl) ?_
              refine lv_iconst (v := 0) hx hb dX3_addSpan_96 (by decide) ?_
              refine lv_iload hx hb dX3_addSpan_97 (lv_at hl 1 rfl) ?_
              refine lv_iconst (v := 0) hx hb dX3_addSpan_99 (by decide) ?_
              obtain ⟨x_25, hx_25, hm⟩ := Option.bind_eq_some_iff.mp hm
              refine mc_V hC hGx hD (k_X3_fails l k b L hD (0 : Int32) ((((0 : Int32) ||| (0 : Int32)) ||| (1 : Int32)) ||| (0 : Int32)) (0 : Int32)  x_19.2 hx_25) (gV w_1056 w_1057 w_18 w_27 w_1058) kk_X3_fails rfl (List.forall_mem_nil _) hLb ⟨Nat.le_of_ble_eq_true rfl, Nat.le_of_ble_eq_true rfl⟩ ⟨Nat.le_of_ble_eq_true rfl, Nat.le_of_ble_eq_true rfl⟩ hV hS hl.1 rfl rfl (Nat.le_of_ble_eq_true rfl) dX3_addSpan_100 (fun q_25 H locs hV hS hz hq => ?_)
              have hA_20 := hA_20.up hq
              refine lv_if_eq (tgt := 110) hx hb dX3_addSpan_103 (by decide) (fun h_48 => ?_) (fun h_48 => ?_)
              · have hm := (if_pos h_48).symm.trans hm
                refine lv_aload_n hx hb dX3_addSpan_110 rfl (lv_at hl 3 rfl) ?_
                refine lv_iload_n hx hb dX3_addSpan_111 rfl (lv_at hl 4 rfl) ?_
                refine lv_aload_n hx hb dX3_addSpan_112 rfl (lv_at hl 2 rfl) ?_
                refine lv_iconst (v := 0) hx hb dX3_addSpan_113 (by decide) ?_
                refine m_niald (j := 0) (v := ((sget x_19.2 p0.toNatClampNeg (0 : Int32).toNatClampNeg) + (sget x_19.2 p1.toNatClampNeg (0 : Int32).toNatClampNeg))) hx hb hGx hA_20.1 (show ¬ ((0 : Int32) < 0 ∨ 3 ≤ ((0 : Int32)).toNatClampNeg) by decide) (by decide) rfl dX3_addSpan_114 ?_
                refine lv_aload_n hx hb dX3_addSpan_115 rfl (lv_at hl 2 rfl) ?_
                refine lv_iconst (v := 1) hx hb dX3_addSpan_116 (by decide) ?_
                refine m_niald (j := 1) (v := ((sget x_19.2 p0.toNatClampNeg (1 : Int32).toNatClampNeg) + (sget x_19.2 p1.toNatClampNeg (1 : Int32).toNatClampNeg))) hx hb hGx hA_20.1 (show ¬ ((1 : Int32) < 0 ∨ 3 ≤ ((1 : Int32)).toNatClampNeg) by decide) (by decide) rfl dX3_addSpan_117 ?_
                refine lv_aload_n hx hb dX3_addSpan_118 rfl (lv_at hl 2 rfl) ?_
                refine lv_iconst (v := 2) hx hb dX3_addSpan_119 (by decide) ?_
                refine m_niald (j := 2) (v := ((sget x_19.2 p0.toNatClampNeg (2 : Int32).toNatClampNeg) + (sget x_19.2 p1.toNatClampNeg (2 : Int32).toNatClampNeg))) hx hb hGx hA_20.1 (show ¬ ((2 : Int32) < 0 ∨ 3 ≤ ((2 : Int32)).toNatClampNeg) by decide) (by decide) rfl dX3_addSpan_120 ?_
                obtain ⟨x_26, hx_26, hm⟩ := Option.bind_eq_some_iff.mp hm
                refine mc_V hC hGx hD (k_X3_tells l k b L hD p0 ((sget x_19.2 p0.toNatClampNeg (0 : Int32).toNatClampNeg) + (sget x_19.2 p1.toNatClampNeg (0 : Int32).toNatClampNeg)) ((sget x_19.2 p0.toNatClampNeg (1 : Int32).toNatClampNeg) + (sget x_19.2 p1.toNatClampNeg (1 : Int32).toNatClampNeg)) ((sget x_19.2 p0.toNatClampNeg (2 : Int32).toNatClampNeg) + (sget x_19.2 p1.toNatClampNeg (2 : Int32).toNatClampNeg))  x_25.2 hx_26) (gV w_1205 w_1206 w_21 w_27 w_1207) kk_X3_tells rfl (List.forall_mem_nil _) hLb ⟨Nat.le_of_ble_eq_true rfl, Nat.le_of_ble_eq_true rfl⟩ ⟨Nat.le_of_ble_eq_true rfl, Nat.le_of_ble_eq_true rfl⟩ hV hS hl.1 rfl rfl (Nat.le_of_ble_eq_true rfl) dX3_addSpan_121 (fun q_26 H locs hV hS hz hq => ?_)
                have hA_20 := hA_20.up hq
                exact m_iret hx hb hr hlocks (Option.some.inj hm) hV hS ⟨Nat.le_of_ble_eq_true rfl, Nat.le_of_ble_eq_true rfl⟩ dX3_addSpan_124
              · have hm := (if_neg h_48).symm.trans hm
                refine lv_iconst (v := 0) hx hb dX3_addSpan_106 (by decide) ?_
                refine lv_goto (tgt := 124) hx hb dX3_addSpan_107 (by decide) ?_
                exact m_iret hx hb hr hlocks (Option.some.inj hm) hV hS ⟨Nat.le_of_ble_eq_true rfl, Nat.le_of_ble_eq_true rfl⟩ dX3_addSpan_124
            · have hm := (if_pos h_47).symm.trans hm
              refine lv_iconst (v := 1) hx hb dX3_addSpan_81 (by decide) ?_
              refine lv_goto (tgt := 86) hx hb dX3_addSpan_82 (by decide) ?_
              refine lv_ior hx hb dX3_addSpan_86 ?_
              refine lv_istore (lv' := [(4, .int ((((0 : Int32) ||| (0 : Int32)) ||| (1 : Int32)) ||| (1 : Int32))), (5, .int (2 : Int32)), (3, .ref a_20), (0, .ref b.1), (1, .int p0), (2, .int p1)]) hx hb dX3_addSpan_87 hl (by decide) rfl (fun ls hl => ?_)
              refine lv_iinc (v := (3 : Int32)) (lv' := [(5, .int (3 : Int32)), (4, .int ((((0 : Int32) ||| (0 : Int32)) ||| (1 : Int32)) ||| (1 : Int32))), (3, .ref a_20), (0, .ref b.1), (1, .int p0), (2, .int p1)]) hx hb dX3_addSpan_89 hl (k := 1) rfl (by decide) (by decide) rfl (fun ls hl => ?_)
              refine lv_goto (tgt := 40) hx hb dX3_addSpan_92 (by decide) ?_
              refine lv_iload hx hb dX3_addSpan_40 (lv_at hl 0 rfl) ?_
              refine lv_iconst (v := 3) hx hb dX3_addSpan_42 (by decide) ?_
              refine lv_icmp_ge (tgt := 95) hx hb dX3_addSpan_43 (by decide) (fun _ => ?_) (fun h => absurd h (by decide))
              refine lv_aload_n hx hb dX3_addSpan_95 rfl (lv_at hl 3 rfl) ?_
              refine lv_iconst (v := 0) hx hb dX3_addSpan_96 (by decide) ?_
              refine lv_iload hx hb dX3_addSpan_97 (lv_at hl 1 rfl) ?_
              refine lv_iconst (v := 0) hx hb dX3_addSpan_99 (by decide) ?_
              obtain ⟨x_27, hx_27, hm⟩ := Option.bind_eq_some_iff.mp hm
              refine mc_V hC hGx hD (k_X3_fails l k b L hD (0 : Int32) ((((0 : Int32) ||| (0 : Int32)) ||| (1 : Int32)) ||| (1 : Int32)) (0 : Int32)  x_19.2 hx_27) (gV w_1056 w_1057 w_18 w_27 w_1058) kk_X3_fails rfl (List.forall_mem_nil _) hLb ⟨Nat.le_of_ble_eq_true rfl, Nat.le_of_ble_eq_true rfl⟩ ⟨Nat.le_of_ble_eq_true rfl, Nat.le_of_ble_eq_true rfl⟩ hV hS hl.1 rfl rfl (Nat.le_of_ble_eq_true rfl) dX3_addSpan_100 (fun q_27 H locs hV hS hz hq => ?_)
              have hA_20 := hA_20.up hq
              refine lv_if_eq (tgt := 110) hx hb dX3_addSpan_103 (by decide) (fun h_49 => ?_) (fun h_49 => ?_)
              · have hm := (if_pos h_49).symm.trans hm
                refine lv_aload_n hx hb dX3_addSpan_110 rfl (lv_at hl 3 rfl) ?_
                refine lv_iload_n hx hb dX3_addSpan_111 rfl (lv_at hl 4 rfl) ?_
                refine lv_aload_n hx hb dX3_addSpan_112 rfl (lv_at hl 2 rfl) ?_
                refine lv_iconst (v := 0) hx hb dX3_addSpan_113 (by decide) ?_
                refine m_niald (j := 0) (v := ((sget x_19.2 p0.toNatClampNeg (0 : Int32).toNatClampNeg) + (sget x_19.2 p1.toNatClampNeg (0 : Int32).toNatClampNeg))) hx hb hGx hA_20.1 (show ¬ ((0 : Int32) < 0 ∨ 3 ≤ ((0 : Int32)).toNatClampNeg) by decide) (by decide) rfl dX3_addSpan_114 ?_
                refine lv_aload_n hx hb dX3_addSpan_115 rfl (lv_at hl 2 rfl) ?_
                refine lv_iconst (v := 1) hx hb dX3_addSpan_116 (by decide) ?_
                refine m_niald (j := 1) (v := ((sget x_19.2 p0.toNatClampNeg (1 : Int32).toNatClampNeg) + (sget x_19.2 p1.toNatClampNeg (1 : Int32).toNatClampNeg))) hx hb hGx hA_20.1 (show ¬ ((1 : Int32) < 0 ∨ 3 ≤ ((1 : Int32)).toNatClampNeg) by decide) (by decide) rfl dX3_addSpan_117 ?_
                refine lv_aload_n hx hb dX3_addSpan_118 rfl (lv_at hl 2 rfl) ?_
                refine lv_iconst (v := 2) hx hb dX3_addSpan_119 (by decide) ?_
                refine m_niald (j := 2) (v := ((sget x_19.2 p0.toNatClampNeg (2 : Int32).toNatClampNeg) + (sget x_19.2 p1.toNatClampNeg (2 : Int32).toNatClampNeg))) hx hb hGx hA_20.1 (show ¬ ((2 : Int32) < 0 ∨ 3 ≤ ((2 : Int32)).toNatClampNeg) by decide) (by decide) rfl dX3_addSpan_120 ?_
                obtain ⟨x_28, hx_28, hm⟩ := Option.bind_eq_some_iff.mp hm
                refine mc_V hC hGx hD (k_X3_tells l k b L hD p0 ((sget x_19.2 p0.toNatClampNeg (0 : Int32).toNatClampNeg) + (sget x_19.2 p1.toNatClampNeg (0 : Int32).toNatClampNeg)) ((sget x_19.2 p0.toNatClampNeg (1 : Int32).toNatClampNeg) + (sget x_19.2 p1.toNatClampNeg (1 : Int32).toNatClampNeg)) ((sget x_19.2 p0.toNatClampNeg (2 : Int32).toNatClampNeg) + (sget x_19.2 p1.toNatClampNeg (2 : Int32).toNatClampNeg))  x_27.2 hx_28) (gV w_1205 w_1206 w_21 w_27 w_1207) kk_X3_tells rfl (List.forall_mem_nil _) hLb ⟨Nat.le_of_ble_eq_true rfl, Nat.le_of_ble_eq_true rfl⟩ ⟨Nat.le_of_ble_eq_true rfl, Nat.le_of_ble_eq_true rfl⟩ hV hS hl.1 rfl rfl (Nat.le_of_ble_eq_true rfl) dX3_addSpan_121 (fun q_28 H locs hV hS hz hq => ?_)
                have hA_20 := hA_20.up hq
                exact m_iret hx hb hr hlocks (Option.some.inj hm) hV hS ⟨Nat.le_of_ble_eq_true rfl, Nat.le_of_ble_eq_true rfl⟩ dX3_addSpan_124
              · have hm := (if_neg h_49).symm.trans hm
                refine lv_iconst (v := 0) hx hb dX3_addSpan_106 (by decide) ?_
                refine lv_goto (tgt := 124) hx hb dX3_addSpan_107 (by decide) ?_
                exact m_iret hx hb hr hlocks (Option.some.inj hm) hV hS ⟨Nat.le_of_ble_eq_true rfl, Nat.le_of_ble_eq_true rfl⟩ dX3_addSpan_124
        · have hm := (if_pos h_36).symm.trans hm
          refine lv_iconst (v := 1) hx hb dX3_addSpan_81 (by decide) ?_
          refine lv_goto (tgt := 86) hx hb dX3_addSpan_82 (by decide) ?_
          refine lv_ior hx hb dX3_addSpan_86 ?_
          refine lv_istore (lv' := [(4, .int ((0 : Int32) ||| (1 : Int32))), (5, .int (0 : Int32)), (3, .ref a_20), (0, .ref b.1), (1, .int p0), (2, .int p1)]) hx hb dX3_addSpan_87 hl (by decide) rfl (fun ls hl => ?_)
          refine lv_iinc (v := (1 : Int32)) (lv' := [(5, .int (1 : Int32)), (4, .int ((0 : Int32) ||| (1 : Int32))), (3, .ref a_20), (0, .ref b.1), (1, .int p0), (2, .int p1)]) hx hb dX3_addSpan_89 hl (k := 1) rfl (by decide) (by decide) rfl (fun ls hl => ?_)
          refine lv_goto (tgt := 40) hx hb dX3_addSpan_92 (by decide) ?_
          refine lv_iload hx hb dX3_addSpan_40 (lv_at hl 0 rfl) ?_
          refine lv_iconst (v := 3) hx hb dX3_addSpan_42 (by decide) ?_
          refine lv_icmp_ge (tgt := 95) hx hb dX3_addSpan_43 (by decide) (fun h => absurd h (by decide)) (fun _ => ?_)
          refine lv_aload_n hx hb dX3_addSpan_46 rfl (lv_at hl 2 rfl) ?_
          refine lv_iload hx hb dX3_addSpan_47 (lv_at hl 0 rfl) ?_
          refine lv_aload_n hx hb dX3_addSpan_49 rfl (lv_at hl 3 rfl) ?_
          refine va_get (D := kD k) (ci := 5) (v := .ref b.2.2.1) (C := RX3) (T := TX3) (N := 5) hx hb htg inG_X3 hown hGx.1 hV.1 0 rfl rfl 2 (by decide) (htg _ w_1013) (fun _ h9 => h9) rfl dX3_addSpan_50 ?_
          refine lv_iload_n hx hb dX3_addSpan_53 rfl (lv_at hl 4 rfl) ?_
          by_cases h_50 : p0 < 0 ∨ 2 ≤ p0.toNatClampNeg
          · have hm := (if_pos h_50).symm.trans hm
            cases hm
          have hm := (if_neg h_50).symm.trans hm
          refine m_lds hx hb hGx hV h_50 dX3_addSpan_54 ?_
          refine lv_iload hx hb dX3_addSpan_55 (lv_at hl 0 rfl) ?_
          refine m_sld hx hb hGx hV (show ¬ ((1 : Int32) < 0 ∨ 3 ≤ ((1 : Int32)).toNatClampNeg) by decide) dX3_addSpan_57 ?_
          refine lv_aload_n hx hb dX3_addSpan_58 rfl (lv_at hl 3 rfl) ?_
          refine va_get (D := kD k) (ci := 5) (v := .ref b.2.2.1) (C := RX3) (T := TX3) (N := 5) hx hb htg inG_X3 hown hGx.1 hV.1 0 rfl rfl 2 (by decide) (htg _ w_1013) (fun _ h9 => h9) rfl dX3_addSpan_59 ?_
          refine lv_iload_n hx hb dX3_addSpan_62 rfl (lv_at hl 5 rfl) ?_
          by_cases h_51 : p1 < 0 ∨ 2 ≤ p1.toNatClampNeg
          · have hm := (if_pos h_51).symm.trans hm
            cases hm
          have hm := (if_neg h_51).symm.trans hm
          refine m_lds hx hb hGx hV h_51 dX3_addSpan_63 ?_
          refine lv_iload hx hb dX3_addSpan_64 (lv_at hl 0 rfl) ?_
          refine m_sld hx hb hGx hV (show ¬ ((1 : Int32) < 0 ∨ 3 ≤ ((1 : Int32)).toNatClampNeg) by decide) dX3_addSpan_66 ?_
          refine lv_iadd hx hb dX3_addSpan_67 ?_
          have hL9 := hS.2
          refine m_niast (j := 1) hx hb hGx (Nat.le_trans hs_20 hn_20) hA_20.1 (show ¬ ((1 : Int32) < 0 ∨ 3 ≤ ((1 : Int32)).toNatClampNeg) by decide) (by decide) hS.1 hA dX3_addSpan_68 (fun H hA_20 hz9 hq9 hS => ?_)
          have hq_20 := m_q2 hn_20 hz_20 hq_20 hq9
          have hz_20 := Nat.le_trans hz_20 hz9
          have hS : mS b s.heap H _ := ⟨hS, hL9⟩
          have hV := hV_20.up hq_20
          have hA_20 := aF.made hLn_20 hn_20 hA_20
          refine lv_iload hx hb dX3_addSpan_69 (lv_at hl 1 rfl) ?_
          refine lv_aload_n hx hb dX3_addSpan_71 rfl (lv_at hl 2 rfl) ?_
          refine lv_iload hx hb dX3_addSpan_72 (lv_at hl 0 rfl) ?_
          refine m_niald (j := 1) (v := ((sget x_19.2 p0.toNatClampNeg (1 : Int32).toNatClampNeg) + (sget x_19.2 p1.toNatClampNeg (1 : Int32).toNatClampNeg))) hx hb hGx hA_20.1 (show ¬ ((1 : Int32) < 0 ∨ 3 ≤ ((1 : Int32)).toNatClampNeg) by decide) (by decide) rfl dX3_addSpan_74 ?_
          refine pc_S hC (c_X3_isNumber l ((sget x_19.2 p0.toNatClampNeg (1 : Int32).toNatClampNeg) + (sget x_19.2 p1.toNatClampNeg (1 : Int32).toNatClampNeg))) (gS w_1200 w_1201 w_27 w_1202) kk_X3_isNumber ⟨Nat.le_of_ble_eq_true rfl, Nat.le_of_ble_eq_true rfl⟩ ⟨Nat.le_of_ble_eq_true rfl, Nat.le_of_ble_eq_true rfl⟩ hl.1 rfl rfl (Nat.le_of_ble_eq_true rfl) dX3_addSpan_75 ?_
          refine lv_if_ne (tgt := 85) hx hb dX3_addSpan_78 (by decide) (fun h_52 => ?_) (fun h_52 => ?_)
          · have hm := (if_neg h_52).symm.trans hm
            refine lv_iconst (v := 0) hx hb dX3_addSpan_85 (by decide) ?_
            refine lv_ior hx hb dX3_addSpan_86 ?_
            refine lv_istore (lv' := [(4, .int (((0 : Int32) ||| (1 : Int32)) ||| (0 : Int32))), (5, .int (1 : Int32)), (3, .ref a_20), (0, .ref b.1), (1, .int p0), (2, .int p1)]) hx hb dX3_addSpan_87 hl (by decide) rfl (fun ls hl => ?_)
            refine lv_iinc (v := (2 : Int32)) (lv' := [(5, .int (2 : Int32)), (4, .int (((0 : Int32) ||| (1 : Int32)) ||| (0 : Int32))), (3, .ref a_20), (0, .ref b.1), (1, .int p0), (2, .int p1)]) hx hb dX3_addSpan_89 hl (k := 1) rfl (by decide) (by decide) rfl (fun ls hl => ?_)
            refine lv_goto (tgt := 40) hx hb dX3_addSpan_92 (by decide) ?_
            refine lv_iload hx hb dX3_addSpan_40 (lv_at hl 0 rfl) ?_
            refine lv_iconst (v := 3) hx hb dX3_addSpan_42 (by decide) ?_
            refine lv_icmp_ge (tgt := 95) hx hb dX3_addSpan_43 (by decide) (fun h => absurd h (by decide)) (fun _ => ?_)
            refine lv_aload_n hx hb dX3_addSpan_46 rfl (lv_at hl 2 rfl) ?_
            refine lv_iload hx hb dX3_addSpan_47 (lv_at hl 0 rfl) ?_
            refine lv_aload_n hx hb dX3_addSpan_49 rfl (lv_at hl 3 rfl) ?_
            refine va_get (D := kD k) (ci := 5) (v := .ref b.2.2.1) (C := RX3) (T := TX3) (N := 5) hx hb htg inG_X3 hown hGx.1 hV.1 0 rfl rfl 2 (by decide) (htg _ w_1013) (fun _ h9 => h9) rfl dX3_addSpan_50 ?_
            refine lv_iload_n hx hb dX3_addSpan_53 rfl (lv_at hl 4 rfl) ?_
            by_cases h_53 : p0 < 0 ∨ 2 ≤ p0.toNatClampNeg
            · have hm := (if_pos h_53).symm.trans hm
              cases hm
            have hm := (if_neg h_53).symm.trans hm
            refine m_lds hx hb hGx hV h_53 dX3_addSpan_54 ?_
            refine lv_iload hx hb dX3_addSpan_55 (lv_at hl 0 rfl) ?_
            refine m_sld hx hb hGx hV (show ¬ ((2 : Int32) < 0 ∨ 3 ≤ ((2 : Int32)).toNatClampNeg) by decide) dX3_addSpan_57 ?_
            refine lv_aload_n hx hb dX3_addSpan_58 rfl (lv_at hl 3 rfl) ?_
            refine va_get (D := kD k) (ci := 5) (v := .ref b.2.2.1) (C := RX3) (T := TX3) (N := 5) hx hb htg inG_X3 hown hGx.1 hV.1 0 rfl rfl 2 (by decide) (htg _ w_1013) (fun _ h9 => h9) rfl dX3_addSpan_59 ?_
            refine lv_iload_n hx hb dX3_addSpan_62 rfl (lv_at hl 5 rfl) ?_
            by_cases h_54 : p1 < 0 ∨ 2 ≤ p1.toNatClampNeg
            · have hm := (if_pos h_54).symm.trans hm
              cases hm
            have hm := (if_neg h_54).symm.trans hm
            refine m_lds hx hb hGx hV h_54 dX3_addSpan_63 ?_
            refine lv_iload hx hb dX3_addSpan_64 (lv_at hl 0 rfl) ?_
            refine m_sld hx hb hGx hV (show ¬ ((2 : Int32) < 0 ∨ 3 ≤ ((2 : Int32)).toNatClampNeg) by decide) dX3_addSpan_66 ?_
            refine lv_iadd hx hb dX3_addSpan_67 ?_
            have hL9 := hS.2
            refine m_niast (j := 2) hx hb hGx (Nat.le_trans hs_20 hn_20) hA_20.1 (show ¬ ((2 : Int32) < 0 ∨ 3 ≤ ((2 : Int32)).toNatClampNeg) by decide) (by decide) hS.1 hA dX3_addSpan_68 (fun H hA_20 hz9 hq9 hS => ?_)
            have hq_20 := m_q2 hn_20 hz_20 hq_20 hq9
            have hz_20 := Nat.le_trans hz_20 hz9
            have hS : mS b s.heap H _ := ⟨hS, hL9⟩
            have hV := hV_20.up hq_20
            have hA_20 := aF.made hLn_20 hn_20 hA_20
            refine lv_iload hx hb dX3_addSpan_69 (lv_at hl 1 rfl) ?_
            refine lv_aload_n hx hb dX3_addSpan_71 rfl (lv_at hl 2 rfl) ?_
            refine lv_iload hx hb dX3_addSpan_72 (lv_at hl 0 rfl) ?_
            refine m_niald (j := 2) (v := ((sget x_19.2 p0.toNatClampNeg (2 : Int32).toNatClampNeg) + (sget x_19.2 p1.toNatClampNeg (2 : Int32).toNatClampNeg))) hx hb hGx hA_20.1 (show ¬ ((2 : Int32) < 0 ∨ 3 ≤ ((2 : Int32)).toNatClampNeg) by decide) (by decide) rfl dX3_addSpan_74 ?_
            refine pc_S hC (c_X3_isNumber l ((sget x_19.2 p0.toNatClampNeg (2 : Int32).toNatClampNeg) + (sget x_19.2 p1.toNatClampNeg (2 : Int32).toNatClampNeg))) (gS w_1200 w_1201 w_27 w_1202) kk_X3_isNumber ⟨Nat.le_of_ble_eq_true rfl, Nat.le_of_ble_eq_true rfl⟩ ⟨Nat.le_of_ble_eq_true rfl, Nat.le_of_ble_eq_true rfl⟩ hl.1 rfl rfl (Nat.le_of_ble_eq_true rfl) dX3_addSpan_75 ?_
            refine lv_if_ne (tgt := 85) hx hb dX3_addSpan_78 (by decide) (fun h_55 => ?_) (fun h_55 => ?_)
            · have hm := (if_neg h_55).symm.trans hm
              refine lv_iconst (v := 0) hx hb dX3_addSpan_85 (by decide) ?_
              refine lv_ior hx hb dX3_addSpan_86 ?_
              refine lv_istore (lv' := [(4, .int ((((0 : Int32) ||| (1 : Int32)) ||| (0 : Int32)) ||| (0 : Int32))), (5, .int (2 : Int32)), (3, .ref a_20), (0, .ref b.1), (1, .int p0), (2, .int p1)]) hx hb dX3_addSpan_87 hl (by decide) rfl (fun ls hl => ?_)
              refine lv_iinc (v := (3 : Int32)) (lv' := [(5, .int (3 : Int32)), (4, .int ((((0 : Int32) ||| (1 : Int32)) ||| (0 : Int32)) ||| (0 : Int32))), (3, .ref a_20), (0, .ref b.1), (1, .int p0), (2, .int p1)]) hx hb dX3_addSpan_89 hl (k := 1) rfl (by decide) (by decide) rfl (fun ls hl => ?_)
              refine lv_goto (tgt := 40) hx hb dX3_addSpan_92 (by decide) ?_
              refine lv_iload hx hb dX3_addSpan_40 (lv_at hl 0 rfl) ?_
              refine lv_iconst (v := 3) hx hb dX3_addSpan_42 (by decide) ?_
              refine lv_icmp_ge (tgt := 95) hx hb dX3_addSpan_43 (by decide) (fun _ => ?_) (fun h => absurd h (by decide))
              refine lv_aload_n hx hb dX3_addSpan_95 rfl (lv_at hl 3 rfl) ?_
              refine lv_iconst (v := 0) hx hb dX3_addSpan_96 (by decide) ?_
              refine lv_iload hx hb dX3_addSpan_97 (lv_at hl 1 rfl) ?_
              refine lv_iconst (v := 0) hx hb dX3_addSpan_99 (by decide) ?_
              obtain ⟨x_29, hx_29, hm⟩ := Option.bind_eq_some_iff.mp hm
              refine mc_V hC hGx hD (k_X3_fails l k b L hD (0 : Int32) ((((0 : Int32) ||| (1 : Int32)) ||| (0 : Int32)) ||| (0 : Int32)) (0 : Int32)  x_19.2 hx_29) (gV w_1056 w_1057 w_18 w_27 w_1058) kk_X3_fails rfl (List.forall_mem_nil _) hLb ⟨Nat.le_of_ble_eq_true rfl, Nat.le_of_ble_eq_true rfl⟩ ⟨Nat.le_of_ble_eq_true rfl, Nat.le_of_ble_eq_true rfl⟩ hV hS hl.1 rfl rfl (Nat.le_of_ble_eq_true rfl) dX3_addSpan_100 (fun q_29 H locs hV hS hz hq => ?_)
              have hA_20 := hA_20.up hq
              refine lv_if_eq (tgt := 110) hx hb dX3_addSpan_103 (by decide) (fun h_56 => ?_) (fun h_56 => ?_)
              · have hm := (if_pos h_56).symm.trans hm
                refine lv_aload_n hx hb dX3_addSpan_110 rfl (lv_at hl 3 rfl) ?_
                refine lv_iload_n hx hb dX3_addSpan_111 rfl (lv_at hl 4 rfl) ?_
                refine lv_aload_n hx hb dX3_addSpan_112 rfl (lv_at hl 2 rfl) ?_
                refine lv_iconst (v := 0) hx hb dX3_addSpan_113 (by decide) ?_
                refine m_niald (j := 0) (v := ((sget x_19.2 p0.toNatClampNeg (0 : Int32).toNatClampNeg) + (sget x_19.2 p1.toNatClampNeg (0 : Int32).toNatClampNeg))) hx hb hGx hA_20.1 (show ¬ ((0 : Int32) < 0 ∨ 3 ≤ ((0 : Int32)).toNatClampNeg) by decide) (by decide) rfl dX3_addSpan_114 ?_
                refine lv_aload_n hx hb dX3_addSpan_115 rfl (lv_at hl 2 rfl) ?_
                refine lv_iconst (v := 1) hx hb dX3_addSpan_116 (by decide) ?_
                refine m_niald (j := 1) (v := ((sget x_19.2 p0.toNatClampNeg (1 : Int32).toNatClampNeg) + (sget x_19.2 p1.toNatClampNeg (1 : Int32).toNatClampNeg))) hx hb hGx hA_20.1 (show ¬ ((1 : Int32) < 0 ∨ 3 ≤ ((1 : Int32)).toNatClampNeg) by decide) (by decide) rfl dX3_addSpan_117 ?_
                refine lv_aload_n hx hb dX3_addSpan_118 rfl (lv_at hl 2 rfl) ?_
                refine lv_iconst (v := 2) hx hb dX3_addSpan_119 (by decide) ?_
                refine m_niald (j := 2) (v := ((sget x_19.2 p0.toNatClampNeg (2 : Int32).toNatClampNeg) + (sget x_19.2 p1.toNatClampNeg (2 : Int32).toNatClampNeg))) hx hb hGx hA_20.1 (show ¬ ((2 : Int32) < 0 ∨ 3 ≤ ((2 : Int32)).toNatClampNeg) by decide) (by decide) rfl dX3_addSpan_120 ?_
                obtain ⟨x_30, hx_30, hm⟩ := Option.bind_eq_some_iff.mp hm
                refine mc_V hC hGx hD (k_X3_tells l k b L hD p0 ((sget x_19.2 p0.toNatClampNeg (0 : Int32).toNatClampNeg) + (sget x_19.2 p1.toNatClampNeg (0 : Int32).toNatClampNeg)) ((sget x_19.2 p0.toNatClampNeg (1 : Int32).toNatClampNeg) + (sget x_19.2 p1.toNatClampNeg (1 : Int32).toNatClampNeg)) ((sget x_19.2 p0.toNatClampNeg (2 : Int32).toNatClampNeg) + (sget x_19.2 p1.toNatClampNeg (2 : Int32).toNatClampNeg))  x_29.2 hx_30) (gV w_1205 w_1206 w_21 w_27 w_1207) kk_X3_tells rfl (List.forall_mem_nil _) hLb ⟨Nat.le_of_ble_eq_true rfl, Nat.le_of_ble_eq_true rfl⟩ ⟨Nat.le_of_ble_eq_true rfl, Nat.le_of_ble_eq_true rfl⟩ hV hS hl.1 rfl rfl (Nat.le_of_ble_eq_true rfl) dX3_addSpan_121 (fun q_30 H locs hV hS hz hq => ?_)
                have hA_20 := hA_20.up hq
                exact m_iret hx hb hr hlocks (Option.some.inj hm) hV hS ⟨Nat.le_of_ble_eq_true rfl, Nat.le_of_ble_eq_true rfl⟩ dX3_addSpan_124
              · have hm := (if_neg h_56).symm.trans hm
                refine lv_iconst (v := 0) hx hb dX3_addSpan_106 (by decide) ?_
                refine lv_goto (tgt := 124) hx hb dX3_addSpan_107 (by decide) ?_
                exact m_iret hx hb hr hlocks (Option.some.inj hm) hV hS ⟨Nat.le_of_ble_eq_true rfl, Nat.le_of_ble_eq_true rfl⟩ dX3_addSpan_124
            · have hm := (if_pos h_55).symm.trans hm
              refine lv_iconst (v := 1) hx hb dX3_addSpan_81 (by decide) ?_
              refine lv_goto (tgt := 86) hx hb dX3_addSpan_82 (by decide) ?_
              refine lv_ior hx hb dX3_addSpan_86 ?_
              refine lv_istore (lv' := [(4, .int ((((0 : Int32) ||| (1 : Int32)) ||| (0 : Int32)) ||| (1 : Int32))), (5, .int (2 : Int32)), (3, .ref a_20), (0, .ref b.1), (1, .int p0), (2, .int p1)]) hx hb dX3_addSpan_87 hl (by decide) rfl (fun ls hl => ?_)
              refine lv_iinc (v := (3 : Int32)) (lv' := [(5, .int (3 : Int32)), (4, .int ((((0 : Int32) ||| (1 : Int32)) ||| (0 : Int32)) ||| (1 : Int32))), (3, .ref a_20), (0, .ref b.1), (1, .int p0), (2, .int p1)]) hx hb dX3_addSpan_89 hl (k := 1) rfl (by decide) (by decide) rfl (fun ls hl => ?_)
              refine lv_goto (tgt := 40) hx hb dX3_addSpan_92 (by decide) ?_
              refine lv_iload hx hb dX3_addSpan_40 (lv_at hl 0 rfl) ?_
              refine lv_iconst (v := 3) hx hb dX3_addSpan_42 (by decide) ?_
              refine lv_icmp_ge (tgt := 95) hx hb dX3_addSpan_43 (by decide) (fun _ => ?_) (fun h => absurd h (by decide))
              refine lv_aload_n hx hb dX3_addSpan_95 rfl (lv_at hl 3 rfl) ?_
              refine lv_iconst (v := 0) hx hb dX3_addSpan_96 (by decide) ?_
              refine lv_iload hx hb dX3_addSpan_97 (lv_at hl 1 rfl) ?_
              refine lv_iconst (v := 0) hx hb dX3_addSpan_99 (by decide) ?_
              obtain ⟨x_31, hx_31, hm⟩ := Option.bind_eq_some_iff.mp hm
              refine mc_V hC hGx hD (k_X3_fails l k b L hD (0 : Int32) ((((0 : Int32) ||| (1 : Int32)) ||| (0 : Int32)) ||| (1 : Int32)) (0 : Int32)  x_19.2 hx_31) (gV w_1056 w_1057 w_18 w_27 w_1058) kk_X3_fails rfl (List.forall_mem_nil _) hLb ⟨Nat.le_of_ble_eq_true rfl, Nat.le_of_ble_eq_true rfl⟩ ⟨Nat.le_of_ble_eq_true rfl, Nat.le_of_ble_eq_true rfl⟩ hV hS hl.1 rfl rfl (Nat.le_of_ble_eq_true rfl) dX3_addSpan_100 (fun q_31 H locs hV hS hz hq => ?_)
              have hA_20 := hA_20.up hq
              refine lv_if_eq (tgt := 110) hx hb dX3_addSpan_103 (by decide) (fun h_57 => ?_) (fun h_57 => ?_)
              · have hm := (if_pos h_57).symm.trans hm
                refine lv_aload_n hx hb dX3_addSpan_110 rfl (lv_at hl 3 rfl) ?_
                refine lv_iload_n hx hb dX3_addSpan_111 rfl (lv_at hl 4 rfl) ?_
                refine lv_aload_n hx hb dX3_addSpan_112 rfl (lv_at hl 2 rfl) ?_
                refine lv_iconst (v := 0) hx hb dX3_addSpan_113 (by decide) ?_
                refine m_niald (j := 0) (v := ((sget x_19.2 p0.toNatClampNeg (0 : Int32).toNatClampNeg) + (sget x_19.2 p1.toNatClampNeg (0 : Int32).toNatClampNeg))) hx hb hGx hA_20.1 (show ¬ ((0 : Int32) < 0 ∨ 3 ≤ ((0 : Int32)).toNatClampNeg) by decide) (by decide) rfl dX3_addSpan_114 ?_
                refine lv_aload_n hx hb dX3_addSpan_115 rfl (lv_at hl 2 rfl) ?_
                refine lv_iconst (v := 1) hx hb dX3_addSpan_116 (by decide) ?_
                refine m_niald (j := 1) (v := ((sget x_19.2 p0.toNatClampNeg (1 : Int32).toNatClampNeg) + (sget x_19.2 p1.toNatClampNeg (1 : Int32).toNatClampNeg))) hx hb hGx hA_20.1 (show ¬ ((1 : Int32) < 0 ∨ 3 ≤ ((1 : Int32)).toNatClampNeg) by decide) (by decide) rfl dX3_addSpan_117 ?_
                refine lv_aload_n hx hb dX3_addSpan_118 rfl (lv_at hl 2 rfl) ?_
                refine lv_iconst (v := 2) hx hb dX3_addSpan_119 (by decide) ?_
                refine m_niald (j := 2) (v := ((sget x_19.2 p0.toNatClampNeg (2 : Int32).toNatClampNeg) + (sget x_19.2 p1.toNatClampNeg (2 : Int32).toNatClampNeg))) hx hb hGx hA_20.1 (show ¬ ((2 : Int32) < 0 ∨ 3 ≤ ((2 : Int32)).toNatClampNeg) by decide) (by decide) rfl dX3_addSpan_120 ?_
                obtain ⟨x_32, hx_32, hm⟩ := Option.bind_eq_some_iff.mp hm
                refine mc_V hC hGx hD (k_X3_tells l k b L hD p0 ((sget x_19.2 p0.toNatClampNeg (0 : Int32).toNatClampNeg) + (sget x_19.2 p1.toNatClampNeg (0 : Int32).toNatClampNeg)) ((sget x_19.2 p0.toNatClampNeg (1 : Int32).toNatClampNeg) + (sget x_19.2 p1.toNatClampNeg (1 : Int32).toNatClampNeg)) ((sget x_19.2 p0.toNatClampNeg (2 : Int32).toNatClampNeg) + (sget x_19.2 p1.toNatClampNeg (2 : Int32).toNatClampNeg))  x_31.2 hx_32) (gV w_1205 w_1206 w_21 w_27 w_1207) kk_X3_tells rfl (List.forall_mem_nil _) hLb ⟨Nat.le_of_ble_eq_true rfl, Nat.le_of_ble_eq_true rfl⟩ ⟨Nat.le_of_ble_eq_true rfl, Nat.le_of_ble_eq_true rfl⟩ hV hS hl.1 rfl rfl (Nat.le_of_ble_eq_true rfl) dX3_addSpan_121 (fun q_32 H locs hV hS hz hq => ?_)
                have hA_20 := hA_20.up hq
                exact m_iret hx hb hr hlocks (Option.some.inj hm) hV hS ⟨Nat.le_of_ble_eq_true rfl, Nat.le_of_ble_eq_true rfl⟩ dX3_addSpan_124
              · have hm := (if_neg h_57).symm.trans hm
                refine lv_iconst (v := 0) hx hb dX3_addSpan_106 (by decide) ?_
                refine lv_goto (tgt := 124) hx hb dX3_addSpan_107 (by decide) ?_
                exact m_iret hx hb hr hlocks (Option.some.inj hm) hV hS ⟨Nat.le_of_ble_eq_true rfl, Nat.le_of_ble_eq_true rfl⟩ dX3_addSpan_124
          · have hm := (if_pos h_52).symm.trans hm
            refine lv_iconst (v := 1) hx hb dX3_addSpan_81 (by decide) ?_
            refine lv_goto (tgt := 86) hx hb dX3_addSpan_82 (by decide) ?_
            refine lv_ior hx hb dX3_addSpan_86 ?_
            refine lv_istore (lv' := [(4, .int (((0 : Int32) ||| (1 : Int32)) ||| (1 : Int32))), (5, .int (1 : Int32)), (3, .ref a_20), (0, .ref b.1), (1, .int p0), (2, .int p1)]) hx hb dX3_addSpan_87 hl (by decide) rfl (fun ls hl => ?_)
            refine lv_iinc (v := (2 : Int32)) (lv' := [(5, .int (2 : Int32)), (4, .int (((0 : Int32) ||| (1 : Int32)) ||| (1 : Int32))), (3, .ref a_20), (0, .ref b.1), (1, .int p0), (2, .int p1)]) hx hb dX3_addSpan_89 hl (k := 1) rfl (by decide) (by decide) rfl (fun ls hl => ?_)
            refine lv_goto (tgt := 40) hx hb dX3_addSpan_92 (by decide) ?_
            refine lv_iload hx hb dX3_addSpan_40 (lv_at hl 0 rfl) ?_
            refine lv_iconst (v := 3) hx hb dX3_addSpan_42 (by decide) ?_
            refine lv_icmp_ge (tgt := 95) hx hb dX3_addSpan_43 (by decide) (fun h => absurd h (by decide)) (fun _ => ?_)
            refine lv_aload_n hx hb dX3_addSpan_46 rfl (lv_at hl 2 rfl) ?_
            refine lv_iload hx hb dX3_addSpan_47 (lv_at hl 0 rfl) ?_
            refine lv_aload_n hx hb dX3_addSpan_49 rfl (lv_at hl 3 rfl) ?_
            refine va_get (D := kD k) (ci := 5) (v := .ref b.2.2.1) (C := RX3) (T := TX3) (N := 5) hx hb htg inG_X3 hown hGx.1 hV.1 0 rfl rfl 2 (by decide) (htg _ w_1013) (fun _ h9 => h9) rfl dX3_addSpan_50 ?_
            refine lv_iload_n hx hb dX3_addSpan_53 rfl (lv_at hl 4 rfl) ?_
            by_cases h_58 : p0 < 0 ∨ 2 ≤ p0.toNatClampNeg
            · have hm := (if_pos h_58).symm.trans hm
              cases hm
            have hm := (if_neg h_58).symm.trans hm
            refine m_lds hx hb hGx hV h_58 dX3_addSpan_54 ?_
            refine lv_iload hx hb dX3_addSpan_55 (lv_at hl 0 rfl) ?_
            refine m_sld hx hb hGx hV (show ¬ ((2 : Int32) < 0 ∨ 3 ≤ ((2 : Int32)).toNatClampNeg) by decide) dX3_addSpan_57 ?_
            refine lv_aload_n hx hb dX3_addSpan_58 rfl (lv_at hl 3 rfl) ?_
            refine va_get (D := kD k) (ci := 5) (v := .ref b.2.2.1) (C := RX3) (T := TX3) (N := 5) hx hb htg inG_X3 hown hGx.1 hV.1 0 rfl rfl 2 (by decide) (htg _ w_1013) (fun _ h9 => h9) rfl dX3_addSpan_59 ?_
            refine lv_iload_n hx hb dX3_addSpan_62 rfl (lv_at hl 5 rfl) ?_
            by_cases h_59 : p1 < 0 ∨ 2 ≤ p1.toNatClampNeg
            · have hm := (if_pos h_59).symm.trans hm
              cases hm
            have hm := (if_neg h_59).symm.trans hm
            refine m_lds hx hb hGx hV h_59 dX3_addSpan_63 ?_
            refine lv_iload hx hb dX3_addSpan_64 (lv_at hl 0 rfl) ?_
            refine m_sld hx hb hGx hV (show ¬ ((2 : Int32) < 0 ∨ 3 ≤ ((2 : Int32)).toNatClampNeg) by decide) dX3_addSpan_66 ?_
            refine lv_iadd hx hb dX3_addSpan_67 ?_
            have hL9 := hS.2
            refine m_niast (j := 2) hx hb hGx (Nat.le_trans hs_20 hn_20) hA_20.1 (show ¬ ((2 : Int32) < 0 ∨ 3 ≤ ((2 : Int32)).toNatClampNeg) by decide) (by decide) hS.1 hA dX3_addSpan_68 (fun H hA_20 hz9 hq9 hS => ?_)
            have hq_20 := m_q2 hn_20 hz_20 hq_20 hq9
            have hz_20 := Nat.le_trans hz_20 hz9
            have hS : mS b s.heap H _ := ⟨hS, hL9⟩
            have hV := hV_20.up hq_20
            have hA_20 := aF.made hLn_20 hn_20 hA_20
            refine lv_iload hx hb dX3_addSpan_69 (lv_at hl 1 rfl) ?_
            refine lv_aload_n hx hb dX3_addSpan_71 rfl (lv_at hl 2 rfl) ?_
            refine lv_iload hx hb dX3_addSpan_72 (lv_at hl 0 rfl) ?_
            refine m_niald (j := 2) (v := ((sget x_19.2 p0.toNatClampNeg (2 : Int32).toNatClampNeg) + (sget x_19.2 p1.toNatClampNeg (2 : Int32).toNatClampNeg))) hx hb hGx hA_20.1 (show ¬ ((2 : Int32) < 0 ∨ 3 ≤ ((2 : Int32)).toNatClampNeg) by decide) (by decide) rfl dX3_addSpan_74 ?_
            refine pc_S hC (c_X3_isNumber l ((sget x_19.2 p0.toNatClampNeg (2 : Int32).toNatClampNeg) + (sget x_19.2 p1.toNatClampNeg (2 : Int32).toNatClampNeg))) (gS w_1200 w_1201 w_27 w_1202) kk_X3_isNumber ⟨Nat.le_of_ble_eq_true rfl, Nat.le_of_ble_eq_true rfl⟩ ⟨Nat.le_of_ble_eq_true rfl, Nat.le_of_ble_eq_true rfl⟩ hl.1 rfl rfl (Nat.le_of_ble_eq_true rfl) dX3_addSpan_75 ?_
            refine lv_if_ne (tgt := 85) hx hb dX3_addSpan_78 (by decide) (fun h_60 => ?_) (fun h_60 => ?_)
            · have hm := (if_neg h_60).symm.trans hm
              refine lv_iconst (v := 0) hx hb dX3_addSpan_85 (by decide) ?_
              refine lv_ior hx hb dX3_addSpan_86 ?_
              refine lv_istore (lv' := [(4, .int ((((0 : Int32) ||| (1 : Int32)) ||| (1 : Int32)) ||| (0 : Int32))), (5, .int (2 : Int32)), (3, .ref a_20), (0, .ref b.1), (1, .int p0), (2, .int p1)]) hx hb dX3_addSpan_87 hl (by decide) rfl (fun ls hl => ?_)
              refine lv_iinc (v := (3 : Int32)) (lv' := [(5, .int (3 : Int32)), (4, .int ((((0 : Int32) ||| (1 : Int32)) ||| (1 : Int32)) ||| (0 : Int32))), (3, .ref a_20), (0, .ref b.1), (1, .int p0), (2, .int p1)]) hx hb dX3_addSpan_89 hl (k := 1) rfl (by decide) (by decide) rfl (fun ls hl => ?_)
              refine lv_goto (tgt := 40) hx hb dX3_addSpan_92 (by decide) ?_
              refine lv_iload hx hb dX3_addSpan_40 (lv_at hl 0 rfl) ?_
              refine lv_iconst (v := 3) hx hb dX3_addSpan_42 (by decide) ?_
              refine lv_icmp_ge (tgt := 95) hx hb dX3_addSpan_43 (by decide) (fun _ => ?_) (fun h => absurd h (by decide))
              refine lv_aload_n hx hb dX3_addSpan_95 rfl (lv_at hl 3 rfl) ?_
              refine lv_iconst (v := 0) hx hb dX3_addSpan_96 (by decide) ?_
              refine lv_iload hx hb dX3_addSpan_97 (lv_at hl 1 rfl) ?_
              refine lv_iconst (v := 0) hx hb dX3_addSpan_99 (by decide) ?_
              obtain ⟨x_33, hx_33, hm⟩ := Option.bind_eq_some_iff.mp hm
              refine mc_V hC hGx hD (k_X3_fails l k b L hD (0 : Int32) ((((0 : Int32) ||| (1 : Int32)) ||| (1 : Int32)) ||| (0 : Int32)) (0 : Int32)  x_19.2 hx_33) (gV w_1056 w_1057 w_18 w_27 w_1058) kk_X3_fails rfl (List.forall_mem_nil _) hLb ⟨Nat.le_of_ble_eq_true rfl, Nat.le_of_ble_eq_true rfl⟩ ⟨Nat.le_of_ble_eq_true rfl, Nat.le_of_ble_eq_true rfl⟩ hV hS hl.1 rfl rfl (Nat.le_of_ble_eq_true rfl) dX3_addSpan_100 (fun q_33 H locs hV hS hz hq => ?_)
              have hA_20 := hA_20.up hq
              refine lv_if_eq (tgt := 110) hx hb dX3_addSpan_103 (by decide) (fun h_61 => ?_) (fun h_61 => ?_)
              · have hm := (if_pos h_61).symm.trans hm
                refine lv_aload_n hx hb dX3_addSpan_110 rfl (lv_at hl 3 rfl) ?_
                refine lv_iload_n hx hb dX3_addSpan_111 rfl (lv_at hl 4 rfl) ?_
                refine lv_aload_n hx hb dX3_addSpan_112 rfl (lv_at hl 2 rfl) ?_
                refine lv_iconst (v := 0) hx hb dX3_addSpan_113 (by decide) ?_
                refine m_niald (j := 0) (v := ((sget x_19.2 p0.toNatClampNeg (0 : Int32).toNatClampNeg) + (sget x_19.2 p1.toNatClampNeg (0 : Int32).toNatClampNeg))) hx hb hGx hA_20.1 (show ¬ ((0 : Int32) < 0 ∨ 3 ≤ ((0 : Int32)).toNatClampNeg) by decide) (by decide) rfl dX3_addSpan_114 ?_
                refine lv_aload_n hx hb dX3_addSpan_115 rfl (lv_at hl 2 rfl) ?_
                refine lv_iconst (v := 1) hx hb dX3_addSpan_116 (by decide) ?_
                refine m_niald (j := 1) (v := ((sget x_19.2 p0.toNatClampNeg (1 : Int32).toNatClampNeg) + (sget x_19.2 p1.toNatClampNeg (1 : Int32).toNatClampNeg))) hx hb hGx hA_20.1 (show ¬ ((1 : Int32) < 0 ∨ 3 ≤ ((1 : Int32)).toNatClampNeg) by decide) (by decide) rfl dX3_addSpan_117 ?_
                refine lv_aload_n hx hb dX3_addSpan_118 rfl (lv_at hl 2 rfl) ?_
                refine lv_iconst (v := 2) hx hb dX3_addSpan_119 (by decide) ?_
                refine m_niald (j := 2) (v := ((sget x_19.2 p0.toNatClampNeg (2 : Int32).toNatClampNeg) + (sget x_19.2 p1.toNatClampNeg (2 : Int32).toNatClampNeg))) hx hb hGx hA_20.1 (show ¬ ((2 : Int32) < 0 ∨ 3 ≤ ((2 : Int32)).toNatClampNeg) by decide) (by decide) rfl dX3_addSpan_120 ?_
                obtain ⟨x_34, hx_34, hm⟩ := Option.bind_eq_some_iff.mp hm
                refine mc_V hC hGx hD (k_X3_tells l k b L hD p0 ((sget x_19.2 p0.toNatClampNeg (0 : Int32).toNatClampNeg) + (sget x_19.2 p1.toNatClampNeg (0 : Int32).toNatClampNeg)) ((sget x_19.2 p0.toNatClampNeg (1 : Int32).toNatClampNeg) + (sget x_19.2 p1.toNatClampNeg (1 : Int32).toNatClampNeg)) ((sget x_19.2 p0.toNatClampNeg (2 : Int32).toNatClampNeg) + (sget x_19.2 p1.toNatClampNeg (2 : Int32).toNatClampNeg))  x_33.2 hx_34) (gV w_1205 w_1206 w_21 w_27 w_1207) kk_X3_tells rfl (List.forall_mem_nil _) hLb ⟨Nat.le_of_ble_eq_true rfl, Nat.le_of_ble_eq_true rfl⟩ ⟨Nat.le_of_ble_eq_true rfl, Nat.le_of_ble_eq_true rfl⟩ hV hS hl.1 rfl rfl (Nat.le_of_ble_eq_true rfl) dX3_addSpan_121 (fun q_34 H locs hV hS hz hq => ?_)
                have hA_20 := hA_20.up hq
                exact m_iret hx hb hr hlocks (Option.some.inj hm) hV hS ⟨Nat.le_of_ble_eq_true rfl, Nat.le_of_ble_eq_true rfl⟩ dX3_addSpan_124
              · have hm := (if_neg h_61).symm.trans hm
                refine lv_iconst (v := 0) hx hb dX3_addSpan_106 (by decide) ?_
                refine lv_goto (tgt := 124) hx hb dX3_addSpan_107 (by decide) ?_
                exact m_iret hx hb hr hlocks (Option.some.inj hm) hV hS ⟨Nat.le_of_ble_eq_true rfl, Nat.le_of_ble_eq_true rfl⟩ dX3_addSpan_124
            · have hm := (if_pos h_60).symm.trans hm
              refine lv_iconst (v := 1) hx hb dX3_addSpan_81 (by decide) ?_
              refine lv_goto (tgt := 86) hx hb dX3_addSpan_82 (by decide) ?_
              refine lv_ior hx hb dX3_addSpan_86 ?_
              refine lv_istore (lv' := [(4, .int ((((0 : Int32) ||| (1 : Int32)) ||| (1 : Int32)) ||| (1 : Int32))), (5, .int (2 : Int32)), (3, .ref a_20), (0, .ref b.1), (1, .int p0), (2, .int p1)]) hx hb dX3_addSpan_87 hl (by decide) rfl (fun ls hl => ?_)
              refine lv_iinc (v := (3 : Int32)) (lv' := [(5, .int (3 : Int32)), (4, .int ((((0 : Int32) ||| (1 : Int32)) ||| (1 : Int32)) ||| (1 : Int32))), (3, .ref a_20), (0, .ref b.1), (1, .int p0), (2, .int p1)]) hx hb dX3_addSpan_89 hl (k := 1) rfl (by decide) (by decide) rfl (fun ls hl => ?_)
              refine lv_goto (tgt := 40) hx hb dX3_addSpan_92 (by decide) ?_
              refine lv_iload hx hb dX3_addSpan_40 (lv_at hl 0 rfl) ?_
              refine lv_iconst (v := 3) hx hb dX3_addSpan_42 (by decide) ?_
              refine lv_icmp_ge (tgt := 95) hx hb dX3_addSpan_43 (by decide) (fun _ => ?_) (fun h => absurd h (by decide))
              refine lv_aload_n hx hb dX3_addSpan_95 rfl (lv_at hl 3 rfl) ?_
              refine lv_iconst (v := 0) hx hb dX3_addSpan_96 (by decide) ?_
              refine lv_iload hx hb dX3_addSpan_97 (lv_at hl 1 rfl) ?_
              refine lv_iconst (v := 0) hx hb dX3_addSpan_99 (by decide) ?_
              obtain ⟨x_35, hx_35, hm⟩ := Option.bind_eq_some_iff.mp hm
              refine mc_V hC hGx hD (k_X3_fails l k b L hD (0 : Int32) ((((0 : Int32) ||| (1 : Int32)) ||| (1 : Int32)) ||| (1 : Int32)) (0 : Int32)  x_19.2 hx_35) (gV w_1056 w_1057 w_18 w_27 w_1058) kk_X3_fails rfl (List.forall_mem_nil _) hLb ⟨Nat.le_of_ble_eq_true rfl, Nat.le_of_ble_eq_true rfl⟩ ⟨Nat.le_of_ble_eq_true rfl, Nat.le_of_ble_eq_true rfl⟩ hV hS hl.1 rfl rfl (Nat.le_of_ble_eq_true rfl) dX3_addSpan_100 (fun q_35 H locs hV hS hz hq => ?_)
              have hA_20 := hA_20.up hq
              refine lv_if_eq (tgt := 110) hx hb dX3_addSpan_103 (by decide) (fun h_62 => ?_) (fun h_62 => ?_)
              · have hm := (if_pos h_62).symm.trans hm
                refine lv_aload_n hx hb dX3_addSpan_110 rfl (lv_at hl 3 rfl) ?_
                refine lv_iload_n hx hb dX3_addSpan_111 rfl (lv_at hl 4 rfl) ?_
                refine lv_aload_n hx hb dX3_addSpan_112 rfl (lv_at hl 2 rfl) ?_
                refine lv_iconst (v := 0) hx hb dX3_addSpan_113 (by decide) ?_
                refine m_niald (j := 0) (v := ((sget x_19.2 p0.toNatClampNeg (0 : Int32).toNatClampNeg) + (sget x_19.2 p1.toNatClampNeg (0 : Int32).toNatClampNeg))) hx hb hGx hA_20.1 (show ¬ ((0 : Int32) < 0 ∨ 3 ≤ ((0 : Int32)).toNatClampNeg) by decide) (by decide) rfl dX3_addSpan_114 ?_
                refine lv_aload_n hx hb dX3_addSpan_115 rfl (lv_at hl 2 rfl) ?_
                refine lv_iconst (v := 1) hx hb dX3_addSpan_116 (by decide) ?_
                refine m_niald (j := 1) (v := ((sget x_19.2 p0.toNatClampNeg (1 : Int32).toNatClampNeg) + (sget x_19.2 p1.toNatClampNeg (1 : Int32).toNatClampNeg))) hx hb hGx hA_20.1 (show ¬ ((1 : Int32) < 0 ∨ 3 ≤ ((1 : Int32)).toNatClampNeg) by decide) (by decide) rfl dX3_addSpan_117 ?_
                refine lv_aload_n hx hb dX3_addSpan_118 rfl (lv_at hl 2 rfl) ?_
                refine lv_iconst (v := 2) hx hb dX3_addSpan_119 (by decide) ?_
                refine m_niald (j := 2) (v := ((sget x_19.2 p0.toNatClampNeg (2 : Int32).toNatClampNeg) + (sget x_19.2 p1.toNatClampNeg (2 : Int32).toNatClampNeg))) hx hb hGx hA_20.1 (show ¬ ((2 : Int32) < 0 ∨ 3 ≤ ((2 : Int32)).toNatClampNeg) by decide) (by decide) rfl dX3_addSpan_120 ?_
                obtain ⟨x_36, hx_36, hm⟩ := Option.bind_eq_some_iff.mp hm
                refine mc_V hC hGx hD (k_X3_tells l k b L hD p0 ((sget x_19.2 p0.toNatClampNeg (0 : Int32).toNatClampNeg) + (sget x_19.2 p1.toNatClampNeg (0 : Int32).toNatClampNeg)) ((sget x_19.2 p0.toNatClampNeg (1 : Int32).toNatClampNeg) + (sget x_19.2 p1.toNatClampNeg (1 : Int32).toNatClampNeg)) ((sget x_19.2 p0.toNatClampNeg (2 : Int32).toNatClampNeg) + (sget x_19.2 p1.toNatClampNeg (2 : Int32).toNatClampNeg))  x_35.2 hx_36) (gV w_1205 w_1206 w_21 w_27 w_1207) kk_X3_tells rfl (List.forall_mem_nil _) hLb ⟨Nat.le_of_ble_eq_true rfl, Nat.le_of_ble_eq_true rfl⟩ ⟨Nat.le_of_ble_eq_true rfl, Nat.le_of_ble_eq_true rfl⟩ hV hS hl.1 rfl rfl (Nat.le_of_ble_eq_true rfl) dX3_addSpan_121 (fun q_36 H locs hV hS hz hq => ?_)
                have hA_20 := hA_20.up hq
                exact m_iret hx hb hr hlocks (Option.some.inj hm) hV hS ⟨Nat.le_of_ble_eq_true rfl, Nat.le_of_ble_eq_true rfl⟩ dX3_addSpan_124
              · have hm := (if_neg h_62).symm.trans hm
                refine lv_iconst (v := 0) hx hb dX3_addSpan_106 (by decide) ?_
                refine lv_goto (tgt := 124) hx hb dX3_addSpan_107 (by decide) ?_
                exact m_iret hx hb hr hlocks (Option.some.inj hm) hV hS ⟨Nat.le_of_ble_eq_true rfl, Nat.le_of_ble_eq_true rfl⟩ dX3_addSpan_124
      · have hm := (if_neg h_33).symm.trans hm
        refine lv_iconst (v := 0) hx hb dX3_addSpan_28 (by decide) ?_
        exact m_iret hx hb hr hlocks (Option.some.inj hm) hV hS ⟨Nat.le_of_ble_eq_true rfl, Nat.le_of_ble_eq_true rfl⟩ dX3_addSpan_29
    · have hm := (if_neg h_32).symm.trans hm
      refine lv_iconst (v := 1) hx hb dX3_addSpan_15 (by decide) ?_
      refine lv_goto (tgt := 20) hx hb dX3_addSpan_16 (by decide) ?_
      refine lv_iconst (v := 0) hx hb dX3_addSpan_20 (by decide) ?_
      refine lv_iconst (v := 0) hx hb dX3_addSpan_21 (by decide) ?_
      obtain ⟨x_37, hx_37, hm⟩ := Option.bind_eq_some_iff.mp hm
      refine mc_V hC hGx hD (k_X3_fails l k b L hD (1 : Int32) (0 : Int32) (0 : Int32)  z hx_37) (gV w_1056 w_1057 w_18 w_27 w_1058) kk_X3_fails rfl (List.forall_mem_nil _) hLb ⟨Nat.le_of_ble_eq_true rfl, Nat.le_of_ble_eq_true rfl⟩ ⟨Nat.le_of_ble_eq_true rfl, Nat.le_of_ble_eq_true rfl⟩ hV hS hl.1 rfl rfl (Nat.le_of_ble_eq_true rfl) dX3_addSpan_22 (fun q_37 H locs hV hS hz hq => ?_)
      refine lv_if_eq (tgt := 30) hx hb dX3_addSpan_25 (by decide) (fun h_63 => ?_) (fun h_63 => ?_)
      · have hm := (if_pos h_63).symm.trans hm
        refine lv_iconst (v := 3) hx hb dX3_addSpan_30 (by decide) ?_
        have hLn_38 := m_hLn hLb hS
        have hL9 := hS.2
        have hV_38 := hV
        have hs_38 := hS.1.1
        refine m_newI (n := 3) hx hb (htg _ w_77) hGx hS.1 (by decide) (by decide) (by decide) ⟨Nat.le_of_ble_eq_true rfl, Nat.le_of_ble_eq_true rfl⟩ dX3_addSpan_31 (fun a_38 H hn_38 hz_38 hA_38 hq hS => ?_)
        have hS : mS b s.heap H _ := ⟨hS, hL9⟩
        have hV := hV.up hq
        have hA_38 := aF.made hLn_38 hn_38 hA_38
        have hq_38 := hq
        refine lv_astore_n (lv' := [(3, .ref a_38), (0, .ref b.1), (1, .int p0), (2, .int p1)]) hx hb dX3_addSpan_33 rfl hl (by decide) rfl (fun ls hl => ?_)
        refine lv_iconst (v := 0) hx hb dX3_addSpan_34 (by decide) ?_
        refine lv_istore (lv' := [(4, .int (0 : Int32)), (3, .ref a_38), (0, .ref b.1), (1, .int p0), (2, .int p1)]) hx hb dX3_addSpan_35 hl (by decide) rfl (fun ls hl => ?_)
        refine lv_iconst (v := 0) hx hb dX3_addSpan_37 (by decide) ?_
        refine lv_istore (lv' := [(5, .int (0 : Int32)), (4, .int (0 : Int32)), (3, .ref a_38), (0, .ref b.1), (1, .int p0), (2, .int p1)]) hx hb dX3_addSpan_38 hl (by decide) rfl (fun ls hl => ?_)
        refine lv_iload hx hb dX3_addSpan_40 (lv_at hl 0 rfl) ?_
        refine lv_iconst (v := 3) hx hb dX3_addSpan_42 (by decide) ?_
        refine lv_icmp_ge (tgt := 95) hx hb dX3_addSpan_43 (by decide) (fun h => absurd h (by decide)) (fun _ => ?_)
        refine lv_aload_n hx hb dX3_addSpan_46 rfl (lv_at hl 2 rfl) ?_
        refine lv_iload hx hb dX3_addSpan_47 (lv_at hl 0 rfl) ?_
        refine lv_aload_n hx hb dX3_addSpan_49 rfl (lv_at hl 3 rfl) ?_
        refine va_get (D := kD k) (ci := 5) (v := .ref b.2.2.1) (C := RX3) (T := TX3) (N := 5) hx hb htg inG_X3 hown hGx.1 hV.1 0 rfl rfl 2 (by decide) (htg _ w_1013) (fun _ h9 => h9) rfl dX3_addSpan_50 ?_
        refine lv_iload_n hx hb dX3_addSpan_53 rfl (lv_at hl 4 rfl) ?_
        by_cases h_64 : p0 < 0 ∨ 2 ≤ p0.toNatClampNeg
        · have hm := (if_pos h_64).symm.trans hm
          cases hm
        have hm := (if_neg h_64).symm.trans hm
        refine m_lds hx hb hGx hV h_64 dX3_addSpan_54 ?_
        refine lv_iload hx hb dX3_addSpan_55 (lv_at hl 0 rfl) ?_
        refine m_sld hx hb hGx hV (show ¬ ((0 : Int32) < 0 ∨ 3 ≤ ((0 : Int32)).toNatClampNeg) by decide) dX3_addSpan_57 ?_
        refine lv_aload_n hx hb dX3_addSpan_58 rfl (lv_at hl 3 rfl) ?_
        refine va_get (D := kD k) (ci := 5) (v := .ref b.2.2.1) (C := RX3) (T := TX3) (N := 5) hx hb htg inG_X3 hown hGx.1 hV.1 0 rfl rfl 2 (by decide) (htg _ w_1013) (fun _ h9 => h9) rfl dX3_addSpan_59 ?_
        refine lv_iload_n hx hb dX3_addSpan_62 rfl (lv_at hl 5 rfl) ?_
        by_cases h_65 : p1 < 0 ∨ 2 ≤ p1.toNatClampNeg
        · have hm := (if_pos h_65).symm.trans hm
          cases hm
        have hm := (if_neg h_65).symm.trans hm
        refine m_lds hx hb hGx hV h_65 dX3_addSpan_63 ?_
        refine lv_iload hx hb dX3_addSpan_64 (lv_at hl 0 rfl) ?_
        refine m_sld hx hb hGx hV (show ¬ ((0 : Int32) < 0 ∨ 3 ≤ ((0 : Int32)).toNatClampNeg) by decide) dX3_addSpan_66 ?_
        refine lv_iadd hx hb dX3_addSpan_67 ?_
        have hL9 := hS.2
        refine m_niast (j := 0) hx hb hGx (Nat.le_trans hs_38 hn_38) hA_38.1 (show ¬ ((0 : Int32) < 0 ∨ 3 ≤ ((0 : Int32)).toNatClampNeg) by decide) (by decide) hS.1 hA dX3_addSpan_68 (fun H hA_38 hz9 hq9 hS => ?_)
        have hq_38 := m_q2 hn_38 hz_38 hq_38 hq9
        have hz_38 := Nat.le_trans hz_38 hz9
        have hS : mS b s.heap H _ := ⟨hS, hL9⟩
        have hV := hV_38.up hq_38
        have hA_38 := aF.made hLn_38 hn_38 hA_38
        refine lv_iload hx hb dX3_addSpan_69 (lv_at hl 1 rfl) ?_
        refine lv_aload_n hx hb dX3_addSpan_71 rfl (lv_at hl 2 rfl) ?_
        refine lv_iload hx hb dX3_addSpan_72 (lv_at hl 0 rfl) ?_
        refine m_niald (j := 0) (v := ((sget x_37.2 p0.toNatClampNeg (0 : Int32).toNatClampNeg) + (sget x_37.2 p1.toNatClampNeg (0 : Int32).toNatClampNeg))) hx hb hGx hA_38.1 (show ¬ ((0 : Int32) < 0 ∨ 3 ≤ ((0 : Int32)).toNatClampNeg) by decide) (by decide) rfl dX3_addSpan_74 ?_
        refine pc_S hC (c_X3_isNumber l ((sget x_37.2 p0.toNatClampNeg (0 : Int32).toNatClampNeg) + (sget x_37.2 p1.toNatClampNeg (0 : Int32).toNatClampNeg))) (gS w_1200 w_1201 w_27 w_1202) kk_X3_isNumber ⟨Nat.le_of_ble_eq_true rfl, Nat.le_of_ble_eq_true rfl⟩ ⟨Nat.le_of_ble_eq_true rfl, Nat.le_of_ble_eq_true rfl⟩ hl.1 rfl rfl (Nat.le_of_ble_eq_true rfl) dX3_addSpan_75 ?_
        refine lv_if_ne (tgt := 85) hx hb dX3_addSpan_78 (by decide) (fun h_66 => ?_) (fun h_66 => ?_)
        · have hm := (if_neg h_66).symm.trans hm
          refine lv_iconst (v := 0) hx hb dX3_addSpan_85 (by decide) ?_
          refine lv_ior hx hb dX3_addSpan_86 ?_
          refine lv_istore (lv' := [(4, .int ((0 : Int32) ||| (0 : Int32))), (5, .int (0 : Int32)), (3, .ref a_38), (0, .ref b.1), (1, .int p0), (2, .int p1)]) hx hb dX3_addSpan_87 hl (by decide) rfl (fun ls hl => ?_)
          refine lv_iinc (v := (1 : Int32)) (lv' := [(5, .int (1 : Int32)), (4, .int ((0 : Int32) ||| (0 : Int32))), (3, .ref a_38), (0, .ref b.1), (1, .int p0), (2, .int p1)]) hx hb dX3_addSpan_89 hl (k := 1) rfl (by decide) (by decide) rfl (fun ls hl => ?_)
          refine lv_goto (tgt := 40) hx hb dX3_addSpan_92 (by decide) ?_
          refine lv_iload hx hb dX3_addSpan_40 (lv_at hl 0 rfl) ?_
          refine lv_iconst (v := 3) hx hb dX3_addSpan_42 (by decide) ?_
          refine lv_icmp_ge (tgt := 95) hx hb dX3_addSpan_43 (by decide) (fun h => absurd h (by decide)) (fun _ => ?_)
          refine lv_aload_n hx hb dX3_addSpan_46 rfl (lv_at hl 2 rfl) ?_
          refine lv_iload hx hb dX3_addSpan_47 (lv_at hl 0 rfl) ?_
          refine lv_aload_n hx hb dX3_addSpan_49 rfl (lv_at hl 3 rfl) ?_
          refine va_get (D := kD k) (ci := 5) (v := .ref b.2.2.1) (C := RX3) (T := TX3) (N := 5) hx hb htg inG_X3 hown hGx.1 hV.1 0 rfl rfl 2 (by decide) (htg _ w_1013) (fun _ h9 => h9) rfl dX3_addSpan_50 ?_
          refine lv_iload_n hx hb dX3_addSpan_53 rfl (lv_at hl 4 rfl) ?_
          by_cases h_67 : p0 < 0 ∨ 2 ≤ p0.toNatClampNeg
          · have hm := (if_pos h_67).symm.trans hm
            cases hm
          have hm := (if_neg h_67).symm.trans hm
          refine m_lds hx hb hGx hV h_67 dX3_addSpan_54 ?_
          refine lv_iload hx hb dX3_addSpan_55 (lv_at hl 0 rfl) ?_
          refine m_sld hx hb hGx hV (show ¬ ((1 : Int32) < 0 ∨ 3 ≤ ((1 : Int32)).toNatClampNeg) by decide) dX3_addSpan_57 ?_
          refine lv_aload_n hx hb dX3_addSpan_58 rfl (lv_at hl 3 rfl) ?_
          refine va_get (D := kD k) (ci := 5) (v := .ref b.2.2.1) (C := RX3) (T := TX3) (N := 5) hx hb htg inG_X3 hown hGx.1 hV.1 0 rfl rfl 2 (by decide) (htg _ w_1013) (fun _ h9 => h9) rfl dX3_addSpan_59 ?_
          refine lv_iload_n hx hb dX3_addSpan_62 rfl (lv_at hl 5 rfl) ?_
          by_cases h_68 : p1 < 0 ∨ 2 ≤ p1.toNatClampNeg
          · have hm := (if_pos h_68).symm.trans hm
            cases hm
          have hm := (if_neg h_68).symm.trans hm
          refine m_lds hx hb hGx hV h_68 dX3_addSpan_63 ?_
          refine lv_iload hx hb dX3_addSpan_64 (lv_at hl 0 rfl) ?_
          refine m_sld hx hb hGx hV (show ¬ ((1 : Int32) < 0 ∨ 3 ≤ ((1 : Int32)).toNatClampNeg) by decide) dX3_addSpan_66 ?_
          refine lv_iadd hx hb dX3_addSpan_67 ?_
          have hL9 := hS.2
          refine m_niast (j := 1) hx hb hGx (Nat.le_trans hs_38 hn_38) hA_38.1 (show ¬ ((1 : Int32) < 0 ∨ 3 ≤ ((1 : Int32)).toNatClampNeg) by decide) (by decide) hS.1 hA dX3_addSpan_68 (fun H hA_38 hz9 hq9 hS => ?_)
          have hq_38 := m_q2 hn_38 hz_38 hq_38 hq9
          have hz_38 := Nat.le_trans hz_38 hz9
          have hS : mS b s.heap H _ := ⟨hS, hL9⟩
          have hV := hV_38.up hq_38
          have hA_38 := aF.made hLn_38 hn_38 hA_38
          refine lv_iload hx hb dX3_addSpan_69 (lv_at hl 1 rfl) ?_
          refine lv_aload_n hx hb dX3_addSpan_71 rfl (lv_at hl 2 rfl) ?_
          refine lv_iload hx hb dX3_addSpan_72 (lv_at hl 0 rfl) ?_
          refine m_niald (j := 1) (v := ((sget x_37.2 p0.toNatClampNeg (1 : Int32).toNatClampNeg) + (sget x_37.2 p1.toNatClampNeg (1 : Int32).toNatClampNeg))) hx hb hGx hA_38.1 (show ¬ ((1 : Int32) < 0 ∨ 3 ≤ ((1 : Int32)).toNatClampNeg) by decide) (by decide) rfl dX3_addSpan_74 ?_
          refine pc_S hC (c_X3_isNumber l ((sget x_37.2 p0.toNatClampNeg (1 : Int32).toNatClampNeg) + (sget x_37.2 p1.toNatClampNeg (1 : Int32).toNatClampNeg))) (gS w_1200 w_1201 w_27 w_1202) kk_X3_isNumber ⟨Nat.le_of_ble_eq_true rfl, Nat.le_of_ble_eq_true rfl⟩ ⟨Nat.le_of_ble_eq_true rfl, Nat.le_of_ble_eq_true rfl⟩ hl.1 rfl rfl (Nat.le_of_ble_eq_true rfl) dX3_addSpan_75 ?_
          refine lv_if_ne (tgt := 85) hx hb dX3_addSpan_78 (by decide) (fun h_69 => ?_) (fun h_69 => ?_)
          · have hm := (if_neg h_69).symm.trans hm
            refine lv_iconst (v := 0) hx hb dX3_addSpan_85 (by decide) ?_
            refine lv_ior hx hb dX3_addSpan_86 ?_
            refine lv_istore (lv' := [(4, .int (((0 : Int32) ||| (0 : Int32)) ||| (0 : Int32))), (5, .int (1 : Int32)), (3, .ref a_38), (0, .ref b.1), (1, .int p0), (2, .int p1)]) hx hb dX3_addSpan_87 hl (by decide) rfl (fun ls hl => ?_)
            refine lv_iinc (v := (2 : Int32)) (lv' := [(5, .int (2 : Int32)), (4, .int (((0 : Int32) ||| (0 : Int32)) ||| (0 : Int32))), (3, .ref a_38), (0, .ref b.1), (1, .int p0), (2, .int p1)]) hx hb dX3_addSpan_89 hl (k := 1) rfl (by decide) (by decide) rfl (fun ls hl => ?_)
            refine lv_goto (tgt := 40) hx hb dX3_addSpan_92 (by decide) ?_
            refine lv_iload hx hb dX3_addSpan_40 (lv_at hl 0 rfl) ?_
            refine lv_iconst (v := 3) hx hb dX3_addSpan_42 (by decide) ?_
            refine lv_icmp_ge (tgt := 95) hx hb dX3_addSpan_43 (by decide) (fun h => absurd h (by decide)) (fun _ => ?_)
            refine lv_aload_n hx hb dX3_addSpan_46 rfl (lv_at hl 2 rfl) ?_
            refine lv_iload hx hb dX3_addSpan_47 (lv_at hl 0 rfl) ?_
            refine lv_aload_n hx hb dX3_addSpan_49 rfl (lv_at hl 3 rfl) ?_
            refine va_get (D := kD k) (ci := 5) (v := .ref b.2.2.1) (C := RX3) (T := TX3) (N := 5) hx hb htg inG_X3 hown hGx.1 hV.1 0 rfl rfl 2 (by decide) (htg _ w_1013) (fun _ h9 => h9) rfl dX3_addSpan_50 ?_
            refine lv_iload_n hx hb dX3_addSpan_53 rfl (lv_at hl 4 rfl) ?_
            by_cases h_70 : p0 < 0 ∨ 2 ≤ p0.toNatClampNeg
            · have hm := (if_pos h_70).symm.trans hm
              cases hm
            have hm := (if_neg h_70).symm.trans hm
            refine m_lds hx hb hGx hV h_70 dX3_addSpan_54 ?_
            refine lv_iload hx hb dX3_addSpan_55 (lv_at hl 0 rfl) ?_
            refine m_sld hx hb hGx hV (show ¬ ((2 : Int32) < 0 ∨ 3 ≤ ((2 : Int32)).toNatClampNeg) by decide) dX3_addSpan_57 ?_
            refine lv_aload_n hx hb dX3_addSpan_58 rfl (lv_at hl 3 rfl) ?_
            refine va_get (D := kD k) (ci := 5) (v := .ref b.2.2.1) (C := RX3) (T := TX3) (N := 5) hx hb htg inG_X3 hown hGx.1 hV.1 0 rfl rfl 2 (by decide) (htg _ w_1013) (fun _ h9 => h9) rfl dX3_addSpan_59 ?_
            refine lv_iload_n hx hb dX3_addSpan_62 rfl (lv_at hl 5 rfl) ?_
            by_cases h_71 : p1 < 0 ∨ 2 ≤ p1.toNatClampNeg
            · have hm := (if_pos h_71).symm.trans hm
              cases hm
            have hm := (if_neg h_71).symm.trans hm
            refine m_lds hx hb hGx hV h_71 dX3_addSpan_63 ?_
            refine lv_iload hx hb dX3_addSpan_64 (lv_at hl 0 rfl) ?_
            refine m_sld hx hb hGx hV (show ¬ ((2 : Int32) < 0 ∨ 3 ≤ ((2 : Int32)).toNatClampNeg) by decide) dX3_addSpan_66 ?_
            refine lv_iadd hx hb dX3_addSpan_67 ?_
            have hL9 := hS.2
            refine m_niast (j := 2) hx hb hGx (Nat.le_trans hs_38 hn_38) hA_38.1 (show ¬ ((2 : Int32) < 0 ∨ 3 ≤ ((2 : Int32)).toNatClampNeg) by decide) (by decide) hS.1 hA dX3_addSpan_68 (fun H hA_38 hz9 hq9 hS => ?_)
            have hq_38 := m_q2 hn_38 hz_38 hq_38 hq9
            have hz_38 := Nat.le_trans hz_38 hz9
            have hS : mS b s.heap H _ := ⟨hS, hL9⟩
            have hV := hV_38.up hq_38
            have hA_38 := aF.made hLn_38 hn_38 hA_38
            refine lv_iload hx hb dX3_addSpan_69 (lv_at hl 1 rfl) ?_
            refine lv_aload_n hx hb dX3_addSpan_71 rfl (lv_at hl 2 rfl) ?_
            refine lv_iload hx hb dX3_addSpan_72 (lv_at hl 0 rfl) ?_
            refine m_niald (j := 2) (v := ((sget x_37.2 p0.toNatClampNeg (2 : Int32).toNatClampNeg) + (sget x_37.2 p1.toNatClampNeg (2 : Int32).toNatClampNeg))) hx hb hGx hA_38.1 (show ¬ ((2 : Int32) < 0 ∨ 3 ≤ ((2 : Int32)).toNatClampNeg) by decide) (by decide) rfl dX3_addSpan_74 ?_
            refine pc_S hC (c_X3_isNumber l ((sget x_37.2 p0.toNatClampNeg (2 : Int32).toNatClampNeg) + (sget x_37.2 p1.toNatClampNeg (2 : Int32).toNatClampNeg))) (gS w_1200 w_1201 w_27 w_1202) kk_X3_isNumber ⟨Nat.le_of_ble_eq_true rfl, Nat.le_of_ble_eq_true rfl⟩ ⟨Nat.le_of_ble_eq_true rfl, Nat.le_of_ble_eq_true rfl⟩ hl.1 rfl rfl (Nat.le_of_ble_eq_true rfl) dX3_addSpan_75 ?_
            refine lv_if_ne (tgt := 85) hx hb dX3_addSpan_78 (by decide) (fun h_72 => ?_) (fun h_72 => ?_)
            · have hm := (if_neg h_72).symm.trans hm
              refine lv_iconst (v := 0) hx hb dX3_addSpan_85 (by decide) ?_
              refine lv_ior hx hb dX3_addSpan_86 ?_
              refine lv_istore (lv' := [(4, .int ((((0 : Int32) ||| (0 : Int32)) ||| (0 : Int32)) ||| (0 : Int32))), (5, .int (2 : Int32)), (3, .ref a_38), (0, .ref b.1), (1, .int p0), (2, .int p1)]) hx hb dX3_addSpan_87 hl (by decide) rfl (fun ls hl => ?_)
              refine lv_iinc (v := (3 : Int32)) (lv' := [(5, .int (3 : Int32)), (4, .int ((((0 : Int32) ||| (0 : Int32)) ||| (0 : Int32)) ||| (0 : Int32))), (3, .ref a_38), (0, .ref b.1), (1, .int p0), (2, .int p1)]) hx hb dX3_addSpan_89 hl (k := 1) rfl (by decide) (by decide) rfl (fun ls hl => ?_)
              refine lv_goto (tgt := 40) hx hb dX3_addSpan_92 (by decide) ?_
              refine lv_iload hx hb dX3_addSpan_40 (lv_at hl 0 rfl) ?_
              refine lv_iconst (v := 3) hx hb dX3_addSpan_42 (by decide) ?_
              refine lv_icmp_ge (tgt := 95) hx hb dX3_addSpan_43 (by decide) (fun _ => ?_) (fun h => absurd h (by decide))
              refine lv_aload_n hx hb dX3_addSpan_95 rfl (lv_at hl 3 rfl) ?_
              refine lv_iconst (v := 0) hx hb dX3_addSpan_96 (by decide) ?_
              refine lv_iload hx hb dX3_addSpan_97 (lv_at hl 1 rfl) ?_
              refine lv_iconst (v := 0) hx hb dX3_addSpan_99 (by decide) ?_
              obtain ⟨x_39, hx_39, hm⟩ := Option.bind_eq_some_iff.mp hm
              refine mc_V hC hGx hD (k_X3_fails l k b L hD (0 : Int32) ((((0 : Int32) ||| (0 : Int32)) ||| (0 : Int32)) ||| (0 : Int32)) (0 : Int32)  x_37.2 hx_39) (gV w_1056 w_1057 w_18 w_27 w_1058) kk_X3_fails rfl (List.forall_mem_nil _) hLb ⟨Nat.le_of_ble_eq_true rfl, Nat.le_of_ble_eq_true rfl⟩ ⟨Nat.le_of_ble_eq_true rfl, Nat.le_of_ble_eq_true rfl⟩ hV hS hl.1 rfl rfl (Nat.le_of_ble_eq_true rfl) dX3_addSpan_100 (fun q_39 H locs hV hS hz hq => ?_)
              have hA_38 := hA_38.up hq
              refine lv_if_eq (tgt := 110) hx hb dX3_addSpan_103 (by decide) (fun h_73 => ?_) (fun h_73 => ?_)
              · have hm := (if_pos h_73).symm.trans hm
                refine lv_aload_n hx hb dX3_addSpan_110 rfl (lv_at hl 3 rfl) ?_
                refine lv_iload_n hx hb dX3_addSpan_111 rfl (lv_at hl 4 rfl) ?_
                refine lv_aload_n hx hb dX3_addSpan_112 rfl (lv_at hl 2 rfl) ?_
                refine lv_iconst (v := 0) hx hb dX3_addSpan_113 (by decide) ?_
                refine m_niald (j := 0) (v := ((sget x_37.2 p0.toNatClampNeg (0 : Int32).toNatClampNeg) + (sget x_37.2 p1.toNatClampNeg (0 : Int32).toNatClampNeg))) hx hb hGx hA_38.1 (show ¬ ((0 : Int32) < 0 ∨ 3 ≤ ((0 : Int32)).toNatClampNeg) by decide) (by decide) rfl dX3_addSpan_114 ?_
                refine lv_aload_n hx hb dX3_addSpan_115 rfl (lv_at hl 2 rfl) ?_
                refine lv_iconst (v := 1) hx hb dX3_addSpan_116 (by decide) ?_
                refine m_niald (j := 1) (v := ((sget x_37.2 p0.toNatClampNeg (1 : Int32).toNatClampNeg) + (sget x_37.2 p1.toNatClampNeg (1 : Int32).toNatClampNeg))) hx hb hGx hA_38.1 (show ¬ ((1 : Int32) < 0 ∨ 3 ≤ ((1 : Int32)).toNatClampNeg) by decide) (by decide) rfl dX3_addSpan_117 ?_
                refine lv_aload_n hx hb dX3_addSpan_118 rfl (lv_at hl 2 rfl) ?_
                refine lv_iconst (v := 2) hx hb dX3_addSpan_119 (by decide) ?_
                refine m_niald (j := 2) (v := ((sget x_37.2 p0.toNatClampNeg (2 : Int32).toNatClampNeg) + (sget x_37.2 p1.toNatClampNeg (2 : Int32).toNatClampNeg))) hx hb hGx hA_38.1 (show ¬ ((2 : Int32) < 0 ∨ 3 ≤ ((2 : Int32)).toNatClampNeg) by decide) (by decide) rfl dX3_addSpan_120 ?_
                obtain ⟨x_40, hx_40, hm⟩ := Option.bind_eq_some_iff.mp hm
                refine mc_V hC hGx hD (k_X3_tells l k b L hD p0 ((sget x_37.2 p0.toNatClampNeg (0 : Int32).toNatClampNeg) + (sget x_37.2 p1.toNatClampNeg (0 : Int32).toNatClampNeg)) ((sget x_37.2 p0.toNatClampNeg (1 : Int32).toNatClampNeg) + (sget x_37.2 p1.toNatClampNeg (1 : Int32).toNatClampNeg)) ((sget x_37.2 p0.toNatClampNeg (2 : Int32).toNatClampNeg) + (sget x_37.2 p1.toNatClampNeg (2 : Int32).toNatClampNeg))  x_39.2 hx_40) (gV w_1205 w_1206 w_21 w_27 w_1207) kk_X3_tells rfl (List.forall_mem_nil _) hLb ⟨Nat.le_of_ble_eq_true rfl, Nat.le_of_ble_eq_true rfl⟩ ⟨Nat.le_of_ble_eq_true rfl, Nat.le_of_ble_eq_true rfl⟩ hV hS hl.1 rfl rfl (Nat.le_of_ble_eq_true rfl) dX3_addSpan_121 (fun q_40 H locs hV hS hz hq => ?_)
                have hA_38 := hA_38.up hq
                exact m_iret hx hb hr hlocks (Option.some.inj hm) hV hS ⟨Nat.le_of_ble_eq_true rfl, Nat.le_of_ble_eq_true rfl⟩ dX3_addSpan_124
              · have hm := (if_neg h_73).symm.trans hm
                refine lv_iconst (v := 0) hx hb dX3_addSpan_106 (by decide) ?_
                refine lv_goto (tgt := 124) hx hb dX3_addSpan_107 (by decide) ?_
                exact m_iret hx hb hr hlocks (Option.some.inj hm) hV hS ⟨Nat.le_of_ble_eq_true rfl, Nat.le_of_ble_eq_true rfl⟩ dX3_addSpan_124
            · have hm := (if_pos h_72).symm.trans hm
              refine lv_iconst (v := 1) hx hb dX3_addSpan_81 (by decide) ?_
              refine lv_goto (tgt := 86) hx hb dX3_addSpan_82 (by decide) ?_
              refine lv_ior hx hb dX3_addSpan_86 ?_
              refine lv_istore (lv' := [(4, .int ((((0 : Int32) ||| (0 : Int32)) ||| (0 : Int32)) ||| (1 : Int32))), (5, .int (2 : Int32)), (3, .ref a_38), (0, .ref b.1), (1, .int p0), (2, .int p1)]) hx hb dX3_addSpan_87 hl (by decide) rfl (fun ls hl => ?_)
              refine lv_iinc (v := (3 : Int32)) (lv' := [(5, .int (3 : Int32)), (4, .int ((((0 : Int32) ||| (0 : Int32)) ||| (0 : Int32)) ||| (1 : Int32))), (3, .ref a_38), (0, .ref b.1), (1, .int p0), (2, .int p1)]) hx hb dX3_addSpan_89 hl (k := 1) rfl (by decide) (by decide) rfl (fun ls hl => ?_)
              refine lv_goto (tgt := 40) hx hb dX3_addSpan_92 (by decide) ?_
              refine lv_iload hx hb dX3_addSpan_40 (lv_at hl 0 rfl) ?_
              refine lv_iconst (v := 3) hx hb dX3_addSpan_42 (by decide) ?_
              refine lv_icmp_ge (tgt := 95) hx hb dX3_addSpan_43 (by decide) (fun _ => ?_) (fun h => absurd h (by decide))
              refine lv_aload_n hx hb dX3_addSpan_95 rfl (lv_at hl 3 rfl) ?_
              refine lv_iconst (v := 0) hx hb dX3_addSpan_96 (by decide) ?_
              refine lv_iload hx hb dX3_addSpan_97 (lv_at hl 1 rfl) ?_
              refine lv_iconst (v := 0) hx hb dX3_addSpan_99 (by decide) ?_
              obtain ⟨x_41, hx_41, hm⟩ := Option.bind_eq_some_iff.mp hm
              refine mc_V hC hGx hD (k_X3_fails l k b L hD (0 : Int32) ((((0 : Int32) ||| (0 : Int32)) ||| (0 : Int32)) ||| (1 : Int32)) (0 : Int32)  x_37.2 hx_41) (gV w_1056 w_1057 w_18 w_27 w_1058) kk_X3_fails rfl (List.forall_mem_nil _) hLb ⟨Nat.le_of_ble_eq_true rfl, Nat.le_of_ble_eq_true rfl⟩ ⟨Nat.le_of_ble_eq_true rfl, Nat.le_of_ble_eq_true rfl⟩ hV hS hl.1 rfl rfl (Nat.le_of_ble_eq_true rfl) dX3_addSpan_100 (fun q_41 H locs hV hS hz hq => ?_)
              have hA_38 := hA_38.up hq
              refine lv_if_eq (tgt := 110) hx hb dX3_addSpan_103 (by decide) (fun h_74 => ?_) (fun h_74 => ?_)
              · have hm := (if_pos h_74).symm.trans hm
                refine lv_aload_n hx hb dX3_addSpan_110 rfl (lv_at hl 3 rfl) ?_
                refine lv_iload_n hx hb dX3_addSpan_111 rfl (lv_at hl 4 rfl) ?_
                refine lv_aload_n hx hb dX3_addSpan_112 rfl (lv_at hl 2 rfl) ?_
                refine lv_iconst (v := 0) hx hb dX3_addSpan_113 (by decide) ?_
                refine m_niald (j := 0) (v := ((sget x_37.2 p0.toNatClampNeg (0 : Int32).toNatClampNeg) + (sget x_37.2 p1.toNatClampNeg (0 : Int32).toNatClampNeg))) hx hb hGx hA_38.1 (show ¬ ((0 : Int32) < 0 ∨ 3 ≤ ((0 : Int32)).toNatClampNeg) by decide) (by decide) rfl dX3_addSpan_114 ?_
                refine lv_aload_n hx hb dX3_addSpan_115 rfl (lv_at hl 2 rfl) ?_
                refine lv_iconst (v := 1) hx hb dX3_addSpan_116 (by decide) ?_
                refine m_niald (j := 1) (v := ((sget x_37.2 p0.toNatClampNeg (1 : Int32).toNatClampNeg) + (sget x_37.2 p1.toNatClampNeg (1 : Int32).toNatClampNeg))) hx hb hGx hA_38.1 (show ¬ ((1 : Int32) < 0 ∨ 3 ≤ ((1 : Int32)).toNatClampNeg) by decide) (by decide) rfl dX3_addSpan_117 ?_
                refine lv_aload_n hx hb dX3_addSpan_118 rfl (lv_at hl 2 rfl) ?_
                refine lv_iconst (v := 2) hx hb dX3_addSpan_119 (by decide) ?_
                refine m_niald (j := 2) (v := ((sget x_37.2 p0.toNatClampNeg (2 : Int32).toNatClampNeg) + (sget x_37.2 p1.toNatClampNeg (2 : Int32).toNatClampNeg))) hx hb hGx hA_38.1 (show ¬ ((2 : Int32) < 0 ∨ 3 ≤ ((2 : Int32)).toNatClampNeg) by decide) (by decide) rfl dX3_addSpan_120 ?_
                obtain ⟨x_42, hx_42, hm⟩ := Option.bind_eq_some_iff.mp hm
                refine mc_V hC hGx hD (k_X3_tells l k b L hD p0 ((sget x_37.2 p0.toNatClampNeg (0 : Int32).toNatClampNeg) + (sget x_37.2 p1.toNatClampNeg (0 : Int32).toNatClampNeg)) ((sget x_37.2 p0.toNatClampNeg (1 : Int32).toNatClampNeg) + (sget x_37.2 p1.toNatClampNeg (1 : Int32).toNatClampNeg)) ((sget x_37.2 p0.toNatClampNeg (2 : Int32).toNatClampNeg) + (sget x_37.2 p1.toNatClampNeg (2 : Int32).toNatClampNeg))  x_41.2 hx_42) (gV w_1205 w_1206 w_21 w_27 w_1207) kk_X3_tells rfl (List.forall_mem_nil _) hLb ⟨Nat.le_of_ble_eq_true rfl, Nat.le_of_ble_eq_true rfl⟩ ⟨Nat.le_of_ble_eq_true rfl, Nat.le_of_ble_eq_true rfl⟩ hV hS hl.1 rfl rfl (Nat.le_of_ble_eq_true rfl) dX3_addSpan_121 (fun q_42 H locs hV hS hz hq => ?_)
                have hA_38 := hA_38.up hq
                exact m_iret hx hb hr hlocks (Option.some.inj hm) hV hS ⟨Nat.le_of_ble_eq_true rfl, Nat.le_of_ble_eq_true rfl⟩ dX3_addSpan_124
              · have hm := (if_neg h_74).symm.trans hm
                refine lv_iconst (v := 0) hx hb dX3_addSpan_106 (by decide) ?_
                refine lv_goto (tgt := 124) hx hb dX3_addSpan_107 (by decide) ?_
                exact m_iret hx hb hr hlocks (Option.some.inj hm) hV hS ⟨Nat.le_of_ble_eq_true rfl, Nat.le_of_ble_eq_true rfl⟩ dX3_addSpan_124
          · have hm := (if_pos h_69).symm.trans hm
            refine lv_iconst (v := 1) hx hb dX3_addSpan_81 (by decide) ?_
            refine lv_goto (tgt := 86) hx hb dX3_addSpan_82 (by decide) ?_
            refine lv_ior hx hb dX3_addSpan_86 ?_
            refine lv_istore (lv' := [(4, .int (((0 : Int32) ||| (0 : Int32)) ||| (1 : Int32))), (5, .int (1 : Int32)), (3, .ref a_38), (0, .ref b.1), (1, .int p0), (2, .int p1)]) hx hb dX3_addSpan_87 hl (by decide) rfl (fun ls hl => ?_)
            refine lv_iinc (v := (2 : Int32)) (lv' := [(5, .int (2 : Int32)), (4, .int (((0 : Int32) ||| (0 : Int32)) ||| (1 : Int32))), (3, .ref a_38), (0, .ref b.1), (1, .int p0), (2, .int p1)]) hx hb dX3_addSpan_89 hl (k := 1) rfl (by decide) (by decide) rfl (fun ls hl => ?_)
            refine lv_goto (tgt := 40) hx hb dX3_addSpan_92 (by decide) ?_
            refine lv_iload hx hb dX3_addSpan_40 (lv_at hl 0 rfl) ?_
            refine lv_iconst (v := 3) hx hb dX3_addSpan_42 (by decide) ?_
            refine lv_icmp_ge (tgt := 95) hx hb dX3_addSpan_43 (by decide) (fun h => absurd h (by decide)) (fun _ => ?_)
            refine lv_aload_n hx hb dX3_addSpan_46 rfl (lv_at hl 2 rfl) ?_
            refine lv_iload hx hb dX3_addSpan_47 (lv_at hl 0 rfl) ?_
            refine lv_aload_n hx hb dX3_addSpan_49 rfl (lv_at hl 3 rfl) ?_
            refine va_get (D := kD k) (ci := 5) (v := .ref b.2.2.1) (C := RX3) (T := TX3) (N := 5) hx hb htg inG_X3 hown hGx.1 hV.1 0 rfl rfl 2 (by decide) (htg _ w_1013) (fun _ h9 => h9) rfl dX3_addSpan_50 ?_
            refine lv_iload_n hx hb dX3_addSpan_53 rfl (lv_at hl 4 rfl) ?_
            by_cases h_75 : p0 < 0 ∨ 2 ≤ p0.toNatClampNeg
            · have hm := (if_pos h_75).symm.trans hm
              cases hm
            have hm := (if_neg h_75).symm.trans hm
            refine m_lds hx hb hGx hV h_75 dX3_addSpan_54 ?_
            refine lv_iload hx hb dX3_addSpan_55 (lv_at hl 0 rfl) ?_
            refine m_sld hx hb hGx hV (show ¬ ((2 : Int32) < 0 ∨ 3 ≤ ((2 : Int32)).toNatClampNeg) by decide) dX3_addSpan_57 ?_
            refine lv_aload_n hx hb dX3_addSpan_58 rfl (lv_at hl 3 rfl) ?_
            refine va_get (D := kD k) (ci := 5) (v := .ref b.2.2.1) (C := RX3) (T := TX3) (N := 5) hx hb htg inG_X3 hown hGx.1 hV.1 0 rfl rfl 2 (by decide) (htg _ w_1013) (fun _ h9 => h9) rfl dX3_addSpan_59 ?_
            refine lv_iload_n hx hb dX3_addSpan_62 rfl (lv_at hl 5 rfl) ?_
            by_cases h_76 : p1 < 0 ∨ 2 ≤ p1.toNatClampNeg
            · have hm := (if_pos h_76).symm.trans hm
              cases hm
            have hm := (if_neg h_76).symm.trans hm
            refine m_lds hx hb hGx hV h_76 dX3_addSpan_63 ?_
            refine lv_iload hx hb dX3_addSpan_64 (lv_at hl 0 rfl) ?_
            refine m_sld hx hb hGx hV (show ¬ ((2 : Int32) < 0 ∨ 3 ≤ ((2 : Int32)).toNatClampNeg) by decide) dX3_addSpan_66 ?_
            refine lv_iadd hx hb dX3_addSpan_67 ?_
            have hL9 := hS.2
            refine m_niast (j := 2) hx hb hGx (Nat.le_trans hs_38 hn_38) hA_38.1 (show ¬ ((2 : Int32) < 0 ∨ 3 ≤ ((2 : Int32)).toNatClampNeg) by decide) (by decide) hS.1 hA dX3_addSpan_68 (fun H hA_38 hz9 hq9 hS => ?_)
            have hq_38 := m_q2 hn_38 hz_38 hq_38 hq9
            have hz_38 := Nat.le_trans hz_38 hz9
            have hS : mS b s.heap H _ := ⟨hS, hL9⟩
            have hV := hV_38.up hq_38
            have hA_38 := aF.made hLn_38 hn_38 hA_38
            refine lv_iload hx hb dX3_addSpan_69 (lv_at hl 1 rfl) ?_
            refine lv_aload_n hx hb dX3_addSpan_71 rfl (lv_at hl 2 rfl) ?_
            refine lv_iload hx hb dX3_addSpan_72 (lv_at hl 0 rfl) ?_
            refine m_niald (j := 2) (v := ((sget x_37.2 p0.toNatClampNeg (2 : Int32).toNatClampNeg) + (sget x_37.2 p1.toNatClampNeg (2 : Int32).toNatClampNeg))) hx hb hGx hA_38.1 (show ¬ ((2 : Int32) < 0 ∨ 3 ≤ ((2 : Int32)).toNatClampNeg) by decide) (by decide) rfl dX3_addSpan_74 ?_
            refine pc_S hC (c_X3_isNumber l ((sget x_37.2 p0.toNatClampNeg (2 : Int32).toNatClampNeg) + (sget x_37.2 p1.toNatClampNeg (2 : Int32).toNatClampNeg))) (gS w_1200 w_1201 w_27 w_1202) kk_X3_isNumber ⟨Nat.le_of_ble_eq_true rfl, Nat.le_of_ble_eq_true rfl⟩ ⟨Nat.le_of_ble_eq_true rfl, Nat.le_of_ble_eq_true rfl⟩ hl.1 rfl rfl (Nat.le_of_ble_eq_true rfl) dX3_addSpan_75 ?_
            refine lv_if_ne (tgt := 85) hx hb dX3_addSpan_78 (by decide) (fun h_77 => ?_) (fun h_77 => ?_)
            · have hm := (if_neg h_77).symm.trans hm
              refine lv_iconst (v := 0) hx hb dX3_addSpan_85 (by decide) ?_
              refine lv_ior hx hb dX3_addSpan_86 ?_
              refine lv_istore (lv' := [(4, .int ((((0 : Int32) ||| (0 : Int32)) ||| (1 : Int32)) ||| (0 : Int32))), (5, .int (2 : Int32)), (3, .ref a_38), (0, .ref b.1), (1, .int p0), (2, .int p1)]) hx hb dX3_addSpan_87 hl (by decide) rfl (fun ls hl => ?_)
              refine lv_iinc (v := (3 : Int32)) (lv' := [(5, .int (3 : Int32)), (4, .int ((((0 : Int32) ||| (0 : Int32)) ||| (1 : Int32)) ||| (0 : Int32))), (3, .ref a_38), (0, .ref b.1), (1, .int p0), (2, .int p1)]) hx hb dX3_addSpan_89 hl (k := 1) rfl (by decide) (by decide) rfl (fun ls hl => ?_)
              refine lv_goto (tgt := 40) hx hb dX3_addSpan_92 (by decide) ?_
              refine lv_iload hx hb dX3_addSpan_40 (lv_at hl 0 rfl) ?_
              refine lv_iconst (v := 3) hx hb dX3_addSpan_42 (by decide) ?_
              refine lv_icmp_ge (tgt := 95) hx hb dX3_addSpan_43 (by decide) (fun _ => ?_) (fun h => absurd h (by decide))
              refine lv_aload_n hx hb dX3_addSpan_95 rfl (lv_at hl 3 rfl) ?_
              refine lv_iconst (v := 0) hx hb dX3_addSpan_96 (by decide) ?_
              refine lv_iload hx hb dX3_addSpan_97 (lv_at hl 1 rfl) ?_
              refine lv_iconst (v := 0) hx hb dX3_addSpan_99 (by decide) ?_
              obtain ⟨x_43, hx_43, hm⟩ := Option.bind_eq_some_iff.mp hm
              refine mc_V hC hGx hD (k_X3_fails l k b L hD (0 : Int32) ((((0 : Int32) ||| (0 : Int32)) ||| (1 : Int32)) ||| (0 : Int32)) (0 : Int32)  x_37.2 hx_43) (gV w_1056 w_1057 w_18 w_27 w_1058) kk_X3_fails rfl (List.forall_mem_nil _) hLb ⟨Nat.le_of_ble_eq_true rfl, Nat.le_of_ble_eq_true rfl⟩ ⟨Nat.le_of_ble_eq_true rfl, Nat.le_of_ble_eq_true rfl⟩ hV hS hl.1 rfl rfl (Nat.le_of_ble_eq_true rfl) dX3_addSpan_100 (fun q_43 H locs hV hS hz hq => ?_)
              have hA_38 := hA_38.up hq
              refine lv_if_eq (tgt := 110) hx hb dX3_addSpan_103 (by decide) (fun h_78 => ?_) (fun h_78 => ?_)
              · have hm := (if_pos h_78).symm.trans hm
                refine lv_aload_n hx hb dX3_addSpan_110 rfl (lv_at hl 3 rfl) ?_
                refine lv_iload_n hx hb dX3_addSpan_111 rfl (lv_at hl 4 rfl) ?_
                refine lv_aload_n hx hb dX3_addSpan_112 rfl (lv_at hl 2 rfl) ?_
                refine lv_iconst (v := 0) hx hb dX3_addSpan_113 (by decide) ?_
                refine m_niald (j := 0) (v := ((sget x_37.2 p0.toNatClampNeg (0 : Int32).toNatClampNeg) + (sget x_37.2 p1.toNatClampNeg (0 : Int32).toNatClampNeg))) hx hb hGx hA_38.1 (show ¬ ((0 : Int32) < 0 ∨ 3 ≤ ((0 : Int32)).toNatClampNeg) by decide) (by decide) rfl dX3_addSpan_114 ?_
                refine lv_aload_n hx hb dX3_addSpan_115 rfl (lv_at hl 2 rfl) ?_
                refine lv_iconst (v := 1) hx hb dX3_addSpan_116 (by decide) ?_
                refine m_niald (j := 1) (v := ((sget x_37.2 p0.toNatClampNeg (1 : Int32).toNatClampNeg) + (sget x_37.2 p1.toNatClampNeg (1 : Int32).toNatClampNeg))) hx hb hGx hA_38.1 (show ¬ ((1 : Int32) < 0 ∨ 3 ≤ ((1 : Int32)).toNatClampNeg) by decide) (by decide) rfl dX3_addSpan_117 ?_
                refine lv_aload_n hx hb dX3_addSpan_118 rfl (lv_at hl 2 rfl) ?_
                refine lv_iconst (v := 2) hx hb dX3_addSpan_119 (by decide) ?_
                refine m_niald (j := 2) (v := ((sget x_37.2 p0.toNatClampNeg (2 : Int32).toNatClampNeg) + (sget x_37.2 p1.toNatClampNeg (2 : Int32).toNatClampNeg))) hx hb hGx hA_38.1 (show ¬ ((2 : Int32) < 0 ∨ 3 ≤ ((2 : Int32)).toNatClampNeg) by decide) (by decide) rfl dX3_addSpan_120 ?_
                obtain ⟨x_44, hx_44, hm⟩ := Option.bind_eq_some_iff.mp hm
                refine mc_V hC hGx hD (k_X3_tells l k b L hD p0 ((sget x_37.2 p0.toNatClampNeg (0 : Int32).toNatClampNeg) + (sget x_37.2 p1.toNatClampNeg (0 : Int32).toNatClampNeg)) ((sget x_37.2 p0.toNatClampNeg (1 : Int32).toNatClampNeg) + (sget x_37.2 p1.toNatClampNeg (1 : Int32).toNatClampNeg)) ((sget x_37.2 p0.toNatClampNeg (2 : Int32).toNatClampNeg) + (sget x_37.2 p1.toNatClampNeg (2 : Int32).toNatClampNeg))  x_43.2 hx_44) (gV w_1205 w_1206 w_21 w_27 w_1207) kk_X3_tells rfl (List.forall_mem_nil _) hLb ⟨Nat.le_of_ble_eq_true rfl, Nat.le_of_ble_eq_true rfl⟩ ⟨Nat.le_of_ble_eq_true rfl, Nat.le_of_ble_eq_true rfl⟩ hV hS hl.1 rfl rfl (Nat.le_of_ble_eq_true rfl) dX3_addSpan_121 (fun q_44 H locs hV hS hz hq => ?_)
                have hA_38 := hA_38.up hq
                exact m_iret hx hb hr hlocks (Option.some.inj hm) hV hS ⟨Nat.le_of_ble_eq_true rfl, Nat.le_of_ble_eq_true rfl⟩ dX3_addSpan_124
              · have hm := (if_neg h_78).symm.trans hm
                refine lv_iconst (v := 0) hx hb dX3_addSpan_106 (by decide) ?_
                refine lv_goto (tgt := 124) hx hb dX3_addSpan_107 (by decide) ?_
                exact m_iret hx hb hr hlocks (Option.some.inj hm) hV hS ⟨Nat.le_of_ble_eq_true rfl, Nat.le_of_ble_eq_true rfl⟩ dX3_addSpan_124
            · have hm := (if_pos h_77).symm.trans hm
              refine lv_iconst (v := 1) hx hb dX3_addSpan_81 (by decide) ?_
              refine lv_goto (tgt := 86) hx hb dX3_addSpan_82 (by decide) ?_
              refine lv_ior hx hb dX3_addSpan_86 ?_
              refine lv_istore (lv' := [(4, .int ((((0 : Int32) ||| (0 : Int32)) ||| (1 : Int32)) ||| (1 : Int32))), (5, .int (2 : Int32)), (3, .ref a_38), (0, .ref b.1), (1, .int p0), (2, .int p1)]) hx hb dX3_addSpan_87 hl (by decide) rfl (fun ls hl => ?_)
              refine lv_iinc (v := (3 : Int32)) (lv' := [(5, .int (3 : Int32)), (4, .int ((((0 : Int32) ||| (0 : Int32)) ||| (1 : Int32)) ||| (1 : Int32))), (3, .ref a_38), (0, .ref b.1), (1, .int p0), (2, .int p1)]) hx hb dX3_addSpan_89 hl (k := 1) rfl (by decide) (by decide) rfl (fun ls hl => ?_)
              refine lv_goto (tgt := 40) hx hb dX3_addSpan_92 (by decide) ?_
              refine lv_iload hx hb dX3_addSpan_40 (lv_at hl 0 rfl) ?_
              refine lv_iconst (v := 3) hx hb dX3_addSpan_42 (by decide) ?_
              refine lv_icmp_ge (tgt := 95) hx hb dX3_addSpan_43 (by decide) (fun _ => ?_) (fun h => absurd h (by decide))
              refine lv_aload_n hx hb dX3_addSpan_95 rfl (lv_at hl 3 rfl) ?_
              refine lv_iconst (v := 0) hx hb dX3_addSpan_96 (by decide) ?_
              refine lv_iload hx hb dX3_addSpan_97 (lv_at hl 1 rfl) ?_
              refine lv_iconst (v := 0) hx hb dX3_addSpan_99 (by decide) ?_
              obtain ⟨x_45, hx_45, hm⟩ := Option.bind_eq_some_iff.mp hm
              refine mc_V hC hGx hD (k_X3_fails l k b L hD (0 : Int32) ((((0 : Int32) ||| (0 : Int32)) ||| (1 : Int32)) ||| (1 : Int32)) (0 : Int32)  x_37.2 hx_45) (gV w_1056 w_1057 w_18 w_27 w_1058) kk_X3_fails rfl (List.forall_mem_nil _) hLb ⟨Nat.le_of_ble_eq_true rfl, Nat.le_of_ble_eq_true rfl⟩ ⟨Nat.le_of_ble_eq_true rfl, Nat.le_of_ble_eq_true rfl⟩ hV hS hl.1 rfl rfl (Nat.le_of_ble_eq_true rfl) dX3_addSpan_100 (fun q_45 H locs hV hS hz hq => ?_)
              have hA_38 := hA_38.up hq
              refine lv_if_eq (tgt := 110) hx hb dX3_addSpan_103 (by decide) (fun h_79 => ?_) (fun h_79 => ?_)
              · have hm := (if_pos h_79).symm.trans hm
                refine lv_aload_n hx hb dX3_addSpan_110 rfl (lv_at hl 3 rfl) ?_
                refine lv_iload_n hx hb dX3_addSpan_111 rfl (lv_at hl 4 rfl) ?_
                refine lv_aload_n hx hb dX3_addSpan_112 rfl (lv_at hl 2 rfl) ?_
                refine lv_iconst (v := 0) hx hb dX3_addSpan_113 (by decide) ?_
                refine m_niald (j := 0) (v := ((sget x_37.2 p0.toNatClampNeg (0 : Int32).toNatClampNeg) + (sget x_37.2 p1.toNatClampNeg (0 : Int32).toNatClampNeg))) hx hb hGx hA_38.1 (show ¬ ((0 : Int32) < 0 ∨ 3 ≤ ((0 : Int32)).toNatClampNeg) by decide) (by decide) rfl dX3_addSpan_114 ?_
                refine lv_aload_n hx hb dX3_addSpan_115 rfl (lv_at hl 2 rfl) ?_
                refine lv_iconst (v := 1) hx hb dX3_addSpan_116 (by decide) ?_
                refine m_niald (j := 1) (v := ((sget x_37.2 p0.toNatClampNeg (1 : Int32).toNatClampNeg) + (sget x_37.2 p1.toNatClampNeg (1 : Int32).toNatClampNeg))) hx hb hGx hA_38.1 (show ¬ ((1 : Int32) < 0 ∨ 3 ≤ ((1 : Int32)).toNatClampNeg) by decide) (by decide) rfl dX3_addSpan_117 ?_
                refine lv_aload_n hx hb dX3_addSpan_118 rfl (lv_at hl 2 rfl) ?_
                refine lv_iconst (v := 2) hx hb dX3_addSpan_119 (by decide) ?_
                refine m_niald (j := 2) (v := ((sget x_37.2 p0.toNatClampNeg (2 : Int32).toNatClampNeg) + (sget x_37.2 p1.toNatClampNeg (2 : Int32).toNatClampNeg))) hx hb hGx hA_38.1 (show ¬ ((2 : Int32) < 0 ∨ 3 ≤ ((2 : Int32)).toNatClampNeg) by decide) (by decide) rfl dX3_addSpan_120 ?_
                obtain ⟨x_46, hx_46, hm⟩ := Option.bind_eq_some_iff.mp hm
                refine mc_V hC hGx hD (k_X3_tells l k b L hD p0 ((sget x_37.2 p0.toNatClampNeg (0 : Int32).toNatClampNeg) + (sget x_37.2 p1.toNatClampNeg (0 : Int32).toNatClampNeg)) ((sget x_37.2 p0.toNatClampNeg (1 : Int32).toNatClampNeg) + (sget x_37.2 p1.toNatClampNeg (1 : Int32).toNatClampNeg)) ((sget x_37.2 p0.toNatClampNeg (2 : Int32).toNatClampNeg) + (sget x_37.2 p1.toNatClampNeg (2 : Int32).toNatClampNeg))  x_45.2 hx_46) (gV w_1205 w_1206 w_21 w_27 w_1207) kk_X3_tells rfl (List.forall_mem_nil _) hLb ⟨Nat.le_of_ble_eq_true rfl, Nat.le_of_ble_eq_true rfl⟩ ⟨Nat.le_of_ble_eq_true rfl, Nat.le_of_ble_eq_true rfl⟩ hV hS hl.1 rfl rfl (Nat.le_of_ble_eq_true rfl) dX3_addSpan_121 (fun q_46 H locs hV hS hz hq => ?_)
                have hA_38 := hA_38.up hq
                exact m_iret hx hb hr hlocks (Option.some.inj hm) hV hS ⟨Nat.le_of_ble_eq_true rfl, Nat.le_of_ble_eq_true rfl⟩ dX3_addSpan_124
              · have hm := (if_neg h_79).symm.trans hm
                refine lv_iconst (v := 0) hx hb dX3_addSpan_106 (by decide) ?_
                refine lv_goto (tgt := 124) hx hb dX3_addSpan_107 (by decide) ?_
                exact m_iret hx hb hr hlocks (Option.some.inj hm) hV hS ⟨Nat.le_of_ble_eq_true rfl, Nat.le_of_ble_eq_true rfl⟩ dX3_addSpan_124
        · have hm := (if_pos h_66).symm.trans hm
          refine lv_iconst (v := 1) hx hb dX3_addSpan_81 (by decide) ?_
          refine lv_goto (tgt := 86) hx hb dX3_addSpan_82 (by decide) ?_
          refine lv_ior hx hb dX3_addSpan_86 ?_
          refine lv_istore (lv' := [(4, .int ((0 : Int32) ||| (1 : Int32))), (5, .int (0 : Int32)), (3, .ref a_38), (0, .ref b.1), (1, .int p0), (2, .int p1)]) hx hb dX3_addSpan_87 hl (by decide) rfl (fun ls hl => ?_)
          refine lv_iinc (v := (1 : Int32)) (lv' := [(5, .int (1 : Int32)), (4, .int ((0 : Int32) ||| (1 : Int32))), (3, .ref a_38), (0, .ref b.1), (1, .int p0), (2, .int p1)]) hx hb dX3_addSpan_89 hl (k := 1) rfl (by decide) (by decide) rfl (fun ls hl => ?_)
          refine lv_goto (tgt := 40) hx hb dX3_addSpan_92 (by decide) ?_
          refine lv_iload hx hb dX3_addSpan_40 (lv_at hl 0 rfl) ?_
          refine lv_iconst (v := 3) hx hb dX3_addSpan_42 (by decide) ?_
          refine lv_icmp_ge (tgt := 95) hx hb dX3_addSpan_43 (by decide) (fun h => absurd h (by decide)) (fun _ => ?_)
          refine lv_aload_n hx hb dX3_addSpan_46 rfl (lv_at hl 2 rfl) ?_
          refine lv_iload hx hb dX3_addSpan_47 (lv_at hl 0 rfl) ?_
          refine lv_aload_n hx hb dX3_addSpan_49 rfl (lv_at hl 3 rfl) ?_
          refine va_get (D := kD k) (ci := 5) (v := .ref b.2.2.1) (C := RX3) (T := TX3) (N := 5) hx hb htg inG_X3 hown hGx.1 hV.1 0 rfl rfl 2 (by decide) (htg _ w_1013) (fun _ h9 => h9) rfl dX3_addSpan_50 ?_
          refine lv_iload_n hx hb dX3_addSpan_53 rfl (lv_at hl 4 rfl) ?_
          by_cases h_80 : p0 < 0 ∨ 2 ≤ p0.toNatClampNeg
          · have hm := (if_pos h_80).symm.trans hm
            cases hm
          have hm := (if_neg h_80).symm.trans hm
          refine m_lds hx hb hGx hV h_80 dX3_addSpan_54 ?_
          refine lv_iload hx hb dX3_addSpan_55 (lv_at hl 0 rfl) ?_
          refine m_sld hx hb hGx hV (show ¬ ((1 : Int32) < 0 ∨ 3 ≤ ((1 : Int32)).toNatClampNeg) by decide) dX3_addSpan_57 ?_
          refine lv_aload_n hx hb dX3_addSpan_58 rfl (lv_at hl 3 rfl) ?_
          refine va_get (D := kD k) (ci := 5) (v := .ref b.2.2.1) (C := RX3) (T := TX3) (N := 5) hx hb htg inG_X3 hown hGx.1 hV.1 0 rfl rfl 2 (by decide) (htg _ w_1013) (fun _ h9 => h9) rfl dX3_addSpan_59 ?_
          refine lv_iload_n hx hb dX3_addSpan_62 rfl (lv_at hl 5 rfl) ?_
          by_cases h_81 : p1 < 0 ∨ 2 ≤ p1.toNatClampNeg
          · have hm := (if_pos h_81).symm.trans hm
            cases hm
          have hm := (if_neg h_81).symm.trans hm
          refine m_lds hx hb hGx hV h_81 dX3_addSpan_63 ?_
          refine lv_iload hx hb dX3_addSpan_64 (lv_at hl 0 rfl) ?_
          refine m_sld hx hb hGx hV (show ¬ ((1 : Int32) < 0 ∨ 3 ≤ ((1 : Int32)).toNatClampNeg) by decide) dX3_addSpan_66 ?_
          refine lv_iadd hx hb dX3_addSpan_67 ?_
          have hL9 := hS.2
          refine m_niast (j := 1) hx hb hGx (Nat.le_trans hs_38 hn_38) hA_38.1 (show ¬ ((1 : Int32) < 0 ∨ 3 ≤ ((1 : Int32)).toNatClampNeg) by decide) (by decide) hS.1 hA dX3_addSpan_68 (fun H hA_38 hz9 hq9 hS => ?_)
          have hq_38 := m_q2 hn_38 hz_38 hq_38 hq9
          have hz_38 := Nat.le_trans hz_38 hz9
          have hS : mS b s.heap H _ := ⟨hS, hL9⟩
          have hV := hV_38.up hq_38
          have hA_38 := aF.made hLn_38 hn_38 hA_38
          refine lv_iload hx hb dX3_addSpan_69 (lv_at hl 1 rfl) ?_
          refine lv_aload_n hx hb dX3_addSpan_71 rfl (lv_at hl 2 rfl) ?_
          refine lv_iload hx hb dX3_addSpan_72 (lv_at hl 0 rfl) ?_
          refine m_niald (j := 1) (v := ((sget x_37.2 p0.toNatClampNeg (1 : Int32).toNatClampNeg) + (sget x_37.2 p1.toNatClampNeg (1 : Int32).toNatClampNeg))) hx hb hGx hA_38.1 (show ¬ ((1 : Int32) < 0 ∨ 3 ≤ ((1 : Int32)).toNatClampNeg) by decide) (by decide) rfl dX3_addSpan_74 ?_
          refine pc_S hC (c_X3_isNumber l ((sget x_37.2 p0.toNatClampNeg (1 : Int32).toNatClampNeg) + (sget x_37.2 p1.toNatClampNeg (1 : Int32).toNatClampNeg))) (gS w_1200 w_1201 w_27 w_1202) kk_X3_isNumber ⟨Nat.le_of_ble_eq_true rfl, Nat.le_of_ble_eq_true rfl⟩ ⟨Nat.le_of_ble_eq_true rfl, Nat.le_of_ble_eq_true rfl⟩ hl.1 rfl rfl (Nat.le_of_ble_eq_true rfl) dX3_addSpan_75 ?_
          refine lv_if_ne (tgt := 85) hx hb dX3_addSpan_78 (by decide) (fun h_82 => ?_) (fun h_82 => ?_)
          · have hm := (if_neg h_82).symm.trans hm
            refine lv_iconst (v := 0) hx hb dX3_addSpan_85 (by decide) ?_
            refine lv_ior hx hb dX3_addSpan_86 ?_
            refine lv_istore (lv' := [(4, .int (((0 : Int32) ||| (1 : Int32)) ||| (0 : Int32))), (5, .int (1 : Int32)), (3, .ref a_38), (0, .ref b.1), (1, .int p0), (2, .int p1)]) hx hb dX3_addSpan_87 hl (by decide) rfl (fun ls hl => ?_)
            refine lv_iinc (v := (2 : Int32)) (lv' := [(5, .int (2 : Int32)), (4, .int (((0 : Int32) ||| (1 : Int32)) ||| (0 : Int32))), (3, .ref a_38), (0, .ref b.1), (1, .int p0), (2, .int p1)]) hx hb dX3_addSpan_89 hl (k := 1) rfl (by decide) (by decide) rfl (fun ls hl => ?_)
            refine lv_goto (tgt := 40) hx hb dX3_addSpan_92 (by decide) ?_
            refine lv_iload hx hb dX3_addSpan_40 (lv_at hl 0 rfl) ?_
            refine lv_iconst (v := 3) hx hb dX3_addSpan_42 (by decide) ?_
            refine lv_icmp_ge (tgt := 95) hx hb dX3_addSpan_43 (by decide) (fun h => absurd h (by decide)) (fun _ => ?_)
            refine lv_aload_n hx hb dX3_addSpan_46 rfl (lv_at hl 2 rfl) ?_
            refine lv_iload hx hb dX3_addSpan_47 (lv_at hl 0 rfl) ?_
            refine lv_aload_n hx hb dX3_addSpan_49 rfl (lv_at hl 3 rfl) ?_
            refine va_get (D := kD k) (ci := 5) (v := .ref b.2.2.1) (C := RX3) (T := TX3) (N := 5) hx hb htg inG_X3 hown hGx.1 hV.1 0 rfl rfl 2 (by decide) (htg _ w_1013) (fun _ h9 => h9) rfl dX3_addSpan_50 ?_
            refine lv_iload_n hx hb dX3_addSpan_53 rfl (lv_at hl 4 rfl) ?_
            by_cases h_83 : p0 < 0 ∨ 2 ≤ p0.toNatClampNeg
            · have hm := (if_pos h_83).symm.trans hm
              cases hm
            have hm := (if_neg h_83).symm.trans hm
            refine m_lds hx hb hGx hV h_83 dX3_addSpan_54 ?_
            refine lv_iload hx hb dX3_addSpan_55 (lv_at hl 0 rfl) ?_
            refine m_sld hx hb hGx hV (show ¬ ((2 : Int32) < 0 ∨ 3 ≤ ((2 : Int32)).toNatClampNeg) by decide) dX3_addSpan_57 ?_
            refine lv_aload_n hx hb dX3_addSpan_58 rfl (lv_at hl 3 rfl) ?_
            refine va_get (D := kD k) (ci := 5) (v := .ref b.2.2.1) (C := RX3) (T := TX3) (N := 5) hx hb htg inG_X3 hown hGx.1 hV.1 0 rfl rfl 2 (by decide) (htg _ w_1013) (fun _ h9 => h9) rfl dX3_addSpan_59 ?_
            refine lv_iload_n hx hb dX3_addSpan_62 rfl (lv_at hl 5 rfl) ?_
            by_cases h_84 : p1 < 0 ∨ 2 ≤ p1.toNatClampNeg
            · have hm := (if_pos h_84).symm.trans hm
              cases hm
            have hm := (if_neg h_84).symm.trans hm
            refine m_lds hx hb hGx hV h_84 dX3_addSpan_63 ?_
            refine lv_iload hx hb dX3_addSpan_64 (lv_at hl 0 rfl) ?_
            refine m_sld hx hb hGx hV (show ¬ ((2 : Int32) < 0 ∨ 3 ≤ ((2 : Int32)).toNatClampNeg) by decide) dX3_addSpan_66 ?_
            refine lv_iadd hx hb dX3_addSpan_67 ?_
            have hL9 := hS.2
            refine m_niast (j := 2) hx hb hGx (Nat.le_trans hs_38 hn_38) hA_38.1 (show ¬ ((2 : Int32) < 0 ∨ 3 ≤ ((2 : Int32)).toNatClampNeg) by decide) (by decide) hS.1 hA dX3_addSpan_68 (fun H hA_38 hz9 hq9 hS => ?_)
            have hq_38 := m_q2 hn_38 hz_38 hq_38 hq9
            have hz_38 := Nat.le_trans hz_38 hz9
            have hS : mS b s.heap H _ := ⟨hS, hL9⟩
            have hV := hV_38.up hq_38
            have hA_38 := aF.made hLn_38 hn_38 hA_38
            refine lv_iload hx hb dX3_addSpan_69 (lv_at hl 1 rfl) ?_
            refine lv_aload_n hx hb dX3_addSpan_71 rfl (lv_at hl 2 rfl) ?_
            refine lv_iload hx hb dX3_addSpan_72 (lv_at hl 0 rfl) ?_
            refine m_niald (j := 2) (v := ((sget x_37.2 p0.toNatClampNeg (2 : Int32).toNatClampNeg) + (sget x_37.2 p1.toNatClampNeg (2 : Int32).toNatClampNeg))) hx hb hGx hA_38.1 (show ¬ ((2 : Int32) < 0 ∨ 3 ≤ ((2 : Int32)).toNatClampNeg) by decide) (by decide) rfl dX3_addSpan_74 ?_
            refine pc_S hC (c_X3_isNumber l ((sget x_37.2 p0.toNatClampNeg (2 : Int32).toNatClampNeg) + (sget x_37.2 p1.toNatClampNeg (2 : Int32).toNatClampNeg))) (gS w_1200 w_1201 w_27 w_1202) kk_X3_isNumber ⟨Nat.le_of_ble_eq_true rfl, Nat.le_of_ble_eq_true rfl⟩ ⟨Nat.le_of_ble_eq_true rfl, Nat.le_of_ble_eq_true rfl⟩ hl.1 rfl rfl (Nat.le_of_ble_eq_true rfl) dX3_addSpan_75 ?_
            refine lv_if_ne (tgt := 85) hx hb dX3_addSpan_78 (by decide) (fun h_85 => ?_) (fun h_85 => ?_)
            · have hm := (if_neg h_85).symm.trans hm
              refine lv_iconst (v := 0) hx hb dX3_addSpan_85 (by decide) ?_
              refine lv_ior hx hb dX3_addSpan_86 ?_
              refine lv_istore (lv' := [(4, .int ((((0 : Int32) ||| (1 : Int32)) ||| (0 : Int32)) ||| (0 : Int32))), (5, .int (2 : Int32)), (3, .ref a_38), (0, .ref b.1), (1, .int p0), (2, .int p1)]) hx hb dX3_addSpan_87 hl (by decide) rfl (fun ls hl => ?_)
              refine lv_iinc (v := (3 : Int32)) (lv' := [(5, .int (3 : Int32)), (4, .int ((((0 : Int32) ||| (1 : Int32)) ||| (0 : Int32)) ||| (0 : Int32))), (3, .ref a_38), (0, .ref b.1), (1, .int p0), (2, .int p1)]) hx hb dX3_addSpan_89 hl (k := 1) rfl (by decide) (by decide) rfl (fun ls hl => ?_)
              refine lv_goto (tgt := 40) hx hb dX3_addSpan_92 (by decide) ?_
              refine lv_iload hx hb dX3_addSpan_40 (lv_at hl 0 rfl) ?_
              refine lv_iconst (v := 3) hx hb dX3_addSpan_42 (by decide) ?_
              refine lv_icmp_ge (tgt := 95) hx hb dX3_addSpan_43 (by decide) (fun _ => ?_) (fun h => absurd h (by decide))
              refine lv_aload_n hx hb dX3_addSpan_95 rfl (lv_at hl 3 rfl) ?_
              refine lv_iconst (v := 0) hx hb dX3_addSpan_96 (by decide) ?_
              refine lv_iload hx hb dX3_addSpan_97 (lv_at hl 1 rfl) ?_
              refine lv_iconst (v := 0) hx hb dX3_addSpan_99 (by decide) ?_
              obtain ⟨x_47, hx_47, hm⟩ := Option.bind_eq_some_iff.mp hm
              refine mc_V hC hGx hD (k_X3_fails l k b L hD (0 : Int32) ((((0 : Int32) ||| (1 : Int32)) ||| (0 : Int32)) ||| (0 : Int32)) (0 : Int32)  x_37.2 hx_47) (gV w_1056 w_1057 w_18 w_27 w_1058) kk_X3_fails rfl (List.forall_mem_nil _) hLb ⟨Nat.le_of_ble_eq_true rfl, Nat.le_of_ble_eq_true rfl⟩ ⟨Nat.le_of_ble_eq_true rfl, Nat.le_of_ble_eq_true rfl⟩ hV hS hl.1 rfl rfl (Nat.le_of_ble_eq_true rfl) dX3_addSpan_100 (fun q_47 H locs hV hS hz hq => ?_)
              have hA_38 := hA_38.up hq
              refine lv_if_eq (tgt := 110) hx hb dX3_addSpan_103 (by decide) (fun h_86 => ?_) (fun h_86 => ?_)
              · have hm := (if_pos h_86).symm.trans hm
                refine lv_aload_n hx hb dX3_addSpan_110 rfl (lv_at hl 3 rfl) ?_
                refine lv_iload_n hx hb dX3_addSpan_111 rfl (lv_at hl 4 rfl) ?_
                refine lv_aload_n hx hb dX3_addSpan_112 rfl (lv_at hl 2 rfl) ?_
                refine lv_iconst (v := 0) hx hb dX3_addSpan_113 (by decide) ?_
                refine m_niald (j := 0) (v := ((sget x_37.2 p0.toNatClampNeg (0 : Int32).toNatClampNeg) + (sget x_37.2 p1.toNatClampNeg (0 : Int32).toNatClampNeg))) hx hb hGx hA_38.1 (show ¬ ((0 : Int32) < 0 ∨ 3 ≤ ((0 : Int32)).toNatClampNeg) by decide) (by decide) rfl dX3_addSpan_114 ?_
                refine lv_aload_n hx hb dX3_addSpan_115 rfl (lv_at hl 2 rfl) ?_
                refine lv_iconst (v := 1) hx hb dX3_addSpan_116 (by decide) ?_
                refine m_niald (j := 1) (v := ((sget x_37.2 p0.toNatClampNeg (1 : Int32).toNatClampNeg) + (sget x_37.2 p1.toNatClampNeg (1 : Int32).toNatClampNeg))) hx hb hGx hA_38.1 (show ¬ ((1 : Int32) < 0 ∨ 3 ≤ ((1 : Int32)).toNatClampNeg) by decide) (by decide) rfl dX3_addSpan_117 ?_
                refine lv_aload_n hx hb dX3_addSpan_118 rfl (lv_at hl 2 rfl) ?_
                refine lv_iconst (v := 2) hx hb dX3_addSpan_119 (by decide) ?_
                refine m_niald (j := 2) (v := ((sget x_37.2 p0.toNatClampNeg (2 : Int32).toNatClampNeg) + (sget x_37.2 p1.toNatClampNeg (2 : Int32).toNatClampNeg))) hx hb hGx hA_38.1 (show ¬ ((2 : Int32) < 0 ∨ 3 ≤ ((2 : Int32)).toNatClampNeg) by decide) (by decide) rfl dX3_addSpan_120 ?_
                obtain ⟨x_48, hx_48, hm⟩ := Option.bind_eq_some_iff.mp hm
                refine mc_V hC hGx hD (k_X3_tells l k b L hD p0 ((sget x_37.2 p0.toNatClampNeg (0 : Int32).toNatClampNeg) + (sget x_37.2 p1.toNatClampNeg (0 : Int32).toNatClampNeg)) ((sget x_37.2 p0.toNatClampNeg (1 : Int32).toNatClampNeg) + (sget x_37.2 p1.toNatClampNeg (1 : Int32).toNatClampNeg)) ((sget x_37.2 p0.toNatClampNeg (2 : Int32).toNatClampNeg) + (sget x_37.2 p1.toNatClampNeg (2 : Int32).toNatClampNeg))  x_47.2 hx_48) (gV w_1205 w_1206 w_21 w_27 w_1207) kk_X3_tells rfl (List.forall_mem_nil _) hLb ⟨Nat.le_of_ble_eq_true rfl, Nat.le_of_ble_eq_true rfl⟩ ⟨Nat.le_of_ble_eq_true rfl, Nat.le_of_ble_eq_true rfl⟩ hV hS hl.1 rfl rfl (Nat.le_of_ble_eq_true rfl) dX3_addSpan_121 (fun q_48 H locs hV hS hz hq => ?_)
                have hA_38 := hA_38.up hq
                exact m_iret hx hb hr hlocks (Option.some.inj hm) hV hS ⟨Nat.le_of_ble_eq_true rfl, Nat.le_of_ble_eq_true rfl⟩ dX3_addSpan_124
              · have hm := (if_neg h_86).symm.trans hm
                refine lv_iconst (v := 0) hx hb dX3_addSpan_106 (by decide) ?_
                refine lv_goto (tgt := 124) hx hb dX3_addSpan_107 (by decide) ?_
                exact m_iret hx hb hr hlocks (Option.some.inj hm) hV hS ⟨Nat.le_of_ble_eq_true rfl, Nat.le_of_ble_eq_true rfl⟩ dX3_addSpan_124
            · have hm := (if_pos h_85).symm.trans hm
              refine lv_iconst (v := 1) hx hb dX3_addSpan_81 (by decide) ?_
              refine lv_goto (tgt := 86) hx hb dX3_addSpan_82 (by decide) ?_
              refine lv_ior hx hb dX3_addSpan_86 ?_
              refine lv_istore (lv' := [(4, .int ((((0 : Int32) ||| (1 : Int32)) ||| (0 : Int32)) ||| (1 : Int32))), (5, .int (2 : Int32)), (3, .ref a_38), (0, .ref b.1), (1, .int p0), (2, .int p1)]) hx hb dX3_addSpan_87 hl (by decide) rfl (fun ls hl => ?_)
              refine lv_iinc (v := (3 : Int32)) (lv' := [(5, .int (3 : Int32)), (4, .int ((((0 : Int32) ||| (1 : Int32)) ||| (0 : Int32)) ||| (1 : Int32))), (3, .ref a_38), (0, .ref b.1), (1, .int p0), (2, .int p1)]) hx hb dX3_addSpan_89 hl (k := 1) rfl (by decide) (by decide) rfl (fun ls hl => ?_)
              refine lv_goto (tgt := 40) hx hb dX3_addSpan_92 (by decide) ?_
              refine lv_iload hx hb dX3_addSpan_40 (lv_at hl 0 rfl) ?_
              refine lv_iconst (v := 3) hx hb dX3_addSpan_42 (by decide) ?_
              refine lv_icmp_ge (tgt := 95) hx hb dX3_addSpan_43 (by decide) (fun _ => ?_) (fun h => absurd h (by decide))
              refine lv_aload_n hx hb dX3_addSpan_95 rfl (lv_at hl 3 rfl) ?_
              refine lv_iconst (v := 0) hx hb dX3_addSpan_96 (by decide) ?_
              refine lv_iload hx hb dX3_addSpan_97 (lv_at hl 1 rfl) ?_
              refine lv_iconst (v := 0) hx hb dX3_addSpan_99 (by decide) ?_
              obtain ⟨x_49, hx_49, hm⟩ := Option.bind_eq_some_iff.mp hm
              refine mc_V hC hGx hD (k_X3_fails l k b L hD (0 : Int32) ((((0 : Int32) ||| (1 : Int32)) ||| (0 : Int32)) ||| (1 : Int32)) (0 : Int32)  x_37.2 hx_49) (gV w_1056 w_1057 w_18 w_27 w_1058) kk_X3_fails rfl (List.forall_mem_nil _) hLb ⟨Nat.le_of_ble_eq_true rfl, Nat.le_of_ble_eq_true rfl⟩ ⟨Nat.le_of_ble_eq_true rfl, Nat.le_of_ble_eq_true rfl⟩ hV hS hl.1 rfl rfl (Nat.le_of_ble_eq_true rfl) dX3_addSpan_100 (fun q_49 H locs hV hS hz hq => ?_)
              have hA_38 := hA_38.up hq
              refine lv_if_eq (tgt := 110) hx hb dX3_addSpan_103 (by decide) (fun h_87 => ?_) (fun h_87 => ?_)
              · have hm := (if_pos h_87).symm.trans hm
                refine lv_aload_n hx hb dX3_addSpan_110 rfl (lv_at hl 3 rfl) ?_
                refine lv_iload_n hx hb dX3_addSpan_111 rfl (lv_at hl 4 rfl) ?_
                refine lv_aload_n hx hb dX3_addSpan_112 rfl (lv_at hl 2 rfl) ?_
                refine lv_iconst (v := 0) hx hb dX3_addSpan_113 (by decide) ?_
                refine m_niald (j := 0) (v := ((sget x_37.2 p0.toNatClampNeg (0 : Int32).toNatClampNeg) + (sget x_37.2 p1.toNatClampNeg (0 : Int32).toNatClampNeg))) hx hb hGx hA_38.1 (show ¬ ((0 : Int32) < 0 ∨ 3 ≤ ((0 : Int32)).toNatClampNeg) by decide) (by decide) rfl dX3_addSpan_114 ?_
                refine lv_aload_n hx hb dX3_addSpan_115 rfl (lv_at hl 2 rfl) ?_
                refine lv_iconst (v := 1) hx hb dX3_addSpan_116 (by decide) ?_
                refine m_niald (j := 1) (v := ((sget x_37.2 p0.toNatClampNeg (1 : Int32).toNatClampNeg) + (sget x_37.2 p1.toNatClampNeg (1 : Int32).toNatClampNeg))) hx hb hGx hA_38.1 (show ¬ ((1 : Int32) < 0 ∨ 3 ≤ ((1 : Int32)).toNatClampNeg) by decide) (by decide) rfl dX3_addSpan_117 ?_
                refine lv_aload_n hx hb dX3_addSpan_118 rfl (lv_at hl 2 rfl) ?_
                refine lv_iconst (v := 2) hx hb dX3_addSpan_119 (by decide) ?_
                refine m_niald (j := 2) (v := ((sget x_37.2 p0.toNatClampNeg (2 : Int32).toNatClampNeg) + (sget x_37.2 p1.toNatClampNeg (2 : Int32).toNatClampNeg))) hx hb hGx hA_38.1 (show ¬ ((2 : Int32) < 0 ∨ 3 ≤ ((2 : Int32)).toNatClampNeg) by decide) (by decide) rfl dX3_addSpan_120 ?_
                obtain ⟨x_50, hx_50, hm⟩ := Option.bind_eq_some_iff.mp hm
                refine mc_V hC hGx hD (k_X3_tells l k b L hD p0 ((sget x_37.2 p0.toNatClampNeg (0 : Int32).toNatClampNeg) + (sget x_37.2 p1.toNatClampNeg (0 : Int32).toNatClampNeg)) ((sget x_37.2 p0.toNatClampNeg (1 : Int32).toNatClampNeg) + (sget x_37.2 p1.toNatClampNeg (1 : Int32).toNatClampNeg)) ((sget x_37.2 p0.toNatClampNeg (2 : Int32).toNatClampNeg) + (sget x_37.2 p1.toNatClampNeg (2 : Int32).toNatClampNeg))  x_49.2 hx_50) (gV w_1205 w_1206 w_21 w_27 w_1207) kk_X3_tells rfl (List.forall_mem_nil _) hLb ⟨Nat.le_of_ble_eq_true rfl, Nat.le_of_ble_eq_true rfl⟩ ⟨Nat.le_of_ble_eq_true rfl, Nat.le_of_ble_eq_true rfl⟩ hV hS hl.1 rfl rfl (Nat.le_of_ble_eq_true rfl) dX3_addSpan_121 (fun q_50 H locs hV hS hz hq => ?_)
                have hA_38 := hA_38.up hq
                exact m_iret hx hb hr hlocks (Option.some.inj hm) hV hS ⟨Nat.le_of_ble_eq_true rfl, Nat.le_of_ble_eq_true rfl⟩ dX3_addSpan_124
              · have hm := (if_neg h_87).symm.trans hm
                refine lv_iconst (v := 0) hx hb dX3_addSpan_106 (by decide) ?_
                refine lv_goto (tgt := 124) hx hb dX3_addSpan_107 (by decide) ?_
                exact m_iret hx hb hr hlocks (Option.some.inj hm) hV hS ⟨Nat.le_of_ble_eq_true rfl, Nat.le_of_ble_eq_true rfl⟩ dX3_addSpan_124
          · have hm := (if_pos h_82).symm.trans hm
            refine lv_iconst (v := 1) hx hb dX3_addSpan_81 (by decide) ?_
            refine lv_goto (tgt := 86) hx hb dX3_addSpan_82 (by decide) ?_
            refine lv_ior hx hb dX3_addSpan_86 ?_
            refine lv_istore (lv' := [(4, .int (((0 : Int32) ||| (1 : Int32)) ||| (1 : Int32))), (5, .int (1 : Int32)), (3, .ref a_38), (0, .ref b.1), (1, .int p0), (2, .int p1)]) hx hb dX3_addSpan_87 hl (by decide) rfl (fun ls hl => ?_)
            refine lv_iinc (v := (2 : Int32)) (lv' := [(5, .int (2 : Int32)), (4, .int (((0 : Int32) ||| (1 : Int32)) ||| (1 : Int32))), (3, .ref a_38), (0, .ref b.1), (1, .int p0), (2, .int p1)]) hx hb dX3_addSpan_89 hl (k := 1) rfl (by decide) (by decide) rfl (fun ls hl => ?_)
            refine lv_goto (tgt := 40) hx hb dX3_addSpan_92 (by decide) ?_
            refine lv_iload hx hb dX3_addSpan_40 (lv_at hl 0 rfl) ?_
            refine lv_iconst (v := 3) hx hb dX3_addSpan_42 (by decide) ?_
            refine lv_icmp_ge (tgt := 95) hx hb dX3_addSpan_43 (by decide) (fun h => absurd h (by decide)) (fun _ => ?_)
            refine lv_aload_n hx hb dX3_addSpan_46 rfl (lv_at hl 2 rfl) ?_
            refine lv_iload hx hb dX3_addSpan_47 (lv_at hl 0 rfl) ?_
            refine lv_aload_n hx hb dX3_addSpan_49 rfl (lv_at hl 3 rfl) ?_
            refine va_get (D := kD k) (ci := 5) (v := .ref b.2.2.1) (C := RX3) (T := TX3) (N := 5) hx hb htg inG_X3 hown hGx.1 hV.1 0 rfl rfl 2 (by decide) (htg _ w_1013) (fun _ h9 => h9) rfl dX3_addSpan_50 ?_
            refine lv_iload_n hx hb dX3_addSpan_53 rfl (lv_at hl 4 rfl) ?_
            by_cases h_88 : p0 < 0 ∨ 2 ≤ p0.toNatClampNeg
            · have hm := (if_pos h_88).symm.trans hm
              cases hm
            have hm := (if_neg h_88).symm.trans hm
            refine m_lds hx hb hGx hV h_88 dX3_addSpan_54 ?_
            refine lv_iload hx hb dX3_addSpan_55 (lv_at hl 0 rfl) ?_
            refine m_sld hx hb hGx hV (show ¬ ((2 : Int32) < 0 ∨ 3 ≤ ((2 : Int32)).toNatClampNeg) by decide) dX3_addSpan_57 ?_
            refine lv_aload_n hx hb dX3_addSpan_58 rfl (lv_at hl 3 rfl) ?_
            refine va_get (D := kD k) (ci := 5) (v := .ref b.2.2.1) (C := RX3) (T := TX3) (N := 5) hx hb htg inG_X3 hown hGx.1 hV.1 0 rfl rfl 2 (by decide) (htg _ w_1013) (fun _ h9 => h9) rfl dX3_addSpan_59 ?_
            refine lv_iload_n hx hb dX3_addSpan_62 rfl (lv_at hl 5 rfl) ?_
            by_cases h_89 : p1 < 0 ∨ 2 ≤ p1.toNatClampNeg
            · have hm := (if_pos h_89).symm.trans hm
              cases hm
            have hm := (if_neg h_89).symm.trans hm
            refine m_lds hx hb hGx hV h_89 dX3_addSpan_63 ?_
            refine lv_iload hx hb dX3_addSpan_64 (lv_at hl 0 rfl) ?_
            refine m_sld hx hb hGx hV (show ¬ ((2 : Int32) < 0 ∨ 3 ≤ ((2 : Int32)).toNatClampNeg) by decide) dX3_addSpan_66 ?_
            refine lv_iadd hx hb dX3_addSpan_67 ?_
            have hL9 := hS.2
            refine m_niast (j := 2) hx hb hGx (Nat.le_trans hs_38 hn_38) hA_38.1 (show ¬ ((2 : Int32) < 0 ∨ 3 ≤ ((2 : Int32)).toNatClampNeg) by decide) (by decide) hS.1 hA dX3_addSpan_68 (fun H hA_38 hz9 hq9 hS => ?_)
            have hq_38 := m_q2 hn_38 hz_38 hq_38 hq9
            have hz_38 := Nat.le_trans hz_38 hz9
            have hS : mS b s.heap H _ := ⟨hS, hL9⟩
            have hV := hV_38.up hq_38
            have hA_38 := aF.made hLn_38 hn_38 hA_38
            refine lv_iload hx hb dX3_addSpan_69 (lv_at hl 1 rfl) ?_
            refine lv_aload_n hx hb dX3_addSpan_71 rfl (lv_at hl 2 rfl) ?_
            refine lv_iload hx hb dX3_addSpan_72 (lv_at hl 0 rfl) ?_
            refine m_niald (j := 2) (v := ((sget x_37.2 p0.toNatClampNeg (2 : Int32).toNatClampNeg) + (sget x_37.2 p1.toNatClampNeg (2 : Int32).toNatClampNeg))) hx hb hGx hA_38.1 (show ¬ ((2 : Int32) < 0 ∨ 3 ≤ ((2 : Int32)).toNatClampNeg) by decide) (by decide) rfl dX3_addSpan_74 ?_
            refine pc_S hC (c_X3_isNumber l ((sget x_37.2 p0.toNatClampNeg (2 : Int32).toNatClampNeg) + (sget x_37.2 p1.toNatClampNeg (2 : Int32).toNatClampNeg))) (gS w_1200 w_1201 w_27 w_1202) kk_X3_isNumber ⟨Nat.le_of_ble_eq_true rfl, Nat.le_of_ble_eq_true rfl⟩ ⟨Nat.le_of_ble_eq_true rfl, Nat.le_of_ble_eq_true rfl⟩ hl.1 rfl rfl (Nat.le_of_ble_eq_true rfl) dX3_addSpan_75 ?_
            refine lv_if_ne (tgt := 85) hx hb dX3_addSpan_78 (by decide) (fun h_90 => ?_) (fun h_90 => ?_)
            · have hm := (if_neg h_90).symm.trans hm
              refine lv_iconst (v := 0) hx hb dX3_addSpan_85 (by decide) ?_
              refine lv_ior hx hb dX3_addSpan_86 ?_
              refine lv_istore (lv' := [(4, .int ((((0 : Int32) ||| (1 : Int32)) ||| (1 : Int32)) ||| (0 : Int32))), (5, .int (2 : Int32)), (3, .ref a_38), (0, .ref b.1), (1, .int p0), (2, .int p1)]) hx hb dX3_addSpan_87 hl (by decide) rfl (fun ls hl => ?_)
              refine lv_iinc (v := (3 : Int32)) (lv' := [(5, .int (3 : Int32)), (4, .int ((((0 : Int32) ||| (1 : Int32)) ||| (1 : Int32)) ||| (0 : Int32))), (3, .ref a_38), (0, .ref b.1), (1, .int p0), (2, .int p1)]) hx hb dX3_addSpan_89 hl (k := 1) rfl (by decide) (by decide) rfl (fun ls hl => ?_)
              refine lv_goto (tgt := 40) hx hb dX3_addSpan_92 (by decide) ?_
              refine lv_iload hx hb dX3_addSpan_40 (lv_at hl 0 rfl) ?_
              refine lv_iconst (v := 3) hx hb dX3_addSpan_42 (by decide) ?_
              refine lv_icmp_ge (tgt := 95) hx hb dX3_addSpan_43 (by decide) (fun _ => ?_) (fun h => absurd h (by decide))
              refine lv_aload_n hx hb dX3_addSpan_95 rfl (lv_at hl 3 rfl) ?_
              refine lv_iconst (v := 0) hx hb dX3_addSpan_96 (by decide) ?_
              refine lv_iload hx hb dX3_addSpan_97 (lv_at hl 1 rfl) ?_
              refine lv_iconst (v := 0) hx hb dX3_addSpan_99 (by decide) ?_
              obtain ⟨x_51, hx_51, hm⟩ := Option.bind_eq_some_iff.mp hm
              refine mc_V hC hGx hD (k_X3_fails l k b L hD (0 : Int32) ((((0 : Int32) ||| (1 : Int32)) ||| (1 : Int32)) ||| (0 : Int32)) (0 : Int32)  x_37.2 hx_51) (gV w_1056 w_1057 w_18 w_27 w_1058) kk_X3_fails rfl (List.forall_mem_nil _) hLb ⟨Nat.le_of_ble_eq_true rfl, Nat.le_of_ble_eq_true rfl⟩ ⟨Nat.le_of_ble_eq_true rfl, Nat.le_of_ble_eq_true rfl⟩ hV hS hl.1 rfl rfl (Nat.le_of_ble_eq_true rfl) dX3_addSpan_100 (fun q_51 H locs hV hS hz hq => ?_)
              have hA_38 := hA_38.up hq
              refine lv_if_eq (tgt := 110) hx hb dX3_addSpan_103 (by decide) (fun h_91 => ?_) (fun h_91 => ?_)
              · have hm := (if_pos h_91).symm.trans hm
                refine lv_aload_n hx hb dX3_addSpan_110 rfl (lv_at hl 3 rfl) ?_
                refine lv_iload_n hx hb dX3_addSpan_111 rfl (lv_at hl 4 rfl) ?_
                refine lv_aload_n hx hb dX3_addSpan_112 rfl (lv_at hl 2 rfl) ?_
                refine lv_iconst (v := 0) hx hb dX3_addSpan_113 (by decide) ?_
                refine m_niald (j := 0) (v := ((sget x_37.2 p0.toNatClampNeg (0 : Int32).toNatClampNeg) + (sget x_37.2 p1.toNatClampNeg (0 : Int32).toNatClampNeg))) hx hb hGx hA_38.1 (show ¬ ((0 : Int32) < 0 ∨ 3 ≤ ((0 : Int32)).toNatClampNeg) by decide) (by decide) rfl dX3_addSpan_114 ?_
                refine lv_aload_n hx hb dX3_addSpan_115 rfl (lv_at hl 2 rfl) ?_
                refine lv_iconst (v := 1) hx hb dX3_addSpan_116 (by decide) ?_
                refine m_niald (j := 1) (v := ((sget x_37.2 p0.toNatClampNeg (1 : Int32).toNatClampNeg) + (sget x_37.2 p1.toNatClampNeg (1 : Int32).toNatClampNeg))) hx hb hGx hA_38.1 (show ¬ ((1 : Int32) < 0 ∨ 3 ≤ ((1 : Int32)).toNatClampNeg) by decide) (by decide) rfl dX3_addSpan_117 ?_
                refine lv_aload_n hx hb dX3_addSpan_118 rfl (lv_at hl 2 rfl) ?_
                refine lv_iconst (v := 2) hx hb dX3_addSpan_119 (by decide) ?_
                refine m_niald (j := 2) (v := ((sget x_37.2 p0.toNatClampNeg (2 : Int32).toNatClampNeg) + (sget x_37.2 p1.toNatClampNeg (2 : Int32).toNatClampNeg))) hx hb hGx hA_38.1 (show ¬ ((2 : Int32) < 0 ∨ 3 ≤ ((2 : Int32)).toNatClampNeg) by decide) (by decide) rfl dX3_addSpan_120 ?_
                obtain ⟨x_52, hx_52, hm⟩ := Option.bind_eq_some_iff.mp hm
                refine mc_V hC hGx hD (k_X3_tells l k b L hD p0 ((sget x_37.2 p0.toNatClampNeg (0 : Int32).toNatClampNeg) + (sget x_37.2 p1.toNatClampNeg (0 : Int32).toNatClampNeg)) ((sget x_37.2 p0.toNatClampNeg (1 : Int32).toNatClampNeg) + (sget x_37.2 p1.toNatClampNeg (1 : Int32).toNatClampNeg)) ((sget x_37.2 p0.toNatClampNeg (2 : Int32).toNatClampNeg) + (sget x_37.2 p1.toNatClampNeg (2 : Int32).toNatClampNeg))  x_51.2 hx_52) (gV w_1205 w_1206 w_21 w_27 w_1207) kk_X3_tells rfl (List.forall_mem_nil _) hLb ⟨Nat.le_of_ble_eq_true rfl, Nat.le_of_ble_eq_true rfl⟩ ⟨Nat.le_of_ble_eq_true rfl, Nat.le_of_ble_eq_true rfl⟩ hV hS hl.1 rfl rfl (Nat.le_of_ble_eq_true rfl) dX3_addSpan_121 (fun q_52 H locs hV hS hz hq => ?_)
                have hA_38 := hA_38.up hq
                exact m_iret hx hb hr hlocks (Option.some.inj hm) hV hS ⟨Nat.le_of_ble_eq_true rfl, Nat.le_of_ble_eq_true rfl⟩ dX3_addSpan_124
              · have hm := (if_neg h_91).symm.trans hm
                refine lv_iconst (v := 0) hx hb dX3_addSpan_106 (by decide) ?_
                refine lv_goto (tgt := 124) hx hb dX3_addSpan_107 (by decide) ?_
                exact m_iret hx hb hr hlocks (Option.some.inj hm) hV hS ⟨Nat.le_of_ble_eq_true rfl, Nat.le_of_ble_eq_true rfl⟩ dX3_addSpan_124
            · have hm := (if_pos h_90).symm.trans hm
              refine lv_iconst (v := 1) hx hb dX3_addSpan_81 (by decide) ?_
              refine lv_goto (tgt := 86) hx hb dX3_addSpan_82 (by decide) ?_
              refine lv_ior hx hb dX3_addSpan_86 ?_
              refine lv_istore (lv' := [(4, .int ((((0 : Int32) ||| (1 : Int32)) ||| (1 : Int32)) ||| (1 : Int32))), (5, .int (2 : Int32)), (3, .ref a_38), (0, .ref b.1), (1, .int p0), (2, .int p1)]) hx hb dX3_addSpan_87 hl (by decide) rfl (fun ls hl => ?_)
              refine lv_iinc (v := (3 : Int32)) (lv' := [(5, .int (3 : Int32)), (4, .int ((((0 : Int32) ||| (1 : Int32)) ||| (1 : Int32)) ||| (1 : Int32))), (3, .ref a_38), (0, .ref b.1), (1, .int p0), (2, .int p1)]) hx hb dX3_addSpan_89 hl (k := 1) rfl (by decide) (by decide) rfl (fun ls hl => ?_)
              refine lv_goto (tgt := 40) hx hb dX3_addSpan_92 (by decide) ?_
              refine lv_iload hx hb dX3_addSpan_40 (lv_at hl 0 rfl) ?_
              refine lv_iconst (v := 3) hx hb dX3_addSpan_42 (by decide) ?_
              refine lv_icmp_ge (tgt := 95) hx hb dX3_addSpan_43 (by decide) (fun _ => ?_) (fun h => absurd h (by decide))
              refine lv_aload_n hx hb dX3_addSpan_95 rfl (lv_at hl 3 rfl) ?_
              refine lv_iconst (v := 0) hx hb dX3_addSpan_96 (by decide) ?_
              refine lv_iload hx hb dX3_addSpan_97 (lv_at hl 1 rfl) ?_
              refine lv_iconst (v := 0) hx hb dX3_addSpan_99 (by decide) ?_
              obtain ⟨x_53, hx_53, hm⟩ := Option.bind_eq_some_iff.mp hm
              refine mc_V hC hGx hD (k_X3_fails l k b L hD (0 : Int32) ((((0 : Int32) ||| (1 : Int32)) ||| (1 : Int32)) ||| (1 : Int32)) (0 : Int32)  x_37.2 hx_53) (gV w_1056 w_1057 w_18 w_27 w_1058) kk_X3_fails rfl (List.forall_mem_nil _) hLb ⟨Nat.le_of_ble_eq_true rfl, Nat.le_of_ble_eq_true rfl⟩ ⟨Nat.le_of_ble_eq_true rfl, Nat.le_of_ble_eq_true rfl⟩ hV hS hl.1 rfl rfl (Nat.le_of_ble_eq_true rfl) dX3_addSpan_100 (fun q_53 H locs hV hS hz hq => ?_)
              have hA_38 := hA_38.up hq
              refine lv_if_eq (tgt := 110) hx hb dX3_addSpan_103 (by decide) (fun h_92 => ?_) (fun h_92 => ?_)
              · have hm := (if_pos h_92).symm.trans hm
                refine lv_aload_n hx hb dX3_addSpan_110 rfl (lv_at hl 3 rfl) ?_
                refine lv_iload_n hx hb dX3_addSpan_111 rfl (lv_at hl 4 rfl) ?_
                refine lv_aload_n hx hb dX3_addSpan_112 rfl (lv_at hl 2 rfl) ?_
                refine lv_iconst (v := 0) hx hb dX3_addSpan_113 (by decide) ?_
                refine m_niald (j := 0) (v := ((sget x_37.2 p0.toNatClampNeg (0 : Int32).toNatClampNeg) + (sget x_37.2 p1.toNatClampNeg (0 : Int32).toNatClampNeg))) hx hb hGx hA_38.1 (show ¬ ((0 : Int32) < 0 ∨ 3 ≤ ((0 : Int32)).toNatClampNeg) by decide) (by decide) rfl dX3_addSpan_114 ?_
                refine lv_aload_n hx hb dX3_addSpan_115 rfl (lv_at hl 2 rfl) ?_
                refine lv_iconst (v := 1) hx hb dX3_addSpan_116 (by decide) ?_
                refine m_niald (j := 1) (v := ((sget x_37.2 p0.toNatClampNeg (1 : Int32).toNatClampNeg) + (sget x_37.2 p1.toNatClampNeg (1 : Int32).toNatClampNeg))) hx hb hGx hA_38.1 (show ¬ ((1 : Int32) < 0 ∨ 3 ≤ ((1 : Int32)).toNatClampNeg) by decide) (by decide) rfl dX3_addSpan_117 ?_
                refine lv_aload_n hx hb dX3_addSpan_118 rfl (lv_at hl 2 rfl) ?_
                refine lv_iconst (v := 2) hx hb dX3_addSpan_119 (by decide) ?_
                refine m_niald (j := 2) (v := ((sget x_37.2 p0.toNatClampNeg (2 : Int32).toNatClampNeg) + (sget x_37.2 p1.toNatClampNeg (2 : Int32).toNatClampNeg))) hx hb hGx hA_38.1 (show ¬ ((2 : Int32) < 0 ∨ 3 ≤ ((2 : Int32)).toNatClampNeg) by decide) (by decide) rfl dX3_addSpan_120 ?_
                obtain ⟨x_54, hx_54, hm⟩ := Option.bind_eq_some_iff.mp hm
                refine mc_V hC hGx hD (k_X3_tells l k b L hD p0 ((sget x_37.2 p0.toNatClampNeg (0 : Int32).toNatClampNeg) + (sget x_37.2 p1.toNatClampNeg (0 : Int32).toNatClampNeg)) ((sget x_37.2 p0.toNatClampNeg (1 : Int32).toNatClampNeg) + (sget x_37.2 p1.toNatClampNeg (1 : Int32).toNatClampNeg)) ((sget x_37.2 p0.toNatClampNeg (2 : Int32).toNatClampNeg) + (sget x_37.2 p1.toNatClampNeg (2 : Int32).toNatClampNeg))  x_53.2 hx_54) (gV w_1205 w_1206 w_21 w_27 w_1207) kk_X3_tells rfl (List.forall_mem_nil _) hLb ⟨Nat.le_of_ble_eq_true rfl, Nat.le_of_ble_eq_true rfl⟩ ⟨Nat.le_of_ble_eq_true rfl, Nat.le_of_ble_eq_true rfl⟩ hV hS hl.1 rfl rfl (Nat.le_of_ble_eq_true rfl) dX3_addSpan_121 (fun q_54 H locs hV hS hz hq => ?_)
                have hA_38 := hA_38.up hq
                exact m_iret hx hb hr hlocks (Option.some.inj hm) hV hS ⟨Nat.le_of_ble_eq_true rfl, Nat.le_of_ble_eq_true rfl⟩ dX3_addSpan_124
              · have hm := (if_neg h_92).symm.trans hm
                refine lv_iconst (v := 0) hx hb dX3_addSpan_106 (by decide) ?_
                refine lv_goto (tgt := 124) hx hb dX3_addSpan_107 (by decide) ?_
                exact m_iret hx hb hr hlocks (Option.some.inj hm) hV hS ⟨Nat.le_of_ble_eq_true rfl, Nat.le_of_ble_eq_true rfl⟩ dX3_addSpan_124
      · have hm := (if_neg h_63).symm.trans hm
        refine lv_iconst (v := 0) hx hb dX3_addSpan_28 (by decide) ?_
        exact m_iret hx hb hr hlocks (Option.some.inj hm) hV hS ⟨Nat.le_of_ble_eq_true rfl, Nat.le_of_ble_eq_true rfl⟩ dX3_addSpan_29
def o_X3_ofSpan (p0 : Int32) (p1 : Int32) (z : MS) : Option (Int32 × MS) := (if m_X3_isIn p1.toInt64 (0 : Int64) (2 : Int64) = 0 then ((o_X3_fails (m_X3_isNoSpan p0) (1 : Int32) (0 : Int32) z).bind fun x_2 => (if x_2.1 = 0 then (if p0 < 0 ∨ 2 ≤ p0.toNatClampNeg then none else (if p1 < 0 ∨ 3 ≤ p1.toNatClampNeg then none else some (sget x_2.2 p0.toNatClampNeg p1.toNatClampNeg, x_2.2))) else some ((0 : Int32), x_2.2))) else ((o_X3_fails (m_X3_isNoSpan p0) (0 : Int32) (0 : Int32) z).bind fun x_1 => (if x_1.1 = 0 then (if p0 < 0 ∨ 2 ≤ p0.toNatClampNeg then none else (if p1 < 0 ∨ 3 ≤ p1.toNatClampNeg then none else some (sget x_1.2 p0.toNatClampNeg p1.toNatClampNeg, x_1.2))) else some ((0 : Int32), x_1.2))))
theorem kk_X3_ofSpan : pK yX3_ofSpan wsX3_ofSpan cX3_ofSpan 3 (some .int) 2 := ⟨⟨_, rfl⟩, by decide +kernel, by decide +kernel, by decide +kernel⟩
set_option maxRecDepth 100000 in
set_option maxHeartbeats 4000000 in
theorem k_X3_ofSpan (l : Launch) (k : Kx) (b : CA) (L : List Nat) (hD : mD k b L) (p0 : Int32) (p1 : Int32) (z : MS) {r : (Int32 × MS)} (hm : o_X3_ofSpan p0 p1 z = some r) : mM l k b L yX3_ofSpan wsX3_ofSpan 2 45 0 0 [.int p0, .int p1] [] z (some (.int r.1)) r.2 := by
  intro sz q
  refine Met.ofW (cc := cX3_ofSpan) (maxL := 3) (ret := (some .int)) (by decide) rfl ?_
  intro p e s m args below meth c s₁ B hml hv
  obtain ⟨rfl, rfl, hGx, hV, hLb, hds⟩ := hv
  have hx := B.exec
  have hb := B.bytes
  have hr := B.returns
  have hts := atoms_spec (ws := wsX3_ofSpan) B.pre
  have hown : s.vm.findClass RX3 = some m.cls := findClass_of_methodNamed B.named
  have hlocks := B.notSynchronized
  have htg : ∀ w ∈ GL, w.before _ s = true := fun w h => hts w (List.mem_cons_of_mem _ h)
  have hC : CallFix p m c cX3_ofSpan 3 s _ wsX3_ofSpan RX3 := ⟨hx, hb, hml, hown, hts⟩
  have hA : ∀ q, s.heap.size ≤ q → cA b s.heap.size q := fun q h => cA.new q h
  have hAB : ∀ q, cA b s.heap.size q → kB k ≤ q := hD.high hGx.2.1
  have hS : mS b s.heap s.heap [] := mS.rf
  have hl := lv_entry ([.ref b.1, .int p0, .int p1]) (n := 3) (Nat.le_of_ble_eq_true rfl)
  rw [lg_entry_eq]
  generalize (lg_sl ([.ref b.1, .int p0, .int p1]) ++ List.replicate (3 - (lg_sl ([.ref b.1, .int p0, .int p1])).length) Slot.unset).toArray = ls at hl ⊢
  have hl : lv_has ls 3 [(0, .ref b.1), (1, .int p0), (2, .int p1)] := hl
  refine lv_aload_n hx hb dX3_ofSpan_0 rfl (lv_at hl 0 rfl) ?_
  refine lv_iload_n hx hb dX3_ofSpan_1 rfl (lv_at hl 1 rfl) ?_
  refine pc_S hC (c_X3_isNoSpan l p0) (gS w_1197 w_1198 w_27 w_1199) kk_X3_isNoSpan ⟨Nat.le_of_ble_eq_true rfl, Nat.le_of_ble_eq_true rfl⟩ ⟨Nat.le_of_ble_eq_true rfl, Nat.le_of_ble_eq_true rfl⟩ hl.1 rfl rfl (Nat.le_of_ble_eq_true rfl) dX3_ofSpan_2 ?_
  refine lv_iload_n hx hb dX3_ofSpan_5 rfl (lv_at hl 2 rfl) ?_
  refine lv_i2l hx hb dX3_ofSpan_6 rfl ?_
  refine lv_lconst (v := 0) hx hb dX3_ofSpan_7 (by decide) ?_
  refine lv_ldc2 hx hb hown (htg _ w_1232) dX3_ofSpan_8 ?_
  refine pc_S hC (c_X3_isIn l p1.toInt64 (0 : Int64) (2 : Int64)) (gS w_1040 w_1041 w_27 w_1042) kk_X3_isIn ⟨Nat.le_of_ble_eq_true rfl, Nat.le_of_ble_eq_true rfl⟩ ⟨Nat.le_of_ble_eq_true rfl, Nat.le_of_ble_eq_true rfl⟩ hl.1 rfl rfl (Nat.le_of_ble_eq_true rfl) dX3_ofSpan_11 ?_
  refine lv_if_ne (tgt := 21) hx hb dX3_ofSpan_14 (by decide) (fun h_1 => ?_) (fun h_1 => ?_)
  · have hm := (if_neg h_1).symm.trans hm
    refine lv_iconst (v := 0) hx hb dX3_ofSpan_21 (by decide) ?_
    refine lv_iconst (v := 0) hx hb dX3_ofSpan_22 (by decide) ?_
    obtain ⟨x_1, hx_1, hm⟩ := Option.bind_eq_some_iff.mp hm
    refine mc_V hC hGx hD (k_X3_fails l k b L hD (m_X3_isNoSpan p0) (0 : Int32) (0 : Int32)  z hx_1) (gV w_1056 w_1057 w_18 w_27 w_1058) kk_X3_fails rfl (List.forall_mem_nil _) hLb ⟨Nat.le_of_ble_eq_true rfl, Nat.le_of_ble_eq_true rfl⟩ ⟨Nat.le_of_ble_eq_true rfl, Nat.le_of_ble_eq_true rfl⟩ hV hS hl.1 rfl rfl (Nat.le_of_ble_eq_true rfl) dX3_ofSpan_23 (fun q_1 H locs hV hS hz hq => ?_)
    refine lv_if_eq (tgt := 33) hx hb dX3_ofSpan_26 (by decide) (fun h_2 => ?_) (fun h_2 => ?_)
    · have hm := (if_pos h_2).symm.trans hm
      refine lv_aload_n hx hb dX3_ofSpan_33 rfl (lv_at hl 0 rfl) ?_
      refine va_get (D := kD k) (ci := 5) (v := .ref b.2.2.1) (C := RX3) (T := TX3) (N := 5) hx hb htg inG_X3 hown hGx.1 hV.1 0 rfl rfl 2 (by decide) (htg _ w_1013) (fun _ h9 => h9) rfl dX3_ofSpan_34 ?_
      refine lv_iload_n hx hb dX3_ofSpan_37 rfl (lv_at hl 1 rfl) ?_
      by_cases h_3 : p0 < 0 ∨ 2 ≤ p0.toNatClampNeg
      · have hm := (if_pos h_3).symm.trans hm
        cases hm
      have hm := (if_neg h_3).symm.trans hm
      refine m_lds hx hb hGx hV h_3 dX3_ofSpan_38 ?_
      refine lv_iload_n hx hb dX3_ofSpan_39 rfl (lv_at hl 2 rfl) ?_
      by_cases h_4 : p1 < 0 ∨ 3 ≤ p1.toNatClampNeg
      · have hm := (if_pos h_4).symm.trans hm
        cases hm
      have hm := (if_neg h_4).symm.trans hm
      refine m_sld hx hb hGx hV h_4 dX3_ofSpan_40 ?_
      exact m_iret hx hb hr hlocks (Option.some.inj hm) hV hS ⟨Nat.le_of_ble_eq_true rfl, Nat.le_of_ble_eq_true rfl⟩ dX3_ofSpan_41
    · have hm := (if_neg h_2).symm.trans hm
      refine lv_iconst (v := 0) hx hb dX3_ofSpan_29 (by decide) ?_
      refine lv_goto (tgt := 41) hx hb dX3_ofSpan_30 (by decide) ?_
      exact m_iret hx hb hr hlocks (Option.some.inj hm) hV hS ⟨Nat.le_of_ble_eq_true rfl, Nat.le_of_ble_eq_true rfl⟩ dX3_ofSpan_41
  · have hm := (if_pos h_1).symm.trans hm
    refine lv_iconst (v := 1) hx hb dX3_ofSpan_17 (by decide) ?_
    refine lv_goto (tgt := 22) hx hb dX3_ofSpan_18 (by decide) ?_
    refine lv_iconst (v := 0) hx hb dX3_ofSpan_22 (by decide) ?_
    obtain ⟨x_2, hx_2, hm⟩ := Option.bind_eq_some_iff.mp hm
    refine mc_V hC hGx hD (k_X3_fails l k b L hD (m_X3_isNoSpan p0) (1 : Int32) (0 : Int32)  z hx_2) (gV w_1056 w_1057 w_18 w_27 w_1058) kk_X3_fails rfl (List.forall_mem_nil _) hLb ⟨Nat.le_of_ble_eq_true rfl, Nat.le_of_ble_eq_true rfl⟩ ⟨Nat.le_of_ble_eq_true rfl, Nat.le_of_ble_eq_true rfl⟩ hV hS hl.1 rfl rfl (Nat.le_of_ble_eq_true rfl) dX3_ofSpan_23 (fun q_2 H locs hV hS hz hq => ?_)
    refine lv_if_eq (tgt := 33) hx hb dX3_ofSpan_26 (by decide) (fun h_5 => ?_) (fun h_5 => ?_)
    · have hm := (if_pos h_5).symm.trans hm
      refine lv_aload_n hx hb dX3_ofSpan_33 rfl (lv_at hl 0 rfl) ?_
      refine va_get (D := kD k) (ci := 5) (v := .ref b.2.2.1) (C := RX3) (T := TX3) (N := 5) hx hb htg inG_X3 hown hGx.1 hV.1 0 rfl rfl 2 (by decide) (htg _ w_1013) (fun _ h9 => h9) rfl dX3_ofSpan_34 ?_
      refine lv_iload_n hx hb dX3_ofSpan_37 rfl (lv_at hl 1 rfl) ?_
      by_cases h_6 : p0 < 0 ∨ 2 ≤ p0.toNatClampNeg
      · have hm := (if_pos h_6).symm.trans hm
        cases hm
      have hm := (if_neg h_6).symm.trans hm
      refine m_lds hx hb hGx hV h_6 dX3_ofSpan_38 ?_
      refine lv_iload_n hx hb dX3_ofSpan_39 rfl (lv_at hl 2 rfl) ?_
      by_cases h_7 : p1 < 0 ∨ 3 ≤ p1.toNatClampNeg
      · have hm := (if_pos h_7).symm.trans hm
        cases hm
      have hm := (if_neg h_7).symm.trans hm
      refine m_sld hx hb hGx hV h_7 dX3_ofSpan_40 ?_
      exact m_iret hx hb hr hlocks (Option.some.inj hm) hV hS ⟨Nat.le_of_ble_eq_true rfl, Nat.le_of_ble_eq_true rfl⟩ dX3_ofSpan_41
    · have hm := (if_neg h_5).symm.trans hm
      refine lv_iconst (v := 0) hx hb dX3_ofSpan_29 (by decide) ?_
      refine lv_goto (tgt := 41) hx hb dX3_ofSpan_30 (by decide) ?_
      exact m_iret hx hb hr hlocks (Option.some.inj hm) hV hS ⟨Nat.le_of_ble_eq_true rfl, Nat.le_of_ble_eq_true rfl⟩ dX3_ofSpan_41
def o_X3_movesBySpan (p0 : Int32) (p1 : Int32) (p2 : Int32) (z : MS) : Option (Int32 × MS) := (if m_X3_isNo p0 = 0 then (if m_X3_isNoSpan p1 = 0 then ((o_X3_fails (0 : Int32) (0 : Int32) (0 : Int32) z).bind fun x_16 => (if x_16.1 = 0 then (if p1 < 0 ∨ 2 ≤ p1.toNatClampNeg then none else (if p0 < 0 ∨ 6 ≤ p0.toNatClampNeg then none else ((o_X3_later (x_16.2.2.1 p0.toNatClampNeg) (p2.toInt64 * (((12 : Int64) * ((sget x_16.2 p1.toNatClampNeg (0 : Int32).toNatClampNeg).toInt64)) + ((sget x_16.2 p1.toNatClampNeg (1 : Int32).toNatClampNeg).toInt64)))).bind fun x_18 => (Option.elim x_18 (((o_X3_isDateN ).bind fun x_19 => (if x_19 = 0 then ((o_X3_fails (0 : Int32) (1 : Int32) (0 : Int32) x_16.2).bind fun x_21 => (if x_21.1 = 0 then none else some ((0 : Int32), x_21.2))) else ((o_X3_fails (0 : Int32) (0 : Int32) (0 : Int32) x_16.2).bind fun x_20 => (if x_20.1 = 0 then none else some ((0 : Int32), x_20.2)))))) fun d_18 => ((o_X3_laterByDays d_18 (p2.toInt64 * ((sget x_16.2 p1.toNatClampNeg (2 : Int32).toNatClampNeg).toInt64))).bind fun x_22 => (Option.elim x_22 (((o_X3_isDateN ).bind fun x_23 => (if x_23 = 0 then ((o_X3_fails (0 : Int32) (1 : Int32) (0 : Int32) x_16.2).bind fun x_25 => (if x_25.1 = 0 then none else some ((0 : Int32), x_25.2))) else ((o_X3_fails (0 : Int32) (0 : Int32) (0 : Int32) x_16.2).bind fun x_24 => (if x_24.1 = 0 then none else some ((0 : Int32), x_24.2)))))) fun d_22 => ((o_X3_isDate d_22).bind fun x_26 => (if x_26 = 0 then ((o_X3_fails (0 : Int32) (1 : Int32) (0 : Int32) x_16.2).bind fun x_29 => (if x_29.1 = 0 then ((o_X3_gives p0 d_22 x_29.2).bind fun x_30 => some (x_30.1, x_30.2)) else some ((0 : Int32), x_29.2))) else ((o_X3_fails (0 : Int32) (0 : Int32) (0 : Int32) x_16.2).bind fun x_27 => (if x_27.1 = 0 then ((o_X3_gives p0 d_22 x_27.2).bind fun x_28 => some (x_28.1, x_28.2)) else some ((0 : Int32), x_27.2))))))))))) else some ((0 : Int32), x_16.2))) else ((o_X3_fails (1 : Int32) (0 : Int32) (0 : Int32) z).bind fun x_31 => (if x_31.1 = 0 then (if p1 < 0 ∨ 2 ≤ p1.toNatClampNeg then none else (if p0 < 0 ∨ 6 ≤ p0.toNatClampNeg then none else ((o_X3_later (x_31.2.2.1 p0.toNatClampNeg) (p2.toInt64 * (((12 : Int64) * ((sget x_31.2 p1.toNatClampNeg (0 : Int32).toNatClampNeg).toInt64)) + ((sget x_31.2 p1.toNatClampNeg (1 : Int32).toNatClampNeg).toInt64)))).bind fun x_33 => (Option.elim x_33 (((o_X3_isDateN ).bind fun x_34 => (if x_34 = 0 then ((o_X3_fails (0 : Int32) (1 : Int32) (0 : Int32) x_31.2).bind fun x_36 => (if x_36.1 = 0 then none else some ((0 : Int32), x_36.2))) else ((o_X3_fails (0 : Int32) (0 : Int32) (0 : Int32) x_31.2).bind fun x_35 => (if x_35.1 = 0 then none else some ((0 : Int32), x_35.2)))))) fun d_33 => ((o_X3_laterByDays d_33 (p2.toInt64 * ((sget x_31.2 p1.toNatClampNeg (2 : Int32).toNatClampNeg).toInt64))).bind fun x_37 => (Option.elim x_37 (((o_X3_isDateN ).bind fun x_38 => (if x_38 = 0 then ((o_X3_fails (0 : Int32) (1 : Int32) (0 : Int32) x_31.2).bind fun x_40 => (if x_40.1 = 0 then none else some ((0 : Int32), x_40.2))) else ((o_X3_fails (0 : Int32) (0 : Int32) (0 : Int32) x_31.2).bind fun x_39 => (if x_39.1 = 0 then none else some ((0 : Int32), x_39.2)))))) fun d_37 => ((o_X3_isDate d_37).bind fun x_41 => (if x_41 = 0 then ((o_X3_fails (0 : Int32) (1 : Int32) (0 : Int32) x_31.2).bind fun x_44 => (if x_44.1 = 0 then ((o_X3_gives p0 d_37 x_44.2).bind fun x_45 => some (x_45.1, x_45.2)) else some ((0 : Int32), x_44.2))) else ((o_X3_fails (0 : Int32) (0 : Int32) (0 : Int32) x_31.2).bind fun x_42 => (if x_42.1 = 0 then ((o_X3_gives p0 d_37 x_42.2).bind fun x_43 => some (x_43.1, x_43.2)) else some ((0 : Int32), x_42.2))))))))))) else some ((0 : Int32), x_31.2)))) else ((o_X3_fails (1 : Int32) (0 : Int32) (0 : Int32) z).bind fun x_1 => (if x_1.1 = 0 then (if p1 < 0 ∨ 2 ≤ p1.toNatClampNeg then none else (if p0 < 0 ∨ 6 ≤ p0.toNatClampNeg then none else ((o_X3_later (x_1.2.2.1 p0.toNatClampNeg) (p2.toInt64 * (((12 : Int64) * ((sget x_1.2 p1.toNatClampNeg (0 : Int32).toNatClampNeg).toInt64)) + ((sget x_1.2 p1.toNatClampNeg (1 : Int32).toNatClampNeg).toInt64)))).bind fun x_3 => (Option.elim x_3 (((o_X3_isDateN ).bind fun x_4 => (if x_4 = 0 then ((o_X3_fails (0 : Int32) (1 : Int32) (0 : Int32) x_1.2).bind fun x_6 => (if x_6.1 = 0 then none else some ((0 : Int32), x_6.2))) else ((o_X3_fails (0 : Int32) (0 : Int32) (0 : Int32) x_1.2).bind fun x_5 => (if x_5.1 = 0 then none else some ((0 : Int32), x_5.2)))))) fun d_3 => ((o_X3_laterByDays d_3 (p2.toInt64 * ((sget x_1.2 p1.toNatClampNeg (2 : Int32).toNatClampNeg).toInt64))).bind fun x_7 => (Option.elim x_7 (((o_X3_isDateN ).bind fun x_8 => (if x_8 = 0 then ((o_X3_fails (0 : Int32) (1 : Int32) (0 : Int32) x_1.2).bind fun x_10 => (if x_10.1 = 0 then none else some ((0 : Int32), x_10.2))) else ((o_X3_fails (0 : Int32) (0 : Int32) (0 : Int32) x_1.2).bind fun x_9 => (if x_9.1 = 0 then none else some ((0 : Int32), x_9.2)))))) fun d_7 => ((o_X3_isDate d_7).bind fun x_11 => (if x_11 = 0 then ((o_X3_fails (0 : Int32) (1 : Int32) (0 : Int32) x_1.2).bind fun x_14 => (if x_14.1 = 0 then ((o_X3_gives p0 d_7 x_14.2).bind fun x_15 => some (x_15.1, x_15.2)) else some ((0 : Int32), x_14.2))) else ((o_X3_fails (0 : Int32) (0 : Int32) (0 : Int32) x_1.2).bind fun x_12 => (if x_12.1 = 0 then ((o_X3_gives p0 d_7 x_12.2).bind fun x_13 => some (x_13.1, x_13.2)) else some ((0 : Int32), x_12.2))))))))))) else some ((0 : Int32), x_1.2))))
theorem kk_X3_movesBySpan : pK yX3_movesBySpan wsX3_movesBySpan cX3_movesBySpan 6 (some .int) 3 := ⟨⟨_, rfl⟩, by decide +kernel, by decide +kernel, by decide +kernel⟩
set_option maxRecDepth 100000 in
set_option maxHeartbeats 4000000 in
theorem k_X3_movesBySpan (l : Launch) (k : Kx) (b : CA) (L : List Nat) (hD : mD k b L) (p0 : Int32) (p1 : Int32) (p2 : Int32) (z : MS) {r : (Int32 × MS)} (hm : o_X3_movesBySpan p0 p1 p2 z = some r) : mM l k b L yX3_movesBySpan wsX3_movesBySpan 5 132 2 6 [.int p0, .int p1, .int p2] [] z (some (.int r.1)) r.2 := by
  intro sz q
  refine Met.ofW (cc := cX3_movesBySpan) (maxL := 6) (ret := (some .int)) (by decide) rfl ?_
  intro p e s m args below meth c s₁ B hml hv
  obtain ⟨rfl, rfl, hGx, hV, hLb, hds⟩ := hv
  have hx := B.exec
  have hb := B.bytes
  have hr := B.returns
  have hts := atoms_spec (ws := wsX3_movesBySpan) B.pre
  have hown : s.vm.findClass RX3 = some m.cls := findClass_of_methodNamed B.named
  have hlocks := B.notSynchronized
  have htg : ∀ w ∈ GL, w.before _ s = true := fun w h => hts w (List.mem_cons_of_mem _ h)
  have hC : CallFix p m c cX3_movesBySpan 6 s _ wsX3_movesBySpan RX3 := ⟨hx, hb, hml, hown, hts⟩
  have hA : ∀ q, s.heap.size ≤ q → cA b s.heap.size q := fun q h => cA.new q h
  have hAB : ∀ q, cA b s.heap.size q → kB k ≤ q := hD.high hGx.2.1
  have hS : mS b s.heap s.heap [] := mS.rf
  have hl := lv_entry ([.ref b.1, .int p0, .int p1, .int p2]) (n := 6) (Nat.le_of_ble_eq_true rfl)
  rw [lg_entry_eq]
  generalize (lg_sl ([.ref b.1, .int p0, .int p1, .int p2]) ++ List.replicate (6 - (lg_sl ([.ref b.1, .int p0, .int p1, .int p2])).length) Slot.unset).toArray = ls at hl ⊢
  have hl : lv_has ls 6 [(0, .ref b.1), (1, .int p0), (2, .int p1), (3, .int p2)] := hl
  refine lv_aload_n hx hb dX3_movesBySpan_0 rfl (lv_at hl 0 rfl) ?_
  refine lv_iload_n hx hb dX3_movesBySpan_1 rfl (lv_at hl 1 rfl) ?_
  refine pc_S hC (c_X3_isNo l p0) (gS w_1045 w_1046 w_27 w_1047) kk_X3_isNo ⟨Nat.le_of_ble_eq_true rfl, Nat.le_of_ble_eq_true rfl⟩ ⟨Nat.le_of_ble_eq_true rfl, Nat.le_of_ble_eq_true rfl⟩ hl.1 rfl rfl (Nat.le_of_ble_eq_true rfl) dX3_movesBySpan_2 ?_
  refine lv_if_ne (tgt := 15) hx hb dX3_movesBySpan_5 (by decide) (fun h_1 => ?_) (fun h_1 => ?_)
  · have hm := (if_neg h_1).symm.trans hm
    refine lv_iconst (v := 1) hx hb dX3_movesBySpan_15 (by decide) ?_
    refine lv_goto (tgt := 20) hx hb dX3_movesBySpan_16 (by decide) ?_
    refine lv_iconst (v := 0) hx hb dX3_movesBySpan_20 (by decide) ?_
    refine lv_iconst (v := 0) hx hb dX3_movesBySpan_21 (by decide) ?_
    obtain ⟨x_1, hx_1, hm⟩ := Option.bind_eq_some_iff.mp hm
    refine mc_V hC hGx hD (k_X3_fails l k b L hD (1 : Int32) (0 : Int32) (0 : Int32)  z hx_1) (gV w_1056 w_1057 w_18 w_27 w_1058) kk_X3_fails rfl (List.forall_mem_nil _) hLb ⟨Nat.le_of_ble_eq_true rfl, Nat.le_of_ble_eq_true rfl⟩ ⟨Nat.le_of_ble_eq_true rfl, Nat.le_of_ble_eq_true rfl⟩ hV hS hl.1 rfl rfl (Nat.le_of_ble_eq_true rfl) dX3_movesBySpan_22 (fun q_1 H locs hV hS hz hq => ?_)
    refine lv_if_eq (tgt := 30) hx hb dX3_movesBySpan_25 (by decide) (fun h_2 => ?_) (fun h_2 => ?_)
    · have hm := (if_pos h_2).symm.trans hm
      refine lv_aload_n hx hb dX3_movesBySpan_30 rfl (lv_at hl 0 rfl) ?_
      refine va_get (D := kD k) (ci := 5) (v := .ref b.2.2.1) (C := RX3) (T := TX3) (N := 5) hx hb htg inG_X3 hown hGx.1 hV.1 0 rfl rfl 2 (by decide) (htg _ w_1013) (fun _ h9 => h9) rfl dX3_movesBySpan_31 ?_
      refine lv_iload_n hx hb dX3_movesBySpan_34 rfl (lv_at hl 2 rfl) ?_
      by_cases h_3 : p1 < 0 ∨ 2 ≤ p1.toNatClampNeg
      · have hm := (if_pos h_3).symm.trans hm
        cases hm
      have hm := (if_neg h_3).symm.trans hm
      refine m_lds hx hb hGx hV h_3 dX3_movesBySpan_35 ?_
      refine lv_astore (lv' := [(4, .ref (srow b p1.toNatClampNeg)), (0, .ref b.1), (1, .int p0), (2, .int p1), (3, .int p2)]) hx hb dX3_movesBySpan_36 hl (by decide) rfl (fun ls hl => ?_)
      refine lv_aload_n hx hb dX3_movesBySpan_38 rfl (lv_at hl 1 rfl) ?_
      refine va_get (D := kD k) (ci := 5) (v := .ref b.2.1) (C := RX3) (T := TX3) (N := 5) hx hb htg inG_X3 hown hGx.1 hV.1 0 rfl rfl 1 (by decide) (htg _ w_1012) (fun _ h9 => h9) rfl dX3_movesBySpan_39 ?_
      refine lv_iload_n hx hb dX3_movesBySpan_42 rfl (lv_at hl 2 rfl) ?_
      by_cases h_4 : p0 < 0 ∨ 6 ≤ p0.toNatClampNeg
      · have hm := (if_pos h_4).symm.trans hm
        cases hm
      have hm := (if_neg h_4).symm.trans hm
      refine m_ald hx hb hGx hV h_4 dX3_movesBySpan_43 (fun hP_2 => ?_)
      refine lv_iload_n hx hb dX3_movesBySpan_44 rfl (lv_at hl 4 rfl) ?_
      refine lv_i2l hx hb dX3_movesBySpan_45 rfl ?_
      refine lv_ldc2 hx hb hown (htg _ w_1043) dX3_movesBySpan_46 ?_
      refine lv_aload hx hb dX3_movesBySpan_49 (lv_at hl 0 rfl) ?_
      refine lv_iconst (v := 0) hx hb dX3_movesBySpan_51 (by decide) ?_
      refine m_sld hx hb hGx hV (show ¬ ((0 : Int32) < 0 ∨ 3 ≤ ((0 : Int32)).toNatClampNeg) by decide) dX3_movesBySpan_52 ?_
      refine lv_i2l hx hb dX3_movesBySpan_53 rfl ?_
      refine lv_lmul hx hb dX3_movesBySpan_54 ?_
      refine lv_aload hx hb dX3_movesBySpan_55 (lv_at hl 0 rfl) ?_
      refine lv_iconst (v := 1) hx hb dX3_movesBySpan_57 (by decide) ?_
      refine m_sld hx hb hGx hV (show ¬ ((1 : Int32) < 0 ∨ 3 ≤ ((1 : Int32)).toNatClampNeg) by decide) dX3_movesBySpan_58 ?_
      refine lv_i2l hx hb dX3_movesBySpan_59 rfl ?_
      refine lv_ladd hx hb dX3_movesBySpan_60 ?_
      refine lv_lmul hx hb dX3_movesBySpan_61 ?_
      obtain ⟨x_3, hx_3, hm⟩ := Option.bind_eq_some_iff.mp hm
      have hs_3 := hS.1.1
      have hLn_3 := m_hLn hLb hS
      have hL9 := hS.2
      refine qc_S hC hGx (k_X3_later l k (x_1.2.2.1 p0.toNatClampNeg) (p2.toInt64 * (((12 : Int64) * ((sget x_1.2 p1.toNatClampNeg (0 : Int32).toNatClampNeg).toInt64)) + ((sget x_1.2 p1.toNatClampNeg (1 : Int32).toNatClampNeg).toInt64))) (q_1 p0.toNatClampNeg) hx_3) (gS w_1159 w_1160 w_27 w_1161) kk_X3_later (List.forall_mem_cons.mpr ⟨hP_2.1, (List.forall_mem_nil _)⟩) ⟨Nat.le_of_ble_eq_true rfl, Nat.le_of_ble_eq_true rfl⟩ ⟨Nat.le_of_ble_eq_true rfl, Nat.le_of_ble_eq_true rfl⟩ hS.1 hA hAB hl.1 rfl rfl (Nat.le_of_ble_eq_true rfl) dX3_movesBySpan_62 (fun v_3 H hv hz hq hS => ?_)
      have hS : mS b s.heap H _ := ⟨hS, hL9⟩
      have hV := hV.up hq
      cases x_3 with
      | none =>
        rw [Option.elim_none] at hm
        have hv : v_3 = some .null := hv
        subst hv
        refine lv_astoreN (lv' := [(5, .null), (4, .ref (srow b p1.toNatClampNeg)), (0, .ref b.1), (1, .int p0), (2, .int p1), (3, .int p2)]) hx hb dX3_movesBySpan_65 hl (by decide) rfl (fun ls hl => ?_)
        refine lv_aloadN hx hb dX3_movesBySpan_67 (lv_at hl 0 rfl) ?_
        refine lv_ifnullN (tgt := 87) hx hb dX3_movesBySpan_69 (by decide) ?_
        refine lv_aload_n hx hb dX3_movesBySpan_87 rfl (lv_at hl 2 rfl) ?_
        refine lv_iconst (v := 0) hx hb dX3_movesBySpan_88 (by decide) ?_
        refine lv_aloadN hx hb dX3_movesBySpan_89 (lv_at hl 0 rfl) ?_
        obtain ⟨x_4, hx_4, hm⟩ := Option.bind_eq_some_iff.mp hm
        have hs_4 := hS.1.1
        have hLn_4 := m_hLn hLb hS
        have hL9 := hS.2
        refine qc_S hC hGx (k_X3_isDateN l k   hx_4) (gS w_1162 w_1163 w_27 w_1164) kk_X3_isDate (List.forall_mem_nil _) ⟨Nat.le_of_ble_eq_true rfl, Nat.le_of_ble_eq_true rfl⟩ ⟨Nat.le_of_ble_eq_true rfl, Nat.le_of_ble_eq_true rfl⟩ hS.1 hA hAB hl.1 rfl rfl (Nat.le_of_ble_eq_true rfl) dX3_movesBySpan_91 (fun v_4 H hv hz hq hS => ?_)
        have hS : mS b s.heap H _ := ⟨hS, hL9⟩
        have hV := hV.up hq
        have hv : v_4 = some (.int x_4) := hv
        subst hv
        refine lv_if_ne (tgt := 101) hx hb dX3_movesBySpan_94 (by decide) (fun h_5 => ?_) (fun h_5 => ?_)
        · have hm := (if_neg h_5).symm.trans hm
          refine lv_iconst (v := 0) hx hb dX3_movesBySpan_101 (by decide) ?_
          refine lv_iconst (v := 0) hx hb dX3_movesBySpan_102 (by decide) ?_
          obtain ⟨x_5, hx_5, hm⟩ := Option.bind_eq_some_iff.mp hm
          refine mc_V hC hGx hD (k_X3_fails l k b L hD (0 : Int32) (0 : Int32) (0 : Int32)  x_1.2 hx_5) (gV w_1056 w_1057 w_18 w_27 w_1058) kk_X3_fails rfl (List.forall_mem_nil _) hLb ⟨Nat.le_of_ble_eq_true rfl, Nat.le_of_ble_eq_true rfl⟩ ⟨Nat.le_of_ble_eq_true rfl, Nat.le_of_ble_eq_true rfl⟩ hV hS hl.1 rfl rfl (Nat.le_of_ble_eq_true rfl) dX3_movesBySpan_103 (fun q_5 H locs hV hS hz hq => ?_)
          refine lv_if_eq (tgt := 113) hx hb dX3_movesBySpan_106 (by decide) (fun h_6 => ?_) (fun h_6 => ?_)
          · have hm := (if_pos h_6).symm.trans hm
            refine lv_aload_n hx hb dX3_movesBySpan_113 rfl (lv_at hl 2 rfl) ?_
            refine lv_iload_n hx hb dX3_movesBySpan_114 rfl (lv_at hl 3 rfl) ?_
            refine lv_aloadN hx hb dX3_movesBySpan_115 (lv_at hl 0 rfl) ?_
            cases hm
          · have hm := (if_neg h_6).symm.trans hm
            refine lv_iconst (v := 0) hx hb dX3_movesBySpan_109 (by decide) ?_
            refine lv_goto (tgt := 120) hx hb dX3_movesBySpan_110 (by decide) ?_
            exact m_iret hx hb hr hlocks (Option.some.inj hm) hV hS ⟨Nat.le_of_ble_eq_true rfl, Nat.le_of_ble_eq_true rfl⟩ dX3_movesBySpan_120
        · have hm := (if_pos h_5).symm.trans hm
          refine lv_iconst (v := 1) hx hb dX3_movesBySpan_97 (by decide) ?_
          refine lv_goto (tgt := 102) hx hb dX3_movesBySpan_98 (by decide) ?_
          refine lv_iconst (v := 0) hx hb dX3_movesBySpan_102 (by decide) ?_
          obtain ⟨x_6, hx_6, hm⟩ := Option.bind_eq_some_iff.mp hm
          refine mc_V hC hGx hD (k_X3_fails l k b L hD (0 : Int32) (1 : Int32) (0 : Int32)  x_1.2 hx_6) (gV w_1056 w_1057 w_18 w_27 w_1058) kk_X3_fails rfl (List.forall_mem_nil _) hLb ⟨Nat.le_of_ble_eq_true rfl, Nat.le_of_ble_eq_true rfl⟩ ⟨Nat.le_of_ble_eq_true rfl, Nat.le_of_ble_eq_true rfl⟩ hV hS hl.1 rfl rfl (Nat.le_of_ble_eq_true rfl) dX3_movesBySpan_103 (fun q_6 H locs hV hS hz hq => ?_)
          refine lv_if_eq (tgt := 113) hx hb dX3_movesBySpan_106 (by decide) (fun h_7 => ?_) (fun h_7 => ?_)
          · have hm := (if_pos h_7).symm.trans hm
            refine lv_aload_n hx hb dX3_movesBySpan_113 rfl (lv_at hl 2 rfl) ?_
            refine lv_iload_n hx hb dX3_movesBySpan_114 rfl (lv_at hl 3 rfl) ?_
            refine lv_aloadN hx hb dX3_movesBySpan_115 (lv_at hl 0 rfl) ?_
            cases hm
          · have hm := (if_neg h_7).symm.trans hm
            refine lv_iconst (v := 0) hx hb dX3_movesBySpan_109 (by decide) ?_
            refine lv_goto (tgt := 120) hx hb dX3_movesBySpan_110 (by decide) ?_
            exact m_iret hx hb hr hlocks (Option.some.inj hm) hV hS ⟨Nat.le_of_ble_eq_true rfl, Nat.le_of_ble_eq_true rfl⟩ dX3_movesBySpan_120
      | some d_3 =>
        rw [Option.elim_some] at hm
        obtain ⟨a_3, rfl, hn_3, hP_3⟩ := hv
        have hP_3 := dF.made hLn_3 hn_3 hP_3
        have hn_3 := Nat.le_trans hs_3 hn_3
        refine lv_astore (lv' := [(5, .ref a_3), (4, .ref (srow b p1.toNatClampNeg)), (0, .ref b.1), (1, .int p0), (2, .int p1), (3, .int p2)]) hx hb dX3_movesBySpan_65 hl (by decide) rfl (fun ls hl => ?_)
        refine lv_aload hx hb dX3_movesBySpan_67 (lv_at hl 0 rfl) ?_
        refine lv_ifnull hx hb dX3_movesBySpan_69 ?_
        refine lv_aload hx hb dX3_movesBySpan_72 (lv_at hl 0 rfl) ?_
        refine lv_iload_n hx hb dX3_movesBySpan_74 rfl (lv_at hl 5 rfl) ?_
        refine lv_i2l hx hb dX3_movesBySpan_75 rfl ?_
        refine lv_aload hx hb dX3_movesBySpan_76 (lv_at hl 1 rfl) ?_
        refine lv_iconst (v := 2) hx hb dX3_movesBySpan_78 (by decide) ?_
        refine m_sld hx hb hGx hV (show ¬ ((2 : Int32) < 0 ∨ 3 ≤ ((2 : Int32)).toNatClampNeg) by decide) dX3_movesBySpan_79 ?_
        refine lv_i2l hx hb dX3_movesBySpan_80 rfl ?_
        refine lv_lmul hx hb dX3_movesBySpan_81 ?_
        obtain ⟨x_7, hx_7, hm⟩ := Option.bind_eq_some_iff.mp hm
        have hs_7 := hS.1.1
        have hLn_7 := m_hLn hLb hS
        have hL9 := hS.2
        refine qc_S hC hGx (k_X3_laterByDays l k d_3 (p2.toInt64 * ((sget x_1.2 p1.toNatClampNeg (2 : Int32).toNatClampNeg).toInt64)) a_3 hx_7) (gS w_1153 w_1154 w_27 w_1155) kk_X3_laterByDays (List.forall_mem_cons.mpr ⟨hP_3.1, (List.forall_mem_nil _)⟩) ⟨Nat.le_of_ble_eq_true rfl, Nat.le_of_ble_eq_true rfl⟩ ⟨Nat.le_of_ble_eq_true rfl, Nat.le_of_ble_eq_true rfl⟩ hS.1 hA hAB hl.1 rfl rfl (Nat.le_of_ble_eq_true rfl) dX3_movesBySpan_82 (fun v_7 H hv hz hq hS => ?_)
        have hS : mS b s.heap H _ := ⟨hS, hL9⟩
        have hV := hV.up hq
        have hP_3 := hP_3.up (fun x h9 _ => hq x h9)
        cases x_7 with
        | none =>
          rw [Option.elim_none] at hm
          have hv : v_7 = some .null := hv
          subst hv
          refine lv_astoreN (lv' := [(5, .null), (4, .ref (srow b p1.toNatClampNeg)), (0, .ref b.1), (1, .int p0), (2, .int p1), (3, .int p2)]) hx hb dX3_movesBySpan_85 hl (by decide) rfl (fun ls hl => ?_)
          refine lv_aload_n hx hb dX3_movesBySpan_87 rfl (lv_at hl 2 rfl) ?_
          refine lv_iconst (v := 0) hx hb dX3_movesBySpan_88 (by decide) ?_
          refine lv_aloadN hx hb dX3_movesBySpan_89 (lv_at hl 0 rfl) ?_
          obtain ⟨x_8, hx_8, hm⟩ := Option.bind_eq_some_iff.mp hm
          have hs_8 := hS.1.1
          have hLn_8 := m_hLn hLb hS
          have hL9 := hS.2
          refine qc_S hC hGx (k_X3_isDateN l k   hx_8) (gS w_1162 w_1163 w_27 w_1164) kk_X3_isDate (List.forall_mem_nil _) ⟨Nat.le_of_ble_eq_true rfl, Nat.le_of_ble_eq_true rfl⟩ ⟨Nat.le_of_ble_eq_true rfl, Nat.le_of_ble_eq_true rfl⟩ hS.1 hA hAB hl.1 rfl rfl (Nat.le_of_ble_eq_true rfl) dX3_movesBySpan_91 (fun v_8 H hv hz hq hS => ?_)
          have hS : mS b s.heap H _ := ⟨hS, hL9⟩
          have hV := hV.up hq
          have hv : v_8 = some (.int x_8) := hv
          subst hv
          refine lv_if_ne (tgt := 101) hx hb dX3_movesBySpan_94 (by decide) (fun h_8 => ?_) (fun h_8 => ?_)
          · have hm := (if_neg h_8).symm.trans hm
            refine lv_iconst (v := 0) hx hb dX3_movesBySpan_101 (by decide) ?_
            refine lv_iconst (v := 0) hx hb dX3_movesBySpan_102 (by decide) ?_
            obtain ⟨x_9, hx_9, hm⟩ := Option.bind_eq_some_iff.mp hm
            refine mc_V hC hGx hD (k_X3_fails l k b L hD (0 : Int32) (0 : Int32) (0 : Int32)  x_1.2 hx_9) (gV w_1056 w_1057 w_18 w_27 w_1058) kk_X3_fails rfl (List.forall_mem_nil _) hLb ⟨Nat.le_of_ble_eq_true rfl, Nat.le_of_ble_eq_true rfl⟩ ⟨Nat.le_of_ble_eq_true rfl, Nat.le_of_ble_eq_true rfl⟩ hV hS hl.1 rfl rfl (Nat.le_of_ble_eq_true rfl) dX3_movesBySpan_103 (fun q_9 H locs hV hS hz hq => ?_)
            refine lv_if_eq (tgt := 113) hx hb dX3_movesBySpan_106 (by decide) (fun h_9 => ?_) (fun h_9 => ?_)
            · have hm := (if_pos h_9).symm.trans hm
              refine lv_aload_n hx hb dX3_movesBySpan_113 rfl (lv_at hl 2 rfl) ?_
              refine lv_iload_n hx hb dX3_movesBySpan_114 rfl (lv_at hl 3 rfl) ?_
              refine lv_aloadN hx hb dX3_movesBySpan_115 (lv_at hl 0 rfl) ?_
              cases hm
            · have hm := (if_neg h_9).symm.trans hm
              refine lv_iconst (v := 0) hx hb dX3_movesBySpan_109 (by decide) ?_
              refine lv_goto (tgt := 120) hx hb dX3_movesBySpan_110 (by decide) ?_
              exact m_iret hx hb hr hlocks (Option.some.inj hm) hV hS ⟨Nat.le_of_ble_eq_true rfl, Nat.le_of_ble_eq_true rfl⟩ dX3_movesBySpan_120
          · have hm := (if_pos h_8).symm.trans hm
            refine lv_iconst (v := 1) hx hb dX3_movesBySpan_97 (by decide) ?_
            refine lv_goto (tgt := 102) hx hb dX3_movesBySpan_98 (by decide) ?_
            refine lv_iconst (v := 0) hx hb dX3_movesBySpan_102 (by decide) ?_
            obtain ⟨x_10, hx_10, hm⟩ := Option.bind_eq_some_iff.mp hm
            refine mc_V hC hGx hD (k_X3_fails l k b L hD (0 : Int32) (1 : Int32) (0 : Int32)  x_1.2 hx_10) (gV w_1056 w_1057 w_18 w_27 w_1058) kk_X3_fails rfl (List.forall_mem_nil _) hLb ⟨Nat.le_of_ble_eq_true rfl, Nat.le_of_ble_eq_true rfl⟩ ⟨Nat.le_of_ble_eq_true rfl, Nat.le_of_ble_eq_true rfl⟩ hV hS hl.1 rfl rfl (Nat.le_of_ble_eq_true rfl) dX3_movesBySpan_103 (fun q_10 H locs hV hS hz hq => ?_)
            refine lv_if_eq (tgt := 113) hx hb dX3_movesBySpan_106 (by decide) (fun h_10 => ?_) (fun h_10 => ?_)
            · have hm := (if_pos h_10).symm.trans hm
              refine lv_aload_n hx hb dX3_movesBySpan_113 rfl (lv_at hl 2 rfl) ?_
              refine lv_iload_n hx hb dX3_movesBySpan_114 rfl (lv_at hl 3 rfl) ?_
              refine lv_aloadN hx hb dX3_movesBySpan_115 (lv_at hl 0 rfl) ?_
              cases hm
            · have hm := (if_neg h_10).symm.trans hm
              refine lv_iconst (v := 0) hx hb dX3_movesBySpan_109 (by decide) ?_
              refine lv_goto (tgt := 120) hx hb dX3_movesBySpan_110 (by decide) ?_
              exact m_iret hx hb hr hlocks (Option.some.inj hm) hV hS ⟨Nat.le_of_ble_eq_true rfl, Nat.le_of_ble_eq_true rfl⟩ dX3_movesBySpan_120
        | some d_7 =>
          rw [Option.elim_some] at hm
          obtain ⟨a_7, rfl, hn_7, hP_7⟩ := hv
          have hP_7 := dF.made hLn_7 hn_7 hP_7
          have hn_7 := Nat.le_trans hs_7 hn_7
          refine lv_astore (lv' := [(5, .ref a_7), (4, .ref (srow b p1.toNatClampNeg)), (0, .ref b.1), (1, .int p0), (2, .int p1), (3, .int p2)]) hx hb dX3_movesBySpan_85 hl (by decide) rfl (fun ls hl => ?_)
          refine lv_aload_n hx hb dX3_movesBySpan_87 rfl (lv_at hl 2 rfl) ?_
          refine lv_iconst (v := 0) hx hb dX3_movesBySpan_88 (by decide) ?_
          refine lv_aload hx hb dX3_movesBySpan_89 (lv_at hl 0 rfl) ?_
          obtain ⟨x_11, hx_11, hm⟩ := Option.bind_eq_some_iff.mp hm
          have hs_11 := hS.1.1
          have hLn_11 := m_hLn hLb hS
          have hL9 := hS.2
          refine qc_S hC hGx (k_X3_isDate l k d_7 a_7 hx_11) (gS w_1162 w_1163 w_27 w_1164) kk_X3_isDate (List.forall_mem_cons.mpr ⟨hP_7.1, (List.forall_mem_nil _)⟩) ⟨Nat.le_of_ble_eq_true rfl, Nat.le_of_ble_eq_true rfl⟩ ⟨Nat.le_of_ble_eq_true rfl, Nat.le_of_ble_eq_true rfl⟩ hS.1 hA hAB hl.1 rfl rfl (Nat.le_of_ble_eq_true rfl) dX3_movesBySpan_91 (fun v_11 H hv hz hq hS => ?_)
          have hS : mS b s.heap H _ := ⟨hS, hL9⟩
          have hV := hV.up hq
          have hP_7 := hP_7.up (fun x h9 _ => hq x h9)
          have hv : v_11 = some (.int x_11) := hv
          subst hv
          refine lv_if_ne (tgt := 101) hx hb dX3_movesBySpan_94 (by decide) (fun h_11 => ?_) (fun h_11 => ?_)
          · have hm := (if_neg h_11).symm.trans hm
            refine lv_iconst (v := 0) hx hb dX3_movesBySpan_101 (by decide) ?_
            refine lv_iconst (v := 0) hx hb dX3_movesBySpan_102 (by decide) ?_
            obtain ⟨x_12, hx_12, hm⟩ := Option.bind_eq_some_iff.mp hm
            refine mc_V hC hGx hD (k_X3_fails l k b L hD (0 : Int32) (0 : Int32) (0 : Int32)  x_1.2 hx_12) (gV w_1056 w_1057 w_18 w_27 w_1058) kk_X3_fails rfl (List.forall_mem_nil _) hLb ⟨Nat.le_of_ble_eq_true rfl, Nat.le_of_ble_eq_true rfl⟩ ⟨Nat.le_of_ble_eq_true rfl, Nat.le_of_ble_eq_true rfl⟩ hV hS hl.1 rfl rfl (Nat.le_of_ble_eq_true rfl) dX3_movesBySpan_103 (fun q_12 H locs hV hS hz hq => ?_)
            have hP_7 := hP_7.up hq
            refine lv_if_eq (tgt := 113) hx hb dX3_movesBySpan_106 (by decide) (fun h_12 => ?_) (fun h_12 => ?_)
            · have hm := (if_pos h_12).symm.trans hm
              refine lv_aload_n hx hb dX3_movesBySpan_113 rfl (lv_at hl 2 rfl) ?_
              refine lv_iload_n hx hb dX3_movesBySpan_114 rfl (lv_at hl 3 rfl) ?_
              refine lv_aload hx hb dX3_movesBySpan_115 (lv_at hl 0 rfl) ?_
              obtain ⟨x_13, hx_13, hm⟩ := Option.bind_eq_some_iff.mp hm
              refine mc_V hC hGx hD (k_X3_gives l k b L hD p0 d_7 a_7 x_12.2 hx_13) (gV w_1059 w_1060 w_19 w_27 w_1061) kk_X3_gives rfl (List.forall_mem_cons.mpr ⟨hP_7, (List.forall_mem_nil _)⟩) hLb ⟨Nat.le_of_ble_eq_true rfl, Nat.le_of_ble_eq_true rfl⟩ ⟨Nat.le_of_ble_eq_true rfl, Nat.le_of_ble_eq_true rfl⟩ hV hS hl.1 rfl rfl (Nat.le_of_ble_eq_true rfl) dX3_movesBySpan_117 (fun q_13 H locs hV hS hz hq => ?_)
              have hP_7 := hP_7.up hq
              exact m_iret hx hb hr hlocks (Option.some.inj hm) hV hS ⟨Nat.le_of_ble_eq_true rfl, Nat.le_of_ble_eq_true rfl⟩ dX3_movesBySpan_120
            · have hm := (if_neg h_12).symm.trans hm
              refine lv_iconst (v := 0) hx hb dX3_movesBySpan_109 (by decide) ?_
              refine lv_goto (tgt := 120) hx hb dX3_movesBySpan_110 (by decide) ?_
              exact m_iret hx hb hr hlocks (Option.some.inj hm) hV hS ⟨Nat.le_of_ble_eq_true rfl, Nat.le_of_ble_eq_true rfl⟩ dX3_movesBySpan_120
          · have hm := (if_pos h_11).symm.trans hm
            refine lv_iconst (v := 1) hx hb dX3_movesBySpan_97 (by decide) ?_
            refine lv_goto (tgt := 102) hx hb dX3_movesBySpan_98 (by decide) ?_
            refine lv_iconst (v := 0) hx hb dX3_movesBySpan_102 (by decide) ?_
            obtain ⟨x_14, hx_14, hm⟩ := Option.bind_eq_some_iff.mp hm
            refine mc_V hC hGx hD (k_X3_fails l k b L hD (0 : Int32) (1 : Int32) (0 : Int32)  x_1.2 hx_14) (gV w_1056 w_1057 w_18 w_27 w_1058) kk_X3_fails rfl (List.forall_mem_nil _) hLb ⟨Nat.le_of_ble_eq_true rfl, Nat.le_of_ble_eq_true rfl⟩ ⟨Nat.le_of_ble_eq_true rfl, Nat.le_of_ble_eq_true rfl⟩ hV hS hl.1 rfl rfl (Nat.le_of_ble_eq_true rfl) dX3_movesBySpan_103 (fun q_14 H locs hV hS hz hq => ?_)
            have hP_7 := hP_7.up hq
            refine lv_if_eq (tgt := 113) hx hb dX3_movesBySpan_106 (by decide) (fun h_13 => ?_) (fun h_13 => ?_)
            · have hm := (if_pos h_13).symm.trans hm
              refine lv_aload_n hx hb dX3_movesBySpan_113 rfl (lv_at hl 2 rfl) ?_
              refine lv_iload_n hx hb dX3_movesBySpan_114 rfl (lv_at hl 3 rfl) ?_
              refine lv_aload hx hb dX3_movesBySpan_115 (lv_at hl 0 rfl) ?_
              obtain ⟨x_15, hx_15, hm⟩ := Option.bind_eq_some_iff.mp hm
              refine mc_V hC hGx hD (k_X3_gives l k b L hD p0 d_7 a_7 x_14.2 hx_15) (gV w_1059 w_1060 w_19 w_27 w_1061) kk_X3_gives rfl (List.forall_mem_cons.mpr ⟨hP_7, (List.forall_mem_nil _)⟩) hLb ⟨Nat.le_of_ble_eq_true rfl, Nat.le_of_ble_eq_true rfl⟩ ⟨Nat.le_of_ble_eq_true rfl, Nat.le_of_ble_eq_true rfl⟩ hV hS hl.1 rfl rfl (Nat.le_of_ble_eq_true rfl) dX3_movesBySpan_117 (fun q_15 H locs hV hS hz hq => ?_)
              have hP_7 := hP_7.up hq
              exact m_iret hx hb hr hlocks (Option.some.inj hm) hV hS ⟨Nat.le_of_ble_eq_true rfl, Nat.le_of_ble_eq_true rfl⟩ dX3_movesBySpan_120
            · have hm := (if_neg h_13).symm.trans hm
              refine lv_iconst (v := 0) hx hb dX3_movesBySpan_109 (by decide) ?_
              refine lv_goto (tgt := 120) hx hb dX3_movesBySpan_110 (by decide) ?_
              exact m_iret hx hb hr hlocks (Option.some.inj hm) hV hS ⟨Nat.le_of_ble_eq_true rfl, Nat.le_of_ble_eq_true rfl⟩ dX3_movesBySpan_120
    · have hm := (if_neg h_2).symm.trans hm
      refine lv_iconst (v := 0) hx hb dX3_movesBySpan_28 (by decide) ?_
      exact m_iret hx hb hr hlocks (Option.some.inj hm) hV hS ⟨Nat.le_of_ble_eq_true rfl, Nat.le_of_ble_eq_true rfl⟩ dX3_movesBySpan_29
  · have hm := (if_pos h_1).symm.trans hm
    refine lv_iload_n hx hb dX3_movesBySpan_8 rfl (lv_at hl 2 rfl) ?_
    refine pc_S hC (c_X3_isNoSpan l p1) (gS w_1197 w_1198 w_27 w_1199) kk_X3_isNoSpan ⟨Nat.le_of_ble_eq_true rfl, Nat.le_of_ble_eq_true rfl⟩ ⟨Nat.le_of_ble_eq_true rfl, Nat.le_of_ble_eq_true rfl⟩ hl.1 rfl rfl (Nat.le_of_ble_eq_true rfl) dX3_movesBySpan_9 ?_
    refine lv_if_eq (tgt := 19) hx hb dX3_movesBySpan_12 (by decide) (fun h_14 => ?_) (fun h_14 => ?_)
    · have hm := (if_pos h_14).symm.trans hm
      refine lv_iconst (v := 0) hx hb dX3_movesBySpan_19 (by decide) ?_
      refine lv_iconst (v := 0) hx hb dX3_movesBySpan_20 (by decide) ?_
      refine lv_iconst (v := 0) hx hb dX3_movesBySpan_21 (by decide) ?_
      obtain ⟨x_16, hx_16, hm⟩ := Option.bind_eq_some_iff.mp hm
      refine mc_V hC hGx hD (k_X3_fails l k b L hD (0 : Int32) (0 : Int32) (0 : Int32)  z hx_16) (gV w_1056 w_1057 w_18 w_27 w_1058) kk_X3_fails rfl (List.forall_mem_nil _) hLb ⟨Nat.le_of_ble_eq_true rfl, Nat.le_of_ble_eq_true rfl⟩ ⟨Nat.le_of_ble_eq_true rfl, Nat.le_of_ble_eq_true rfl⟩ hV hS hl.1 rfl rfl (Nat.le_of_ble_eq_true rfl) dX3_movesBySpan_22 (fun q_16 H locs hV hS hz hq => ?_)
      refine lv_if_eq (tgt := 30) hx hb dX3_movesBySpan_25 (by decide) (fun h_15 => ?_) (fun h_15 => ?_)
      · have hm := (if_pos h_15).symm.trans hm
        refine lv_aload_n hx hb dX3_movesBySpan_30 rfl (lv_at hl 0 rfl) ?_
        refine va_get (D := kD k) (ci := 5) (v := .ref b.2.2.1) (C := RX3) (T := TX3) (N := 5) hx hb htg inG_X3 hown hGx.1 hV.1 0 rfl rfl 2 (by decide) (htg _ w_1013) (fun _ h9 => h9) rfl dX3_movesBySpan_31 ?_
        refine lv_iload_n hx hb dX3_movesBySpan_34 rfl (lv_at hl 2 rfl) ?_
        by_cases h_16 : p1 < 0 ∨ 2 ≤ p1.toNatClampNeg
        · have hm := (if_pos h_16).symm.trans hm
          cases hm
        have hm := (if_neg h_16).symm.trans hm
        refine m_lds hx hb hGx hV h_16 dX3_movesBySpan_35 ?_
        refine lv_astore (lv' := [(4, .ref (srow b p1.toNatClampNeg)), (0, .ref b.1), (1, .int p0), (2, .int p1), (3, .int p2)]) hx hb dX3_movesBySpan_36 hl (by decide) rfl (fun ls hl => ?_)
        refine lv_aload_n hx hb dX3_movesBySpan_38 rfl (lv_at hl 1 rfl) ?_
        refine va_get (D := kD k) (ci := 5) (v := .ref b.2.1) (C := RX3) (T := TX3) (N := 5) hx hb htg inG_X3 hown hGx.1 hV.1 0 rfl rfl 1 (by decide) (htg _ w_1012) (fun _ h9 => h9) rfl dX3_movesBySpan_39 ?_
        refine lv_iload_n hx hb dX3_movesBySpan_42 rfl (lv_at hl 2 rfl) ?_
        by_cases h_17 : p0 < 0 ∨ 6 ≤ p0.toNatClampNeg
        · have hm := (if_pos h_17).symm.trans hm
          cases hm
        have hm := (if_neg h_17).symm.trans hm
        refine m_ald hx hb hGx hV h_17 dX3_movesBySpan_43 (fun hP_17 => ?_)
        refine lv_iload_n hx hb dX3_movesBySpan_44 rfl (lv_at hl 4 rfl) ?_
        refine lv_i2l hx hb dX3_movesBySpan_45 rfl ?_
        refine lv_ldc2 hx hb hown (htg _ w_1043) dX3_movesBySpan_46 ?_
        refine lv_aload hx hb dX3_movesBySpan_49 (lv_at hl 0 rfl) ?_
        refine lv_iconst (v := 0) hx hb dX3_movesBySpan_51 (by decide) ?_
        refine m_sld hx hb hGx hV (show ¬ ((0 : Int32) < 0 ∨ 3 ≤ ((0 : Int32)).toNatClampNeg) by decide) dX3_movesBySpan_52 ?_
        refine lv_i2l hx hb dX3_movesBySpan_53 rfl ?_
        refine lv_lmul hx hb dX3_movesBySpan_54 ?_
        refine lv_aload hx hb dX3_movesBySpan_55 (lv_at hl 0 rfl) ?_
        refine lv_iconst (v := 1) hx hb dX3_movesBySpan_57 (by decide) ?_
        refine m_sld hx hb hGx hV (show ¬ ((1 : Int32) < 0 ∨ 3 ≤ ((1 : Int32)).toNatClampNeg) by decide) dX3_movesBySpan_58 ?_
        refine lv_i2l hx hb dX3_movesBySpan_59 rfl ?_
        refine lv_ladd hx hb dX3_movesBySpan_60 ?_
        refine lv_lmul hx hb dX3_movesBySpan_61 ?_
        obtain ⟨x_18, hx_18, hm⟩ := Option.bind_eq_some_iff.mp hm
        have hs_18 := hS.1.1
        have hLn_18 := m_hLn hLb hS
        have hL9 := hS.2
        refine qc_S hC hGx (k_X3_later l k (x_16.2.2.1 p0.toNatClampNeg) (p2.toInt64 * (((12 : Int64) * ((sget x_16.2 p1.toNatClampNeg (0 : Int32).toNatClampNeg).toInt64)) + ((sget x_16.2 p1.toNatClampNeg (1 : Int32).toNatClampNeg).toInt64))) (q_16 p0.toNatClampNeg) hx_18) (gS w_1159 w_1160 w_27 w_1161) kk_X3_later (List.forall_mem_cons.mpr ⟨hP_17.1, (List.forall_mem_nil _)⟩) ⟨Nat.le_of_ble_eq_true rfl, Nat.le_of_ble_eq_true rfl⟩ ⟨Nat.le_of_ble_eq_true rfl, Nat.le_of_ble_eq_true rfl⟩ hS.1 hA hAB hl.1 rfl rfl (Nat.le_of_ble_eq_true rfl) dX3_movesBySpan_62 (fun v_18 H hv hz hq hS => ?_)
        have hS : mS b s.heap H _ := ⟨hS, hL9⟩
        have hV := hV.up hq
        cases x_18 with
        | none =>
          rw [Option.elim_none] at hm
          have hv : v_18 = some .null := hv
          subst hv
          refine lv_astoreN (lv' := [(5, .null), (4, .ref (srow b p1.toNatClampNeg)), (0, .ref b.1), (1, .int p0), (2, .int p1), (3, .int p2)]) hx hb dX3_movesBySpan_65 hl (by decide) rfl (fun ls hl => ?_)
          refine lv_aloadN hx hb dX3_movesBySpan_67 (lv_at hl 0 rfl) ?_
          refine lv_ifnullN (tgt := 87) hx hb dX3_movesBySpan_69 (by decide) ?_
          refine lv_aload_n hx hb dX3_movesBySpan_87 rfl (lv_at hl 2 rfl) ?_
          refine lv_iconst (v := 0) hx hb dX3_movesBySpan_88 (by decide) ?_
          refine lv_aloadN hx hb dX3_movesBySpan_89 (lv_at hl 0 rfl) ?_
          obtain ⟨x_19, hx_19, hm⟩ := Option.bind_eq_some_iff.mp hm
          have hs_19 := hS.1.1
          have hLn_19 := m_hLn hLb hS
          have hL9 := hS.2
          refine qc_S hC hGx (k_X3_isDateN l k   hx_19) (gS w_1162 w_1163 w_27 w_1164) kk_X3_isDate (List.forall_mem_nil _) ⟨Nat.le_of_ble_eq_true rfl, Nat.le_of_ble_eq_true rfl⟩ ⟨Nat.le_of_ble_eq_true rfl, Nat.le_of_ble_eq_true rfl⟩ hS.1 hA hAB hl.1 rfl rfl (Nat.le_of_ble_eq_true rfl) dX3_movesBySpan_91 (fun v_19 H hv hz hq hS => ?_)
          have hS : mS b s.heap H _ := ⟨hS, hL9⟩
          have hV := hV.up hq
          have hv : v_19 = some (.int x_19) := hv
          subst hv
          refine lv_if_ne (tgt := 101) hx hb dX3_movesBySpan_94 (by decide) (fun h_18 => ?_) (fun h_18 => ?_)
          · have hm := (if_neg h_18).symm.trans hm
            refine lv_iconst (v := 0) hx hb dX3_movesBySpan_101 (by decide) ?_
            refine lv_iconst (v := 0) hx hb dX3_movesBySpan_102 (by decide) ?_
            obtain ⟨x_20, hx_20, hm⟩ := Option.bind_eq_some_iff.mp hm
            refine mc_V hC hGx hD (k_X3_fails l k b L hD (0 : Int32) (0 : Int32) (0 : Int32)  x_16.2 hx_20) (gV w_1056 w_1057 w_18 w_27 w_1058) kk_X3_fails rfl (List.forall_mem_nil _) hLb ⟨Nat.le_of_ble_eq_true rfl, Nat.le_of_ble_eq_true rfl⟩ ⟨Nat.le_of_ble_eq_true rfl, Nat.le_of_ble_eq_true rfl⟩ hV hS hl.1 rfl rfl (Nat.le_of_ble_eq_true rfl) dX3_movesBySpan_103 (fun q_20 H locs hV hS hz hq => ?_)
            refine lv_if_eq (tgt := 113) hx hb dX3_movesBySpan_106 (by decide) (fun h_19 => ?_) (fun h_19 => ?_)
            · have hm := (if_pos h_19).symm.trans hm
              refine lv_aload_n hx hb dX3_movesBySpan_113 rfl (lv_at hl 2 rfl) ?_
              refine lv_iload_n hx hb dX3_movesBySpan_114 rfl (lv_at hl 3 rfl) ?_
              refine lv_aloadN hx hb dX3_movesBySpan_115 (lv_at hl 0 rfl) ?_
              cases hm
            · have hm := (if_neg h_19).symm.trans hm
              refine lv_iconst (v := 0) hx hb dX3_movesBySpan_109 (by decide) ?_
              refine lv_goto (tgt := 120) hx hb dX3_movesBySpan_110 (by decide) ?_
              exact m_iret hx hb hr hlocks (Option.some.inj hm) hV hS ⟨Nat.le_of_ble_eq_true rfl, Nat.le_of_ble_eq_true rfl⟩ dX3_movesBySpan_120
          · have hm := (if_pos h_18).symm.trans hm
            refine lv_iconst (v := 1) hx hb dX3_movesBySpan_97 (by decide) ?_
            refine lv_goto (tgt := 102) hx hb dX3_movesBySpan_98 (by decide) ?_
            refine lv_iconst (v := 0) hx hb dX3_movesBySpan_102 (by decide) ?_
            obtain ⟨x_21, hx_21, hm⟩ := Option.bind_eq_some_iff.mp hm
            refine mc_V hC hGx hD (k_X3_fails l k b L hD (0 : Int32) (1 : Int32) (0 : Int32)  x_16.2 hx_21) (gV w_1056 w_1057 w_18 w_27 w_1058) kk_X3_fails rfl (List.forall_mem_nil _) hLb ⟨Nat.le_of_ble_eq_true rfl, Nat.le_of_ble_eq_true rfl⟩ ⟨Nat.le_of_ble_eq_true rfl, Nat.le_of_ble_eq_true rfl⟩ hV hS hl.1 rfl rfl (Nat.le_of_ble_eq_true rfl) dX3_movesBySpan_103 (fun q_21 H locs hV hS hz hq => ?_)
            refine lv_if_eq (tgt := 113) hx hb dX3_movesBySpan_106 (by decide) (fun h_20 => ?_) (fun h_20 => ?_)
            · have hm := (if_pos h_20).symm.trans hm
              refine lv_aload_n hx hb dX3_movesBySpan_113 rfl (lv_at hl 2 rfl) ?_
              refine lv_iload_n hx hb dX3_movesBySpan_114 rfl (lv_at hl 3 rfl) ?_
              refine lv_aloadN hx hb dX3_movesBySpan_115 (lv_at hl 0 rfl) ?_
              cases hm
            · have hm := (if_neg h_20).symm.trans hm
              refine lv_iconst (v := 0) hx hb dX3_movesBySpan_109 (by decide) ?_
              refine lv_goto (tgt := 120) hx hb dX3_movesBySpan_110 (by decide) ?_
              exact m_iret hx hb hr hlocks (Option.some.inj hm) hV hS ⟨Nat.le_of_ble_eq_true rfl, Nat.le_of_ble_eq_true rfl⟩ dX3_movesBySpan_120
        | some d_18 =>
          rw [Option.elim_some] at hm
          obtain ⟨a_18, rfl, hn_18, hP_18⟩ := hv
          have hP_18 := dF.made hLn_18 hn_18 hP_18
          have hn_18 := Nat.le_trans hs_18 hn_18
          refine lv_astore (lv' := [(5, .ref a_18), (4, .ref (srow b p1.toNatClampNeg)), (0, .ref b.1), (1, .int p0), (2, .int p1), (3, .int p2)]) hx hb dX3_movesBySpan_65 hl (by decide) rfl (fun ls hl => ?_)
          refine lv_aload hx hb dX3_movesBySpan_67 (lv_at hl 0 rfl) ?_
          refine lv_ifnull hx hb dX3_movesBySpan_69 ?_
          refine lv_aload hx hb dX3_movesBySpan_72 (lv_at hl 0 rfl) ?_
          refine lv_iload_n hx hb dX3_movesBySpan_74 rfl (lv_at hl 5 rfl) ?_
          refine lv_i2l hx hb dX3_movesBySpan_75 rfl ?_
          refine lv_aload hx hb dX3_movesBySpan_76 (lv_at hl 1 rfl) ?_
          refine lv_iconst (v := 2) hx hb dX3_movesBySpan_78 (by decide) ?_
          refine m_sld hx hb hGx hV (show ¬ ((2 : Int32) < 0 ∨ 3 ≤ ((2 : Int32)).toNatClampNeg) by decide) dX3_movesBySpan_79 ?_
          refine lv_i2l hx hb dX3_movesBySpan_80 rfl ?_
          refine lv_lmul hx hb dX3_movesBySpan_81 ?_
          obtain ⟨x_22, hx_22, hm⟩ := Option.bind_eq_some_iff.mp hm
          have hs_22 := hS.1.1
          have hLn_22 := m_hLn hLb hS
          have hL9 := hS.2
          refine qc_S hC hGx (k_X3_laterByDays l k d_18 (p2.toInt64 * ((sget x_16.2 p1.toNatClampNeg (2 : Int32).toNatClampNeg).toInt64)) a_18 hx_22) (gS w_1153 w_1154 w_27 w_1155) kk_X3_laterByDays (List.forall_mem_cons.mpr ⟨hP_18.1, (List.forall_mem_nil _)⟩) ⟨Nat.le_of_ble_eq_true rfl, Nat.le_of_ble_eq_true rfl⟩ ⟨Nat.le_of_ble_eq_true rfl, Nat.le_of_ble_eq_true rfl⟩ hS.1 hA hAB hl.1 rfl rfl (Nat.le_of_ble_eq_true rfl) dX3_movesBySpan_82 (fun v_22 H hv hz hq hS => ?_)
          have hS : mS b s.heap H _ := ⟨hS, hL9⟩
          have hV := hV.up hq
          have hP_18 := hP_18.up (fun x h9 _ => hq x h9)
          cases x_22 with
          | none =>
            rw [Option.elim_none] at hm
            have hv : v_22 = some .null := hv
            subst hv
            refine lv_astoreN (lv' := [(5, .null), (4, .ref (srow b p1.toNatClampNeg)), (0, .ref b.1), (1, .int p0), (2, .int p1), (3, .int p2)]) hx hb dX3_movesBySpan_85 hl (by decide) rfl (fun ls hl => ?_)
            refine lv_aload_n hx hb dX3_movesBySpan_87 rfl (lv_at hl 2 rfl) ?_
            refine lv_iconst (v := 0) hx hb dX3_movesBySpan_88 (by decide) ?_
            refine lv_aloadN hx hb dX3_movesBySpan_89 (lv_at hl 0 rfl) ?_
            obtain ⟨x_23, hx_23, hm⟩ := Option.bind_eq_some_iff.mp hm
            have hs_23 := hS.1.1
            have hLn_23 := m_hLn hLb hS
            have hL9 := hS.2
            refine qc_S hC hGx (k_X3_isDateN l k   hx_23) (gS w_1162 w_1163 w_27 w_1164) kk_X3_isDate (List.forall_mem_nil _) ⟨Nat.le_of_ble_eq_true rfl, Nat.le_of_ble_eq_true rfl⟩ ⟨Nat.le_of_ble_eq_true rfl, Nat.le_of_ble_eq_true rfl⟩ hS.1 hA hAB hl.1 rfl rfl (Nat.le_of_ble_eq_true rfl) dX3_movesBySpan_91 (fun v_23 H hv hz hq hS => ?_)
            have hS : mS b s.heap H _ := ⟨hS, hL9⟩
            have hV := hV.up hq
            have hv : v_23 = some (.int x_23) := hv
            subst hv
            refine lv_if_ne (tgt := 101) hx hb dX3_movesBySpan_94 (by decide) (fun h_21 => ?_) (fun h_21 => ?_)
            · have hm := (if_neg h_21).symm.trans hm
              refine lv_iconst (v := 0) hx hb dX3_movesBySpan_101 (by decide) ?_
              refine lv_iconst (v := 0) hx hb dX3_movesBySpan_102 (by decide) ?_
              obtain ⟨x_24, hx_24, hm⟩ := Option.bind_eq_some_iff.mp hm
              refine mc_V hC hGx hD (k_X3_fails l k b L hD (0 : Int32) (0 : Int32) (0 : Int32)  x_16.2 hx_24) (gV w_1056 w_1057 w_18 w_27 w_1058) kk_X3_fails rfl (List.forall_mem_nil _) hLb ⟨Nat.le_of_ble_eq_true rfl, Nat.le_of_ble_eq_true rfl⟩ ⟨Nat.le_of_ble_eq_true rfl, Nat.le_of_ble_eq_true rfl⟩ hV hS hl.1 rfl rfl (Nat.le_of_ble_eq_true rfl) dX3_movesBySpan_103 (fun q_24 H locs hV hS hz hq => ?_)
              refine lv_if_eq (tgt := 113) hx hb dX3_movesBySpan_106 (by decide) (fun h_22 => ?_) (fun h_22 => ?_)
              · have hm := (if_pos h_22).symm.trans hm
                refine lv_aload_n hx hb dX3_movesBySpan_113 rfl (lv_at hl 2 rfl) ?_
                refine lv_iload_n hx hb dX3_movesBySpan_114 rfl (lv_at hl 3 rfl) ?_
                refine lv_aloadN hx hb dX3_movesBySpan_115 (lv_at hl 0 rfl) ?_
                cases hm
              · have hm := (if_neg h_22).symm.trans hm
                refine lv_iconst (v := 0) hx hb dX3_movesBySpan_109 (by decide) ?_
                refine lv_goto (tgt := 120) hx hb dX3_movesBySpan_110 (by decide) ?_
                exact m_iret hx hb hr hlocks (Option.some.inj hm) hV hS ⟨Nat.le_of_ble_eq_true rfl, Nat.le_of_ble_eq_true rfl⟩ dX3_movesBySpan_120
            · have hm := (if_pos h_21).symm.trans hm
              refine lv_iconst (v := 1) hx hb dX3_movesBySpan_97 (by decide) ?_
              refine lv_goto (tgt := 102) hx hb dX3_movesBySpan_98 (by decide) ?_
              refine lv_iconst (v := 0) hx hb dX3_movesBySpan_102 (by decide) ?_
              obtain ⟨x_25, hx_25, hm⟩ := Option.bind_eq_some_iff.mp hm
              refine mc_V hC hGx hD (k_X3_fails l k b L hD (0 : Int32) (1 : Int32) (0 : Int32)  x_16.2 hx_25) (gV w_1056 w_1057 w_18 w_27 w_1058) kk_X3_fails rfl (List.forall_mem_nil _) hLb ⟨Nat.le_of_ble_eq_true rfl, Nat.le_of_ble_eq_true rfl⟩ ⟨Nat.le_of_ble_eq_true rfl, Nat.le_of_ble_eq_true rfl⟩ hV hS hl.1 rfl rfl (Nat.le_of_ble_eq_true rfl) dX3_movesBySpan_103 (fun q_25 H locs hV hS hz hq => ?_)
              refine lv_if_eq (tgt := 113) hx hb dX3_movesBySpan_106 (by decide) (fun h_23 => ?_) (fun h_23 => ?_)
              · have hm := (if_pos h_23).symm.trans hm
                refine lv_aload_n hx hb dX3_movesBySpan_113 rfl (lv_at hl 2 rfl) ?_
                refine lv_iload_n hx hb dX3_movesBySpan_114 rfl (lv_at hl 3 rfl) ?_
                refine lv_aloadN hx hb dX3_movesBySpan_115 (lv_at hl 0 rfl) ?_
                cases hm
              · have hm := (if_neg h_23).symm.trans hm
                refine lv_iconst (v := 0) hx hb dX3_movesBySpan_109 (by decide) ?_
                refine lv_goto (tgt := 120) hx hb dX3_movesBySpan_110 (by decide) ?_
                exact m_iret hx hb hr hlocks (Option.some.inj hm) hV hS ⟨Nat.le_of_ble_eq_true rfl, Nat.le_of_ble_eq_true rfl⟩ dX3_movesBySpan_120
          | some d_22 =>
            rw [Option.elim_some] at hm
            obtain ⟨a_22, rfl, hn_22, hP_22⟩ := hv
            have hP_22 := dF.made hLn_22 hn_22 hP_22
            have hn_22 := Nat.le_trans hs_22 hn_22
            refine lv_astore (lv' := [(5, .ref a_22), (4, .ref (srow b p1.toNatClampNeg)), (0, .ref b.1), (1, .int p0), (2, .int p1), (3, .int p2)]) hx hb dX3_movesBySpan_85 hl (by decide) rfl (fun ls hl => ?_)
            refine lv_aload_n hx hb dX3_movesBySpan_87 rfl (lv_at hl 2 rfl) ?_
            refine lv_iconst (v := 0) hx hb dX3_movesBySpan_88 (by decide) ?_
            refine lv_aload hx hb dX3_movesBySpan_89 (lv_at hl 0 rfl) ?_
            obtain ⟨x_26, hx_26, hm⟩ := Option.bind_eq_some_iff.mp hm
            have hs_26 := hS.1.1
            have hLn_26 := m_hLn hLb hS
            have hL9 := hS.2
            refine qc_S hC hGx (k_X3_isDate l k d_22 a_22 hx_26) (gS w_1162 w_1163 w_27 w_1164) kk_X3_isDate (List.forall_mem_cons.mpr ⟨hP_22.1, (List.forall_mem_nil _)⟩) ⟨Nat.le_of_ble_eq_true rfl, Nat.le_of_ble_eq_true rfl⟩ ⟨Nat.le_of_ble_eq_true rfl, Nat.le_of_ble_eq_true rfl⟩ hS.1 hA hAB hl.1 rfl rfl (Nat.le_of_ble_eq_true rfl) dX3_movesBySpan_91 (fun v_26 H hv hz hq hS => ?_)
            have hS : mS b s.heap H _ := ⟨hS, hL9⟩
            have hV := hV.up hq
            have hP_22 := hP_22.up (fun x h9 _ => hq x h9)
            have hv : v_26 = some (.int x_26) := hv
            subst hv
            refine lv_if_ne (tgt := 101) hx hb dX3_movesBySpan_94 (by decide) (fun h_24 => ?_) (fun h_24 => ?_)
            · have hm := (if_neg h_24).symm.trans hm
              refine lv_iconst (v := 0) hx hb dX3_movesBySpan_101 (by decide) ?_
              refine lv_iconst (v := 0) hx hb dX3_movesBySpan_102 (by decide) ?_
              obtain ⟨x_27, hx_27, hm⟩ := Option.bind_eq_some_iff.mp hm
              refine mc_V hC hGx hD (k_X3_fails l k b L hD (0 : Int32) (0 : Int32) (0 : Int32)  x_16.2 hx_27) (gV w_1056 w_1057 w_18 w_27 w_1058) kk_X3_fails rfl (List.forall_mem_nil _) hLb ⟨Nat.le_of_ble_eq_true rfl, Nat.le_of_ble_eq_true rfl⟩ ⟨Nat.le_of_ble_eq_true rfl, Nat.le_of_ble_eq_true rfl⟩ hV hS hl.1 rfl rfl (Nat.le_of_ble_eq_true rfl) dX3_movesBySpan_103 (fun q_27 H locs hV hS hz hq => ?_)
              have hP_22 := hP_22.up hq
              refine lv_if_eq (tgt := 113) hx hb dX3_movesBySpan_106 (by decide) (fun h_25 => ?_) (fun h_25 => ?_)
              · have hm := (if_pos h_25).symm.trans hm
                refine lv_aload_n hx hb dX3_movesBySpan_113 rfl (lv_at hl 2 rfl) ?_
                refine lv_iload_n hx hb dX3_movesBySpan_114 rfl (lv_at hl 3 rfl) ?_
                refine lv_aload hx hb dX3_movesBySpan_115 (lv_at hl 0 rfl) ?_
                obtain ⟨x_28, hx_28, hm⟩ := Option.bind_eq_some_iff.mp hm
                refine mc_V hC hGx hD (k_X3_gives l k b L hD p0 d_22 a_22 x_27.2 hx_28) (gV w_1059 w_1060 w_19 w_27 w_1061) kk_X3_gives rfl (List.forall_mem_cons.mpr ⟨hP_22, (List.forall_mem_nil _)⟩) hLb ⟨Nat.le_of_ble_eq_true rfl, Nat.le_of_ble_eq_true rfl⟩ ⟨Nat.le_of_ble_eq_true rfl, Nat.le_of_ble_eq_true rfl⟩ hV hS hl.1 rfl rfl (Nat.le_of_ble_eq_true rfl) dX3_movesBySpan_117 (fun q_28 H locs hV hS hz hq => ?_)
                have hP_22 := hP_22.up hq
                exact m_iret hx hb hr hlocks (Option.some.inj hm) hV hS ⟨Nat.le_of_ble_eq_true rfl, Nat.le_of_ble_eq_true rfl⟩ dX3_movesBySpan_120
              · have hm := (if_neg h_25).symm.trans hm
                refine lv_iconst (v := 0) hx hb dX3_movesBySpan_109 (by decide) ?_
                refine lv_goto (tgt := 120) hx hb dX3_movesBySpan_110 (by decide) ?_
                exact m_iret hx hb hr hlocks (Option.some.inj hm) hV hS ⟨Nat.le_of_ble_eq_true rfl, Nat.le_of_ble_eq_true rfl⟩ dX3_movesBySpan_120
            · have hm := (if_pos h_24).symm.trans hm
              refine lv_iconst (v := 1) hx hb dX3_movesBySpan_97 (by decide) ?_
              refine lv_goto (tgt := 102) hx hb dX3_movesBySpan_98 (by decide) ?_
              refine lv_iconst (v := 0) hx hb dX3_movesBySpan_102 (by decide) ?_
              obtain ⟨x_29, hx_29, hm⟩ := Option.bind_eq_some_iff.mp hm
              refine mc_V hC hGx hD (k_X3_fails l k b L hD (0 : Int32) (1 : Int32) (0 : Int32)  x_16.2 hx_29) (gV w_1056 w_1057 w_18 w_27 w_1058) kk_X3_fails rfl (List.forall_mem_nil _) hLb ⟨Nat.le_of_ble_eq_true rfl, Nat.le_of_ble_eq_true rfl⟩ ⟨Nat.le_of_ble_eq_true rfl, Nat.le_of_ble_eq_true rfl⟩ hV hS hl.1 rfl rfl (Nat.le_of_ble_eq_true rfl) dX3_movesBySpan_103 (fun q_29 H locs hV hS hz hq => ?_)
              have hP_22 := hP_22.up hq
              refine lv_if_eq (tgt := 113) hx hb dX3_movesBySpan_106 (by decide) (fun h_26 => ?_) (fun h_26 => ?_)
              · have hm := (if_pos h_26).symm.trans hm
                refine lv_aload_n hx hb dX3_movesBySpan_113 rfl (lv_at hl 2 rfl) ?_
                refine lv_iload_n hx hb dX3_movesBySpan_114 rfl (lv_at hl 3 rfl) ?_
                refine lv_aload hx hb dX3_movesBySpan_115 (lv_at hl 0 rfl) ?_
                obtain ⟨x_30, hx_30, hm⟩ := Option.bind_eq_some_iff.mp hm
                refine mc_V hC hGx hD (k_X3_gives l k b L hD p0 d_22 a_22 x_29.2 hx_30) (gV w_1059 w_1060 w_19 w_27 w_1061) kk_X3_gives rfl (List.forall_mem_cons.mpr ⟨hP_22, (List.forall_mem_nil _)⟩) hLb ⟨Nat.le_of_ble_eq_true rfl, Nat.le_of_ble_eq_true rfl⟩ ⟨Nat.le_of_ble_eq_true rfl, Nat.le_of_ble_eq_true rfl⟩ hV hS hl.1 rfl rfl (Nat.le_of_ble_eq_true rfl) dX3_movesBySpan_117 (fun q_30 H locs hV hS hz hq => ?_)
                have hP_22 := hP_22.up hq
                exact m_iret hx hb hr hlocks (Option.some.inj hm) hV hS ⟨Nat.le_of_ble_eq_true rfl, Nat.le_of_ble_eq_true rfl⟩ dX3_movesBySpan_120
              · have hm := (if_neg h_26).symm.trans hm
                refine lv_iconst (v := 0) hx hb dX3_movesBySpan_109 (by decide) ?_
                refine lv_goto (tgt := 120) hx hb dX3_movesBySpan_110 (by decide) ?_
                exact m_iret hx hb hr hlocks (Option.some.inj hm) hV hS ⟨Nat.le_of_ble_eq_true rfl, Nat.le_of_ble_eq_true rfl⟩ dX3_movesBySpan_120
      · have hm := (if_neg h_15).symm.trans hm
        refine lv_iconst (v := 0) hx hb dX3_movesBySpan_28 (by decide) ?_
        exact m_iret hx hb hr hlocks (Option.some.inj hm) hV hS ⟨Nat.le_of_ble_eq_true rfl, Nat.le_of_ble_eq_true rfl⟩ dX3_movesBySpan_29
    · have hm := (if_neg h_14).symm.trans hm
      refine lv_iconst (v := 1) hx hb dX3_movesBySpan_15 (by decide) ?_
      refine lv_goto (tgt := 20) hx hb dX3_movesBySpan_16 (by decide) ?_
      refine lv_iconst (v := 0) hx hb dX3_movesBySpan_20 (by decide) ?_
      refine lv_iconst (v := 0) hx hb dX3_movesBySpan_21 (by decide) ?_
      obtain ⟨x_31, hx_31, hm⟩ := Option.bind_eq_some_iff.mp hm
      refine mc_V hC hGx hD (k_X3_fails l k b L hD (1 : Int32) (0 : Int32) (0 : Int32)  z hx_31) (gV w_1056 w_1057 w_18 w_27 w_1058) kk_X3_fails rfl (List.forall_mem_nil _) hLb ⟨Nat.le_of_ble_eq_true rfl, Nat.le_of_ble_eq_true rfl⟩ ⟨Nat.le_of_ble_eq_true rfl, Nat.le_of_ble_eq_true rfl⟩ hV hS hl.1 rfl rfl (Nat.le_of_ble_eq_true rfl) dX3_movesBySpan_22 (fun q_31 H locs hV hS hz hq => ?_)
      refine lv_if_eq (tgt := 30) hx hb dX3_movesBySpan_25 (by decide) (fun h_27 => ?_) (fun h_27 => ?_)
      · have hm := (if_pos h_27).symm.trans hm
        refine lv_aload_n hx hb dX3_movesBySpan_30 rfl (lv_at hl 0 rfl) ?_
        refine va_get (D := kD k) (ci := 5) (v := .ref b.2.2.1) (C := RX3) (T := TX3) (N := 5) hx hb htg inG_X3 hown hGx.1 hV.1 0 rfl rfl 2 (by decide) (htg _ w_1013) (fun _ h9 => h9) rfl dX3_movesBySpan_31 ?_
        refine lv_iload_n hx hb dX3_movesBySpan_34 rfl (lv_at hl 2 rfl) ?_
        by_cases h_28 : p1 < 0 ∨ 2 ≤ p1.toNatClampNeg
        · have hm := (if_pos h_28).symm.trans hm
          cases hm
        have hm := (if_neg h_28).symm.trans hm
        refine m_lds hx hb hGx hV h_28 dX3_movesBySpan_35 ?_
        refine lv_astore (lv' := [(4, .ref (srow b p1.toNatClampNeg)), (0, .ref b.1), (1, .int p0), (2, .int p1), (3, .int p2)]) hx hb dX3_movesBySpan_36 hl (by decide) rfl (fun ls hl => ?_)
        refine lv_aload_n hx hb dX3_movesBySpan_38 rfl (lv_at hl 1 rfl) ?_
        refine va_get (D := kD k) (ci := 5) (v := .ref b.2.1) (C := RX3) (T := TX3) (N := 5) hx hb htg inG_X3 hown hGx.1 hV.1 0 rfl rfl 1 (by decide) (htg _ w_1012) (fun _ h9 => h9) rfl dX3_movesBySpan_39 ?_
        refine lv_iload_n hx hb dX3_movesBySpan_42 rfl (lv_at hl 2 rfl) ?_
        by_cases h_29 : p0 < 0 ∨ 6 ≤ p0.toNatClampNeg
        · have hm := (if_pos h_29).symm.trans hm
          cases hm
        have hm := (if_neg h_29).symm.trans hm
        refine m_ald hx hb hGx hV h_29 dX3_movesBySpan_43 (fun hP_32 => ?_)
        refine lv_iload_n hx hb dX3_movesBySpan_44 rfl (lv_at hl 4 rfl) ?_
        refine lv_i2l hx hb dX3_movesBySpan_45 rfl ?_
        refine lv_ldc2 hx hb hown (htg _ w_1043) dX3_movesBySpan_46 ?_
        refine lv_aload hx hb dX3_movesBySpan_49 (lv_at hl 0 rfl) ?_
        refine lv_iconst (v := 0) hx hb dX3_movesBySpan_51 (by decide) ?_
        refine m_sld hx hb hGx hV (show ¬ ((0 : Int32) < 0 ∨ 3 ≤ ((0 : Int32)).toNatClampNeg) by decide) dX3_movesBySpan_52 ?_
        refine lv_i2l hx hb dX3_movesBySpan_53 rfl ?_
        refine lv_lmul hx hb dX3_movesBySpan_54 ?_
        refine lv_aload hx hb dX3_movesBySpan_55 (lv_at hl 0 rfl) ?_
        refine lv_iconst (v := 1) hx hb dX3_movesBySpan_57 (by decide) ?_
        refine m_sld hx hb hGx hV (show ¬ ((1 : Int32) < 0 ∨ 3 ≤ ((1 : Int32)).toNatClampNeg) by decide) dX3_movesBySpan_58 ?_
        refine lv_i2l hx hb dX3_movesBySpan_59 rfl ?_
        refine lv_ladd hx hb dX3_movesBySpan_60 ?_
        refine lv_lmul hx hb dX3_movesBySpan_61 ?_
        obtain ⟨x_33, hx_33, hm⟩ := Option.bind_eq_some_iff.mp hm
        have hs_33 := hS.1.1
        have hLn_33 := m_hLn hLb hS
        have hL9 := hS.2
        refine qc_S hC hGx (k_X3_later l k (x_31.2.2.1 p0.toNatClampNeg) (p2.toInt64 * (((12 : Int64) * ((sget x_31.2 p1.toNatClampNeg (0 : Int32).toNatClampNeg).toInt64)) + ((sget x_31.2 p1.toNatClampNeg (1 : Int32).toNatClampNeg).toInt64))) (q_31 p0.toNatClampNeg) hx_33) (gS w_1159 w_1160 w_27 w_1161) kk_X3_later (List.forall_mem_cons.mpr ⟨hP_32.1, (List.forall_mem_nil _)⟩) ⟨Nat.le_of_ble_eq_true rfl, Nat.le_of_ble_eq_true rfl⟩ ⟨Nat.le_of_ble_eq_true rfl, Nat.le_of_ble_eq_true rfl⟩ hS.1 hA hAB hl.1 rfl rfl (Nat.le_of_ble_eq_true rfl) dX3_movesBySpan_62 (fun v_33 H hv hz hq hS => ?_)
        have hS : mS b s.heap H _ := ⟨hS, hL9⟩
        have hV := hV.up hq
        cases x_33 with
        | none =>
          rw [Option.elim_none] at hm
          have hv : v_33 = some .null := hv
          subst hv
          refine lv_astoreN (lv' := [(5, .null), (4, .ref (srow b p1.toNatClampNeg)), (0, .ref b.1), (1, .int p0), (2, .int p1), (3, .int p2)]) hx hb dX3_movesBySpan_65 hl (by decide) rfl (fun ls hl => ?_)
          refine lv_aloadN hx hb dX3_movesBySpan_67 (lv_at hl 0 rfl) ?_
          refine lv_ifnullN (tgt := 87) hx hb dX3_movesBySpan_69 (by decide) ?_
          refine lv_aload_n hx hb dX3_movesBySpan_87 rfl (lv_at hl 2 rfl) ?_
          refine lv_iconst (v := 0) hx hb dX3_movesBySpan_88 (by decide) ?_
          refine lv_aloadN hx hb dX3_movesBySpan_89 (lv_at hl 0 rfl) ?_
          obtain ⟨x_34, hx_34, hm⟩ := Option.bind_eq_some_iff.mp hm
          have hs_34 := hS.1.1
          have hLn_34 := m_hLn hLb hS
          have hL9 := hS.2
          refine qc_S hC hGx (k_X3_isDateN l k   hx_34) (gS w_1162 w_1163 w_27 w_1164) kk_X3_isDate (List.forall_mem_nil _) ⟨Nat.le_of_ble_eq_true rfl, Nat.le_of_ble_eq_true rfl⟩ ⟨Nat.le_of_ble_eq_true rfl, Nat.le_of_ble_eq_true rfl⟩ hS.1 hA hAB hl.1 rfl rfl (Nat.le_of_ble_eq_true rfl) dX3_movesBySpan_91 (fun v_34 H hv hz hq hS => ?_)
          have hS : mS b s.heap H _ := ⟨hS, hL9⟩
          have hV := hV.up hq
          have hv : v_34 = some (.int x_34) := hv
          subst hv
          refine lv_if_ne (tgt := 101) hx hb dX3_movesBySpan_94 (by decide) (fun h_30 => ?_) (fun h_30 => ?_)
          · have hm := (if_neg h_30).symm.trans hm
            refine lv_iconst (v := 0) hx hb dX3_movesBySpan_101 (by decide) ?_
            refine lv_iconst (v := 0) hx hb dX3_movesBySpan_102 (by decide) ?_
            obtain ⟨x_35, hx_35, hm⟩ := Option.bind_eq_some_iff.mp hm
            refine mc_V hC hGx hD (k_X3_fails l k b L hD (0 : Int32) (0 : Int32) (0 : Int32)  x_31.2 hx_35) (gV w_1056 w_1057 w_18 w_27 w_1058) kk_X3_fails rfl (List.forall_mem_nil _) hLb ⟨Nat.le_of_ble_eq_true rfl, Nat.le_of_ble_eq_true rfl⟩ ⟨Nat.le_of_ble_eq_true rfl, Nat.le_of_ble_eq_true rfl⟩ hV hS hl.1 rfl rfl (Nat.le_of_ble_eq_true rfl) dX3_movesBySpan_103 (fun q_35 H locs hV hS hz hq => ?_)
            refine lv_if_eq (tgt := 113) hx hb dX3_movesBySpan_106 (by decide) (fun h_31 => ?_) (fun h_31 => ?_)
            · have hm := (if_pos h_31).symm.trans hm
              refine lv_aload_n hx hb dX3_movesBySpan_113 rfl (lv_at hl 2 rfl) ?_
              refine lv_iload_n hx hb dX3_movesBySpan_114 rfl (lv_at hl 3 rfl) ?_
              refine lv_aloadN hx hb dX3_movesBySpan_115 (lv_at hl 0 rfl) ?_
              cases hm
            · have hm := (if_neg h_31).symm.trans hm
              refine lv_iconst (v := 0) hx hb dX3_movesBySpan_109 (by decide) ?_
              refine lv_goto (tgt := 120) hx hb dX3_movesBySpan_110 (by decide) ?_
              exact m_iret hx hb hr hlocks (Option.some.inj hm) hV hS ⟨Nat.le_of_ble_eq_true rfl, Nat.le_of_ble_eq_true rfl⟩ dX3_movesBySpan_120
          · have hm := (if_pos h_30).symm.trans hm
            refine lv_iconst (v := 1) hx hb dX3_movesBySpan_97 (by decide) ?_
            refine lv_goto (tgt := 102) hx hb dX3_movesBySpan_98 (by decide) ?_
            refine lv_iconst (v := 0) hx hb dX3_movesBySpan_102 (by decide) ?_
            obtain ⟨x_36, hx_36, hm⟩ := Option.bind_eq_some_iff.mp hm
            refine mc_V hC hGx hD (k_X3_fails l k b L hD (0 : Int32) (1 : Int32) (0 : Int32)  x_31.2 hx_36) (gV w_1056 w_1057 w_18 w_27 w_1058) kk_X3_fails rfl (List.forall_mem_nil _) hLb ⟨Nat.le_of_ble_eq_true rfl, Nat.le_of_ble_eq_true rfl⟩ ⟨Nat.le_of_ble_eq_true rfl, Nat.le_of_ble_eq_true rfl⟩ hV hS hl.1 rfl rfl (Nat.le_of_ble_eq_true rfl) dX3_movesBySpan_103 (fun q_36 H locs hV hS hz hq => ?_)
            refine lv_if_eq (tgt := 113) hx hb dX3_movesBySpan_106 (by decide) (fun h_32 => ?_) (fun h_32 => ?_)
            · have hm := (if_pos h_32).symm.trans hm
              refine lv_aload_n hx hb dX3_movesBySpan_113 rfl (lv_at hl 2 rfl) ?_
              refine lv_iload_n hx hb dX3_movesBySpan_114 rfl (lv_at hl 3 rfl) ?_
              refine lv_aloadN hx hb dX3_movesBySpan_115 (lv_at hl 0 rfl) ?_
              cases hm
            · have hm := (if_neg h_32).symm.trans hm
              refine lv_iconst (v := 0) hx hb dX3_movesBySpan_109 (by decide) ?_
              refine lv_goto (tgt := 120) hx hb dX3_movesBySpan_110 (by decide) ?_
              exact m_iret hx hb hr hlocks (Option.some.inj hm) hV hS ⟨Nat.le_of_ble_eq_true rfl, Nat.le_of_ble_eq_true rfl⟩ dX3_movesBySpan_120
        | some d_33 =>
          rw [Option.elim_some] at hm
          obtain ⟨a_33, rfl, hn_33, hP_33⟩ := hv
          have hP_33 := dF.made hLn_33 hn_33 hP_33
          have hn_33 := Nat.le_trans hs_33 hn_33
          refine lv_astore (lv' := [(5, .ref a_33), (4, .ref (srow b p1.toNatClampNeg)), (0, .ref b.1), (1, .int p0), (2, .int p1), (3, .int p2)]) hx hb dX3_movesBySpan_65 hl (by decide) rfl (fun ls hl => ?_)
          refine lv_aload hx hb dX3_movesBySpan_67 (lv_at hl 0 rfl) ?_
          refine lv_ifnull hx hb dX3_movesBySpan_69 ?_
          refine lv_aload hx hb dX3_movesBySpan_72 (lv_at hl 0 rfl) ?_
          refine lv_iload_n hx hb dX3_movesBySpan_74 rfl (lv_at hl 5 rfl) ?_
          refine lv_i2l hx hb dX3_movesBySpan_75 rfl ?_
          refine lv_aload hx hb dX3_movesBySpan_76 (lv_at hl 1 rfl) ?_
          refine lv_iconst (v := 2) hx hb dX3_movesBySpan_78 (by decide) ?_
          refine m_sld hx hb hGx hV (show ¬ ((2 : Int32) < 0 ∨ 3 ≤ ((2 : Int32)).toNatClampNeg) by decide) dX3_movesBySpan_79 ?_
          refine lv_i2l hx hb dX3_movesBySpan_80 rfl ?_
          refine lv_lmul hx hb dX3_movesBySpan_81 ?_
          obtain ⟨x_37, hx_37, hm⟩ := Option.bind_eq_some_iff.mp hm
          have hs_37 := hS.1.1
          have hLn_37 := m_hLn hLb hS
          have hL9 := hS.2
          refine qc_S hC hGx (k_X3_laterByDays l k d_33 (p2.toInt64 * ((sget x_31.2 p1.toNatClampNeg (2 : Int32).toNatClampNeg).toInt64)) a_33 hx_37) (gS w_1153 w_1154 w_27 w_1155) kk_X3_laterByDays (List.forall_mem_cons.mpr ⟨hP_33.1, (List.forall_mem_nil _)⟩) ⟨Nat.le_of_ble_eq_true rfl, Nat.le_of_ble_eq_true rfl⟩ ⟨Nat.le_of_ble_eq_true rfl, Nat.le_of_ble_eq_true rfl⟩ hS.1 hA hAB hl.1 rfl rfl (Nat.le_of_ble_eq_true rfl) dX3_movesBySpan_82 (fun v_37 H hv hz hq hS => ?_)
          have hS : mS b s.heap H _ := ⟨hS, hL9⟩
          have hV := hV.up hq
          have hP_33 := hP_33.up (fun x h9 _ => hq x h9)
          cases x_37 with
          | none =>
            rw [Option.elim_none] at hm
            have hv : v_37 = some .null := hv
            subst hv
            refine lv_astoreN (lv' := [(5, .null), (4, .ref (srow b p1.toNatClampNeg)), (0, .ref b.1), (1, .int p0), (2, .int p1), (3, .int p2)]) hx hb dX3_movesBySpan_85 hl (by decide) rfl (fun ls hl => ?_)
            refine lv_aload_n hx hb dX3_movesBySpan_87 rfl (lv_at hl 2 rfl) ?_
            refine lv_iconst (v := 0) hx hb dX3_movesBySpan_88 (by decide) ?_
            refine lv_aloadN hx hb dX3_movesBySpan_89 (lv_at hl 0 rfl) ?_
            obtain ⟨x_38, hx_38, hm⟩ := Option.bind_eq_some_iff.mp hm
            have hs_38 := hS.1.1
            have hLn_38 := m_hLn hLb hS
            have hL9 := hS.2
            refine qc_S hC hGx (k_X3_isDateN l k   hx_38) (gS w_1162 w_1163 w_27 w_1164) kk_X3_isDate (List.forall_mem_nil _) ⟨Nat.le_of_ble_eq_true rfl, Nat.le_of_ble_eq_true rfl⟩ ⟨Nat.le_of_ble_eq_true rfl, Nat.le_of_ble_eq_true rfl⟩ hS.1 hA hAB hl.1 rfl rfl (Nat.le_of_ble_eq_true rfl) dX3_movesBySpan_91 (fun v_38 H hv hz hq hS => ?_)
            have hS : mS b s.heap H _ := ⟨hS, hL9⟩
            have hV := hV.up hq
            have hv : v_38 = some (.int x_38) := hv
            subst hv
            refine lv_if_ne (tgt := 101) hx hb dX3_movesBySpan_94 (by decide) (fun h_33 => ?_) (fun h_33 => ?_)
            · have hm := (if_neg h_33).symm.trans hm
              refine lv_iconst (v := 0) hx hb dX3_movesBySpan_101 (by decide) ?_
              refine lv_iconst (v := 0) hx hb dX3_movesBySpan_102 (by decide) ?_
              obtain ⟨x_39, hx_39, hm⟩ := Option.bind_eq_some_iff.mp hm
              refine mc_V hC hGx hD (k_X3_fails l k b L hD (0 : Int32) (0 : Int32) (0 : Int32)  x_31.2 hx_39) (gV w_1056 w_1057 w_18 w_27 w_1058) kk_X3_fails rfl (List.forall_mem_nil _) hLb ⟨Nat.le_of_ble_eq_true rfl, Nat.le_of_ble_eq_true rfl⟩ ⟨Nat.le_of_ble_eq_true rfl, Nat.le_of_ble_eq_true rfl⟩ hV hS hl.1 rfl rfl (Nat.le_of_ble_eq_true rfl) dX3_movesBySpan_103 (fun q_39 H locs hV hS hz hq => ?_)
              refine lv_if_eq (tgt := 113) hx hb dX3_movesBySpan_106 (by decide) (fun h_34 => ?_) (fun h_34 => ?_)
              · have hm := (if_pos h_34).symm.trans hm
                refine lv_aload_n hx hb dX3_movesBySpan_113 rfl (lv_at hl 2 rfl) ?_
                refine lv_iload_n hx hb dX3_movesBySpan_114 rfl (lv_at hl 3 rfl) ?_
                refine lv_aloadN hx hb dX3_movesBySpan_115 (lv_at hl 0 rfl) ?_
                cases hm
              · have hm := (if_neg h_34).symm.trans hm
                refine lv_iconst (v := 0) hx hb dX3_movesBySpan_109 (by decide) ?_
                refine lv_goto (tgt := 120) hx hb dX3_movesBySpan_110 (by decide) ?_
                exact m_iret hx hb hr hlocks (Option.some.inj hm) hV hS ⟨Nat.le_of_ble_eq_true rfl, Nat.le_of_ble_eq_true rfl⟩ dX3_movesBySpan_120
            · have hm := (if_pos h_33).symm.trans hm
              refine lv_iconst (v := 1) hx hb dX3_movesBySpan_97 (by decide) ?_
              refine lv_goto (tgt := 102) hx hb dX3_movesBySpan_98 (by decide) ?_
              refine lv_iconst (v := 0) hx hb dX3_movesBySpan_102 (by decide) ?_
              obtain ⟨x_40, hx_40, hm⟩ := Option.bind_eq_some_iff.mp hm
              refine mc_V hC hGx hD (k_X3_fails l k b L hD (0 : Int32) (1 : Int32) (0 : Int32)  x_31.2 hx_40) (gV w_1056 w_1057 w_18 w_27 w_1058) kk_X3_fails rfl (List.forall_mem_nil _) hLb ⟨Nat.le_of_ble_eq_true rfl, Nat.le_of_ble_eq_true rfl⟩ ⟨Nat.le_of_ble_eq_true rfl, Nat.le_of_ble_eq_true rfl⟩ hV hS hl.1 rfl rfl (Nat.le_of_ble_eq_true rfl) dX3_movesBySpan_103 (fun q_40 H locs hV hS hz hq => ?_)
              refine lv_if_eq (tgt := 113) hx hb dX3_movesBySpan_106 (by decide) (fun h_35 => ?_) (fun h_35 => ?_)
              · have hm := (if_pos h_35).symm.trans hm
                refine lv_aload_n hx hb dX3_movesBySpan_113 rfl (lv_at hl 2 rfl) ?_
                refine lv_iload_n hx hb dX3_movesBySpan_114 rfl (lv_at hl 3 rfl) ?_
                refine lv_aloadN hx hb dX3_movesBySpan_115 (lv_at hl 0 rfl) ?_
                cases hm
              · have hm := (if_neg h_35).symm.trans hm
                refine lv_iconst (v := 0) hx hb dX3_movesBySpan_109 (by decide) ?_
                refine lv_goto (tgt := 120) hx hb dX3_movesBySpan_110 (by decide) ?_
                exact m_iret hx hb hr hlocks (Option.some.inj hm) hV hS ⟨Nat.le_of_ble_eq_true rfl, Nat.le_of_ble_eq_true rfl⟩ dX3_movesBySpan_120
          | some d_37 =>
            rw [Option.elim_some] at hm
            obtain ⟨a_37, rfl, hn_37, hP_37⟩ := hv
            have hP_37 := dF.made hLn_37 hn_37 hP_37
            have hn_37 := Nat.le_trans hs_37 hn_37
            refine lv_astore (lv' := [(5, .ref a_37), (4, .ref (srow b p1.toNatClampNeg)), (0, .ref b.1), (1, .int p0), (2, .int p1), (3, .int p2)]) hx hb dX3_movesBySpan_85 hl (by decide) rfl (fun ls hl => ?_)
            refine lv_aload_n hx hb dX3_movesBySpan_87 rfl (lv_at hl 2 rfl) ?_
            refine lv_iconst (v := 0) hx hb dX3_movesBySpan_88 (by decide) ?_
            refine lv_aload hx hb dX3_movesBySpan_89 (lv_at hl 0 rfl) ?_
            obtain ⟨x_41, hx_41, hm⟩ := Option.bind_eq_some_iff.mp hm
            have hs_41 := hS.1.1
            have hLn_41 := m_hLn hLb hS
            have hL9 := hS.2
            refine qc_S hC hGx (k_X3_isDate l k d_37 a_37 hx_41) (gS w_1162 w_1163 w_27 w_1164) kk_X3_isDate (List.forall_mem_cons.mpr ⟨hP_37.1, (List.forall_mem_nil _)⟩) ⟨Nat.le_of_ble_eq_true rfl, Nat.le_of_ble_eq_true rfl⟩ ⟨Nat.le_of_ble_eq_true rfl, Nat.le_of_ble_eq_true rfl⟩ hS.1 hA hAB hl.1 rfl rfl (Nat.le_of_ble_eq_true rfl) dX3_movesBySpan_91 (fun v_41 H hv hz hq hS => ?_)
            have hS : mS b s.heap H _ := ⟨hS, hL9⟩
            have hV := hV.up hq
            have hP_37 := hP_37.up (fun x h9 _ => hq x h9)
            have hv : v_41 = some (.int x_41) := hv
            subst hv
            refine lv_if_ne (tgt := 101) hx hb dX3_movesBySpan_94 (by decide) (fun h_36 => ?_) (fun h_36 => ?_)
            · have hm := (if_neg h_36).symm.trans hm
              refine lv_iconst (v := 0) hx hb dX3_movesBySpan_101 (by decide) ?_
              refine lv_iconst (v := 0) hx hb dX3_movesBySpan_102 (by decide) ?_
              obtain ⟨x_42, hx_42, hm⟩ := Option.bind_eq_some_iff.mp hm
              refine mc_V hC hGx hD (k_X3_fails l k b L hD (0 : Int32) (0 : Int32) (0 : Int32)  x_31.2 hx_42) (gV w_1056 w_1057 w_18 w_27 w_1058) kk_X3_fails rfl (List.forall_mem_nil _) hLb ⟨Nat.le_of_ble_eq_true rfl, Nat.le_of_ble_eq_true rfl⟩ ⟨Nat.le_of_ble_eq_true rfl, Nat.le_of_ble_eq_true rfl⟩ hV hS hl.1 rfl rfl (Nat.le_of_ble_eq_true rfl) dX3_movesBySpan_103 (fun q_42 H locs hV hS hz hq => ?_)
              have hP_37 := hP_37.up hq
              refine lv_if_eq (tgt := 113) hx hb dX3_movesBySpan_106 (by decide) (fun h_37 => ?_) (fun h_37 => ?_)
              · have hm := (if_pos h_37).symm.trans hm
                refine lv_aload_n hx hb dX3_movesBySpan_113 rfl (lv_at hl 2 rfl) ?_
                refine lv_iload_n hx hb dX3_movesBySpan_114 rfl (lv_at hl 3 rfl) ?_
                refine lv_aload hx hb dX3_movesBySpan_115 (lv_at hl 0 rfl) ?_
                obtain ⟨x_43, hx_43, hm⟩ := Option.bind_eq_some_iff.mp hm
                refine mc_V hC hGx hD (k_X3_gives l k b L hD p0 d_37 a_37 x_42.2 hx_43) (gV w_1059 w_1060 w_19 w_27 w_1061) kk_X3_gives rfl (List.forall_mem_cons.mpr ⟨hP_37, (List.forall_mem_nil _)⟩) hLb ⟨Nat.le_of_ble_eq_true rfl, Nat.le_of_ble_eq_true rfl⟩ ⟨Nat.le_of_ble_eq_true rfl, Nat.le_of_ble_eq_true rfl⟩ hV hS hl.1 rfl rfl (Nat.le_of_ble_eq_true rfl) dX3_movesBySpan_117 (fun q_43 H locs hV hS hz hq => ?_)
                have hP_37 := hP_37.up hq
                exact m_iret hx hb hr hlocks (Option.some.inj hm) hV hS ⟨Nat.le_of_ble_eq_true rfl, Nat.le_of_ble_eq_true rfl⟩ dX3_movesBySpan_120
              · have hm := (if_neg h_37).symm.trans hm
                refine lv_iconst (v := 0) hx hb dX3_movesBySpan_109 (by decide) ?_
                refine lv_goto (tgt := 120) hx hb dX3_movesBySpan_110 (by decide) ?_
                exact m_iret hx hb hr hlocks (Option.some.inj hm) hV hS ⟨Nat.le_of_ble_eq_true rfl, Nat.le_of_ble_eq_true rfl⟩ dX3_movesBySpan_120
            · have hm := (if_pos h_36).symm.trans hm
              refine lv_iconst (v := 1) hx hb dX3_movesBySpan_97 (by decide) ?_
              refine lv_goto (tgt := 102) hx hb dX3_movesBySpan_98 (by decide) ?_
              refine lv_iconst (v := 0) hx hb dX3_movesBySpan_102 (by decide) ?_
              obtain ⟨x_44, hx_44, hm⟩ := Option.bind_eq_some_iff.mp hm
              refine mc_V hC hGx hD (k_X3_fails l k b L hD (0 : Int32) (1 : Int32) (0 : Int32)  x_31.2 hx_44) (gV w_1056 w_1057 w_18 w_27 w_1058) kk_X3_fails rfl (List.forall_mem_nil _) hLb ⟨Nat.le_of_ble_eq_true rfl, Nat.le_of_ble_eq_true rfl⟩ ⟨Nat.le_of_ble_eq_true rfl, Nat.le_of_ble_eq_true rfl⟩ hV hS hl.1 rfl rfl (Nat.le_of_ble_eq_true rfl) dX3_movesBySpan_103 (fun q_44 H locs hV hS hz hq => ?_)
              have hP_37 := hP_37.up hq
              refine lv_if_eq (tgt := 113) hx hb dX3_movesBySpan_106 (by decide) (fun h_38 => ?_) (fun h_38 => ?_)
              · have hm := (if_pos h_38).symm.trans hm
                refine lv_aload_n hx hb dX3_movesBySpan_113 rfl (lv_at hl 2 rfl) ?_
                refine lv_iload_n hx hb dX3_movesBySpan_114 rfl (lv_at hl 3 rfl) ?_
                refine lv_aload hx hb dX3_movesBySpan_115 (lv_at hl 0 rfl) ?_
                obtain ⟨x_45, hx_45, hm⟩ := Option.bind_eq_some_iff.mp hm
                refine mc_V hC hGx hD (k_X3_gives l k b L hD p0 d_37 a_37 x_44.2 hx_45) (gV w_1059 w_1060 w_19 w_27 w_1061) kk_X3_gives rfl (List.forall_mem_cons.mpr ⟨hP_37, (List.forall_mem_nil _)⟩) hLb ⟨Nat.le_of_ble_eq_true rfl, Nat.le_of_ble_eq_true rfl⟩ ⟨Nat.le_of_ble_eq_true rfl, Nat.le_of_ble_eq_true rfl⟩ hV hS hl.1 rfl rfl (Nat.le_of_ble_eq_true rfl) dX3_movesBySpan_117 (fun q_45 H locs hV hS hz hq => ?_)
                have hP_37 := hP_37.up hq
                exact m_iret hx hb hr hlocks (Option.some.inj hm) hV hS ⟨Nat.le_of_ble_eq_true rfl, Nat.le_of_ble_eq_true rfl⟩ dX3_movesBySpan_120
              · have hm := (if_neg h_38).symm.trans hm
                refine lv_iconst (v := 0) hx hb dX3_movesBySpan_109 (by decide) ?_
                refine lv_goto (tgt := 120) hx hb dX3_movesBySpan_110 (by decide) ?_
                exact m_iret hx hb hr hlocks (Option.some.inj hm) hV hS ⟨Nat.le_of_ble_eq_true rfl, Nat.le_of_ble_eq_true rfl⟩ dX3_movesBySpan_120
      · have hm := (if_neg h_27).symm.trans hm
        refine lv_iconst (v := 0) hx hb dX3_movesBySpan_28 (by decide) ?_
        exact m_iret hx hb hr hlocks (Option.some.inj hm) hV hS ⟨Nat.le_of_ble_eq_true rfl, Nat.le_of_ble_eq_true rfl⟩ dX3_movesBySpan_29
def o_X3_plusSpan (p0 : Int32) (p1 : Int32) (z : MS) : Option (Int32 × MS) := ((o_X3_movesBySpan p0 p1 (1 : Int32) z).bind fun x_1 => some (x_1.1, x_1.2))
theorem kk_X3_plusSpan : pK yX3_plusSpan wsX3_plusSpan cX3_plusSpan 3 (some .int) 2 := ⟨⟨_, rfl⟩, by decide +kernel, by decide +kernel, by decide +kernel⟩
set_option maxRecDepth 100000 in
set_option maxHeartbeats 4000000 in
theorem k_X3_plusSpan (l : Launch) (k : Kx) (b : CA) (L : List Nat) (hD : mD k b L) (p0 : Int32) (p1 : Int32) (z : MS) {r : (Int32 × MS)} (hm : o_X3_plusSpan p0 p1 z = some r) : mM l k b L yX3_plusSpan wsX3_plusSpan 6 157 2 6 [.int p0, .int p1] [] z (some (.int r.1)) r.2 := by
  intro sz q
  refine Met.ofW (cc := cX3_plusSpan) (maxL := 3) (ret := (some .int)) (by decide) rfl ?_
  intro p e s m args below meth c s₁ B hml hv
  obtain ⟨rfl, rfl, hGx, hV, hLb, hds⟩ := hv
  have hx := B.exec
  have hb := B.bytes
  have hr := B.returns
  have hts := atoms_spec (ws := wsX3_plusSpan) B.pre
  have hown : s.vm.findClass RX3 = some m.cls := findClass_of_methodNamed B.named
  have hlocks := B.notSynchronized
  have htg : ∀ w ∈ GL, w.before _ s = true := fun w h => hts w (List.mem_cons_of_mem _ h)
  have hC : CallFix p m c cX3_plusSpan 3 s _ wsX3_plusSpan RX3 := ⟨hx, hb, hml, hown, hts⟩
  have hA : ∀ q, s.heap.size ≤ q → cA b s.heap.size q := fun q h => cA.new q h
  have hAB : ∀ q, cA b s.heap.size q → kB k ≤ q := hD.high hGx.2.1
  have hS : mS b s.heap s.heap [] := mS.rf
  have hl := lv_entry ([.ref b.1, .int p0, .int p1]) (n := 3) (Nat.le_of_ble_eq_true rfl)
  rw [lg_entry_eq]
  generalize (lg_sl ([.ref b.1, .int p0, .int p1]) ++ List.replicate (3 - (lg_sl ([.ref b.1, .int p0, .int p1])).length) Slot.unset).toArray = ls at hl ⊢
  have hl : lv_has ls 3 [(0, .ref b.1), (1, .int p0), (2, .int p1)] := hl
  refine lv_aload_n hx hb dX3_plusSpan_0 rfl (lv_at hl 0 rfl) ?_
  refine lv_iload_n hx hb dX3_plusSpan_1 rfl (lv_at hl 1 rfl) ?_
  refine lv_iload_n hx hb dX3_plusSpan_2 rfl (lv_at hl 2 rfl) ?_
  refine lv_iconst (v := 1) hx hb dX3_plusSpan_3 (by decide) ?_
  obtain ⟨x_1, hx_1, hm⟩ := Option.bind_eq_some_iff.mp hm
  refine mc_V hC hGx hD (k_X3_movesBySpan l k b L hD p0 p1 (1 : Int32)  z hx_1) (gV w_1237 w_1238 w_22 w_27 w_1239) kk_X3_movesBySpan rfl (List.forall_mem_nil _) hLb ⟨Nat.le_of_ble_eq_true rfl, Nat.le_of_ble_eq_true rfl⟩ ⟨Nat.le_of_ble_eq_true rfl, Nat.le_of_ble_eq_true rfl⟩ hV hS hl.1 rfl rfl (Nat.le_of_ble_eq_true rfl) dX3_plusSpan_4 (fun q_1 H locs hV hS hz hq => ?_)
  exact m_iret hx hb hr hlocks (Option.some.inj hm) hV hS ⟨Nat.le_of_ble_eq_true rfl, Nat.le_of_ble_eq_true rfl⟩ dX3_plusSpan_7
def o_X3_minusSpan (p0 : Int32) (p1 : Int32) (z : MS) : Option (Int32 × MS) := ((o_X3_movesBySpan p0 p1 (-1 : Int32) z).bind fun x_1 => some (x_1.1, x_1.2))
theorem kk_X3_minusSpan : pK yX3_minusSpan wsX3_minusSpan cX3_minusSpan 3 (some .int) 2 := ⟨⟨_, rfl⟩, by decide +kernel, by decide +kernel, by decide +kernel⟩
set_option maxRecDepth 100000 in
set_option maxHeartbeats 4000000 in
theorem k_X3_minusSpan (l : Launch) (k : Kx) (b : CA) (L : List Nat) (hD : mD k b L) (p0 : Int32) (p1 : Int32) (z : MS) {r : (Int32 × MS)} (hm : o_X3_minusSpan p0 p1 z = some r) : mM l k b L yX3_minusSpan wsX3_minusSpan 6 157 2 6 [.int p0, .int p1] [] z (some (.int r.1)) r.2 := by
  intro sz q
  refine Met.ofW (cc := cX3_minusSpan) (maxL := 3) (ret := (some .int)) (by decide) rfl ?_
  intro p e s m args below meth c s₁ B hml hv
  obtain ⟨rfl, rfl, hGx, hV, hLb, hds⟩ := hv
  have hx := B.exec
  have hb := B.bytes
  have hr := B.returns
  have hts := atoms_spec (ws := wsX3_minusSpan) B.pre
  have hown : s.vm.findClass RX3 = some m.cls := findClass_of_methodNamed B.named
  have hlocks := B.notSynchronized
  have htg : ∀ w ∈ GL, w.before _ s = true := fun w h => hts w (List.mem_cons_of_mem _ h)
  have hC : CallFix p m c cX3_minusSpan 3 s _ wsX3_minusSpan RX3 := ⟨hx, hb, hml, hown, hts⟩
  have hA : ∀ q, s.heap.size ≤ q → cA b s.heap.size q := fun q h => cA.new q h
  have hAB : ∀ q, cA b s.heap.size q → kB k ≤ q := hD.high hGx.2.1
  have hS : mS b s.heap s.heap [] := mS.rf
  have hl := lv_entry ([.ref b.1, .int p0, .int p1]) (n := 3) (Nat.le_of_ble_eq_true rfl)
  rw [lg_entry_eq]
  generalize (lg_sl ([.ref b.1, .int p0, .int p1]) ++ List.replicate (3 - (lg_sl ([.ref b.1, .int p0, .int p1])).length) Slot.unset).toArray = ls at hl ⊢
  have hl : lv_has ls 3 [(0, .ref b.1), (1, .int p0), (2, .int p1)] := hl
  refine lv_aload_n hx hb dX3_minusSpan_0 rfl (lv_at hl 0 rfl) ?_
  refine lv_iload_n hx hb dX3_minusSpan_1 rfl (lv_at hl 1 rfl) ?_
  refine lv_iload_n hx hb dX3_minusSpan_2 rfl (lv_at hl 2 rfl) ?_
  refine lv_iconst (v := (-1)) hx hb dX3_minusSpan_3 (by decide) ?_
  obtain ⟨x_1, hx_1, hm⟩ := Option.bind_eq_some_iff.mp hm
  refine mc_V hC hGx hD (k_X3_movesBySpan l k b L hD p0 p1 (-1 : Int32)  z hx_1) (gV w_1237 w_1238 w_22 w_27 w_1239) kk_X3_movesBySpan rfl (List.forall_mem_nil _) hLb ⟨Nat.le_of_ble_eq_true rfl, Nat.le_of_ble_eq_true rfl⟩ ⟨Nat.le_of_ble_eq_true rfl, Nat.le_of_ble_eq_true rfl⟩ hV hS hl.1 rfl rfl (Nat.le_of_ble_eq_true rfl) dX3_minusSpan_4 (fun q_1 H locs hV hS hz hq => ?_)
  exact m_iret hx hb hr hlocks (Option.some.inj hm) hV hS ⟨Nat.le_of_ble_eq_true rfl, Nat.le_of_ble_eq_true rfl⟩ dX3_minusSpan_7
def o_X3_year (p0 : Int32) (z : MS) : Option (Int32 × MS) := ((o_X3_fails (m_X3_isNo p0) (0 : Int32) (0 : Int32) z).bind fun x_1 => (if x_1.1 = 0 then (if p0 < 0 ∨ 6 ≤ p0.toNatClampNeg then none else some ((x_1.2.2.1 p0.toNatClampNeg).1, x_1.2)) else some ((0 : Int32), x_1.2)))
theorem kk_X3_year : pK yX3_year wsX3_year cX3_year 2 (some .int) 1 := ⟨⟨_, rfl⟩, by decide +kernel, by decide +kernel, by decide +kernel⟩
set_option maxRecDepth 100000 in
set_option maxHeartbeats 4000000 in
theorem k_X3_year (l : Launch) (k : Kx) (b : CA) (L : List Nat) (hD : mD k b L) (p0 : Int32) (z : MS) {r : (Int32 × MS)} (hm : o_X3_year p0 z = some r) : mM l k b L yX3_year wsX3_year 2 45 0 0 [.int p0] [] z (some (.int r.1)) r.2 := by
  intro sz q
  refine Met.ofW (cc := cX3_year) (maxL := 2) (ret := (some .int)) (by decide) rfl ?_
  intro p e s m args below meth c s₁ B hml hv
  obtain ⟨rfl, rfl, hGx, hV, hLb, hds⟩ := hv
  have hx := B.exec
  have hb := B.bytes
  have hr := B.returns
  have hts := atoms_spec (ws := wsX3_year) B.pre
  have hown : s.vm.findClass RX3 = some m.cls := findClass_of_methodNamed B.named
  have hlocks := B.notSynchronized
  have htg : ∀ w ∈ GL, w.before _ s = true := fun w h => hts w (List.mem_cons_of_mem _ h)
  have hC : CallFix p m c cX3_year 2 s _ wsX3_year RX3 := ⟨hx, hb, hml, hown, hts⟩
  have hA : ∀ q, s.heap.size ≤ q → cA b s.heap.size q := fun q h => cA.new q h
  have hAB : ∀ q, cA b s.heap.size q → kB k ≤ q := hD.high hGx.2.1
  have hS : mS b s.heap s.heap [] := mS.rf
  have hl := lv_entry ([.ref b.1, .int p0]) (n := 2) (Nat.le_of_ble_eq_true rfl)
  rw [lg_entry_eq]
  generalize (lg_sl ([.ref b.1, .int p0]) ++ List.replicate (2 - (lg_sl ([.ref b.1, .int p0])).length) Slot.unset).toArray = ls at hl ⊢
  have hl : lv_has ls 2 [(0, .ref b.1), (1, .int p0)] := hl
  refine lv_aload_n hx hb dX3_year_0 rfl (lv_at hl 0 rfl) ?_
  refine lv_iload_n hx hb dX3_year_1 rfl (lv_at hl 1 rfl) ?_
  refine pc_S hC (c_X3_isNo l p0) (gS w_1045 w_1046 w_27 w_1047) kk_X3_isNo ⟨Nat.le_of_ble_eq_true rfl, Nat.le_of_ble_eq_true rfl⟩ ⟨Nat.le_of_ble_eq_true rfl, Nat.le_of_ble_eq_true rfl⟩ hl.1 rfl rfl (Nat.le_of_ble_eq_true rfl) dX3_year_2 ?_
  refine lv_iconst (v := 0) hx hb dX3_year_5 (by decide) ?_
  refine lv_iconst (v := 0) hx hb dX3_year_6 (by decide) ?_
  obtain ⟨x_1, hx_1, hm⟩ := Option.bind_eq_some_iff.mp hm
  refine mc_V hC hGx hD (k_X3_fails l k b L hD (m_X3_isNo p0) (0 : Int32) (0 : Int32)  z hx_1) (gV w_1056 w_1057 w_18 w_27 w_1058) kk_X3_fails rfl (List.forall_mem_nil _) hLb ⟨Nat.le_of_ble_eq_true rfl, Nat.le_of_ble_eq_true rfl⟩ ⟨Nat.le_of_ble_eq_true rfl, Nat.le_of_ble_eq_true rfl⟩ hV hS hl.1 rfl rfl (Nat.le_of_ble_eq_true rfl) dX3_year_7 (fun q_1 H locs hV hS hz hq => ?_)
  refine lv_if_eq (tgt := 17) hx hb dX3_year_10 (by decide) (fun h_1 => ?_) (fun h_1 => ?_)
  · have hm := (if_pos h_1).symm.trans hm
    refine lv_aload_n hx hb dX3_year_17 rfl (lv_at hl 0 rfl) ?_
    refine va_get (D := kD k) (ci := 5) (v := .ref b.2.1) (C := RX3) (T := TX3) (N := 5) hx hb htg inG_X3 hown hGx.1 hV.1 0 rfl rfl 1 (by decide) (htg _ w_1012) (fun _ h9 => h9) rfl dX3_year_18 ?_
    refine lv_iload_n hx hb dX3_year_21 rfl (lv_at hl 1 rfl) ?_
    by_cases h_2 : p0 < 0 ∨ 6 ≤ p0.toNatClampNeg
    · have hm := (if_pos h_2).symm.trans hm
      cases hm
    have hm := (if_neg h_2).symm.trans hm
    refine m_ald hx hb hGx hV h_2 dX3_year_22 (fun hP_2 => ?_)
    refine va_get (D := kD k) (ci := 4) (v := .int ((x_1.2.2.1 p0.toNatClampNeg).1)) (C := RX2) (T := TX2) (N := 3) hx hb htg inG_X2 hown hGx.1 hP_2.1 0 rfl rfl 0 (by decide) (htg _ w_999) (fun _ h9 => h9) rfl dX3_year_23 ?_
    exact m_iret hx hb hr hlocks (Option.some.inj hm) hV hS ⟨Nat.le_of_ble_eq_true rfl, Nat.le_of_ble_eq_true rfl⟩ dX3_year_26
  · have hm := (if_neg h_1).symm.trans hm
    refine lv_iconst (v := 0) hx hb dX3_year_13 (by decide) ?_
    refine lv_goto (tgt := 26) hx hb dX3_year_14 (by decide) ?_
    exact m_iret hx hb hr hlocks (Option.some.inj hm) hV hS ⟨Nat.le_of_ble_eq_true rfl, Nat.le_of_ble_eq_true rfl⟩ dX3_year_26
def o_X3_month (p0 : Int32) (z : MS) : Option (Int32 × MS) := ((o_X3_fails (m_X3_isNo p0) (0 : Int32) (0 : Int32) z).bind fun x_1 => (if x_1.1 = 0 then (if p0 < 0 ∨ 6 ≤ p0.toNatClampNeg then none else some ((x_1.2.2.1 p0.toNatClampNeg).2.1, x_1.2)) else some ((0 : Int32), x_1.2)))
theorem kk_X3_month : pK yX3_month wsX3_month cX3_month 2 (some .int) 1 := ⟨⟨_, rfl⟩, by decide +kernel, by decide +kernel, by decide +kernel⟩
set_option maxRecDepth 100000 in
set_option maxHeartbeats 4000000 in
theorem k_X3_month (l : Launch) (k : Kx) (b : CA) (L : List Nat) (hD : mD k b L) (p0 : Int32) (z : MS) {r : (Int32 × MS)} (hm : o_X3_month p0 z = some r) : mM l k b L yX3_month wsX3_month 2 45 0 0 [.int p0] [] z (some (.int r.1)) r.2 := by
  intro sz q
  refine Met.ofW (cc := cX3_month) (maxL := 2) (ret := (some .int)) (by decide) rfl ?_
  intro p e s m args below meth c s₁ B hml hv
  obtain ⟨rfl, rfl, hGx, hV, hLb, hds⟩ := hv
  have hx := B.exec
  have hb := B.bytes
  have hr := B.returns
  have hts := atoms_spec (ws := wsX3_month) B.pre
  have hown : s.vm.findClass RX3 = some m.cls := findClass_of_methodNamed B.named
  have hlocks := B.notSynchronized
  have htg : ∀ w ∈ GL, w.before _ s = true := fun w h => hts w (List.mem_cons_of_mem _ h)
  have hC : CallFix p m c cX3_month 2 s _ wsX3_month RX3 := ⟨hx, hb, hml, hown, hts⟩
  have hA : ∀ q, s.heap.size ≤ q → cA b s.heap.size q := fun q h => cA.new q h
  have hAB : ∀ q, cA b s.heap.size q → kB k ≤ q := hD.high hGx.2.1
  have hS : mS b s.heap s.heap [] := mS.rf
  have hl := lv_entry ([.ref b.1, .int p0]) (n := 2) (Nat.le_of_ble_eq_true rfl)
  rw [lg_entry_eq]
  generalize (lg_sl ([.ref b.1, .int p0]) ++ List.replicate (2 - (lg_sl ([.ref b.1, .int p0])).length) Slot.unset).toArray = ls at hl ⊢
  have hl : lv_has ls 2 [(0, .ref b.1), (1, .int p0)] := hl
  refine lv_aload_n hx hb dX3_month_0 rfl (lv_at hl 0 rfl) ?_
  refine lv_iload_n hx hb dX3_month_1 rfl (lv_at hl 1 rfl) ?_
  refine pc_S hC (c_X3_isNo l p0) (gS w_1045 w_1046 w_27 w_1047) kk_X3_isNo ⟨Nat.le_of_ble_eq_true rfl, Nat.le_of_ble_eq_true rfl⟩ ⟨Nat.le_of_ble_eq_true rfl, Nat.le_of_ble_eq_true rfl⟩ hl.1 rfl rfl (Nat.le_of_ble_eq_true rfl) dX3_month_2 ?_
  refine lv_iconst (v := 0) hx hb dX3_month_5 (by decide) ?_
  refine lv_iconst (v := 0) hx hb dX3_month_6 (by decide) ?_
  obtain ⟨x_1, hx_1, hm⟩ := Option.bind_eq_some_iff.mp hm
  refine mc_V hC hGx hD (k_X3_fails l k b L hD (m_X3_isNo p0) (0 : Int32) (0 : Int32)  z hx_1) (gV w_1056 w_1057 w_18 w_27 w_1058) kk_X3_fails rfl (List.forall_mem_nil _) hLb ⟨Nat.le_of_ble_eq_true rfl, Nat.le_of_ble_eq_true rfl⟩ ⟨Nat.le_of_ble_eq_true rfl, Nat.le_of_ble_eq_true rfl⟩ hV hS hl.1 rfl rfl (Nat.le_of_ble_eq_true rfl) dX3_month_7 (fun q_1 H locs hV hS hz hq => ?_)
  refine lv_if_eq (tgt := 17) hx hb dX3_month_10 (by decide) (fun h_1 => ?_) (fun h_1 => ?_)
  · have hm := (if_pos h_1).symm.trans hm
    refine lv_aload_n hx hb dX3_month_17 rfl (lv_at hl 0 rfl) ?_
    refine va_get (D := kD k) (ci := 5) (v := .ref b.2.1) (C := RX3) (T := TX3) (N := 5) hx hb htg inG_X3 hown hGx.1 hV.1 0 rfl rfl 1 (by decide) (htg _ w_1012) (fun _ h9 => h9) rfl dX3_month_18 ?_
    refine lv_iload_n hx hb dX3_month_21 rfl (lv_at hl 1 rfl) ?_
    by_cases h_2 : p0 < 0 ∨ 6 ≤ p0.toNatClampNeg
    · have hm := (if_pos h_2).symm.trans hm
      cases hm
    have hm := (if_neg h_2).symm.trans hm
    refine m_ald hx hb hGx hV h_2 dX3_month_22 (fun hP_2 => ?_)
    refine va_get (D := kD k) (ci := 4) (v := .int ((x_1.2.2.1 p0.toNatClampNeg).2.1)) (C := RX2) (T := TX2) (N := 3) hx hb htg inG_X2 hown hGx.1 hP_2.1 0 rfl rfl 1 (by decide) (htg _ w_1001) (fun _ h9 => h9) rfl dX3_month_23 ?_
    exact m_iret hx hb hr hlocks (Option.some.inj hm) hV hS ⟨Nat.le_of_ble_eq_true rfl, Nat.le_of_ble_eq_true rfl⟩ dX3_month_26
  · have hm := (if_neg h_1).symm.trans hm
    refine lv_iconst (v := 0) hx hb dX3_month_13 (by decide) ?_
    refine lv_goto (tgt := 26) hx hb dX3_month_14 (by decide) ?_
    exact m_iret hx hb hr hlocks (Option.some.inj hm) hV hS ⟨Nat.le_of_ble_eq_true rfl, Nat.le_of_ble_eq_true rfl⟩ dX3_month_26
def o_X3_day (p0 : Int32) (z : MS) : Option (Int32 × MS) := ((o_X3_fails (m_X3_isNo p0) (0 : Int32) (0 : Int32) z).bind fun x_1 => (if x_1.1 = 0 then (if p0 < 0 ∨ 6 ≤ p0.toNatClampNeg then none else some ((x_1.2.2.1 p0.toNatClampNeg).2.2, x_1.2)) else some ((0 : Int32), x_1.2)))
theorem kk_X3_day : pK yX3_day wsX3_day cX3_day 2 (some .int) 1 := ⟨⟨_, rfl⟩, by decide +kernel, by decide +kernel, by decide +kernel⟩
set_option maxRecDepth 100000 in
set_option maxHeartbeats 4000000 in
theorem k_X3_day (l : Launch) (k : Kx) (b : CA) (L : List Nat) (hD : mD k b L) (p0 : Int32) (z : MS) {r : (Int32 × MS)} (hm : o_X3_day p0 z = some r) : mM l k b L yX3_day wsX3_day 2 45 0 0 [.int p0] [] z (some (.int r.1)) r.2 := by
  intro sz q
  refine Met.ofW (cc := cX3_day) (maxL := 2) (ret := (some .int)) (by decide) rfl ?_
  intro p e s m args below meth c s₁ B hml hv
  obtain ⟨rfl, rfl, hGx, hV, hLb, hds⟩ := hv
  have hx := B.exec
  have hb := B.bytes
  have hr := B.returns
  have hts := atoms_spec (ws := wsX3_day) B.pre
  have hown : s.vm.findClass RX3 = some m.cls := findClass_of_methodNamed B.named
  have hlocks := B.notSynchronized
  have htg : ∀ w ∈ GL, w.before _ s = true := fun w h => hts w (List.mem_cons_of_mem _ h)
  have hC : CallFix p m c cX3_day 2 s _ wsX3_day RX3 := ⟨hx, hb, hml, hown, hts⟩
  have hA : ∀ q, s.heap.size ≤ q → cA b s.heap.size q := fun q h => cA.new q h
  have hAB : ∀ q, cA b s.heap.size q → kB k ≤ q := hD.high hGx.2.1
  have hS : mS b s.heap s.heap [] := mS.rf
  have hl := lv_entry ([.ref b.1, .int p0]) (n := 2) (Nat.le_of_ble_eq_true rfl)
  rw [lg_entry_eq]
  generalize (lg_sl ([.ref b.1, .int p0]) ++ List.replicate (2 - (lg_sl ([.ref b.1, .int p0])).length) Slot.unset).toArray = ls at hl ⊢
  have hl : lv_has ls 2 [(0, .ref b.1), (1, .int p0)] := hl
  refine lv_aload_n hx hb dX3_day_0 rfl (lv_at hl 0 rfl) ?_
  refine lv_iload_n hx hb dX3_day_1 rfl (lv_at hl 1 rfl) ?_
  refine pc_S hC (c_X3_isNo l p0) (gS w_1045 w_1046 w_27 w_1047) kk_X3_isNo ⟨Nat.le_of_ble_eq_true rfl, Nat.le_of_ble_eq_true rfl⟩ ⟨Nat.le_of_ble_eq_true rfl, Nat.le_of_ble_eq_true rfl⟩ hl.1 rfl rfl (Nat.le_of_ble_eq_true rfl) dX3_day_2 ?_
  refine lv_iconst (v := 0) hx hb dX3_day_5 (by decide) ?_
  refine lv_iconst (v := 0) hx hb dX3_day_6 (by decide) ?_
  obtain ⟨x_1, hx_1, hm⟩ := Option.bind_eq_some_iff.mp hm
  refine mc_V hC hGx hD (k_X3_fails l k b L hD (m_X3_isNo p0) (0 : Int32) (0 : Int32)  z hx_1) (gV w_1056 w_1057 w_18 w_27 w_1058) kk_X3_fails rfl (List.forall_mem_nil _) hLb ⟨Nat.le_of_ble_eq_true rfl, Nat.le_of_ble_eq_true rfl⟩ ⟨Nat.le_of_ble_eq_true rfl, Nat.le_of_ble_eq_true rfl⟩ hV hS hl.1 rfl rfl (Nat.le_of_ble_eq_true rfl) dX3_day_7 (fun q_1 H locs hV hS hz hq => ?_)
  refine lv_if_eq (tgt := 17) hx hb dX3_day_10 (by decide) (fun h_1 => ?_) (fun h_1 => ?_)
  · have hm := (if_pos h_1).symm.trans hm
    refine lv_aload_n hx hb dX3_day_17 rfl (lv_at hl 0 rfl) ?_
    refine va_get (D := kD k) (ci := 5) (v := .ref b.2.1) (C := RX3) (T := TX3) (N := 5) hx hb htg inG_X3 hown hGx.1 hV.1 0 rfl rfl 1 (by decide) (htg _ w_1012) (fun _ h9 => h9) rfl dX3_day_18 ?_
    refine lv_iload_n hx hb dX3_day_21 rfl (lv_at hl 1 rfl) ?_
    by_cases h_2 : p0 < 0 ∨ 6 ≤ p0.toNatClampNeg
    · have hm := (if_pos h_2).symm.trans hm
      cases hm
    have hm := (if_neg h_2).symm.trans hm
    refine m_ald hx hb hGx hV h_2 dX3_day_22 (fun hP_2 => ?_)
    refine va_get (D := kD k) (ci := 4) (v := .int ((x_1.2.2.1 p0.toNatClampNeg).2.2)) (C := RX2) (T := TX2) (N := 3) hx hb htg inG_X2 hown hGx.1 hP_2.1 0 rfl rfl 2 (by decide) (htg _ w_1003) (fun _ h9 => h9) rfl dX3_day_23 ?_
    exact m_iret hx hb hr hlocks (Option.some.inj hm) hV hS ⟨Nat.le_of_ble_eq_true rfl, Nat.le_of_ble_eq_true rfl⟩ dX3_day_26
  · have hm := (if_neg h_1).symm.trans hm
    refine lv_iconst (v := 0) hx hb dX3_day_13 (by decide) ?_
    refine lv_goto (tgt := 26) hx hb dX3_day_14 (by decide) ?_
    exact m_iret hx hb hr hlocks (Option.some.inj hm) hV hS ⟨Nat.le_of_ble_eq_true rfl, Nat.le_of_ble_eq_true rfl⟩ dX3_day_26
def o_X3_dayOfYear (p0 : Int32) (z : MS) : Option (Int32 × MS) := ((o_X3_fails (m_X3_isNo p0) (0 : Int32) (0 : Int32) z).bind fun x_1 => (if x_1.1 = 0 then (if p0 < 0 ∨ 6 ≤ p0.toNatClampNeg then none else ((o_X2_inYear (x_1.2.2.1 p0.toNatClampNeg)).bind fun x_3 => some (x_3, x_1.2))) else some ((0 : Int32), x_1.2)))
theorem kk_X3_dayOfYear : pK yX3_dayOfYear wsX3_dayOfYear cX3_dayOfYear 2 (some .int) 1 := ⟨⟨_, rfl⟩, by decide +kernel, by decide +kernel, by decide +kernel⟩
set_option maxRecDepth 100000 in
set_option maxHeartbeats 4000000 in
theorem k_X3_dayOfYear (l : Launch) (k : Kx) (b : CA) (L : List Nat) (hD : mD k b L) (p0 : Int32) (z : MS) {r : (Int32 × MS)} (hm : o_X3_dayOfYear p0 z = some r) : mM l k b L yX3_dayOfYear wsX3_dayOfYear 3 63 0 0 [.int p0] [] z (some (.int r.1)) r.2 := by
  intro sz q
  refine Met.ofW (cc := cX3_dayOfYear) (maxL := 2) (ret := (some .int)) (by decide) rfl ?_
  intro p e s m args below meth c s₁ B hml hv
  obtain ⟨rfl, rfl, hGx, hV, hLb, hds⟩ := hv
  have hx := B.exec
  have hb := B.bytes
  have hr := B.returns
  have hts := atoms_spec (ws := wsX3_dayOfYear) B.pre
  have hown : s.vm.findClass RX3 = some m.cls := findClass_of_methodNamed B.named
  have hlocks := B.notSynchronized
  have htg : ∀ w ∈ GL, w.before _ s = true := fun w h => hts w (List.mem_cons_of_mem _ h)
  have hC : CallFix p m c cX3_dayOfYear 2 s _ wsX3_dayOfYear RX3 := ⟨hx, hb, hml, hown, hts⟩
  have hA : ∀ q, s.heap.size ≤ q → cA b s.heap.size q := fun q h => cA.new q h
  have hAB : ∀ q, cA b s.heap.size q → kB k ≤ q := hD.high hGx.2.1
  have hS : mS b s.heap s.heap [] := mS.rf
  have hl := lv_entry ([.ref b.1, .int p0]) (n := 2) (Nat.le_of_ble_eq_true rfl)
  rw [lg_entry_eq]
  generalize (lg_sl ([.ref b.1, .int p0]) ++ List.replicate (2 - (lg_sl ([.ref b.1, .int p0])).length) Slot.unset).toArray = ls at hl ⊢
  have hl : lv_has ls 2 [(0, .ref b.1), (1, .int p0)] := hl
  refine lv_aload_n hx hb dX3_dayOfYear_0 rfl (lv_at hl 0 rfl) ?_
  refine lv_iload_n hx hb dX3_dayOfYear_1 rfl (lv_at hl 1 rfl) ?_
  refine pc_S hC (c_X3_isNo l p0) (gS w_1045 w_1046 w_27 w_1047) kk_X3_isNo ⟨Nat.le_of_ble_eq_true rfl, Nat.le_of_ble_eq_true rfl⟩ ⟨Nat.le_of_ble_eq_true rfl, Nat.le_of_ble_eq_true rfl⟩ hl.1 rfl rfl (Nat.le_of_ble_eq_true rfl) dX3_dayOfYear_2 ?_
  refine lv_iconst (v := 0) hx hb dX3_dayOfYear_5 (by decide) ?_
  refine lv_iconst (v := 0) hx hb dX3_dayOfYear_6 (by decide) ?_
  obtain ⟨x_1, hx_1, hm⟩ := Option.bind_eq_some_iff.mp hm
  refine mc_V hC hGx hD (k_X3_fails l k b L hD (m_X3_isNo p0) (0 : Int32) (0 : Int32)  z hx_1) (gV w_1056 w_1057 w_18 w_27 w_1058) kk_X3_fails rfl (List.forall_mem_nil _) hLb ⟨Nat.le_of_ble_eq_true rfl, Nat.le_of_ble_eq_true rfl⟩ ⟨Nat.le_of_ble_eq_true rfl, Nat.le_of_ble_eq_true rfl⟩ hV hS hl.1 rfl rfl (Nat.le_of_ble_eq_true rfl) dX3_dayOfYear_7 (fun q_1 H locs hV hS hz hq => ?_)
  refine lv_if_eq (tgt := 17) hx hb dX3_dayOfYear_10 (by decide) (fun h_1 => ?_) (fun h_1 => ?_)
  · have hm := (if_pos h_1).symm.trans hm
    refine lv_aload_n hx hb dX3_dayOfYear_17 rfl (lv_at hl 0 rfl) ?_
    refine va_get (D := kD k) (ci := 5) (v := .ref b.2.1) (C := RX3) (T := TX3) (N := 5) hx hb htg inG_X3 hown hGx.1 hV.1 0 rfl rfl 1 (by decide) (htg _ w_1012) (fun _ h9 => h9) rfl dX3_dayOfYear_18 ?_
    refine lv_iload_n hx hb dX3_dayOfYear_21 rfl (lv_at hl 1 rfl) ?_
    by_cases h_2 : p0 < 0 ∨ 6 ≤ p0.toNatClampNeg
    · have hm := (if_pos h_2).symm.trans hm
      cases hm
    have hm := (if_neg h_2).symm.trans hm
    refine m_ald hx hb hGx hV h_2 dX3_dayOfYear_22 (fun hP_2 => ?_)
    obtain ⟨x_3, hx_3, hm⟩ := Option.bind_eq_some_iff.mp hm
    have hs_3 := hS.1.1
    have hLn_3 := m_hLn hLb hS
    have hL9 := hS.2
    refine qc_V hC hGx (k_X2_inYear l k (x_1.2.2.1 p0.toNatClampNeg) (q_1 p0.toNatClampNeg) hx_3) (gV w_1260 w_1074 w_1075 w_28 w_1076) kk_X2_inYear rfl hP_2.1 (List.forall_mem_cons.mpr ⟨hP_2.1, (List.forall_mem_nil _)⟩) ⟨Nat.le_of_ble_eq_true rfl, Nat.le_of_ble_eq_true rfl⟩ ⟨Nat.le_of_ble_eq_true rfl, Nat.le_of_ble_eq_true rfl⟩ hS.1 hA hAB hl.1 rfl rfl (Nat.le_of_ble_eq_true rfl) dX3_dayOfYear_23 (fun v_3 H hv hz hq hS => ?_)
    have hS : mS b s.heap H _ := ⟨hS, hL9⟩
    have hV := hV.up hq
    have hv : v_3 = some (.int x_3) := hv
    subst hv
    exact m_iret hx hb hr hlocks (Option.some.inj hm) hV hS ⟨Nat.le_of_ble_eq_true rfl, Nat.le_of_ble_eq_true rfl⟩ dX3_dayOfYear_26
  · have hm := (if_neg h_1).symm.trans hm
    refine lv_iconst (v := 0) hx hb dX3_dayOfYear_13 (by decide) ?_
    refine lv_goto (tgt := 26) hx hb dX3_dayOfYear_14 (by decide) ?_
    exact m_iret hx hb hr hlocks (Option.some.inj hm) hV hS ⟨Nat.le_of_ble_eq_true rfl, Nat.le_of_ble_eq_true rfl⟩ dX3_dayOfYear_26
def o_X3_dayOfWeek (p0 : Int32) (z : MS) : Option (Int32 × MS) := ((o_X3_fails (m_X3_isNo p0) (0 : Int32) (0 : Int32) z).bind fun x_1 => (if x_1.1 = 0 then (if p0 < 0 ∨ 6 ≤ p0.toNatClampNeg then none else ((o_X2_number (x_1.2.2.1 p0.toNatClampNeg)).bind fun x_3 => some (m_X3_weekDay x_3.toInt64, x_1.2))) else some ((0 : Int32), x_1.2)))
theorem kk_X3_dayOfWeek : pK yX3_dayOfWeek wsX3_dayOfWeek cX3_dayOfWeek 2 (some .int) 1 := ⟨⟨_, rfl⟩, by decide +kernel, by decide +kernel, by decide +kernel⟩
set_option maxRecDepth 100000 in
set_option maxHeartbeats 4000000 in
theorem k_X3_dayOfWeek (l : Launch) (k : Kx) (b : CA) (L : List Nat) (hD : mD k b L) (p0 : Int32) (z : MS) {r : (Int32 × MS)} (hm : o_X3_dayOfWeek p0 z = some r) : mM l k b L yX3_dayOfWeek wsX3_dayOfWeek 4 86 0 0 [.int p0] [] z (some (.int r.1)) r.2 := by
  intro sz q
  refine Met.ofW (cc := cX3_dayOfWeek) (maxL := 2) (ret := (some .int)) (by decide) rfl ?_
  intro p e s m args below meth c s₁ B hml hv
  obtain ⟨rfl, rfl, hGx, hV, hLb, hds⟩ := hv
  have hx := B.exec
  have hb := B.bytes
  have hr := B.returns
  have hts := atoms_spec (ws := wsX3_dayOfWeek) B.pre
  have hown : s.vm.findClass RX3 = some m.cls := findClass_of_methodNamed B.named
  have hlocks := B.notSynchronized
  have htg : ∀ w ∈ GL, w.before _ s = true := fun w h => hts w (List.mem_cons_of_mem _ h)
  have hC : CallFix p m c cX3_dayOfWeek 2 s _ wsX3_dayOfWeek RX3 := ⟨hx, hb, hml, hown, hts⟩
  have hA : ∀ q, s.heap.size ≤ q → cA b s.heap.size q := fun q h => cA.new q h
  have hAB : ∀ q, cA b s.heap.size q → kB k ≤ q := hD.high hGx.2.1
  have hS : mS b s.heap s.heap [] := mS.rf
  have hl := lv_entry ([.ref b.1, .int p0]) (n := 2) (Nat.le_of_ble_eq_true rfl)
  rw [lg_entry_eq]
  generalize (lg_sl ([.ref b.1, .int p0]) ++ List.replicate (2 - (lg_sl ([.ref b.1, .int p0])).length) Slot.unset).toArray = ls at hl ⊢
  have hl : lv_has ls 2 [(0, .ref b.1), (1, .int p0)] := hl
  refine lv_aload_n hx hb dX3_dayOfWeek_0 rfl (lv_at hl 0 rfl) ?_
  refine lv_iload_n hx hb dX3_dayOfWeek_1 rfl (lv_at hl 1 rfl) ?_
  refine pc_S hC (c_X3_isNo l p0) (gS w_1045 w_1046 w_27 w_1047) kk_X3_isNo ⟨Nat.le_of_ble_eq_true rfl, Nat.le_of_ble_eq_true rfl⟩ ⟨Nat.le_of_ble_eq_true rfl, Nat.le_of_ble_eq_true rfl⟩ hl.1 rfl rfl (Nat.le_of_ble_eq_true rfl) dX3_dayOfWeek_2 ?_
  refine lv_iconst (v := 0) hx hb dX3_dayOfWeek_5 (by decide) ?_
  refine lv_iconst (v := 0) hx hb dX3_dayOfWeek_6 (by decide) ?_
  obtain ⟨x_1, hx_1, hm⟩ := Option.bind_eq_some_iff.mp hm
  refine mc_V hC hGx hD (k_X3_fails l k b L hD (m_X3_isNo p0) (0 : Int32) (0 : Int32)  z hx_1) (gV w_1056 w_1057 w_18 w_27 w_1058) kk_X3_fails rfl (List.forall_mem_nil _) hLb ⟨Nat.le_of_ble_eq_true rfl, Nat.le_of_ble_eq_true rfl⟩ ⟨Nat.le_of_ble_eq_true rfl, Nat.le_of_ble_eq_true rfl⟩ hV hS hl.1 rfl rfl (Nat.le_of_ble_eq_true rfl) dX3_dayOfWeek_7 (fun q_1 H locs hV hS hz hq => ?_)
  refine lv_if_eq (tgt := 17) hx hb dX3_dayOfWeek_10 (by decide) (fun h_1 => ?_) (fun h_1 => ?_)
  · have hm := (if_pos h_1).symm.trans hm
    refine lv_aload_n hx hb dX3_dayOfWeek_17 rfl (lv_at hl 0 rfl) ?_
    refine va_get (D := kD k) (ci := 5) (v := .ref b.2.1) (C := RX3) (T := TX3) (N := 5) hx hb htg inG_X3 hown hGx.1 hV.1 0 rfl rfl 1 (by decide) (htg _ w_1012) (fun _ h9 => h9) rfl dX3_dayOfWeek_18 ?_
    refine lv_iload_n hx hb dX3_dayOfWeek_21 rfl (lv_at hl 1 rfl) ?_
    by_cases h_2 : p0 < 0 ∨ 6 ≤ p0.toNatClampNeg
    · have hm := (if_pos h_2).symm.trans hm
      cases hm
    have hm := (if_neg h_2).symm.trans hm
    refine m_ald hx hb hGx hV h_2 dX3_dayOfWeek_22 (fun hP_2 => ?_)
    obtain ⟨x_3, hx_3, hm⟩ := Option.bind_eq_some_iff.mp hm
    have hs_3 := hS.1.1
    have hLn_3 := m_hLn hLb hS
    have hL9 := hS.2
    refine qc_V hC hGx (k_X2_number l k (x_1.2.2.1 p0.toNatClampNeg) (q_1 p0.toNatClampNeg) hx_3) (gV w_1062 w_1063 w_1064 w_28 w_1065) kk_X2_number rfl hP_2.1 (List.forall_mem_cons.mpr ⟨hP_2.1, (List.forall_mem_nil _)⟩) ⟨Nat.le_of_ble_eq_true rfl, Nat.le_of_ble_eq_true rfl⟩ ⟨Nat.le_of_ble_eq_true rfl, Nat.le_of_ble_eq_true rfl⟩ hS.1 hA hAB hl.1 rfl rfl (Nat.le_of_ble_eq_true rfl) dX3_dayOfWeek_23 (fun v_3 H hv hz hq hS => ?_)
    have hS : mS b s.heap H _ := ⟨hS, hL9⟩
    have hV := hV.up hq
    have hv : v_3 = some (.int x_3) := hv
    subst hv
    refine lv_i2l hx hb dX3_dayOfWeek_26 rfl ?_
    refine pc_S hC (c_X3_weekDay l x_3.toInt64) (gS w_1265 w_1266 w_27 w_1267) kk_X3_weekDay ⟨Nat.le_of_ble_eq_true rfl, Nat.le_of_ble_eq_true rfl⟩ ⟨Nat.le_of_ble_eq_true rfl, Nat.le_of_ble_eq_true rfl⟩ hl.1 rfl rfl (Nat.le_of_ble_eq_true rfl) dX3_dayOfWeek_27 ?_
    exact m_iret hx hb hr hlocks (Option.some.inj hm) hV hS ⟨Nat.le_of_ble_eq_true rfl, Nat.le_of_ble_eq_true rfl⟩ dX3_dayOfWeek_30
  · have hm := (if_neg h_1).symm.trans hm
    refine lv_iconst (v := 0) hx hb dX3_dayOfWeek_13 (by decide) ?_
    refine lv_goto (tgt := 30) hx hb dX3_dayOfWeek_14 (by decide) ?_
    exact m_iret hx hb hr hlocks (Option.some.inj hm) hV hS ⟨Nat.le_of_ble_eq_true rfl, Nat.le_of_ble_eq_true rfl⟩ dX3_dayOfWeek_30
