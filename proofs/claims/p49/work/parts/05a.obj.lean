def m_X0_dateAt (p0 : Int32) (z : CS) : Nat × Int64 := (if m_X0_requirePlace p0 = 0 then (0, z.1 p0.toNatClampNeg) else ((m_X0_requirePlace p0), 0))
theorem kk_X0_dateAt : pK yX0_dateAt wsX0_dateAt cX0_dateAt 2 (some .long) 1 := ⟨⟨_, rfl⟩, by decide +kernel, by decide +kernel, by decide +kernel⟩
set_option maxRecDepth 100000 in
set_option maxHeartbeats 4000000 in
theorem c_X0_dateAt (l : Launch) (hl9 : l.stackTraces = false) (k : Kx) (a : CA) (hD : cD k a) (p0 : Int32) (z : CS) : cM l k a yX0_dateAt wsX0_dateAt 7 140 1 6 [.int p0] z (some (.long (m_X0_dateAt p0 z).2)) (m_X0_dateAt p0 z).1 z := by
  intro sz
  refine vx_ofW (cc := cX0_dateAt) (maxL := 2) (ret := (some .long)) (by decide) rfl ?_
  intro p e s m args below meth c s₁ B hml hEx hv
  obtain ⟨rfl, rfl, hGx, hP⟩ := hv
  have hx := B.exec
  have hb := B.bytes
  have hr := B.returns
  have hts := atoms_spec (ws := wsX0_dateAt) B.pre
  have hown : s.vm.findClass RX0 = some m.cls := findClass_of_methodNamed B.named
  have hlocks := B.notSynchronized
  have htg : ∀ w ∈ GL, w.before _ s = true := fun w h => hts w (List.mem_cons_of_mem _ h)
  have hC : CallFix p m c cX0_dateAt 2 s _ wsX0_dateAt RX0 := ⟨hx, hb, hml, hown, hts⟩
  have hS : va_S (cA a s.heap.size) s.heap s.heap [] := va_S.rf
  have hl := lv_entry ([.ref a.1, .int p0]) (n := 2) (Nat.le_of_ble_eq_true rfl)
  rw [lg_entry_eq]
  generalize (lg_sl ([.ref a.1, .int p0]) ++ List.replicate (2 - (lg_sl ([.ref a.1, .int p0])).length) Slot.unset).toArray = ls at hl ⊢
  have hl : lv_has ls 2 [(0, .ref a.1), (1, .int p0)] := hl
  have hm : m_X0_dateAt p0 z = m_X0_dateAt p0 z := rfl
  refine lv_iload_n hx hb dX0_dateAt_0 rfl (lv_at hl 1 rfl) ?_
  refine ct_S hC hGx hD hEx hlocks (t_X0_requirePlace l hl9 k p0) (gS w_156 w_157 w_26 w_158) kk_X0_requirePlace ⟨Nat.le_of_ble_eq_true rfl, Nat.le_of_ble_eq_true rfl⟩ ⟨Nat.le_of_ble_eq_true rfl, Nat.le_of_ble_eq_true rfl⟩ ⟨Nat.le_of_ble_eq_true rfl, Nat.le_of_ble_eq_true rfl⟩ hP hS hl.1 rfl rfl (Nat.le_of_ble_eq_true rfl) dX0_dateAt_1 (fun h_1 => by have hm : m_X0_dateAt p0 z = ((m_X0_requirePlace p0), 0) := hm.trans (if_neg h_1); exact ⟨by rw [hm], rfl⟩) (fun h_1 => ?_)
  have hm := hm.trans (if_pos h_1)
  refine lv_aload_n hx hb dX0_dateAt_4 rfl (lv_at hl 0 rfl) ?_
  refine va_get (D := kD k) (ci := 2) (v := .ref a.2.1) (C := RX0) (T := TX0) (N := 6) hx hb htg inG_X0 hown hGx.1 hP 0 rfl rfl 0 (by decide) (htg _ w_57) (fun _ h9 => h9) rfl dX0_dateAt_5 ?_
  refine lv_iload_n hx hb dX0_dateAt_8 rfl (lv_at hl 1 rfl) ?_
  refine va_lald (D := kD k) hx hb hGx.1 hP 1 0 rfl rfl (place_in h_1) dX0_dateAt_9 ?_
  have hm : m_X0_dateAt p0 z = (0, z.1 p0.toNatClampNeg) := hm
  exact c_lret (E := z.1 p0.toNatClampNeg) hx hb hr hlocks (by rw [hm]) (by rw [hm]) rfl hP hS ⟨Nat.le_of_ble_eq_true rfl, Nat.le_of_ble_eq_true rfl⟩ dX0_dateAt_10
def m_X0_put (p0 : Int32) (p1 : Int64) (z : CS) : Nat × CS := (if m_X0_requirePlace p0 = 0 then (0, (vp_updL z.1 p0.toNatClampNeg p1, z.2.1, z.2.2.1, z.2.2.2.1, z.2.2.2.2.1, z.2.2.2.2.2)) else ((m_X0_requirePlace p0), z))
theorem kk_X0_put : pK yX0_put wsX0_put cX0_put 4 none 2 := ⟨⟨_, rfl⟩, by decide +kernel, by decide +kernel, by decide +kernel⟩
set_option maxRecDepth 100000 in
set_option maxHeartbeats 4000000 in
theorem c_X0_put (l : Launch) (hl9 : l.stackTraces = false) (k : Kx) (a : CA) (hD : cD k a) (p0 : Int32) (p1 : Int64) (z : CS) : cM l k a yX0_put wsX0_put 7 140 1 6 [.int p0, .long p1] z none (m_X0_put p0 p1 z).1 (m_X0_put p0 p1 z).2 := by
  intro sz
  refine vx_ofW (cc := cX0_put) (maxL := 4) (ret := none) (by decide) rfl ?_
  intro p e s m args below meth c s₁ B hml hEx hv
  obtain ⟨rfl, rfl, hGx, hP⟩ := hv
  have hx := B.exec
  have hb := B.bytes
  have hr := B.returns
  have hts := atoms_spec (ws := wsX0_put) B.pre
  have hown : s.vm.findClass RX0 = some m.cls := findClass_of_methodNamed B.named
  have hlocks := B.notSynchronized
  have htg : ∀ w ∈ GL, w.before _ s = true := fun w h => hts w (List.mem_cons_of_mem _ h)
  have hC : CallFix p m c cX0_put 4 s _ wsX0_put RX0 := ⟨hx, hb, hml, hown, hts⟩
  have hS : va_S (cA a s.heap.size) s.heap s.heap [] := va_S.rf
  have hl := lv_entry ([.ref a.1, .int p0, .long p1]) (n := 4) (Nat.le_of_ble_eq_true rfl)
  rw [lg_entry_eq]
  generalize (lg_sl ([.ref a.1, .int p0, .long p1]) ++ List.replicate (4 - (lg_sl ([.ref a.1, .int p0, .long p1])).length) Slot.unset).toArray = ls at hl ⊢
  have hl : lv_has ls 4 [(0, .ref a.1), (1, .int p0), (2, .long p1)] := hl
  have hm : m_X0_put p0 p1 z = m_X0_put p0 p1 z := rfl
  refine lv_iload_n hx hb dX0_put_0 rfl (lv_at hl 1 rfl) ?_
  refine ct_S hC hGx hD hEx hlocks (t_X0_requirePlace l hl9 k p0) (gS w_156 w_157 w_26 w_158) kk_X0_requirePlace ⟨Nat.le_of_ble_eq_true rfl, Nat.le_of_ble_eq_true rfl⟩ ⟨Nat.le_of_ble_eq_true rfl, Nat.le_of_ble_eq_true rfl⟩ ⟨Nat.le_of_ble_eq_true rfl, Nat.le_of_ble_eq_true rfl⟩ hP hS hl.1 rfl rfl (Nat.le_of_ble_eq_true rfl) dX0_put_1 (fun h_1 => by have hm : m_X0_put p0 p1 z = ((m_X0_requirePlace p0), z) := hm.trans (if_neg h_1); exact ⟨by rw [hm], by rw [hm]⟩) (fun h_1 => ?_)
  have hm := hm.trans (if_pos h_1)
  refine lv_aload_n hx hb dX0_put_4 rfl (lv_at hl 0 rfl) ?_
  refine va_get (D := kD k) (ci := 2) (v := .ref a.2.1) (C := RX0) (T := TX0) (N := 6) hx hb htg inG_X0 hown hGx.1 hP 0 rfl rfl 0 (by decide) (htg _ w_57) (fun _ h9 => h9) rfl dX0_put_5 ?_
  refine lv_iload_n hx hb dX0_put_8 rfl (lv_at hl 1 rfl) ?_
  refine lv_lload_n hx hb dX0_put_9 rfl (lv_at hl 2 rfl) ?_
  refine va_last (D := kD k) hx hb hGx.1 hP (hD.own _ _) hS 1 0 rfl rfl (place_in h_1) dX0_put_10 (fun H locs hP1 _ hS => ?_)
  have hP : va_P (kD k) vwCl (cW k a (vp_updL z.1 p0.toNatClampNeg p1, z.2.1, z.2.2.1, z.2.2.2.1, z.2.2.2.2.1, z.2.2.2.2.2)) H := hP1
  have hm : m_X0_put p0 p1 z = (0, (vp_updL z.1 p0.toNatClampNeg p1, z.2.1, z.2.2.1, z.2.2.2.1, z.2.2.2.2.1, z.2.2.2.2.2)) := hm
  exact c_vret hx hb hr hlocks rfl (by rw [hm]) (by rw [hm]) hP hS ⟨Nat.le_of_ble_eq_true rfl, Nat.le_of_ble_eq_true rfl⟩ dX0_put_11
def m_X0_give (p0 : Int32) (p1 : Int64) (z : CS) : Nat × Int32 × CS := (if m_X0_requireDate p1 = 0 then (if (m_X0_put p0 p1 z).1 = 0 then (0, (m_X0_numberOf p1).toInt32, (((m_X0_put p0 p1 z).2).1, ((m_X0_put p0 p1 z).2).2.1, ((m_X0_put p0 p1 z).2).2.2.1, ((m_X0_put p0 p1 z).2).2.2.2.1, (((m_X0_put p0 p1 z).2).2.2.2.2.1) + (1 : Int32), ((m_X0_put p0 p1 z).2).2.2.2.2.2)) else ((m_X0_put p0 p1 z).1, 0, (m_X0_put p0 p1 z).2)) else ((m_X0_requireDate p1), 0, z))
theorem kk_X0_give : pK yX0_give wsX0_give cX0_give 4 (some .int) 2 := ⟨⟨_, rfl⟩, by decide +kernel, by decide +kernel, by decide +kernel⟩
set_option maxRecDepth 100000 in
set_option maxHeartbeats 4000000 in
theorem c_X0_give (l : Launch) (hl9 : l.stackTraces = false) (k : Kx) (a : CA) (hD : cD k a) (p0 : Int32) (p1 : Int64) (z : CS) : cM l k a yX0_give wsX0_give 8 163 2 12 [.int p0, .long p1] z (some (.int (m_X0_give p0 p1 z).2.1)) (m_X0_give p0 p1 z).1 (m_X0_give p0 p1 z).2.2 := by
  intro sz
  refine vx_ofW (cc := cX0_give) (maxL := 4) (ret := (some .int)) (by decide) rfl ?_
  intro p e s m args below meth c s₁ B hml hEx hv
  obtain ⟨rfl, rfl, hGx, hP⟩ := hv
  have hx := B.exec
  have hb := B.bytes
  have hr := B.returns
  have hts := atoms_spec (ws := wsX0_give) B.pre
  have hown : s.vm.findClass RX0 = some m.cls := findClass_of_methodNamed B.named
  have hlocks := B.notSynchronized
  have htg : ∀ w ∈ GL, w.before _ s = true := fun w h => hts w (List.mem_cons_of_mem _ h)
  have hC : CallFix p m c cX0_give 4 s _ wsX0_give RX0 := ⟨hx, hb, hml, hown, hts⟩
  have hS : va_S (cA a s.heap.size) s.heap s.heap [] := va_S.rf
  have hl := lv_entry ([.ref a.1, .int p0, .long p1]) (n := 4) (Nat.le_of_ble_eq_true rfl)
  rw [lg_entry_eq]
  generalize (lg_sl ([.ref a.1, .int p0, .long p1]) ++ List.replicate (4 - (lg_sl ([.ref a.1, .int p0, .long p1])).length) Slot.unset).toArray = ls at hl ⊢
  have hl : lv_has ls 4 [(0, .ref a.1), (1, .int p0), (2, .long p1)] := hl
  have hm : m_X0_give p0 p1 z = m_X0_give p0 p1 z := rfl
  refine lv_lload_n hx hb dX0_give_0 rfl (lv_at hl 2 rfl) ?_
  refine ct_S hC hGx hD hEx hlocks (t_X0_requireDate l hl9 k p1) (gS w_652 w_653 w_26 w_654) kk_X0_requireDate ⟨Nat.le_of_ble_eq_true rfl, Nat.le_of_ble_eq_true rfl⟩ ⟨Nat.le_of_ble_eq_true rfl, Nat.le_of_ble_eq_true rfl⟩ ⟨Nat.le_of_ble_eq_true rfl, Nat.le_of_ble_eq_true rfl⟩ hP hS hl.1 rfl rfl (Nat.le_of_ble_eq_true rfl) dX0_give_1 (fun h_1 => by have hm : m_X0_give p0 p1 z = ((m_X0_requireDate p1), 0, z) := hm.trans (if_neg h_1); exact ⟨by rw [hm], by rw [hm]⟩) (fun h_1 => ?_)
  have hm := hm.trans (if_pos h_1)
  refine lv_aload_n hx hb dX0_give_4 rfl (lv_at hl 0 rfl) ?_
  refine lv_iload_n hx hb dX0_give_5 rfl (lv_at hl 1 rfl) ?_
  refine lv_lload_n hx hb dX0_give_6 rfl (lv_at hl 2 rfl) ?_
  refine cc_V hC hGx hD hEx hlocks (c_X0_put l hl9 k a hD p0 p1 z) (gV w_657 w_658 w_13 w_26 w_659) kk_X0_put rfl ⟨Nat.le_of_ble_eq_true rfl, Nat.le_of_ble_eq_true rfl⟩ ⟨Nat.le_of_ble_eq_true rfl, Nat.le_of_ble_eq_true rfl⟩ ⟨Nat.le_of_ble_eq_true rfl, Nat.le_of_ble_eq_true rfl⟩ hP hS hl.1 rfl rfl (Nat.le_of_ble_eq_true rfl) dX0_give_7 (fun h_2 => ?_) (fun h_2 H locs hP hS => ?_)
  · have hm : m_X0_give p0 p1 z = ((m_X0_put p0 p1 z).1, 0, (m_X0_put p0 p1 z).2) := hm.trans (if_neg h_2)
    exact ⟨by rw [hm], by rw [hm]⟩
  · have hm := hm.trans (if_pos h_2)
    refine lv_aload_n hx hb dX0_give_10 rfl (lv_at hl 0 rfl) ?_
    refine lv_dup hx hb dX0_give_11 rfl ?_
    refine va_get (D := kD k) (ci := 2) (v := .int (((m_X0_put p0 p1 z).2).2.2.2.2.1)) (C := RX0) (T := TX0) (N := 6) hx hb htg inG_X0 hown hGx.1 hP 0 rfl rfl 4 (by decide) (htg _ w_61) (fun _ h9 => h9) rfl dX0_give_12 ?_
    refine lv_iconst (v := 1) hx hb dX0_give_15 (by decide) ?_
    refine lv_iadd hx hb dX0_give_16 ?_
    refine va_put (D := kD k) (ci := 2) (v := .int ((((m_X0_put p0 p1 z).2).2.2.2.2.1) + (1 : Int32))) (ty := .int) (C := RX0) (T := TX0) (N := 6) hx hb htg inG_X0 tyX0 tyX0_ok nmX0 hown hGx.1 hP (hD.own _ _) hS 0 rfl rfl 4 (by decide) (htg _ w_61) (fun _ h9 => h9) rfl (by decide +kernel) rfl rfl (Nat.le_of_ble_eq_true rfl) dX0_give_17 (fun H locs hP1 _ hS => ?_)
    have hP : va_P (kD k) vwCl (cW k a (((m_X0_put p0 p1 z).2).1, ((m_X0_put p0 p1 z).2).2.1, ((m_X0_put p0 p1 z).2).2.2.1, ((m_X0_put p0 p1 z).2).2.2.2.1, (((m_X0_put p0 p1 z).2).2.2.2.2.1) + (1 : Int32), ((m_X0_put p0 p1 z).2).2.2.2.2.2)) H := hP1
    refine lv_lload_n hx hb dX0_give_20 rfl (lv_at hl 2 rfl) ?_
    refine pc_S hC (c_X0_numberOf l p1) (gS w_165 w_166 w_26 w_167) kk_X0_numberOf ⟨Nat.le_of_ble_eq_true rfl, Nat.le_of_ble_eq_true rfl⟩ ⟨Nat.le_of_ble_eq_true rfl, Nat.le_of_ble_eq_true rfl⟩ hl.1 rfl rfl (Nat.le_of_ble_eq_true rfl) dX0_give_21 ?_
    refine lv_l2i hx hb dX0_give_24 rfl ?_
    have hm : m_X0_give p0 p1 z = (0, (m_X0_numberOf p1).toInt32, (((m_X0_put p0 p1 z).2).1, ((m_X0_put p0 p1 z).2).2.1, ((m_X0_put p0 p1 z).2).2.2.1, ((m_X0_put p0 p1 z).2).2.2.2.1, (((m_X0_put p0 p1 z).2).2.2.2.2.1) + (1 : Int32), ((m_X0_put p0 p1 z).2).2.2.2.2.2)) := hm
    exact c_iret (E := (m_X0_numberOf p1).toInt32) hx hb hr hlocks (by rw [hm]) (by rw [hm]) (by rw [hm]) hP hS ⟨Nat.le_of_ble_eq_true rfl, Nat.le_of_ble_eq_true rfl⟩ dX0_give_25
def m_X0_giveYearDay (p0 : Int32) (p1 : Int64) (p2 : Int32) (z : CS) : Nat × Int32 × CS := (if m_X0_requireWithin p2 (1 : Int32) (366 : Int32) = 0 then (if p2 ≤ m_X0_yearLength p1 then (if (m_X0_give p0 (m_X0_dateOfYearDay p1 p2) z).1 = 0 then (0, (m_X0_give p0 (m_X0_dateOfYearDay p1 p2) z).2.1, (m_X0_give p0 (m_X0_dateOfYearDay p1 p2) z).2.2) else ((m_X0_give p0 (m_X0_dateOfYearDay p1 p2) z).1, 0, (m_X0_give p0 (m_X0_dateOfYearDay p1 p2) z).2.2)) else (3, 0, z)) else ((m_X0_requireWithin p2 (1 : Int32) (366 : Int32)), 0, z))
theorem kk_X0_giveYearDay : pK yX0_giveYearDay wsX0_giveYearDay cX0_giveYearDay 5 (some .int) 3 := ⟨⟨_, rfl⟩, by decide +kernel, by decide +kernel, by decide +kernel⟩
set_option maxRecDepth 100000 in
set_option maxHeartbeats 4000000 in
theorem c_X0_giveYearDay (l : Launch) (hl9 : l.stackTraces = false) (k : Kx) (a : CA) (hD : cD k a) (p0 : Int32) (p1 : Int64) (p2 : Int32) (z : CS) : cM l k a yX0_giveYearDay wsX0_giveYearDay 9 186 3 18 [.int p0, .long p1, .int p2] z (some (.int (m_X0_giveYearDay p0 p1 p2 z).2.1)) (m_X0_giveYearDay p0 p1 p2 z).1 (m_X0_giveYearDay p0 p1 p2 z).2.2 := by
  intro sz
  refine vx_ofW (cc := cX0_giveYearDay) (maxL := 5) (ret := (some .int)) (by decide) rfl ?_
  intro p e s m args below meth c s₁ B hml hEx hv
  obtain ⟨rfl, rfl, hGx, hP⟩ := hv
  have hx := B.exec
  have hb := B.bytes
  have hr := B.returns
  have hts := atoms_spec (ws := wsX0_giveYearDay) B.pre
  have hown : s.vm.findClass RX0 = some m.cls := findClass_of_methodNamed B.named
  have hlocks := B.notSynchronized
  have htg : ∀ w ∈ GL, w.before _ s = true := fun w h => hts w (List.mem_cons_of_mem _ h)
  have hC : CallFix p m c cX0_giveYearDay 5 s _ wsX0_giveYearDay RX0 := ⟨hx, hb, hml, hown, hts⟩
  have hS : va_S (cA a s.heap.size) s.heap s.heap [] := va_S.rf
  have hl := lv_entry ([.ref a.1, .int p0, .long p1, .int p2]) (n := 5) (Nat.le_of_ble_eq_true rfl)
  rw [lg_entry_eq]
  generalize (lg_sl ([.ref a.1, .int p0, .long p1, .int p2]) ++ List.replicate (5 - (lg_sl ([.ref a.1, .int p0, .long p1, .int p2])).length) Slot.unset).toArray = ls at hl ⊢
  have hl : lv_has ls 5 [(0, .ref a.1), (1, .int p0), (2, .long p1), (4, .int p2)] := hl
  have hm : m_X0_giveYearDay p0 p1 p2 z = m_X0_giveYearDay p0 p1 p2 z := rfl
  refine lv_iload hx hb dX0_giveYearDay_0 (lv_at hl 3 rfl) ?_
  refine lv_iconst (v := 1) hx hb dX0_giveYearDay_2 (by decide) ?_
  refine lv_sipush (v := 366) hx hb dX0_giveYearDay_3 (by decide) ?_
  refine ct_S hC hGx hD hEx hlocks (t_X0_requireWithin l hl9 k p2 (1 : Int32) (366 : Int32)) (gS w_295 w_296 w_26 w_297) kk_X0_requireWithin ⟨Nat.le_of_ble_eq_true rfl, Nat.le_of_ble_eq_true rfl⟩ ⟨Nat.le_of_ble_eq_true rfl, Nat.le_of_ble_eq_true rfl⟩ ⟨Nat.le_of_ble_eq_true rfl, Nat.le_of_ble_eq_true rfl⟩ hP hS hl.1 rfl rfl (Nat.le_of_ble_eq_true rfl) dX0_giveYearDay_6 (fun h_1 => by have hm : m_X0_giveYearDay p0 p1 p2 z = ((m_X0_requireWithin p2 (1 : Int32) (366 : Int32)), 0, z) := hm.trans (if_neg h_1); exact ⟨by rw [hm], by rw [hm]⟩) (fun h_1 => ?_)
  have hm := hm.trans (if_pos h_1)
  refine lv_iload hx hb dX0_giveYearDay_9 (lv_at hl 3 rfl) ?_
  refine lv_lload_n hx hb dX0_giveYearDay_11 rfl (lv_at hl 2 rfl) ?_
  refine pc_S hC (c_X0_yearLength l p1) (gS w_284 w_285 w_26 w_286) kk_X0_yearLength ⟨Nat.le_of_ble_eq_true rfl, Nat.le_of_ble_eq_true rfl⟩ ⟨Nat.le_of_ble_eq_true rfl, Nat.le_of_ble_eq_true rfl⟩ hl.1 rfl rfl (Nat.le_of_ble_eq_true rfl) dX0_giveYearDay_12 ?_
  refine lv_icmp_le (tgt := 29) hx hb dX0_giveYearDay_15 (by decide) (fun h_2 => ?_) (fun h_2 => ?_)
  · have hm := hm.trans (if_pos h_2)
    refine lv_aload_n hx hb dX0_giveYearDay_29 rfl (lv_at hl 0 rfl) ?_
    refine lv_iload_n hx hb dX0_giveYearDay_30 rfl (lv_at hl 1 rfl) ?_
    refine lv_lload_n hx hb dX0_giveYearDay_31 rfl (lv_at hl 2 rfl) ?_
    refine lv_iload hx hb dX0_giveYearDay_32 (lv_at hl 3 rfl) ?_
    refine pc_S hC (c_X0_dateOfYearDay l p1 p2) (gS w_205 w_206 w_26 w_207) kk_X0_dateOfYearDay ⟨Nat.le_of_ble_eq_true rfl, Nat.le_of_ble_eq_true rfl⟩ ⟨Nat.le_of_ble_eq_true rfl, Nat.le_of_ble_eq_true rfl⟩ hl.1 rfl rfl (Nat.le_of_ble_eq_true rfl) dX0_giveYearDay_34 ?_
    refine cc_V hC hGx hD hEx hlocks (c_X0_give l hl9 k a hD p0 (m_X0_dateOfYearDay p1 p2) z) (gV w_649 w_650 w_12 w_26 w_651) kk_X0_give rfl ⟨Nat.le_of_ble_eq_true rfl, Nat.le_of_ble_eq_true rfl⟩ ⟨Nat.le_of_ble_eq_true rfl, Nat.le_of_ble_eq_true rfl⟩ ⟨Nat.le_of_ble_eq_true rfl, Nat.le_of_ble_eq_true rfl⟩ hP hS hl.1 rfl rfl (Nat.le_of_ble_eq_true rfl) dX0_giveYearDay_37 (fun h_3 => ?_) (fun h_3 H locs hP hS => ?_)
    · have hm : m_X0_giveYearDay p0 p1 p2 z = ((m_X0_give p0 (m_X0_dateOfYearDay p1 p2) z).1, 0, (m_X0_give p0 (m_X0_dateOfYearDay p1 p2) z).2.2) := hm.trans (if_neg h_3)
      exact ⟨by rw [hm], by rw [hm]⟩
    · have hm := hm.trans (if_pos h_3)
      have hm : m_X0_giveYearDay p0 p1 p2 z = (0, (m_X0_give p0 (m_X0_dateOfYearDay p1 p2) z).2.1, (m_X0_give p0 (m_X0_dateOfYearDay p1 p2) z).2.2) := hm
      exact c_iret (E := (m_X0_give p0 (m_X0_dateOfYearDay p1 p2) z).2.1) hx hb hr hlocks (by rw [hm]) (by rw [hm]) (by rw [hm]) hP hS ⟨Nat.le_of_ble_eq_true rfl, Nat.le_of_ble_eq_true rfl⟩ dX0_giveYearDay_40
  · have hm := hm.trans (if_neg h_2)
    have hm : m_X0_giveYearDay p0 p1 p2 z = (3, 0, z) := hm
    obtain ⟨sa, hstr⟩ := gx_str hGx (q := (RX0, 263, "the year has not so many days")) (by decide +kernel)
    exact vx_throwSW (own := RX0) (cls := "java/lang/IllegalStateException") (names := ["java/lang/RuntimeException", "java/lang/Exception"]) hx hb hl9 hown (by decide +kernel) (by decide +kernel) (htg _ w_635) (htg _ w_35) hstr (at_RX0_252 hGx (fun w hw => htg w (inA_RX0_252 w hw))) (by decide +kernel) (hGx.2.2.1.narrow (hD.high hGx.2.1)) (hGx.2.2.2.1.narrow (hD.high hGx.2.1)) hS (hl.1.trans hml.symm) dX0_giveYearDay_18 dX0_giveYearDay_21 dX0_giveYearDay_22 dX0_giveYearDay_25 dX0_giveYearDay_28 (fun x hx => (hEx x hx).elim) (Nat.le_of_ble_eq_true rfl) (Nat.le_of_ble_eq_true rfl) (Nat.le_of_ble_eq_true rfl) (Nat.le_of_ble_eq_true rfl) hlocks (fun t _ hsz hk => ⟨by rw [hm]; exact (by decide : (3 : Nat) ≠ 0), by rw [hm]; rfl, by rw [hm]; exact hP.kept (fun j q hj => hk q.1 (hP j q hj).lt), Nat.le_trans hS.1 hsz, fun q h1 h2 => (hk q (Nat.lt_of_lt_of_le h1 hS.1)).trans (hS.2.1 q h1 h2)⟩) hS.2.2 (Nat.le_of_ble_eq_true rfl) (Nat.le_of_ble_eq_true rfl)
def m_X0_move (p0 : Int32) (p1 : Int32) (p2 : Int32) (z : CS) : Nat × Int32 × CS := (if (m_X0_dateAt p0 z).1 = 0 then (if m_X0_requireAmount p2 = 0 then (if (m_X0_give p0 (m_X0_unitsLater ((m_X0_dateAt p0 z).2) p1 p2) z).1 = 0 then (0, (m_X0_give p0 (m_X0_unitsLater ((m_X0_dateAt p0 z).2) p1 p2) z).2.1, (m_X0_give p0 (m_X0_unitsLater ((m_X0_dateAt p0 z).2) p1 p2) z).2.2) else ((m_X0_give p0 (m_X0_unitsLater ((m_X0_dateAt p0 z).2) p1 p2) z).1, 0, (m_X0_give p0 (m_X0_unitsLater ((m_X0_dateAt p0 z).2) p1 p2) z).2.2)) else ((m_X0_requireAmount p2), 0, z)) else ((m_X0_dateAt p0 z).1, 0, z))
theorem kk_X0_move : pK yX0_move wsX0_move cX0_move 6 (some .int) 3 := ⟨⟨_, rfl⟩, by decide +kernel, by decide +kernel, by decide +kernel⟩
set_option maxRecDepth 100000 in
set_option maxHeartbeats 4000000 in
theorem c_X0_move (l : Launch) (hl9 : l.stackTraces = false) (k : Kx) (a : CA) (hD : cD k a) (p0 : Int32) (p1 : Int32) (p2 : Int32) (z : CS) : cM l k a yX0_move wsX0_move 9 186 4 24 [.int p0, .int p1, .int p2] z (some (.int (m_X0_move p0 p1 p2 z).2.1)) (m_X0_move p0 p1 p2 z).1 (m_X0_move p0 p1 p2 z).2.2 := by
  intro sz
  refine vx_ofW (cc := cX0_move) (maxL := 6) (ret := (some .int)) (by decide) rfl ?_
  intro p e s m args below meth c s₁ B hml hEx hv
  obtain ⟨rfl, rfl, hGx, hP⟩ := hv
  have hx := B.exec
  have hb := B.bytes
  have hr := B.returns
  have hts := atoms_spec (ws := wsX0_move) B.pre
  have hown : s.vm.findClass RX0 = some m.cls := findClass_of_methodNamed B.named
  have hlocks := B.notSynchronized
  have htg : ∀ w ∈ GL, w.before _ s = true := fun w h => hts w (List.mem_cons_of_mem _ h)
  have hC : CallFix p m c cX0_move 6 s _ wsX0_move RX0 := ⟨hx, hb, hml, hown, hts⟩
  have hS : va_S (cA a s.heap.size) s.heap s.heap [] := va_S.rf
  have hl := lv_entry ([.ref a.1, .int p0, .int p1, .int p2]) (n := 6) (Nat.le_of_ble_eq_true rfl)
  rw [lg_entry_eq]
  generalize (lg_sl ([.ref a.1, .int p0, .int p1, .int p2]) ++ List.replicate (6 - (lg_sl ([.ref a.1, .int p0, .int p1, .int p2])).length) Slot.unset).toArray = ls at hl ⊢
  have hl : lv_has ls 6 [(0, .ref a.1), (1, .int p0), (2, .int p1), (3, .int p2)] := hl
  have hm : m_X0_move p0 p1 p2 z = m_X0_move p0 p1 p2 z := rfl
  refine lv_aload_n hx hb dX0_move_0 rfl (lv_at hl 0 rfl) ?_
  refine lv_iload_n hx hb dX0_move_1 rfl (lv_at hl 1 rfl) ?_
  refine cc_V hC hGx hD hEx hlocks (c_X0_dateAt l hl9 k a hD p0 z) (gV w_153 w_154 w_8 w_26 w_155) kk_X0_dateAt rfl ⟨Nat.le_of_ble_eq_true rfl, Nat.le_of_ble_eq_true rfl⟩ ⟨Nat.le_of_ble_eq_true rfl, Nat.le_of_ble_eq_true rfl⟩ ⟨Nat.le_of_ble_eq_true rfl, Nat.le_of_ble_eq_true rfl⟩ hP hS hl.1 rfl rfl (Nat.le_of_ble_eq_true rfl) dX0_move_2 (fun h_1 => ?_) (fun h_1 H locs hP hS => ?_)
  · have hm : m_X0_move p0 p1 p2 z = ((m_X0_dateAt p0 z).1, 0, z) := hm.trans (if_neg h_1)
    exact ⟨by rw [hm], by rw [hm]⟩
  · have hm := hm.trans (if_pos h_1)
    refine lv_lstore (lv' := [(4, .long ((m_X0_dateAt p0 z).2)), (0, .ref a.1), (1, .int p0), (2, .int p1), (3, .int p2)]) hx hb dX0_move_5 hl (by decide) rfl (fun ls hl => ?_)
    refine lv_iload_n hx hb dX0_move_7 rfl (lv_at hl 4 rfl) ?_
    refine ct_S hC hGx hD hEx hlocks (t_X0_requireAmount l hl9 k p2) (gS w_752 w_753 w_26 w_754) kk_X0_requireAmount ⟨Nat.le_of_ble_eq_true rfl, Nat.le_of_ble_eq_true rfl⟩ ⟨Nat.le_of_ble_eq_true rfl, Nat.le_of_ble_eq_true rfl⟩ ⟨Nat.le_of_ble_eq_true rfl, Nat.le_of_ble_eq_true rfl⟩ hP hS hl.1 rfl rfl (Nat.le_of_ble_eq_true rfl) dX0_move_8 (fun h_2 => by have hm : m_X0_move p0 p1 p2 z = ((m_X0_requireAmount p2), 0, z) := hm.trans (if_neg h_2); exact ⟨by rw [hm], by rw [hm]⟩) (fun h_2 => ?_)
    have hm := hm.trans (if_pos h_2)
    refine lv_aload_n hx hb dX0_move_11 rfl (lv_at hl 1 rfl) ?_
    refine lv_iload_n hx hb dX0_move_12 rfl (lv_at hl 2 rfl) ?_
    refine lv_lload hx hb dX0_move_13 (lv_at hl 0 rfl) ?_
    refine lv_iload_n hx hb dX0_move_15 rfl (lv_at hl 3 rfl) ?_
    refine lv_iload_n hx hb dX0_move_16 rfl (lv_at hl 4 rfl) ?_
    refine pc_S hC (c_X0_unitsLater l ((m_X0_dateAt p0 z).2) p1 p2) (gS w_757 w_758 w_26 w_759) kk_X0_unitsLater ⟨Nat.le_of_ble_eq_true rfl, Nat.le_of_ble_eq_true rfl⟩ ⟨Nat.le_of_ble_eq_true rfl, Nat.le_of_ble_eq_true rfl⟩ hl.1 rfl rfl (Nat.le_of_ble_eq_true rfl) dX0_move_17 ?_
    refine cc_V hC hGx hD hEx hlocks (c_X0_give l hl9 k a hD p0 (m_X0_unitsLater ((m_X0_dateAt p0 z).2) p1 p2) z) (gV w_649 w_650 w_12 w_26 w_651) kk_X0_give rfl ⟨Nat.le_of_ble_eq_true rfl, Nat.le_of_ble_eq_true rfl⟩ ⟨Nat.le_of_ble_eq_true rfl, Nat.le_of_ble_eq_true rfl⟩ ⟨Nat.le_of_ble_eq_true rfl, Nat.le_of_ble_eq_true rfl⟩ hP hS hl.1 rfl rfl (Nat.le_of_ble_eq_true rfl) dX0_move_20 (fun h_3 => ?_) (fun h_3 H locs hP hS => ?_)
    · have hm : m_X0_move p0 p1 p2 z = ((m_X0_give p0 (m_X0_unitsLater ((m_X0_dateAt p0 z).2) p1 p2) z).1, 0, (m_X0_give p0 (m_X0_unitsLater ((m_X0_dateAt p0 z).2) p1 p2) z).2.2) := hm.trans (if_neg h_3)
      exact ⟨by rw [hm], by rw [hm]⟩
    · have hm := hm.trans (if_pos h_3)
      have hm : m_X0_move p0 p1 p2 z = (0, (m_X0_give p0 (m_X0_unitsLater ((m_X0_dateAt p0 z).2) p1 p2) z).2.1, (m_X0_give p0 (m_X0_unitsLater ((m_X0_dateAt p0 z).2) p1 p2) z).2.2) := hm
      exact c_iret (E := (m_X0_give p0 (m_X0_unitsLater ((m_X0_dateAt p0 z).2) p1 p2) z).2.1) hx hb hr hlocks (by rw [hm]) (by rw [hm]) (by rw [hm]) hP hS ⟨Nat.le_of_ble_eq_true rfl, Nat.le_of_ble_eq_true rfl⟩ dX0_move_23
def m_X0_putSpan (p0 : Int32) (p1 : Int32) (p2 : Int32) (p3 : Int32) (z : CS) : Nat × CS := (if m_X0_requireSpan p0 = 0 then (0, (z.1, (upd z.2.1 p0.toNatClampNeg p1), (upd z.2.2.1 p0.toNatClampNeg p2), upd z.2.2.2.1 p0.toNatClampNeg p3, z.2.2.2.2.1, z.2.2.2.2.2)) else ((m_X0_requireSpan p0), z))
theorem kk_X0_putSpan : pK yX0_putSpan wsX0_putSpan cX0_putSpan 5 none 4 := ⟨⟨_, rfl⟩, by decide +kernel, by decide +kernel, by decide +kernel⟩
set_option maxRecDepth 100000 in
set_option maxHeartbeats 4000000 in
theorem c_X0_putSpan (l : Launch) (hl9 : l.stackTraces = false) (k : Kx) (a : CA) (hD : cD k a) (p0 : Int32) (p1 : Int32) (p2 : Int32) (p3 : Int32) (z : CS) : cM l k a yX0_putSpan wsX0_putSpan 7 140 1 6 [.int p0, .int p1, .int p2, .int p3] z none (m_X0_putSpan p0 p1 p2 p3 z).1 (m_X0_putSpan p0 p1 p2 p3 z).2 := by
  intro sz
  refine vx_ofW (cc := cX0_putSpan) (maxL := 5) (ret := none) (by decide) rfl ?_
  intro p e s m args below meth c s₁ B hml hEx hv
  obtain ⟨rfl, rfl, hGx, hP⟩ := hv
  have hx := B.exec
  have hb := B.bytes
  have hr := B.returns
  have hts := atoms_spec (ws := wsX0_putSpan) B.pre
  have hown : s.vm.findClass RX0 = some m.cls := findClass_of_methodNamed B.named
  have hlocks := B.notSynchronized
  have htg : ∀ w ∈ GL, w.before _ s = true := fun w h => hts w (List.mem_cons_of_mem _ h)
  have hC : CallFix p m c cX0_putSpan 5 s _ wsX0_putSpan RX0 := ⟨hx, hb, hml, hown, hts⟩
  have hS : va_S (cA a s.heap.size) s.heap s.heap [] := va_S.rf
  have hl := lv_entry ([.ref a.1, .int p0, .int p1, .int p2, .int p3]) (n := 5) (Nat.le_of_ble_eq_true rfl)
  rw [lg_entry_eq]
  generalize (lg_sl ([.ref a.1, .int p0, .int p1, .int p2, .int p3]) ++ List.replicate (5 - (lg_sl ([.ref a.1, .int p0, .int p1, .int p2, .int p3])).length) Slot.unset).toArray = ls at hl ⊢
  have hl : lv_has ls 5 [(0, .ref a.1), (1, .int p0), (2, .int p1), (3, .int p2), (4, .int p3)] := hl
  have hm : m_X0_putSpan p0 p1 p2 p3 z = m_X0_putSpan p0 p1 p2 p3 z := rfl
  refine lv_iload_n hx hb dX0_putSpan_0 rfl (lv_at hl 1 rfl) ?_
  refine ct_S hC hGx hD hEx hlocks (t_X0_requireSpan l hl9 k p0) (gS w_85 w_86 w_26 w_87) kk_X0_requireSpan ⟨Nat.le_of_ble_eq_true rfl, Nat.le_of_ble_eq_true rfl⟩ ⟨Nat.le_of_ble_eq_true rfl, Nat.le_of_ble_eq_true rfl⟩ ⟨Nat.le_of_ble_eq_true rfl, Nat.le_of_ble_eq_true rfl⟩ hP hS hl.1 rfl rfl (Nat.le_of_ble_eq_true rfl) dX0_putSpan_1 (fun h_1 => by have hm : m_X0_putSpan p0 p1 p2 p3 z = ((m_X0_requireSpan p0), z) := hm.trans (if_neg h_1); exact ⟨by rw [hm], by rw [hm]⟩) (fun h_1 => ?_)
  have hm := hm.trans (if_pos h_1)
  refine lv_aload_n hx hb dX0_putSpan_4 rfl (lv_at hl 0 rfl) ?_
  refine va_get (D := kD k) (ci := 2) (v := .ref a.2.2.1) (C := RX0) (T := TX0) (N := 6) hx hb htg inG_X0 hown hGx.1 hP 0 rfl rfl 1 (by decide) (htg _ w_58) (fun _ h9 => h9) rfl dX0_putSpan_5 ?_
  refine lv_iload_n hx hb dX0_putSpan_8 rfl (lv_at hl 1 rfl) ?_
  refine lv_iload_n hx hb dX0_putSpan_9 rfl (lv_at hl 2 rfl) ?_
  refine va_iast (D := kD k) hx hb hGx.1 hP (hD.own _ _) hS 2 1 rfl rfl (span_in h_1) dX0_putSpan_10 (fun H locs hP1 _ hS => ?_)
  have hP : va_P (kD k) vwCl (cW k a (z.1, upd z.2.1 p0.toNatClampNeg p1, z.2.2.1, z.2.2.2.1, z.2.2.2.2.1, z.2.2.2.2.2)) H := hP1
  refine lv_aload_n hx hb dX0_putSpan_11 rfl (lv_at hl 0 rfl) ?_
  refine va_get (D := kD k) (ci := 2) (v := .ref a.2.2.2.1) (C := RX0) (T := TX0) (N := 6) hx hb htg inG_X0 hown hGx.1 hP 0 rfl rfl 2 (by decide) (htg _ w_59) (fun _ h9 => h9) rfl dX0_putSpan_12 ?_
  refine lv_iload_n hx hb dX0_putSpan_15 rfl (lv_at hl 1 rfl) ?_
  refine lv_iload_n hx hb dX0_putSpan_16 rfl (lv_at hl 3 rfl) ?_
  refine va_iast (D := kD k) hx hb hGx.1 hP (hD.own _ _) hS 3 1 rfl rfl (span_in h_1) dX0_putSpan_17 (fun H locs hP1 _ hS => ?_)
  have hP : va_P (kD k) vwCl (cW k a (z.1, (upd z.2.1 p0.toNatClampNeg p1), upd z.2.2.1 p0.toNatClampNeg p2, z.2.2.2.1, z.2.2.2.2.1, z.2.2.2.2.2)) H := hP1
  refine lv_aload_n hx hb dX0_putSpan_18 rfl (lv_at hl 0 rfl) ?_
  refine va_get (D := kD k) (ci := 2) (v := .ref a.2.2.2.2) (C := RX0) (T := TX0) (N := 6) hx hb htg inG_X0 hown hGx.1 hP 0 rfl rfl 3 (by decide) (htg _ w_60) (fun _ h9 => h9) rfl dX0_putSpan_19 ?_
  refine lv_iload_n hx hb dX0_putSpan_22 rfl (lv_at hl 1 rfl) ?_
  refine lv_iload hx hb dX0_putSpan_23 (lv_at hl 4 rfl) ?_
  refine va_iast (D := kD k) hx hb hGx.1 hP (hD.own _ _) hS 4 1 rfl rfl (span_in h_1) dX0_putSpan_25 (fun H locs hP1 _ hS => ?_)
  have hP : va_P (kD k) vwCl (cW k a (z.1, (upd z.2.1 p0.toNatClampNeg p1), (upd z.2.2.1 p0.toNatClampNeg p2), upd z.2.2.2.1 p0.toNatClampNeg p3, z.2.2.2.2.1, z.2.2.2.2.2)) H := hP1
  have hm : m_X0_putSpan p0 p1 p2 p3 z = (0, (z.1, (upd z.2.1 p0.toNatClampNeg p1), (upd z.2.2.1 p0.toNatClampNeg p2), upd z.2.2.2.1 p0.toNatClampNeg p3, z.2.2.2.2.1, z.2.2.2.2.2)) := hm
  exact c_vret hx hb hr hlocks rfl (by rw [hm]) (by rw [hm]) hP hS ⟨Nat.le_of_ble_eq_true rfl, Nat.le_of_ble_eq_true rfl⟩ dX0_putSpan_26
def m_X0_giveSpan (p0 : Int32) (p1 : Int32) (p2 : Int32) (p3 : Int32) (z : CS) : Nat × CS := (if (m_X0_putSpan p0 p1 p2 p3 z).1 = 0 then (0, (((m_X0_putSpan p0 p1 p2 p3 z).2).1, ((m_X0_putSpan p0 p1 p2 p3 z).2).2.1, ((m_X0_putSpan p0 p1 p2 p3 z).2).2.2.1, ((m_X0_putSpan p0 p1 p2 p3 z).2).2.2.2.1, (((m_X0_putSpan p0 p1 p2 p3 z).2).2.2.2.2.1) + (1 : Int32), ((m_X0_putSpan p0 p1 p2 p3 z).2).2.2.2.2.2)) else ((m_X0_putSpan p0 p1 p2 p3 z).1, (m_X0_putSpan p0 p1 p2 p3 z).2))
theorem kk_X0_giveSpan : pK yX0_giveSpan wsX0_giveSpan cX0_giveSpan 5 none 4 := ⟨⟨_, rfl⟩, by decide +kernel, by decide +kernel, by decide +kernel⟩
set_option maxRecDepth 100000 in
set_option maxHeartbeats 4000000 in
theorem c_X0_giveSpan (l : Launch) (hl9 : l.stackTraces = false) (k : Kx) (a : CA) (hD : cD k a) (p0 : Int32) (p1 : Int32) (p2 : Int32) (p3 : Int32) (z : CS) : cM l k a yX0_giveSpan wsX0_giveSpan 8 164 1 6 [.int p0, .int p1, .int p2, .int p3] z none (m_X0_giveSpan p0 p1 p2 p3 z).1 (m_X0_giveSpan p0 p1 p2 p3 z).2 := by
  intro sz
  refine vx_ofW (cc := cX0_giveSpan) (maxL := 5) (ret := none) (by decide) rfl ?_
  intro p e s m args below meth c s₁ B hml hEx hv
  obtain ⟨rfl, rfl, hGx, hP⟩ := hv
  have hx := B.exec
  have hb := B.bytes
  have hr := B.returns
  have hts := atoms_spec (ws := wsX0_giveSpan) B.pre
  have hown : s.vm.findClass RX0 = some m.cls := findClass_of_methodNamed B.named
  have hlocks := B.notSynchronized
  have htg : ∀ w ∈ GL, w.before _ s = true := fun w h => hts w (List.mem_cons_of_mem _ h)
  have hC : CallFix p m c cX0_giveSpan 5 s _ wsX0_giveSpan RX0 := ⟨hx, hb, hml, hown, hts⟩
  have hS : va_S (cA a s.heap.size) s.heap s.heap [] := va_S.rf
  have hl := lv_entry ([.ref a.1, .int p0, .int p1, .int p2, .int p3]) (n := 5) (Nat.le_of_ble_eq_true rfl)
  rw [lg_entry_eq]
  generalize (lg_sl ([.ref a.1, .int p0, .int p1, .int p2, .int p3]) ++ List.replicate (5 - (lg_sl ([.ref a.1, .int p0, .int p1, .int p2, .int p3])).length) Slot.unset).toArray = ls at hl ⊢
  have hl : lv_has ls 5 [(0, .ref a.1), (1, .int p0), (2, .int p1), (3, .int p2), (4, .int p3)] := hl
  have hm : m_X0_giveSpan p0 p1 p2 p3 z = m_X0_giveSpan p0 p1 p2 p3 z := rfl
  refine lv_aload_n hx hb dX0_giveSpan_0 rfl (lv_at hl 0 rfl) ?_
  refine lv_iload_n hx hb dX0_giveSpan_1 rfl (lv_at hl 1 rfl) ?_
  refine lv_iload_n hx hb dX0_giveSpan_2 rfl (lv_at hl 2 rfl) ?_
  refine lv_iload_n hx hb dX0_giveSpan_3 rfl (lv_at hl 3 rfl) ?_
  refine lv_iload hx hb dX0_giveSpan_4 (lv_at hl 4 rfl) ?_
  refine cc_V hC hGx hD hEx hlocks (c_X0_putSpan l hl9 k a hD p0 p1 p2 p3 z) (gV w_82 w_83 w_6 w_26 w_84) kk_X0_putSpan rfl ⟨Nat.le_of_ble_eq_true rfl, Nat.le_of_ble_eq_true rfl⟩ ⟨Nat.le_of_ble_eq_true rfl, Nat.le_of_ble_eq_true rfl⟩ ⟨Nat.le_of_ble_eq_true rfl, Nat.le_of_ble_eq_true rfl⟩ hP hS hl.1 rfl rfl (Nat.le_of_ble_eq_true rfl) dX0_giveSpan_6 (fun h_1 => ?_) (fun h_1 H locs hP hS => ?_)
  · have hm : m_X0_giveSpan p0 p1 p2 p3 z = ((m_X0_putSpan p0 p1 p2 p3 z).1, (m_X0_putSpan p0 p1 p2 p3 z).2) := hm.trans (if_neg h_1)
    exact ⟨by rw [hm], by rw [hm]⟩
  · have hm := hm.trans (if_pos h_1)
    refine lv_aload_n hx hb dX0_giveSpan_9 rfl (lv_at hl 0 rfl) ?_
    refine lv_dup hx hb dX0_giveSpan_10 rfl ?_
    refine va_get (D := kD k) (ci := 2) (v := .int (((m_X0_putSpan p0 p1 p2 p3 z).2).2.2.2.2.1)) (C := RX0) (T := TX0) (N := 6) hx hb htg inG_X0 hown hGx.1 hP 0 rfl rfl 4 (by decide) (htg _ w_61) (fun _ h9 => h9) rfl dX0_giveSpan_11 ?_
    refine lv_iconst (v := 1) hx hb dX0_giveSpan_14 (by decide) ?_
    refine lv_iadd hx hb dX0_giveSpan_15 ?_
    refine va_put (D := kD k) (ci := 2) (v := .int ((((m_X0_putSpan p0 p1 p2 p3 z).2).2.2.2.2.1) + (1 : Int32))) (ty := .int) (C := RX0) (T := TX0) (N := 6) hx hb htg inG_X0 tyX0 tyX0_ok nmX0 hown hGx.1 hP (hD.own _ _) hS 0 rfl rfl 4 (by decide) (htg _ w_61) (fun _ h9 => h9) rfl (by decide +kernel) rfl rfl (Nat.le_of_ble_eq_true rfl) dX0_giveSpan_16 (fun H locs hP1 _ hS => ?_)
    have hP : va_P (kD k) vwCl (cW k a (((m_X0_putSpan p0 p1 p2 p3 z).2).1, ((m_X0_putSpan p0 p1 p2 p3 z).2).2.1, ((m_X0_putSpan p0 p1 p2 p3 z).2).2.2.1, ((m_X0_putSpan p0 p1 p2 p3 z).2).2.2.2.1, (((m_X0_putSpan p0 p1 p2 p3 z).2).2.2.2.2.1) + (1 : Int32), ((m_X0_putSpan p0 p1 p2 p3 z).2).2.2.2.2.2)) H := hP1
    have hm : m_X0_giveSpan p0 p1 p2 p3 z = (0, (((m_X0_putSpan p0 p1 p2 p3 z).2).1, ((m_X0_putSpan p0 p1 p2 p3 z).2).2.1, ((m_X0_putSpan p0 p1 p2 p3 z).2).2.2.1, ((m_X0_putSpan p0 p1 p2 p3 z).2).2.2.2.1, (((m_X0_putSpan p0 p1 p2 p3 z).2).2.2.2.2.1) + (1 : Int32), ((m_X0_putSpan p0 p1 p2 p3 z).2).2.2.2.2.2)) := hm
    exact c_vret hx hb hr hlocks rfl (by rw [hm]) (by rw [hm]) hP hS ⟨Nat.le_of_ble_eq_true rfl, Nat.le_of_ble_eq_true rfl⟩ dX0_giveSpan_19
def m_X0_monthsOfSpan (p0 : Int32) (z : CS) : Nat × Int32 := (if m_X0_requireSpan p0 = 0 then (0, ((12 : Int32) * (z.2.1 p0.toNatClampNeg)) + (z.2.2.1 p0.toNatClampNeg)) else ((m_X0_requireSpan p0), 0))
theorem kk_X0_monthsOfSpan : pK yX0_monthsOfSpan wsX0_monthsOfSpan cX0_monthsOfSpan 2 (some .int) 1 := ⟨⟨_, rfl⟩, by decide +kernel, by decide +kernel, by decide +kernel⟩
set_option maxRecDepth 100000 in
set_option maxHeartbeats 4000000 in
theorem c_X0_monthsOfSpan (l : Launch) (hl9 : l.stackTraces = false) (k : Kx) (a : CA) (hD : cD k a) (p0 : Int32) (z : CS) : cM l k a yX0_monthsOfSpan wsX0_monthsOfSpan 7 140 1 6 [.int p0] z (some (.int (m_X0_monthsOfSpan p0 z).2)) (m_X0_monthsOfSpan p0 z).1 z := by
  intro sz
  refine vx_ofW (cc := cX0_monthsOfSpan) (maxL := 2) (ret := (some .int)) (by decide) rfl ?_
  intro p e s m args below meth c s₁ B hml hEx hv
  obtain ⟨rfl, rfl, hGx, hP⟩ := hv
  have hx := B.exec
  have hb := B.bytes
  have hr := B.returns
  have hts := atoms_spec (ws := wsX0_monthsOfSpan) B.pre
  have hown : s.vm.findClass RX0 = some m.cls := findClass_of_methodNamed B.named
  have hlocks := B.notSynchronized
  have htg : ∀ w ∈ GL, w.before _ s = true := fun w h => hts w (List.mem_cons_of_mem _ h)
  have hC : CallFix p m c cX0_monthsOfSpan 2 s _ wsX0_monthsOfSpan RX0 := ⟨hx, hb, hml, hown, hts⟩
  have hS : va_S (cA a s.heap.size) s.heap s.heap [] := va_S.rf
  have hl := lv_entry ([.ref a.1, .int p0]) (n := 2) (Nat.le_of_ble_eq_true rfl)
  rw [lg_entry_eq]
  generalize (lg_sl ([.ref a.1, .int p0]) ++ List.replicate (2 - (lg_sl ([.ref a.1, .int p0])).length) Slot.unset).toArray = ls at hl ⊢
  have hl : lv_has ls 2 [(0, .ref a.1), (1, .int p0)] := hl
  have hm : m_X0_monthsOfSpan p0 z = m_X0_monthsOfSpan p0 z := rfl
  refine lv_iload_n hx hb dX0_monthsOfSpan_0 rfl (lv_at hl 1 rfl) ?_
  refine ct_S hC hGx hD hEx hlocks (t_X0_requireSpan l hl9 k p0) (gS w_85 w_86 w_26 w_87) kk_X0_requireSpan ⟨Nat.le_of_ble_eq_true rfl, Nat.le_of_ble_eq_true rfl⟩ ⟨Nat.le_of_ble_eq_true rfl, Nat.le_of_ble_eq_true rfl⟩ ⟨Nat.le_of_ble_eq_true rfl, Nat.le_of_ble_eq_true rfl⟩ hP hS hl.1 rfl rfl (Nat.le_of_ble_eq_true rfl) dX0_monthsOfSpan_1 (fun h_1 => by have hm : m_X0_monthsOfSpan p0 z = ((m_X0_requireSpan p0), 0) := hm.trans (if_neg h_1); exact ⟨by rw [hm], rfl⟩) (fun h_1 => ?_)
  have hm := hm.trans (if_pos h_1)
  refine lv_bipush (v := 12) hx hb dX0_monthsOfSpan_4 (by decide) ?_
  refine lv_aload_n hx hb dX0_monthsOfSpan_6 rfl (lv_at hl 0 rfl) ?_
  refine va_get (D := kD k) (ci := 2) (v := .ref a.2.2.1) (C := RX0) (T := TX0) (N := 6) hx hb htg inG_X0 hown hGx.1 hP 0 rfl rfl 1 (by decide) (htg _ w_58) (fun _ h9 => h9) rfl dX0_monthsOfSpan_7 ?_
  refine lv_iload_n hx hb dX0_monthsOfSpan_10 rfl (lv_at hl 1 rfl) ?_
  refine va_iald (D := kD k) hx hb hGx.1 hP 2 1 rfl rfl (span_in h_1) dX0_monthsOfSpan_11 ?_
  refine lv_imul hx hb dX0_monthsOfSpan_12 ?_
  refine lv_aload_n hx hb dX0_monthsOfSpan_13 rfl (lv_at hl 0 rfl) ?_
  refine va_get (D := kD k) (ci := 2) (v := .ref a.2.2.2.1) (C := RX0) (T := TX0) (N := 6) hx hb htg inG_X0 hown hGx.1 hP 0 rfl rfl 2 (by decide) (htg _ w_59) (fun _ h9 => h9) rfl dX0_monthsOfSpan_14 ?_
  refine lv_iload_n hx hb dX0_monthsOfSpan_17 rfl (lv_at hl 1 rfl) ?_
  refine va_iald (D := kD k) hx hb hGx.1 hP 3 1 rfl rfl (span_in h_1) dX0_monthsOfSpan_18 ?_
  refine lv_iadd hx hb dX0_monthsOfSpan_19 ?_
  have hm : m_X0_monthsOfSpan p0 z = (0, ((12 : Int32) * (z.2.1 p0.toNatClampNeg)) + (z.2.2.1 p0.toNatClampNeg)) := hm
  exact c_iret (E := ((12 : Int32) * (z.2.1 p0.toNatClampNeg)) + (z.2.2.1 p0.toNatClampNeg)) hx hb hr hlocks (by rw [hm]) (by rw [hm]) rfl hP hS ⟨Nat.le_of_ble_eq_true rfl, Nat.le_of_ble_eq_true rfl⟩ dX0_monthsOfSpan_20
def m_X0_of (p0 : Int32) (p1 : Int32) (p2 : Int32) (p3 : Int32) (z : CS) : Nat × Int32 × CS := (if m_X0_requirePlace p0 = 0 then (if m_X0_requireYearMonthDay p1 p2 p3 = 0 then (if m_X0_requireDayOfMonth p1.toInt64 p2 p3 = 0 then (if (m_X0_give p0 (m_X0_dateOf p1.toInt64 p2 p3) z).1 = 0 then (0, (m_X0_give p0 (m_X0_dateOf p1.toInt64 p2 p3) z).2.1, (m_X0_give p0 (m_X0_dateOf p1.toInt64 p2 p3) z).2.2) else ((m_X0_give p0 (m_X0_dateOf p1.toInt64 p2 p3) z).1, 0, (m_X0_give p0 (m_X0_dateOf p1.toInt64 p2 p3) z).2.2)) else ((m_X0_requireDayOfMonth p1.toInt64 p2 p3), 0, z)) else ((m_X0_requireYearMonthDay p1 p2 p3), 0, z)) else ((m_X0_requirePlace p0), 0, z))
theorem kk_X0_of : pK yX0_of wsX0_of cX0_of 5 (some .int) 4 := ⟨⟨_, rfl⟩, by decide +kernel, by decide +kernel, by decide +kernel⟩
set_option maxRecDepth 100000 in
set_option maxHeartbeats 4000000 in
theorem c_X0_of (l : Launch) (hl9 : l.stackTraces = false) (k : Kx) (a : CA) (hD : cD k a) (p0 : Int32) (p1 : Int32) (p2 : Int32) (p3 : Int32) (z : CS) : cM l k a yX0_of wsX0_of 9 186 7 42 [.int p0, .int p1, .int p2, .int p3] z (some (.int (m_X0_of p0 p1 p2 p3 z).2.1)) (m_X0_of p0 p1 p2 p3 z).1 (m_X0_of p0 p1 p2 p3 z).2.2 := by
  intro sz
  refine vx_ofW (cc := cX0_of) (maxL := 5) (ret := (some .int)) (by decide) rfl ?_
  intro p e s m args below meth c s₁ B hml hEx hv
  obtain ⟨rfl, rfl, hGx, hP⟩ := hv
  have hx := B.exec
  have hb := B.bytes
  have hr := B.returns
  have hts := atoms_spec (ws := wsX0_of) B.pre
  have hown : s.vm.findClass RX0 = some m.cls := findClass_of_methodNamed B.named
  have hlocks := B.notSynchronized
  have htg : ∀ w ∈ GL, w.before _ s = true := fun w h => hts w (List.mem_cons_of_mem _ h)
  have hC : CallFix p m c cX0_of 5 s _ wsX0_of RX0 := ⟨hx, hb, hml, hown, hts⟩
  have hS : va_S (cA a s.heap.size) s.heap s.heap [] := va_S.rf
  have hl := lv_entry ([.ref a.1, .int p0, .int p1, .int p2, .int p3]) (n := 5) (Nat.le_of_ble_eq_true rfl)
  rw [lg_entry_eq]
  generalize (lg_sl ([.ref a.1, .int p0, .int p1, .int p2, .int p3]) ++ List.replicate (5 - (lg_sl ([.ref a.1, .int p0, .int p1, .int p2, .int p3])).length) Slot.unset).toArray = ls at hl ⊢
  have hl : lv_has ls 5 [(0, .ref a.1), (1, .int p0), (2, .int p1), (3, .int p2), (4, .int p3)] := hl
  have hm : m_X0_of p0 p1 p2 p3 z = m_X0_of p0 p1 p2 p3 z := rfl
  refine lv_iload_n hx hb dX0_of_0 rfl (lv_at hl 1 rfl) ?_
  refine ct_S hC hGx hD hEx hlocks (t_X0_requirePlace l hl9 k p0) (gS w_156 w_157 w_26 w_158) kk_X0_requirePlace ⟨Nat.le_of_ble_eq_true rfl, Nat.le_of_ble_eq_true rfl⟩ ⟨Nat.le_of_ble_eq_true rfl, Nat.le_of_ble_eq_true rfl⟩ ⟨Nat.le_of_ble_eq_true rfl, Nat.le_of_ble_eq_true rfl⟩ hP hS hl.1 rfl rfl (Nat.le_of_ble_eq_true rfl) dX0_of_1 (fun h_1 => by have hm : m_X0_of p0 p1 p2 p3 z = ((m_X0_requirePlace p0), 0, z) := hm.trans (if_neg h_1); exact ⟨by rw [hm], by rw [hm]⟩) (fun h_1 => ?_)
  have hm := hm.trans (if_pos h_1)
  refine lv_iload_n hx hb dX0_of_4 rfl (lv_at hl 2 rfl) ?_
  refine lv_iload_n hx hb dX0_of_5 rfl (lv_at hl 3 rfl) ?_
  refine lv_iload hx hb dX0_of_6 (lv_at hl 4 rfl) ?_
  refine ct_S hC hGx hD hEx hlocks (t_X0_requireYearMonthDay l hl9 k p1 p2 p3) (gS w_629 w_630 w_26 w_631) kk_X0_requireYearMonthDay ⟨Nat.le_of_ble_eq_true rfl, Nat.le_of_ble_eq_true rfl⟩ ⟨Nat.le_of_ble_eq_true rfl, Nat.le_of_ble_eq_true rfl⟩ ⟨Nat.le_of_ble_eq_true rfl, Nat.le_of_ble_eq_true rfl⟩ hP hS hl.1 rfl rfl (Nat.le_of_ble_eq_true rfl) dX0_of_8 (fun h_2 => by have hm : m_X0_of p0 p1 p2 p3 z = ((m_X0_requireYearMonthDay p1 p2 p3), 0, z) := hm.trans (if_neg h_2); exact ⟨by rw [hm], by rw [hm]⟩) (fun h_2 => ?_)
  have hm := hm.trans (if_pos h_2)
  refine lv_iload_n hx hb dX0_of_11 rfl (lv_at hl 2 rfl) ?_
  refine lv_i2l hx hb dX0_of_12 rfl ?_
  refine lv_iload_n hx hb dX0_of_13 rfl (lv_at hl 3 rfl) ?_
  refine lv_iload hx hb dX0_of_14 (lv_at hl 4 rfl) ?_
  refine ct_S hC hGx hD hEx hlocks (t_X0_requireDayOfMonth l hl9 k p1.toInt64 p2 p3) (gS w_632 w_633 w_26 w_634) kk_X0_requireDayOfMonth ⟨Nat.le_of_ble_eq_true rfl, Nat.le_of_ble_eq_true rfl⟩ ⟨Nat.le_of_ble_eq_true rfl, Nat.le_of_ble_eq_true rfl⟩ ⟨Nat.le_of_ble_eq_true rfl, Nat.le_of_ble_eq_true rfl⟩ hP hS hl.1 rfl rfl (Nat.le_of_ble_eq_true rfl) dX0_of_16 (fun h_3 => by have hm : m_X0_of p0 p1 p2 p3 z = ((m_X0_requireDayOfMonth p1.toInt64 p2 p3), 0, z) := hm.trans (if_neg h_3); exact ⟨by rw [hm], by rw [hm]⟩) (fun h_3 => ?_)
  have hm := hm.trans (if_pos h_3)
  refine lv_aload_n hx hb dX0_of_19 rfl (lv_at hl 0 rfl) ?_
  refine lv_iload_n hx hb dX0_of_20 rfl (lv_at hl 1 rfl) ?_
  refine lv_iload_n hx hb dX0_of_21 rfl (lv_at hl 2 rfl) ?_
  refine lv_i2l hx hb dX0_of_22 rfl ?_
  refine lv_iload_n hx hb dX0_of_23 rfl (lv_at hl 3 rfl) ?_
  refine lv_iload hx hb dX0_of_24 (lv_at hl 4 rfl) ?_
  refine pc_S hC (c_X0_dateOf l p1.toInt64 p2 p3) (gS w_208 w_209 w_26 w_210) kk_X0_dateOf ⟨Nat.le_of_ble_eq_true rfl, Nat.le_of_ble_eq_true rfl⟩ ⟨Nat.le_of_ble_eq_true rfl, Nat.le_of_ble_eq_true rfl⟩ hl.1 rfl rfl (Nat.le_of_ble_eq_true rfl) dX0_of_26 ?_
  refine cc_V hC hGx hD hEx hlocks (c_X0_give l hl9 k a hD p0 (m_X0_dateOf p1.toInt64 p2 p3) z) (gV w_649 w_650 w_12 w_26 w_651) kk_X0_give rfl ⟨Nat.le_of_ble_eq_true rfl, Nat.le_of_ble_eq_true rfl⟩ ⟨Nat.le_of_ble_eq_true rfl, Nat.le_of_ble_eq_true rfl⟩ ⟨Nat.le_of_ble_eq_true rfl, Nat.le_of_ble_eq_true rfl⟩ hP hS hl.1 rfl rfl (Nat.le_of_ble_eq_true rfl) dX0_of_29 (fun h_4 => ?_) (fun h_4 H locs hP hS => ?_)
  · have hm : m_X0_of p0 p1 p2 p3 z = ((m_X0_give p0 (m_X0_dateOf p1.toInt64 p2 p3) z).1, 0, (m_X0_give p0 (m_X0_dateOf p1.toInt64 p2 p3) z).2.2) := hm.trans (if_neg h_4)
    exact ⟨by rw [hm], by rw [hm]⟩
  · have hm := hm.trans (if_pos h_4)
    have hm : m_X0_of p0 p1 p2 p3 z = (0, (m_X0_give p0 (m_X0_dateOf p1.toInt64 p2 p3) z).2.1, (m_X0_give p0 (m_X0_dateOf p1.toInt64 p2 p3) z).2.2) := hm
    exact c_iret (E := (m_X0_give p0 (m_X0_dateOf p1.toInt64 p2 p3) z).2.1) hx hb hr hlocks (by rw [hm]) (by rw [hm]) (by rw [hm]) hP hS ⟨Nat.le_of_ble_eq_true rfl, Nat.le_of_ble_eq_true rfl⟩ dX0_of_32
def m_X0_ofDay (p0 : Int32) (p1 : Int32) (z : CS) : Nat × Int32 × CS := (if m_X0_requirePlace p0 = 0 then (if m_X0_requireWithin p1 (-4371587 : Int32) (2932896 : Int32) = 0 then (if (m_X0_give p0 (m_X0_dateOfNumber p1.toInt64) z).1 = 0 then (0, (m_X0_give p0 (m_X0_dateOfNumber p1.toInt64) z).2.1, (m_X0_give p0 (m_X0_dateOfNumber p1.toInt64) z).2.2) else ((m_X0_give p0 (m_X0_dateOfNumber p1.toInt64) z).1, 0, (m_X0_give p0 (m_X0_dateOfNumber p1.toInt64) z).2.2)) else ((m_X0_requireWithin p1 (-4371587 : Int32) (2932896 : Int32)), 0, z)) else ((m_X0_requirePlace p0), 0, z))
theorem kk_X0_ofDay : pK yX0_ofDay wsX0_ofDay cX0_ofDay 3 (some .int) 2 := ⟨⟨_, rfl⟩, by decide +kernel, by decide +kernel, by decide +kernel⟩
set_option maxRecDepth 100000 in
set_option maxHeartbeats 4000000 in
theorem c_X0_ofDay (l : Launch) (hl9 : l.stackTraces = false) (k : Kx) (a : CA) (hD : cD k a) (p0 : Int32) (p1 : Int32) (z : CS) : cM l k a yX0_ofDay wsX0_ofDay 9 186 4 24 [.int p0, .int p1] z (some (.int (m_X0_ofDay p0 p1 z).2.1)) (m_X0_ofDay p0 p1 z).1 (m_X0_ofDay p0 p1 z).2.2 := by
  intro sz
  refine vx_ofW (cc := cX0_ofDay) (maxL := 3) (ret := (some .int)) (by decide) rfl ?_
  intro p e s m args below meth c s₁ B hml hEx hv
  obtain ⟨rfl, rfl, hGx, hP⟩ := hv
  have hx := B.exec
  have hb := B.bytes
  have hr := B.returns
  have hts := atoms_spec (ws := wsX0_ofDay) B.pre
  have hown : s.vm.findClass RX0 = some m.cls := findClass_of_methodNamed B.named
  have hlocks := B.notSynchronized
  have htg : ∀ w ∈ GL, w.before _ s = true := fun w h => hts w (List.mem_cons_of_mem _ h)
  have hC : CallFix p m c cX0_ofDay 3 s _ wsX0_ofDay RX0 := ⟨hx, hb, hml, hown, hts⟩
  have hS : va_S (cA a s.heap.size) s.heap s.heap [] := va_S.rf
  have hl := lv_entry ([.ref a.1, .int p0, .int p1]) (n := 3) (Nat.le_of_ble_eq_true rfl)
  rw [lg_entry_eq]
  generalize (lg_sl ([.ref a.1, .int p0, .int p1]) ++ List.replicate (3 - (lg_sl ([.ref a.1, .int p0, .int p1])).length) Slot.unset).toArray = ls at hl ⊢
  have hl : lv_has ls 3 [(0, .ref a.1), (1, .int p0), (2, .int p1)] := hl
  have hm : m_X0_ofDay p0 p1 z = m_X0_ofDay p0 p1 z := rfl
  refine lv_iload_n hx hb dX0_ofDay_0 rfl (lv_at hl 1 rfl) ?_
  refine ct_S hC hGx hD hEx hlocks (t_X0_requirePlace l hl9 k p0) (gS w_156 w_157 w_26 w_158) kk_X0_requirePlace ⟨Nat.le_of_ble_eq_true rfl, Nat.le_of_ble_eq_true rfl⟩ ⟨Nat.le_of_ble_eq_true rfl, Nat.le_of_ble_eq_true rfl⟩ ⟨Nat.le_of_ble_eq_true rfl, Nat.le_of_ble_eq_true rfl⟩ hP hS hl.1 rfl rfl (Nat.le_of_ble_eq_true rfl) dX0_ofDay_1 (fun h_1 => by have hm : m_X0_ofDay p0 p1 z = ((m_X0_requirePlace p0), 0, z) := hm.trans (if_neg h_1); exact ⟨by rw [hm], by rw [hm]⟩) (fun h_1 => ?_)
  have hm := hm.trans (if_pos h_1)
  refine lv_iload_n hx hb dX0_ofDay_4 rfl (lv_at hl 2 rfl) ?_
  refine lv_ldc hx hb hown (htg _ w_667) dX0_ofDay_5 ?_
  refine lv_ldc hx hb hown (htg _ w_668) dX0_ofDay_7 ?_
  refine ct_S hC hGx hD hEx hlocks (t_X0_requireWithin l hl9 k p1 (-4371587 : Int32) (2932896 : Int32)) (gS w_295 w_296 w_26 w_297) kk_X0_requireWithin ⟨Nat.le_of_ble_eq_true rfl, Nat.le_of_ble_eq_true rfl⟩ ⟨Nat.le_of_ble_eq_true rfl, Nat.le_of_ble_eq_true rfl⟩ ⟨Nat.le_of_ble_eq_true rfl, Nat.le_of_ble_eq_true rfl⟩ hP hS hl.1 rfl rfl (Nat.le_of_ble_eq_true rfl) dX0_ofDay_9 (fun h_2 => by have hm : m_X0_ofDay p0 p1 z = ((m_X0_requireWithin p1 (-4371587 : Int32) (2932896 : Int32)), 0, z) := hm.trans (if_neg h_2); exact ⟨by rw [hm], by rw [hm]⟩) (fun h_2 => ?_)
  have hm := hm.trans (if_pos h_2)
  refine lv_aload_n hx hb dX0_ofDay_12 rfl (lv_at hl 0 rfl) ?_
  refine lv_iload_n hx hb dX0_ofDay_13 rfl (lv_at hl 1 rfl) ?_
  refine lv_iload_n hx hb dX0_ofDay_14 rfl (lv_at hl 2 rfl) ?_
  refine lv_i2l hx hb dX0_ofDay_15 rfl ?_
  refine pc_S hC (c_X0_dateOfNumber l p1.toInt64) (gS w_198 w_199 w_26 w_200) kk_X0_dateOfNumber ⟨Nat.le_of_ble_eq_true rfl, Nat.le_of_ble_eq_true rfl⟩ ⟨Nat.le_of_ble_eq_true rfl, Nat.le_of_ble_eq_true rfl⟩ hl.1 rfl rfl (Nat.le_of_ble_eq_true rfl) dX0_ofDay_16 ?_
  refine cc_V hC hGx hD hEx hlocks (c_X0_give l hl9 k a hD p0 (m_X0_dateOfNumber p1.toInt64) z) (gV w_649 w_650 w_12 w_26 w_651) kk_X0_give rfl ⟨Nat.le_of_ble_eq_true rfl, Nat.le_of_ble_eq_true rfl⟩ ⟨Nat.le_of_ble_eq_true rfl, Nat.le_of_ble_eq_true rfl⟩ ⟨Nat.le_of_ble_eq_true rfl, Nat.le_of_ble_eq_true rfl⟩ hP hS hl.1 rfl rfl (Nat.le_of_ble_eq_true rfl) dX0_ofDay_19 (fun h_3 => ?_) (fun h_3 H locs hP hS => ?_)
  · have hm : m_X0_ofDay p0 p1 z = ((m_X0_give p0 (m_X0_dateOfNumber p1.toInt64) z).1, 0, (m_X0_give p0 (m_X0_dateOfNumber p1.toInt64) z).2.2) := hm.trans (if_neg h_3)
    exact ⟨by rw [hm], by rw [hm]⟩
  · have hm := hm.trans (if_pos h_3)
    have hm : m_X0_ofDay p0 p1 z = (0, (m_X0_give p0 (m_X0_dateOfNumber p1.toInt64) z).2.1, (m_X0_give p0 (m_X0_dateOfNumber p1.toInt64) z).2.2) := hm
    exact c_iret (E := (m_X0_give p0 (m_X0_dateOfNumber p1.toInt64) z).2.1) hx hb hr hlocks (by rw [hm]) (by rw [hm]) (by rw [hm]) hP hS ⟨Nat.le_of_ble_eq_true rfl, Nat.le_of_ble_eq_true rfl⟩ dX0_ofDay_22
def m_X0_ofYearDay (p0 : Int32) (p1 : Int32) (p2 : Int32) (z : CS) : Nat × Int32 × CS := (if m_X0_requirePlace p0 = 0 then (if m_X0_requireWithin p1 (-9999 : Int32) (9999 : Int32) = 0 then (if (m_X0_giveYearDay p0 p1.toInt64 p2 z).1 = 0 then (0, (m_X0_giveYearDay p0 p1.toInt64 p2 z).2.1, (m_X0_giveYearDay p0 p1.toInt64 p2 z).2.2) else ((m_X0_giveYearDay p0 p1.toInt64 p2 z).1, 0, (m_X0_giveYearDay p0 p1.toInt64 p2 z).2.2)) else ((m_X0_requireWithin p1 (-9999 : Int32) (9999 : Int32)), 0, z)) else ((m_X0_requirePlace p0), 0, z))
theorem kk_X0_ofYearDay : pK yX0_ofYearDay wsX0_ofYearDay cX0_ofYearDay 4 (some .int) 3 := ⟨⟨_, rfl⟩, by decide +kernel, by decide +kernel, by decide +kernel⟩
set_option maxRecDepth 100000 in
set_option maxHeartbeats 4000000 in
theorem c_X0_ofYearDay (l : Launch) (hl9 : l.stackTraces = false) (k : Kx) (a : CA) (hD : cD k a) (p0 : Int32) (p1 : Int32) (p2 : Int32) (z : CS) : cM l k a yX0_ofYearDay wsX0_ofYearDay 10 210 5 30 [.int p0, .int p1, .int p2] z (some (.int (m_X0_ofYearDay p0 p1 p2 z).2.1)) (m_X0_ofYearDay p0 p1 p2 z).1 (m_X0_ofYearDay p0 p1 p2 z).2.2 := by
  intro sz
  refine vx_ofW (cc := cX0_ofYearDay) (maxL := 4) (ret := (some .int)) (by decide) rfl ?_
  intro p e s m args below meth c s₁ B hml hEx hv
  obtain ⟨rfl, rfl, hGx, hP⟩ := hv
  have hx := B.exec
  have hb := B.bytes
  have hr := B.returns
  have hts := atoms_spec (ws := wsX0_ofYearDay) B.pre
  have hown : s.vm.findClass RX0 = some m.cls := findClass_of_methodNamed B.named
  have hlocks := B.notSynchronized
  have htg : ∀ w ∈ GL, w.before _ s = true := fun w h => hts w (List.mem_cons_of_mem _ h)
  have hC : CallFix p m c cX0_ofYearDay 4 s _ wsX0_ofYearDay RX0 := ⟨hx, hb, hml, hown, hts⟩
  have hS : va_S (cA a s.heap.size) s.heap s.heap [] := va_S.rf
  have hl := lv_entry ([.ref a.1, .int p0, .int p1, .int p2]) (n := 4) (Nat.le_of_ble_eq_true rfl)
  rw [lg_entry_eq]
  generalize (lg_sl ([.ref a.1, .int p0, .int p1, .int p2]) ++ List.replicate (4 - (lg_sl ([.ref a.1, .int p0, .int p1, .int p2])).length) Slot.unset).toArray = ls at hl ⊢
  have hl : lv_has ls 4 [(0, .ref a.1), (1, .int p0), (2, .int p1), (3, .int p2)] := hl
  have hm : m_X0_ofYearDay p0 p1 p2 z = m_X0_ofYearDay p0 p1 p2 z := rfl
  refine lv_iload_n hx hb dX0_ofYearDay_0 rfl (lv_at hl 1 rfl) ?_
  refine ct_S hC hGx hD hEx hlocks (t_X0_requirePlace l hl9 k p0) (gS w_156 w_157 w_26 w_158) kk_X0_requirePlace ⟨Nat.le_of_ble_eq_true rfl, Nat.le_of_ble_eq_true rfl⟩ ⟨Nat.le_of_ble_eq_true rfl, Nat.le_of_ble_eq_true rfl⟩ ⟨Nat.le_of_ble_eq_true rfl, Nat.le_of_ble_eq_true rfl⟩ hP hS hl.1 rfl rfl (Nat.le_of_ble_eq_true rfl) dX0_ofYearDay_1 (fun h_1 => by have hm : m_X0_ofYearDay p0 p1 p2 z = ((m_X0_requirePlace p0), 0, z) := hm.trans (if_neg h_1); exact ⟨by rw [hm], by rw [hm]⟩) (fun h_1 => ?_)
  have hm := hm.trans (if_pos h_1)
  refine lv_iload_n hx hb dX0_ofYearDay_4 rfl (lv_at hl 2 rfl) ?_
  refine lv_sipush (v := (-9999)) hx hb dX0_ofYearDay_5 (by decide) ?_
  refine lv_sipush (v := 9999) hx hb dX0_ofYearDay_8 (by decide) ?_
  refine ct_S hC hGx hD hEx hlocks (t_X0_requireWithin l hl9 k p1 (-9999 : Int32) (9999 : Int32)) (gS w_295 w_296 w_26 w_297) kk_X0_requireWithin ⟨Nat.le_of_ble_eq_true rfl, Nat.le_of_ble_eq_true rfl⟩ ⟨Nat.le_of_ble_eq_true rfl, Nat.le_of_ble_eq_true rfl⟩ ⟨Nat.le_of_ble_eq_true rfl, Nat.le_of_ble_eq_true rfl⟩ hP hS hl.1 rfl rfl (Nat.le_of_ble_eq_true rfl) dX0_ofYearDay_11 (fun h_2 => by have hm : m_X0_ofYearDay p0 p1 p2 z = ((m_X0_requireWithin p1 (-9999 : Int32) (9999 : Int32)), 0, z) := hm.trans (if_neg h_2); exact ⟨by rw [hm], by rw [hm]⟩) (fun h_2 => ?_)
  have hm := hm.trans (if_pos h_2)
  refine lv_aload_n hx hb dX0_ofYearDay_14 rfl (lv_at hl 0 rfl) ?_
  refine lv_iload_n hx hb dX0_ofYearDay_15 rfl (lv_at hl 1 rfl) ?_
  refine lv_iload_n hx hb dX0_ofYearDay_16 rfl (lv_at hl 2 rfl) ?_
  refine lv_i2l hx hb dX0_ofYearDay_17 rfl ?_
  refine lv_iload_n hx hb dX0_ofYearDay_18 rfl (lv_at hl 3 rfl) ?_
  refine cc_V hC hGx hD hEx hlocks (c_X0_giveYearDay l hl9 k a hD p0 p1.toInt64 p2 z) (gV w_676 w_677 w_14 w_26 w_678) kk_X0_giveYearDay rfl ⟨Nat.le_of_ble_eq_true rfl, Nat.le_of_ble_eq_true rfl⟩ ⟨Nat.le_of_ble_eq_true rfl, Nat.le_of_ble_eq_true rfl⟩ ⟨Nat.le_of_ble_eq_true rfl, Nat.le_of_ble_eq_true rfl⟩ hP hS hl.1 rfl rfl (Nat.le_of_ble_eq_true rfl) dX0_ofYearDay_19 (fun h_3 => ?_) (fun h_3 H locs hP hS => ?_)
  · have hm : m_X0_ofYearDay p0 p1 p2 z = ((m_X0_giveYearDay p0 p1.toInt64 p2 z).1, 0, (m_X0_giveYearDay p0 p1.toInt64 p2 z).2.2) := hm.trans (if_neg h_3)
    exact ⟨by rw [hm], by rw [hm]⟩
  · have hm := hm.trans (if_pos h_3)
    have hm : m_X0_ofYearDay p0 p1 p2 z = (0, (m_X0_giveYearDay p0 p1.toInt64 p2 z).2.1, (m_X0_giveYearDay p0 p1.toInt64 p2 z).2.2) := hm
    exact c_iret (E := (m_X0_giveYearDay p0 p1.toInt64 p2 z).2.1) hx hb hr hlocks (by rw [hm]) (by rw [hm]) (by rw [hm]) hP hS ⟨Nat.le_of_ble_eq_true rfl, Nat.le_of_ble_eq_true rfl⟩ dX0_ofYearDay_22
def m_X0_copy (p0 : Int32) (p1 : Int32) (z : CS) : Nat × Int32 × CS := (if m_X0_requirePlace p0 = 0 then (if (m_X0_dateAt p1 z).1 = 0 then (if (m_X0_give p0 ((m_X0_dateAt p1 z).2) z).1 = 0 then (0, (m_X0_give p0 ((m_X0_dateAt p1 z).2) z).2.1, (m_X0_give p0 ((m_X0_dateAt p1 z).2) z).2.2) else ((m_X0_give p0 ((m_X0_dateAt p1 z).2) z).1, 0, (m_X0_give p0 ((m_X0_dateAt p1 z).2) z).2.2)) else ((m_X0_dateAt p1 z).1, 0, z)) else ((m_X0_requirePlace p0), 0, z))
theorem kk_X0_copy : pK yX0_copy wsX0_copy cX0_copy 3 (some .int) 2 := ⟨⟨_, rfl⟩, by decide +kernel, by decide +kernel, by decide +kernel⟩
set_option maxRecDepth 100000 in
set_option maxHeartbeats 4000000 in
theorem c_X0_copy (l : Launch) (hl9 : l.stackTraces = false) (k : Kx) (a : CA) (hD : cD k a) (p0 : Int32) (p1 : Int32) (z : CS) : cM l k a yX0_copy wsX0_copy 9 186 4 24 [.int p0, .int p1] z (some (.int (m_X0_copy p0 p1 z).2.1)) (m_X0_copy p0 p1 z).1 (m_X0_copy p0 p1 z).2.2 := by
  intro sz
  refine vx_ofW (cc := cX0_copy) (maxL := 3) (ret := (some .int)) (by decide) rfl ?_
  intro p e s m args below meth c s₁ B hml hEx hv
  obtain ⟨rfl, rfl, hGx, hP⟩ := hv
  have hx := B.exec
  have hb := B.bytes
  have hr := B.returns
  have hts := atoms_spec (ws := wsX0_copy) B.pre
  have hown : s.vm.findClass RX0 = some m.cls := findClass_of_methodNamed B.named
  have hlocks := B.notSynchronized
  have htg : ∀ w ∈ GL, w.before _ s = true := fun w h => hts w (List.mem_cons_of_mem _ h)
  have hC : CallFix p m c cX0_copy 3 s _ wsX0_copy RX0 := ⟨hx, hb, hml, hown, hts⟩
  have hS : va_S (cA a s.heap.size) s.heap s.heap [] := va_S.rf
  have hl := lv_entry ([.ref a.1, .int p0, .int p1]) (n := 3) (Nat.le_of_ble_eq_true rfl)
  rw [lg_entry_eq]
  generalize (lg_sl ([.ref a.1, .int p0, .int p1]) ++ List.replicate (3 - (lg_sl ([.ref a.1, .int p0, .int p1])).length) Slot.unset).toArray = ls at hl ⊢
  have hl : lv_has ls 3 [(0, .ref a.1), (1, .int p0), (2, .int p1)] := hl
  have hm : m_X0_copy p0 p1 z = m_X0_copy p0 p1 z := rfl
  refine lv_iload_n hx hb dX0_copy_0 rfl (lv_at hl 1 rfl) ?_
  refine ct_S hC hGx hD hEx hlocks (t_X0_requirePlace l hl9 k p0) (gS w_156 w_157 w_26 w_158) kk_X0_requirePlace ⟨Nat.le_of_ble_eq_true rfl, Nat.le_of_ble_eq_true rfl⟩ ⟨Nat.le_of_ble_eq_true rfl, Nat.le_of_ble_eq_true rfl⟩ ⟨Nat.le_of_ble_eq_true rfl, Nat.le_of_ble_eq_true rfl⟩ hP hS hl.1 rfl rfl (Nat.le_of_ble_eq_true rfl) dX0_copy_1 (fun h_1 => by have hm : m_X0_copy p0 p1 z = ((m_X0_requirePlace p0), 0, z) := hm.trans (if_neg h_1); exact ⟨by rw [hm], by rw [hm]⟩) (fun h_1 => ?_)
  have hm := hm.trans (if_pos h_1)
  refine lv_aload_n hx hb dX0_copy_4 rfl (lv_at hl 0 rfl) ?_
  refine lv_iload_n hx hb dX0_copy_5 rfl (lv_at hl 1 rfl) ?_
  refine lv_aload_n hx hb dX0_copy_6 rfl (lv_at hl 0 rfl) ?_
  refine lv_iload_n hx hb dX0_copy_7 rfl (lv_at hl 2 rfl) ?_
  refine cc_V hC hGx hD hEx hlocks (c_X0_dateAt l hl9 k a hD p1 z) (gV w_153 w_154 w_8 w_26 w_155) kk_X0_dateAt rfl ⟨Nat.le_of_ble_eq_true rfl, Nat.le_of_ble_eq_true rfl⟩ ⟨Nat.le_of_ble_eq_true rfl, Nat.le_of_ble_eq_true rfl⟩ ⟨Nat.le_of_ble_eq_true rfl, Nat.le_of_ble_eq_true rfl⟩ hP hS hl.1 rfl rfl (Nat.le_of_ble_eq_true rfl) dX0_copy_8 (fun h_2 => ?_) (fun h_2 H locs hP hS => ?_)
  · have hm : m_X0_copy p0 p1 z = ((m_X0_dateAt p1 z).1, 0, z) := hm.trans (if_neg h_2)
    exact ⟨by rw [hm], by rw [hm]⟩
  · have hm := hm.trans (if_pos h_2)
    refine cc_V hC hGx hD hEx hlocks (c_X0_give l hl9 k a hD p0 ((m_X0_dateAt p1 z).2) z) (gV w_649 w_650 w_12 w_26 w_651) kk_X0_give rfl ⟨Nat.le_of_ble_eq_true rfl, Nat.le_of_ble_eq_true rfl⟩ ⟨Nat.le_of_ble_eq_true rfl, Nat.le_of_ble_eq_true rfl⟩ ⟨Nat.le_of_ble_eq_true rfl, Nat.le_of_ble_eq_true rfl⟩ hP hS hl.1 rfl rfl (Nat.le_of_ble_eq_true rfl) dX0_copy_11 (fun h_3 => ?_) (fun h_3 H locs hP hS => ?_)
    · have hm : m_X0_copy p0 p1 z = ((m_X0_give p0 ((m_X0_dateAt p1 z).2) z).1, 0, (m_X0_give p0 ((m_X0_dateAt p1 z).2) z).2.2) := hm.trans (if_neg h_3)
      exact ⟨by rw [hm], by rw [hm]⟩
    · have hm := hm.trans (if_pos h_3)
      have hm : m_X0_copy p0 p1 z = (0, (m_X0_give p0 ((m_X0_dateAt p1 z).2) z).2.1, (m_X0_give p0 ((m_X0_dateAt p1 z).2) z).2.2) := hm
      exact c_iret (E := (m_X0_give p0 ((m_X0_dateAt p1 z).2) z).2.1) hx hb hr hlocks (by rw [hm]) (by rw [hm]) (by rw [hm]) hP hS ⟨Nat.le_of_ble_eq_true rfl, Nat.le_of_ble_eq_true rfl⟩ dX0_copy_14
def m_X0_toDay (p0 : Int32) (z : CS) : Nat × Int32 := (if (m_X0_dateAt p0 z).1 = 0 then (0, (m_X0_numberOf ((m_X0_dateAt p0 z).2)).toInt32) else ((m_X0_dateAt p0 z).1, 0))
theorem kk_X0_toDay : pK yX0_toDay wsX0_toDay cX0_toDay 2 (some .int) 1 := ⟨⟨_, rfl⟩, by decide +kernel, by decide +kernel, by decide +kernel⟩
set_option maxRecDepth 100000 in
set_option maxHeartbeats 4000000 in
theorem c_X0_toDay (l : Launch) (hl9 : l.stackTraces = false) (k : Kx) (a : CA) (hD : cD k a) (p0 : Int32) (z : CS) : cM l k a yX0_toDay wsX0_toDay 8 161 1 6 [.int p0] z (some (.int (m_X0_toDay p0 z).2)) (m_X0_toDay p0 z).1 z := by
  intro sz
  refine vx_ofW (cc := cX0_toDay) (maxL := 2) (ret := (some .int)) (by decide) rfl ?_
  intro p e s m args below meth c s₁ B hml hEx hv
  obtain ⟨rfl, rfl, hGx, hP⟩ := hv
  have hx := B.exec
  have hb := B.bytes
  have hr := B.returns
  have hts := atoms_spec (ws := wsX0_toDay) B.pre
  have hown : s.vm.findClass RX0 = some m.cls := findClass_of_methodNamed B.named
  have hlocks := B.notSynchronized
  have htg : ∀ w ∈ GL, w.before _ s = true := fun w h => hts w (List.mem_cons_of_mem _ h)
  have hC : CallFix p m c cX0_toDay 2 s _ wsX0_toDay RX0 := ⟨hx, hb, hml, hown, hts⟩
  have hS : va_S (cA a s.heap.size) s.heap s.heap [] := va_S.rf
  have hl := lv_entry ([.ref a.1, .int p0]) (n := 2) (Nat.le_of_ble_eq_true rfl)
  rw [lg_entry_eq]
  generalize (lg_sl ([.ref a.1, .int p0]) ++ List.replicate (2 - (lg_sl ([.ref a.1, .int p0])).length) Slot.unset).toArray = ls at hl ⊢
  have hl : lv_has ls 2 [(0, .ref a.1), (1, .int p0)] := hl
  have hm : m_X0_toDay p0 z = m_X0_toDay p0 z := rfl
  refine lv_aload_n hx hb dX0_toDay_0 rfl (lv_at hl 0 rfl) ?_
  refine lv_iload_n hx hb dX0_toDay_1 rfl (lv_at hl 1 rfl) ?_
  refine cc_V hC hGx hD hEx hlocks (c_X0_dateAt l hl9 k a hD p0 z) (gV w_153 w_154 w_8 w_26 w_155) kk_X0_dateAt rfl ⟨Nat.le_of_ble_eq_true rfl, Nat.le_of_ble_eq_true rfl⟩ ⟨Nat.le_of_ble_eq_true rfl, Nat.le_of_ble_eq_true rfl⟩ ⟨Nat.le_of_ble_eq_true rfl, Nat.le_of_ble_eq_true rfl⟩ hP hS hl.1 rfl rfl (Nat.le_of_ble_eq_true rfl) dX0_toDay_2 (fun h_1 => ?_) (fun h_1 H locs hP hS => ?_)
  · have hm : m_X0_toDay p0 z = ((m_X0_dateAt p0 z).1, 0) := hm.trans (if_neg h_1)
    exact ⟨by rw [hm], rfl⟩
  · have hm := hm.trans (if_pos h_1)
    refine pc_S hC (c_X0_numberOf l ((m_X0_dateAt p0 z).2)) (gS w_165 w_166 w_26 w_167) kk_X0_numberOf ⟨Nat.le_of_ble_eq_true rfl, Nat.le_of_ble_eq_true rfl⟩ ⟨Nat.le_of_ble_eq_true rfl, Nat.le_of_ble_eq_true rfl⟩ hl.1 rfl rfl (Nat.le_of_ble_eq_true rfl) dX0_toDay_5 ?_
    refine lv_l2i hx hb dX0_toDay_8 rfl ?_
    have hm : m_X0_toDay p0 z = (0, (m_X0_numberOf ((m_X0_dateAt p0 z).2)).toInt32) := hm
    exact c_iret (E := (m_X0_numberOf ((m_X0_dateAt p0 z).2)).toInt32) hx hb hr hlocks (by rw [hm]) (by rw [hm]) rfl hP hS ⟨Nat.le_of_ble_eq_true rfl, Nat.le_of_ble_eq_true rfl⟩ dX0_toDay_9
def m_X0_epoch (p0 : Int32) (z : CS) : Nat × Int32 × CS := (if (m_X0_toDay p0 z).1 = 0 then (if (m_X0_give p0 (1008673 : Int64) z).1 = 0 then (0, (m_X0_toDay p0 z).2, (m_X0_give p0 (1008673 : Int64) z).2.2) else ((m_X0_give p0 (1008673 : Int64) z).1, 0, (m_X0_give p0 (1008673 : Int64) z).2.2)) else ((m_X0_toDay p0 z).1, 0, z))
theorem kk_X0_epoch : pK yX0_epoch wsX0_epoch cX0_epoch 3 (some .int) 1 := ⟨⟨_, rfl⟩, by decide +kernel, by decide +kernel, by decide +kernel⟩
set_option maxRecDepth 100000 in
set_option maxHeartbeats 4000000 in
theorem c_X0_epoch (l : Launch) (hl9 : l.stackTraces = false) (k : Kx) (a : CA) (hD : cD k a) (p0 : Int32) (z : CS) : cM l k a yX0_epoch wsX0_epoch 9 186 3 18 [.int p0] z (some (.int (m_X0_epoch p0 z).2.1)) (m_X0_epoch p0 z).1 (m_X0_epoch p0 z).2.2 := by
  intro sz
  refine vx_ofW (cc := cX0_epoch) (maxL := 3) (ret := (some .int)) (by decide) rfl ?_
  intro p e s m args below meth c s₁ B hml hEx hv
  obtain ⟨rfl, rfl, hGx, hP⟩ := hv
  have hx := B.exec
  have hb := B.bytes
  have hr := B.returns
  have hts := atoms_spec (ws := wsX0_epoch) B.pre
  have hown : s.vm.findClass RX0 = some m.cls := findClass_of_methodNamed B.named
  have hlocks := B.notSynchronized
  have htg : ∀ w ∈ GL, w.before _ s = true := fun w h => hts w (List.mem_cons_of_mem _ h)
  have hC : CallFix p m c cX0_epoch 3 s _ wsX0_epoch RX0 := ⟨hx, hb, hml, hown, hts⟩
  have hS : va_S (cA a s.heap.size) s.heap s.heap [] := va_S.rf
  have hl := lv_entry ([.ref a.1, .int p0]) (n := 3) (Nat.le_of_ble_eq_true rfl)
  rw [lg_entry_eq]
  generalize (lg_sl ([.ref a.1, .int p0]) ++ List.replicate (3 - (lg_sl ([.ref a.1, .int p0])).length) Slot.unset).toArray = ls at hl ⊢
  have hl : lv_has ls 3 [(0, .ref a.1), (1, .int p0)] := hl
  have hm : m_X0_epoch p0 z = m_X0_epoch p0 z := rfl
  refine lv_aload_n hx hb dX0_epoch_0 rfl (lv_at hl 0 rfl) ?_
  refine lv_iload_n hx hb dX0_epoch_1 rfl (lv_at hl 1 rfl) ?_
  refine cc_V hC hGx hD hEx hlocks (c_X0_toDay l hl9 k a hD p0 z) (gV w_242 w_243 w_244 w_26 w_245) kk_X0_toDay rfl ⟨Nat.le_of_ble_eq_true rfl, Nat.le_of_ble_eq_true rfl⟩ ⟨Nat.le_of_ble_eq_true rfl, Nat.le_of_ble_eq_true rfl⟩ ⟨Nat.le_of_ble_eq_true rfl, Nat.le_of_ble_eq_true rfl⟩ hP hS hl.1 rfl rfl (Nat.le_of_ble_eq_true rfl) dX0_epoch_2 (fun h_1 => ?_) (fun h_1 H locs hP hS => ?_)
  · have hm : m_X0_epoch p0 z = ((m_X0_toDay p0 z).1, 0, z) := hm.trans (if_neg h_1)
    exact ⟨by rw [hm], by rw [hm]⟩
  · have hm := hm.trans (if_pos h_1)
    refine lv_istore_n (lv' := [(2, .int ((m_X0_toDay p0 z).2)), (0, .ref a.1), (1, .int p0)]) hx hb dX0_epoch_5 rfl hl (by decide) rfl (fun ls hl => ?_)
    refine lv_aload_n hx hb dX0_epoch_6 rfl (lv_at hl 1 rfl) ?_
    refine lv_iload_n hx hb dX0_epoch_7 rfl (lv_at hl 2 rfl) ?_
    refine lv_ldc2 hx hb hown (htg _ w_56) dX0_epoch_8 ?_
    refine cc_V hC hGx hD hEx hlocks (c_X0_give l hl9 k a hD p0 (1008673 : Int64) z) (gV w_649 w_650 w_12 w_26 w_651) kk_X0_give rfl ⟨Nat.le_of_ble_eq_true rfl, Nat.le_of_ble_eq_true rfl⟩ ⟨Nat.le_of_ble_eq_true rfl, Nat.le_of_ble_eq_true rfl⟩ ⟨Nat.le_of_ble_eq_true rfl, Nat.le_of_ble_eq_true rfl⟩ hP hS hl.1 rfl rfl (Nat.le_of_ble_eq_true rfl) dX0_epoch_11 (fun h_2 => ?_) (fun h_2 H locs hP hS => ?_)
    · have hm : m_X0_epoch p0 z = ((m_X0_give p0 (1008673 : Int64) z).1, 0, (m_X0_give p0 (1008673 : Int64) z).2.2) := hm.trans (if_neg h_2)
      exact ⟨by rw [hm], by rw [hm]⟩
    · have hm := hm.trans (if_pos h_2)
      refine lv_pop hx hb dX0_epoch_14 rfl ?_
      refine lv_iload_n hx hb dX0_epoch_15 rfl (lv_at hl 0 rfl) ?_
      have hm : m_X0_epoch p0 z = (0, (m_X0_toDay p0 z).2, (m_X0_give p0 (1008673 : Int64) z).2.2) := hm
      exact c_iret (E := (m_X0_toDay p0 z).2) hx hb hr hlocks (by rw [hm]) (by rw [hm]) (by rw [hm]) hP hS ⟨Nat.le_of_ble_eq_true rfl, Nat.le_of_ble_eq_true rfl⟩ dX0_epoch_16
def m_X0_swap (p0 : Int32) (p1 : Int32) (z : CS) : Nat × Int32 × CS := (if (m_X0_dateAt p0 z).1 = 0 then (if (m_X0_dateAt p1 z).1 = 0 then (if (m_X0_put p1 ((m_X0_dateAt p0 z).2) z).1 = 0 then (if (m_X0_give p0 ((m_X0_dateAt p1 z).2) ((m_X0_put p1 ((m_X0_dateAt p0 z).2) z).2)).1 = 0 then (0, (m_X0_give p0 ((m_X0_dateAt p1 z).2) ((m_X0_put p1 ((m_X0_dateAt p0 z).2) z).2)).2.1, (m_X0_give p0 ((m_X0_dateAt p1 z).2) ((m_X0_put p1 ((m_X0_dateAt p0 z).2) z).2)).2.2) else ((m_X0_give p0 ((m_X0_dateAt p1 z).2) ((m_X0_put p1 ((m_X0_dateAt p0 z).2) z).2)).1, 0, (m_X0_give p0 ((m_X0_dateAt p1 z).2) ((m_X0_put p1 ((m_X0_dateAt p0 z).2) z).2)).2.2)) else ((m_X0_put p1 ((m_X0_dateAt p0 z).2) z).1, 0, (m_X0_put p1 ((m_X0_dateAt p0 z).2) z).2)) else ((m_X0_dateAt p1 z).1, 0, z)) else ((m_X0_dateAt p0 z).1, 0, z))
theorem kk_X0_swap : pK yX0_swap wsX0_swap cX0_swap 7 (some .int) 2 := ⟨⟨_, rfl⟩, by decide +kernel, by decide +kernel, by decide +kernel⟩
set_option maxRecDepth 100000 in
set_option maxHeartbeats 4000000 in
theorem c_X0_swap (l : Launch) (hl9 : l.stackTraces = false) (k : Kx) (a : CA) (hD : cD k a) (p0 : Int32) (p1 : Int32) (z : CS) : cM l k a yX0_swap wsX0_swap 9 186 5 30 [.int p0, .int p1] z (some (.int (m_X0_swap p0 p1 z).2.1)) (m_X0_swap p0 p1 z).1 (m_X0_swap p0 p1 z).2.2 := by
  intro sz
  refine vx_ofW (cc := cX0_swap) (maxL := 7) (ret := (some .int)) (by decide) rfl ?_
  intro p e s m args below meth c s₁ B hml hEx hv
  obtain ⟨rfl, rfl, hGx, hP⟩ := hv
  have hx := B.exec
  have hb := B.bytes
  have hr := B.returns
  have hts := atoms_spec (ws := wsX0_swap) B.pre
  have hown : s.vm.findClass RX0 = some m.cls := findClass_of_methodNamed B.named
  have hlocks := B.notSynchronized
  have htg : ∀ w ∈ GL, w.before _ s = true := fun w h => hts w (List.mem_cons_of_mem _ h)
  have hC : CallFix p m c cX0_swap 7 s _ wsX0_swap RX0 := ⟨hx, hb, hml, hown, hts⟩
  have hS : va_S (cA a s.heap.size) s.heap s.heap [] := va_S.rf
  have hl := lv_entry ([.ref a.1, .int p0, .int p1]) (n := 7) (Nat.le_of_ble_eq_true rfl)
  rw [lg_entry_eq]
  generalize (lg_sl ([.ref a.1, .int p0, .int p1]) ++ List.replicate (7 - (lg_sl ([.ref a.1, .int p0, .int p1])).length) Slot.unset).toArray = ls at hl ⊢
  have hl : lv_has ls 7 [(0, .ref a.1), (1, .int p0), (2, .int p1)] := hl
  have hm : m_X0_swap p0 p1 z = m_X0_swap p0 p1 z := rfl
  refine lv_aload_n hx hb dX0_swap_0 rfl (lv_at hl 0 rfl) ?_
  refine lv_iload_n hx hb dX0_swap_1 rfl (lv_at hl 1 rfl) ?_
  refine cc_V hC hGx hD hEx hlocks (c_X0_dateAt l hl9 k a hD p0 z) (gV w_153 w_154 w_8 w_26 w_155) kk_X0_dateAt rfl ⟨Nat.le_of_ble_eq_true rfl, Nat.le_of_ble_eq_true rfl⟩ ⟨Nat.le_of_ble_eq_true rfl, Nat.le_of_ble_eq_true rfl⟩ ⟨Nat.le_of_ble_eq_true rfl, Nat.le_of_ble_eq_true rfl⟩ hP hS hl.1 rfl rfl (Nat.le_of_ble_eq_true rfl) dX0_swap_2 (fun h_1 => ?_) (fun h_1 H locs hP hS => ?_)
  · have hm : m_X0_swap p0 p1 z = ((m_X0_dateAt p0 z).1, 0, z) := hm.trans (if_neg h_1)
    exact ⟨by rw [hm], by rw [hm]⟩
  · have hm := hm.trans (if_pos h_1)
    refine lv_lstore_n (lv' := [(3, .long ((m_X0_dateAt p0 z).2)), (0, .ref a.1), (1, .int p0), (2, .int p1)]) hx hb dX0_swap_5 rfl hl (by decide) rfl (fun ls hl => ?_)
    refine lv_aload_n hx hb dX0_swap_6 rfl (lv_at hl 1 rfl) ?_
    refine lv_iload_n hx hb dX0_swap_7 rfl (lv_at hl 3 rfl) ?_
    refine cc_V hC hGx hD hEx hlocks (c_X0_dateAt l hl9 k a hD p1 z) (gV w_153 w_154 w_8 w_26 w_155) kk_X0_dateAt rfl ⟨Nat.le_of_ble_eq_true rfl, Nat.le_of_ble_eq_true rfl⟩ ⟨Nat.le_of_ble_eq_true rfl, Nat.le_of_ble_eq_true rfl⟩ ⟨Nat.le_of_ble_eq_true rfl, Nat.le_of_ble_eq_true rfl⟩ hP hS hl.1 rfl rfl (Nat.le_of_ble_eq_true rfl) dX0_swap_8 (fun h_2 => ?_) (fun h_2 H locs hP hS => ?_)
    · have hm : m_X0_swap p0 p1 z = ((m_X0_dateAt p1 z).1, 0, z) := hm.trans (if_neg h_2)
      exact ⟨by rw [hm], by rw [hm]⟩
    · have hm := hm.trans (if_pos h_2)
      refine lv_lstore (lv' := [(5, .long ((m_X0_dateAt p1 z).2)), (3, .long ((m_X0_dateAt p0 z).2)), (0, .ref a.1), (1, .int p0), (2, .int p1)]) hx hb dX0_swap_11 hl (by decide) rfl (fun ls hl => ?_)
      refine lv_aload_n hx hb dX0_swap_13 rfl (lv_at hl 2 rfl) ?_
      refine lv_iload_n hx hb dX0_swap_14 rfl (lv_at hl 4 rfl) ?_
      refine lv_lload_n hx hb dX0_swap_15 rfl (lv_at hl 1 rfl) ?_
      refine cc_V hC hGx hD hEx hlocks (c_X0_put l hl9 k a hD p1 ((m_X0_dateAt p0 z).2) z) (gV w_657 w_658 w_13 w_26 w_659) kk_X0_put rfl ⟨Nat.le_of_ble_eq_true rfl, Nat.le_of_ble_eq_true rfl⟩ ⟨Nat.le_of_ble_eq_true rfl, Nat.le_of_ble_eq_true rfl⟩ ⟨Nat.le_of_ble_eq_true rfl, Nat.le_of_ble_eq_true rfl⟩ hP hS hl.1 rfl rfl (Nat.le_of_ble_eq_true rfl) dX0_swap_16 (fun h_3 => ?_) (fun h_3 H locs hP hS => ?_)
      · have hm : m_X0_swap p0 p1 z = ((m_X0_put p1 ((m_X0_dateAt p0 z).2) z).1, 0, (m_X0_put p1 ((m_X0_dateAt p0 z).2) z).2) := hm.trans (if_neg h_3)
        exact ⟨by rw [hm], by rw [hm]⟩
      · have hm := hm.trans (if_pos h_3)
        refine lv_aload_n hx hb dX0_swap_19 rfl (lv_at hl 2 rfl) ?_
        refine lv_iload_n hx hb dX0_swap_20 rfl (lv_at hl 3 rfl) ?_
        refine lv_lload hx hb dX0_swap_21 (lv_at hl 0 rfl) ?_
        refine cc_V hC hGx hD hEx hlocks (c_X0_give l hl9 k a hD p0 ((m_X0_dateAt p1 z).2) ((m_X0_put p1 ((m_X0_dateAt p0 z).2) z).2)) (gV w_649 w_650 w_12 w_26 w_651) kk_X0_give rfl ⟨Nat.le_of_ble_eq_true rfl, Nat.le_of_ble_eq_true rfl⟩ ⟨Nat.le_of_ble_eq_true rfl, Nat.le_of_ble_eq_true rfl⟩ ⟨Nat.le_of_ble_eq_true rfl, Nat.le_of_ble_eq_true rfl⟩ hP hS hl.1 rfl rfl (Nat.le_of_ble_eq_true rfl) dX0_swap_23 (fun h_4 => ?_) (fun h_4 H locs hP hS => ?_)
        · have hm : m_X0_swap p0 p1 z = ((m_X0_give p0 ((m_X0_dateAt p1 z).2) ((m_X0_put p1 ((m_X0_dateAt p0 z).2) z).2)).1, 0, (m_X0_give p0 ((m_X0_dateAt p1 z).2) ((m_X0_put p1 ((m_X0_dateAt p0 z).2) z).2)).2.2) := hm.trans (if_neg h_4)
          exact ⟨by rw [hm], by rw [hm]⟩
        · have hm := hm.trans (if_pos h_4)
          have hm : m_X0_swap p0 p1 z = (0, (m_X0_give p0 ((m_X0_dateAt p1 z).2) ((m_X0_put p1 ((m_X0_dateAt p0 z).2) z).2)).2.1, (m_X0_give p0 ((m_X0_dateAt p1 z).2) ((m_X0_put p1 ((m_X0_dateAt p0 z).2) z).2)).2.2) := hm
          exact c_iret (E := (m_X0_give p0 ((m_X0_dateAt p1 z).2) ((m_X0_put p1 ((m_X0_dateAt p0 z).2) z).2)).2.1) hx hb hr hlocks (by rw [hm]) (by rw [hm]) (by rw [hm]) hP hS ⟨Nat.le_of_ble_eq_true rfl, Nat.le_of_ble_eq_true rfl⟩ dX0_swap_26
def m_X0_withYear (p0 : Int32) (p1 : Int32) (z : CS) : Nat × Int32 × CS := (if (m_X0_dateAt p0 z).1 = 0 then (if m_X0_requireWithin p1 (-9999 : Int32) (9999 : Int32) = 0 then (if (m_X0_give p0 (m_X0_fittedDate p1.toInt64 (m_X0_monthIn ((m_X0_dateAt p0 z).2)) (m_X0_dayIn ((m_X0_dateAt p0 z).2))) z).1 = 0 then (0, (m_X0_give p0 (m_X0_fittedDate p1.toInt64 (m_X0_monthIn ((m_X0_dateAt p0 z).2)) (m_X0_dayIn ((m_X0_dateAt p0 z).2))) z).2.1, (m_X0_give p0 (m_X0_fittedDate p1.toInt64 (m_X0_monthIn ((m_X0_dateAt p0 z).2)) (m_X0_dayIn ((m_X0_dateAt p0 z).2))) z).2.2) else ((m_X0_give p0 (m_X0_fittedDate p1.toInt64 (m_X0_monthIn ((m_X0_dateAt p0 z).2)) (m_X0_dayIn ((m_X0_dateAt p0 z).2))) z).1, 0, (m_X0_give p0 (m_X0_fittedDate p1.toInt64 (m_X0_monthIn ((m_X0_dateAt p0 z).2)) (m_X0_dayIn ((m_X0_dateAt p0 z).2))) z).2.2)) else ((m_X0_requireWithin p1 (-9999 : Int32) (9999 : Int32)), 0, z)) else ((m_X0_dateAt p0 z).1, 0, z))
theorem kk_X0_withYear : pK yX0_withYear wsX0_withYear cX0_withYear 5 (some .int) 2 := ⟨⟨_, rfl⟩, by decide +kernel, by decide +kernel, by decide +kernel⟩
set_option maxRecDepth 100000 in
set_option maxHeartbeats 4000000 in
theorem c_X0_withYear (l : Launch) (hl9 : l.stackTraces = false) (k : Kx) (a : CA) (hD : cD k a) (p0 : Int32) (p1 : Int32) (z : CS) : cM l k a yX0_withYear wsX0_withYear 9 186 4 24 [.int p0, .int p1] z (some (.int (m_X0_withYear p0 p1 z).2.1)) (m_X0_withYear p0 p1 z).1 (m_X0_withYear p0 p1 z).2.2 := by
  intro sz
  refine vx_ofW (cc := cX0_withYear) (maxL := 5) (ret := (some .int)) (by decide) rfl ?_
  intro p e s m args below meth c s₁ B hml hEx hv
  obtain ⟨rfl, rfl, hGx, hP⟩ := hv
  have hx := B.exec
  have hb := B.bytes
  have hr := B.returns
  have hts := atoms_spec (ws := wsX0_withYear) B.pre
  have hown : s.vm.findClass RX0 = some m.cls := findClass_of_methodNamed B.named
  have hlocks := B.notSynchronized
  have htg : ∀ w ∈ GL, w.before _ s = true := fun w h => hts w (List.mem_cons_of_mem _ h)
  have hC : CallFix p m c cX0_withYear 5 s _ wsX0_withYear RX0 := ⟨hx, hb, hml, hown, hts⟩
  have hS : va_S (cA a s.heap.size) s.heap s.heap [] := va_S.rf
  have hl := lv_entry ([.ref a.1, .int p0, .int p1]) (n := 5) (Nat.le_of_ble_eq_true rfl)
  rw [lg_entry_eq]
  generalize (lg_sl ([.ref a.1, .int p0, .int p1]) ++ List.replicate (5 - (lg_sl ([.ref a.1, .int p0, .int p1])).length) Slot.unset).toArray = ls at hl ⊢
  have hl : lv_has ls 5 [(0, .ref a.1), (1, .int p0), (2, .int p1)] := hl
  have hm : m_X0_withYear p0 p1 z = m_X0_withYear p0 p1 z := rfl
  refine lv_aload_n hx hb dX0_withYear_0 rfl (lv_at hl 0 rfl) ?_
  refine lv_iload_n hx hb dX0_withYear_1 rfl (lv_at hl 1 rfl) ?_
  refine cc_V hC hGx hD hEx hlocks (c_X0_dateAt l hl9 k a hD p0 z) (gV w_153 w_154 w_8 w_26 w_155) kk_X0_dateAt rfl ⟨Nat.le_of_ble_eq_true rfl, Nat.le_of_ble_eq_true rfl⟩ ⟨Nat.le_of_ble_eq_true rfl, Nat.le_of_ble_eq_true rfl⟩ ⟨Nat.le_of_ble_eq_true rfl, Nat.le_of_ble_eq_true rfl⟩ hP hS hl.1 rfl rfl (Nat.le_of_ble_eq_true rfl) dX0_withYear_2 (fun h_1 => ?_) (fun h_1 H locs hP hS => ?_)
  · have hm : m_X0_withYear p0 p1 z = ((m_X0_dateAt p0 z).1, 0, z) := hm.trans (if_neg h_1)
    exact ⟨by rw [hm], by rw [hm]⟩
  · have hm := hm.trans (if_pos h_1)
    refine lv_lstore_n (lv' := [(3, .long ((m_X0_dateAt p0 z).2)), (0, .ref a.1), (1, .int p0), (2, .int p1)]) hx hb dX0_withYear_5 rfl hl (by decide) rfl (fun ls hl => ?_)
    refine lv_iload_n hx hb dX0_withYear_6 rfl (lv_at hl 3 rfl) ?_
    refine lv_sipush (v := (-9999)) hx hb dX0_withYear_7 (by decide) ?_
    refine lv_sipush (v := 9999) hx hb dX0_withYear_10 (by decide) ?_
    refine ct_S hC hGx hD hEx hlocks (t_X0_requireWithin l hl9 k p1 (-9999 : Int32) (9999 : Int32)) (gS w_295 w_296 w_26 w_297) kk_X0_requireWithin ⟨Nat.le_of_ble_eq_true rfl, Nat.le_of_ble_eq_true rfl⟩ ⟨Nat.le_of_ble_eq_true rfl, Nat.le_of_ble_eq_true rfl⟩ ⟨Nat.le_of_ble_eq_true rfl, Nat.le_of_ble_eq_true rfl⟩ hP hS hl.1 rfl rfl (Nat.le_of_ble_eq_true rfl) dX0_withYear_13 (fun h_2 => by have hm : m_X0_withYear p0 p1 z = ((m_X0_requireWithin p1 (-9999 : Int32) (9999 : Int32)), 0, z) := hm.trans (if_neg h_2); exact ⟨by rw [hm], by rw [hm]⟩) (fun h_2 => ?_)
    have hm := hm.trans (if_pos h_2)
    refine lv_aload_n hx hb dX0_withYear_16 rfl (lv_at hl 1 rfl) ?_
    refine lv_iload_n hx hb dX0_withYear_17 rfl (lv_at hl 2 rfl) ?_
    refine lv_iload_n hx hb dX0_withYear_18 rfl (lv_at hl 3 rfl) ?_
    refine lv_i2l hx hb dX0_withYear_19 rfl ?_
    refine lv_lload_n hx hb dX0_withYear_20 rfl (lv_at hl 0 rfl) ?_
    refine pc_S hC (c_X0_monthIn l ((m_X0_dateAt p0 z).2)) (gS w_192 w_193 w_26 w_194) kk_X0_monthIn ⟨Nat.le_of_ble_eq_true rfl, Nat.le_of_ble_eq_true rfl⟩ ⟨Nat.le_of_ble_eq_true rfl, Nat.le_of_ble_eq_true rfl⟩ hl.1 rfl rfl (Nat.le_of_ble_eq_true rfl) dX0_withYear_21 ?_
    refine lv_lload_n hx hb dX0_withYear_24 rfl (lv_at hl 0 rfl) ?_
    refine pc_S hC (c_X0_dayIn l ((m_X0_dateAt p0 z).2)) (gS w_189 w_190 w_26 w_191) kk_X0_dayIn ⟨Nat.le_of_ble_eq_true rfl, Nat.le_of_ble_eq_true rfl⟩ ⟨Nat.le_of_ble_eq_true rfl, Nat.le_of_ble_eq_true rfl⟩ hl.1 rfl rfl (Nat.le_of_ble_eq_true rfl) dX0_withYear_25 ?_
    refine pc_S hC (c_X0_fittedDate l p1.toInt64 (m_X0_monthIn ((m_X0_dateAt p0 z).2)) (m_X0_dayIn ((m_X0_dateAt p0 z).2))) (gS w_211 w_212 w_26 w_213) kk_X0_fittedDate ⟨Nat.le_of_ble_eq_true rfl, Nat.le_of_ble_eq_true rfl⟩ ⟨Nat.le_of_ble_eq_true rfl, Nat.le_of_ble_eq_true rfl⟩ hl.1 rfl rfl (Nat.le_of_ble_eq_true rfl) dX0_withYear_28 ?_
    refine cc_V hC hGx hD hEx hlocks (c_X0_give l hl9 k a hD p0 (m_X0_fittedDate p1.toInt64 (m_X0_monthIn ((m_X0_dateAt p0 z).2)) (m_X0_dayIn ((m_X0_dateAt p0 z).2))) z) (gV w_649 w_650 w_12 w_26 w_651) kk_X0_give rfl ⟨Nat.le_of_ble_eq_true rfl, Nat.le_of_ble_eq_true rfl⟩ ⟨Nat.le_of_ble_eq_true rfl, Nat.le_of_ble_eq_true rfl⟩ ⟨Nat.le_of_ble_eq_true rfl, Nat.le_of_ble_eq_true rfl⟩ hP hS hl.1 rfl rfl (Nat.le_of_ble_eq_true rfl) dX0_withYear_31 (fun h_3 => ?_) (fun h_3 H locs hP hS => ?_)
    · have hm : m_X0_withYear p0 p1 z = ((m_X0_give p0 (m_X0_fittedDate p1.toInt64 (m_X0_monthIn ((m_X0_dateAt p0 z).2)) (m_X0_dayIn ((m_X0_dateAt p0 z).2))) z).1, 0, (m_X0_give p0 (m_X0_fittedDate p1.toInt64 (m_X0_monthIn ((m_X0_dateAt p0 z).2)) (m_X0_dayIn ((m_X0_dateAt p0 z).2))) z).2.2) := hm.trans (if_neg h_3)
      exact ⟨by rw [hm], by rw [hm]⟩
    · have hm := hm.trans (if_pos h_3)
      have hm : m_X0_withYear p0 p1 z = (0, (m_X0_give p0 (m_X0_fittedDate p1.toInt64 (m_X0_monthIn ((m_X0_dateAt p0 z).2)) (m_X0_dayIn ((m_X0_dateAt p0 z).2))) z).2.1, (m_X0_give p0 (m_X0_fittedDate p1.toInt64 (m_X0_monthIn ((m_X0_dateAt p0 z).2)) (m_X0_dayIn ((m_X0_dateAt p0 z).2))) z).2.2) := hm
      exact c_iret (E := (m_X0_give p0 (m_X0_fittedDate p1.toInt64 (m_X0_monthIn ((m_X0_dateAt p0 z).2)) (m_X0_dayIn ((m_X0_dateAt p0 z).2))) z).2.1) hx hb hr hlocks (by rw [hm]) (by rw [hm]) (by rw [hm]) hP hS ⟨Nat.le_of_ble_eq_true rfl, Nat.le_of_ble_eq_true rfl⟩ dX0_withYear_34
def m_X0_withMonth (p0 : Int32) (p1 : Int32) (z : CS) : Nat × Int32 × CS := (if (m_X0_dateAt p0 z).1 = 0 then (if m_X0_requireWithin p1 (1 : Int32) (12 : Int32) = 0 then (if (m_X0_give p0 (m_X0_fittedDate (m_X0_yearIn ((m_X0_dateAt p0 z).2)) p1 (m_X0_dayIn ((m_X0_dateAt p0 z).2))) z).1 = 0 then (0, (m_X0_give p0 (m_X0_fittedDate (m_X0_yearIn ((m_X0_dateAt p0 z).2)) p1 (m_X0_dayIn ((m_X0_dateAt p0 z).2))) z).2.1, (m_X0_give p0 (m_X0_fittedDate (m_X0_yearIn ((m_X0_dateAt p0 z).2)) p1 (m_X0_dayIn ((m_X0_dateAt p0 z).2))) z).2.2) else ((m_X0_give p0 (m_X0_fittedDate (m_X0_yearIn ((m_X0_dateAt p0 z).2)) p1 (m_X0_dayIn ((m_X0_dateAt p0 z).2))) z).1, 0, (m_X0_give p0 (m_X0_fittedDate (m_X0_yearIn ((m_X0_dateAt p0 z).2)) p1 (m_X0_dayIn ((m_X0_dateAt p0 z).2))) z).2.2)) else ((m_X0_requireWithin p1 (1 : Int32) (12 : Int32)), 0, z)) else ((m_X0_dateAt p0 z).1, 0, z))
theorem kk_X0_withMonth : pK yX0_withMonth wsX0_withMonth cX0_withMonth 5 (some .int) 2 := ⟨⟨_, rfl⟩, by decide +kernel, by decide +kernel, by decide +kernel⟩
set_option maxRecDepth 100000 in
set_option maxHeartbeats 4000000 in
theorem c_X0_withMonth (l : Launch) (hl9 : l.stackTraces = false) (k : Kx) (a : CA) (hD : cD k a) (p0 : Int32) (p1 : Int32) (z : CS) : cM l k a yX0_withMonth wsX0_withMonth 9 186 4 24 [.int p0, .int p1] z (some (.int (m_X0_withMonth p0 p1 z).2.1)) (m_X0_withMonth p0 p1 z).1 (m_X0_withMonth p0 p1 z).2.2 := by
  intro sz
  refine vx_ofW (cc := cX0_withMonth) (maxL := 5) (ret := (some .int)) (by decide) rfl ?_
  intro p e s m args below meth c s₁ B hml hEx hv
  obtain ⟨rfl, rfl, hGx, hP⟩ := hv
  have hx := B.exec
  have hb := B.bytes
  have hr := B.returns
  have hts := atoms_spec (ws := wsX0_withMonth) B.pre
  have hown : s.vm.findClass RX0 = some m.cls := findClass_of_methodNamed B.named
  have hlocks := B.notSynchronized
  have htg : ∀ w ∈ GL, w.before _ s = true := fun w h => hts w (List.mem_cons_of_mem _ h)
  have hC : CallFix p m c cX0_withMonth 5 s _ wsX0_withMonth RX0 := ⟨hx, hb, hml, hown, hts⟩
  have hS : va_S (cA a s.heap.size) s.heap s.heap [] := va_S.rf
  have hl := lv_entry ([.ref a.1, .int p0, .int p1]) (n := 5) (Nat.le_of_ble_eq_true rfl)
  rw [lg_entry_eq]
  generalize (lg_sl ([.ref a.1, .int p0, .int p1]) ++ List.replicate (5 - (lg_sl ([.ref a.1, .int p0, .int p1])).length) Slot.unset).toArray = ls at hl ⊢
  have hl : lv_has ls 5 [(0, .ref a.1), (1, .int p0), (2, .int p1)] := hl
  have hm : m_X0_withMonth p0 p1 z = m_X0_withMonth p0 p1 z := rfl
  refine lv_aload_n hx hb dX0_withMonth_0 rfl (lv_at hl 0 rfl) ?_
  refine lv_iload_n hx hb dX0_withMonth_1 rfl (lv_at hl 1 rfl) ?_
  refine cc_V hC hGx hD hEx hlocks (c_X0_dateAt l hl9 k a hD p0 z) (gV w_153 w_154 w_8 w_26 w_155) kk_X0_dateAt rfl ⟨Nat.le_of_ble_eq_true rfl, Nat.le_of_ble_eq_true rfl⟩ ⟨Nat.le_of_ble_eq_true rfl, Nat.le_of_ble_eq_true rfl⟩ ⟨Nat.le_of_ble_eq_true rfl, Nat.le_of_ble_eq_true rfl⟩ hP hS hl.1 rfl rfl (Nat.le_of_ble_eq_true rfl) dX0_withMonth_2 (fun h_1 => ?_) (fun h_1 H locs hP hS => ?_)
  · have hm : m_X0_withMonth p0 p1 z = ((m_X0_dateAt p0 z).1, 0, z) := hm.trans (if_neg h_1)
    exact ⟨by rw [hm], by rw [hm]⟩
  · have hm := hm.trans (if_pos h_1)
    refine lv_lstore_n (lv' := [(3, .long ((m_X0_dateAt p0 z).2)), (0, .ref a.1), (1, .int p0), (2, .int p1)]) hx hb dX0_withMonth_5 rfl hl (by decide) rfl (fun ls hl => ?_)
    refine lv_iload_n hx hb dX0_withMonth_6 rfl (lv_at hl 3 rfl) ?_
    refine lv_iconst (v := 1) hx hb dX0_withMonth_7 (by decide) ?_
    refine lv_bipush (v := 12) hx hb dX0_withMonth_8 (by decide) ?_
    refine ct_S hC hGx hD hEx hlocks (t_X0_requireWithin l hl9 k p1 (1 : Int32) (12 : Int32)) (gS w_295 w_296 w_26 w_297) kk_X0_requireWithin ⟨Nat.le_of_ble_eq_true rfl, Nat.le_of_ble_eq_true rfl⟩ ⟨Nat.le_of_ble_eq_true rfl, Nat.le_of_ble_eq_true rfl⟩ ⟨Nat.le_of_ble_eq_true rfl, Nat.le_of_ble_eq_true rfl⟩ hP hS hl.1 rfl rfl (Nat.le_of_ble_eq_true rfl) dX0_withMonth_10 (fun h_2 => by have hm : m_X0_withMonth p0 p1 z = ((m_X0_requireWithin p1 (1 : Int32) (12 : Int32)), 0, z) := hm.trans (if_neg h_2); exact ⟨by rw [hm], by rw [hm]⟩) (fun h_2 => ?_)
    have hm := hm.trans (if_pos h_2)
    refine lv_aload_n hx hb dX0_withMonth_13 rfl (lv_at hl 1 rfl) ?_
    refine lv_iload_n hx hb dX0_withMonth_14 rfl (lv_at hl 2 rfl) ?_
    refine lv_lload_n hx hb dX0_withMonth_15 rfl (lv_at hl 0 rfl) ?_
    refine pc_S hC (c_X0_yearIn l ((m_X0_dateAt p0 z).2)) (gS w_168 w_169 w_26 w_170) kk_X0_yearIn ⟨Nat.le_of_ble_eq_true rfl, Nat.le_of_ble_eq_true rfl⟩ ⟨Nat.le_of_ble_eq_true rfl, Nat.le_of_ble_eq_true rfl⟩ hl.1 rfl rfl (Nat.le_of_ble_eq_true rfl) dX0_withMonth_16 ?_
    refine lv_iload_n hx hb dX0_withMonth_19 rfl (lv_at hl 3 rfl) ?_
    refine lv_lload_n hx hb dX0_withMonth_20 rfl (lv_at hl 0 rfl) ?_
    refine pc_S hC (c_X0_dayIn l ((m_X0_dateAt p0 z).2)) (gS w_189 w_190 w_26 w_191) kk_X0_dayIn ⟨Nat.le_of_ble_eq_true rfl, Nat.le_of_ble_eq_true rfl⟩ ⟨Nat.le_of_ble_eq_true rfl, Nat.le_of_ble_eq_true rfl⟩ hl.1 rfl rfl (Nat.le_of_ble_eq_true rfl) dX0_withMonth_21 ?_
    refine pc_S hC (c_X0_fittedDate l (m_X0_yearIn ((m_X0_dateAt p0 z).2)) p1 (m_X0_dayIn ((m_X0_dateAt p0 z).2))) (gS w_211 w_212 w_26 w_213) kk_X0_fittedDate ⟨Nat.le_of_ble_eq_true rfl, Nat.le_of_ble_eq_true rfl⟩ ⟨Nat.le_of_ble_eq_true rfl, Nat.le_of_ble_eq_true rfl⟩ hl.1 rfl rfl (Nat.le_of_ble_eq_true rfl) dX0_withMonth_24 ?_
    refine cc_V hC hGx hD hEx hlocks (c_X0_give l hl9 k a hD p0 (m_X0_fittedDate (m_X0_yearIn ((m_X0_dateAt p0 z).2)) p1 (m_X0_dayIn ((m_X0_dateAt p0 z).2))) z) (gV w_649 w_650 w_12 w_26 w_651) kk_X0_give rfl ⟨Nat.le_of_ble_eq_true rfl, Nat.le_of_ble_eq_true rfl⟩ ⟨Nat.le_of_ble_eq_true rfl, Nat.le_of_ble_eq_true rfl⟩ ⟨Nat.le_of_ble_eq_true rfl, Nat.le_of_ble_eq_true rfl⟩ hP hS hl.1 rfl rfl (Nat.le_of_ble_eq_true rfl) dX0_withMonth_27 (fun h_3 => ?_) (fun h_3 H locs hP hS => ?_)
    · have hm : m_X0_withMonth p0 p1 z = ((m_X0_give p0 (m_X0_fittedDate (m_X0_yearIn ((m_X0_dateAt p0 z).2)) p1 (m_X0_dayIn ((m_X0_dateAt p0 z).2))) z).1, 0, (m_X0_give p0 (m_X0_fittedDate (m_X0_yearIn ((m_X0_dateAt p0 z).2)) p1 (m_X0_dayIn ((m_X0_dateAt p0 z).2))) z).2.2) := hm.trans (if_neg h_3)
      exact ⟨by rw [hm], by rw [hm]⟩
    · have hm := hm.trans (if_pos h_3)
      have hm : m_X0_withMonth p0 p1 z = (0, (m_X0_give p0 (m_X0_fittedDate (m_X0_yearIn ((m_X0_dateAt p0 z).2)) p1 (m_X0_dayIn ((m_X0_dateAt p0 z).2))) z).2.1, (m_X0_give p0 (m_X0_fittedDate (m_X0_yearIn ((m_X0_dateAt p0 z).2)) p1 (m_X0_dayIn ((m_X0_dateAt p0 z).2))) z).2.2) := hm
      exact c_iret (E := (m_X0_give p0 (m_X0_fittedDate (m_X0_yearIn ((m_X0_dateAt p0 z).2)) p1 (m_X0_dayIn ((m_X0_dateAt p0 z).2))) z).2.1) hx hb hr hlocks (by rw [hm]) (by rw [hm]) (by rw [hm]) hP hS ⟨Nat.le_of_ble_eq_true rfl, Nat.le_of_ble_eq_true rfl⟩ dX0_withMonth_30
def m_X0_withDay (p0 : Int32) (p1 : Int32) (z : CS) : Nat × Int32 × CS := (if (m_X0_dateAt p0 z).1 = 0 then (if m_X0_requireWithin p1 (1 : Int32) (31 : Int32) = 0 then (if m_X0_requireDayOfMonth (m_X0_yearIn ((m_X0_dateAt p0 z).2)) (m_X0_monthIn ((m_X0_dateAt p0 z).2)) p1 = 0 then (if (m_X0_give p0 (m_X0_dateOf (m_X0_yearIn ((m_X0_dateAt p0 z).2)) (m_X0_monthIn ((m_X0_dateAt p0 z).2)) p1) z).1 = 0 then (0, (m_X0_give p0 (m_X0_dateOf (m_X0_yearIn ((m_X0_dateAt p0 z).2)) (m_X0_monthIn ((m_X0_dateAt p0 z).2)) p1) z).2.1, (m_X0_give p0 (m_X0_dateOf (m_X0_yearIn ((m_X0_dateAt p0 z).2)) (m_X0_monthIn ((m_X0_dateAt p0 z).2)) p1) z).2.2) else ((m_X0_give p0 (m_X0_dateOf (m_X0_yearIn ((m_X0_dateAt p0 z).2)) (m_X0_monthIn ((m_X0_dateAt p0 z).2)) p1) z).1, 0, (m_X0_give p0 (m_X0_dateOf (m_X0_yearIn ((m_X0_dateAt p0 z).2)) (m_X0_monthIn ((m_X0_dateAt p0 z).2)) p1) z).2.2)) else ((m_X0_requireDayOfMonth (m_X0_yearIn ((m_X0_dateAt p0 z).2)) (m_X0_monthIn ((m_X0_dateAt p0 z).2)) p1), 0, z)) else ((m_X0_requireWithin p1 (1 : Int32) (31 : Int32)), 0, z)) else ((m_X0_dateAt p0 z).1, 0, z))
theorem kk_X0_withDay : pK yX0_withDay wsX0_withDay cX0_withDay 5 (some .int) 2 := ⟨⟨_, rfl⟩, by decide +kernel, by decide +kernel, by decide +kernel⟩
set_option maxRecDepth 100000 in
set_option maxHeartbeats 4000000 in
theorem c_X0_withDay (l : Launch) (hl9 : l.stackTraces = false) (k : Kx) (a : CA) (hD : cD k a) (p0 : Int32) (p1 : Int32) (z : CS) : cM l k a yX0_withDay wsX0_withDay 9 186 5 30 [.int p0, .int p1] z (some (.int (m_X0_withDay p0 p1 z).2.1)) (m_X0_withDay p0 p1 z).1 (m_X0_withDay p0 p1 z).2.2 := by
  intro sz
  refine vx_ofW (cc := cX0_withDay) (maxL := 5) (ret := (some .int)) (by decide) rfl ?_
  intro p e s m args below meth c s₁ B hml hEx hv
  obtain ⟨rfl, rfl, hGx, hP⟩ := hv
  have hx := B.exec
  have hb := B.bytes
  have hr := B.returns
  have hts := atoms_spec (ws := wsX0_withDay) B.pre
  have hown : s.vm.findClass RX0 = some m.cls := findClass_of_methodNamed B.named
  have hlocks := B.notSynchronized
  have htg : ∀ w ∈ GL, w.before _ s = true := fun w h => hts w (List.mem_cons_of_mem _ h)
  have hC : CallFix p m c cX0_withDay 5 s _ wsX0_withDay RX0 := ⟨hx, hb, hml, hown, hts⟩
  have hS : va_S (cA a s.heap.size) s.heap s.heap [] := va_S.rf
  have hl := lv_entry ([.ref a.1, .int p0, .int p1]) (n := 5) (Nat.le_of_ble_eq_true rfl)
  rw [lg_entry_eq]
  generalize (lg_sl ([.ref a.1, .int p0, .int p1]) ++ List.replicate (5 - (lg_sl ([.ref a.1, .int p0, .int p1])).length) Slot.unset).toArray = ls at hl ⊢
  have hl : lv_has ls 5 [(0, .ref a.1), (1, .int p0), (2, .int p1)] := hl
  have hm : m_X0_withDay p0 p1 z = m_X0_withDay p0 p1 z := rfl
  refine lv_aload_n hx hb dX0_withDay_0 rfl (lv_at hl 0 rfl) ?_
  refine lv_iload_n hx hb dX0_withDay_1 rfl (lv_at hl 1 rfl) ?_
  refine cc_V hC hGx hD hEx hlocks (c_X0_dateAt l hl9 k a hD p0 z) (gV w_153 w_154 w_8 w_26 w_155) kk_X0_dateAt rfl ⟨Nat.le_of_ble_eq_true rfl, Nat.le_of_ble_eq_true rfl⟩ ⟨Nat.le_of_ble_eq_true rfl, Nat.le_of_ble_eq_true rfl⟩ ⟨Nat.le_of_ble_eq_true rfl, Nat.le_of_ble_eq_true rfl⟩ hP hS hl.1 rfl rfl (Nat.le_of_ble_eq_true rfl) dX0_withDay_2 (fun h_1 => ?_) (fun h_1 H locs hP hS => ?_)
  · have hm : m_X0_withDay p0 p1 z = ((m_X0_dateAt p0 z).1, 0, z) := hm.trans (if_neg h_1)
    exact ⟨by rw [hm], by rw [hm]⟩
  · have hm := hm.trans (if_pos h_1)
    refine lv_lstore_n (lv' := [(3, .long ((m_X0_dateAt p0 z).2)), (0, .ref a.1), (1, .int p0), (2, .int p1)]) hx hb dX0_withDay_5 rfl hl (by decide) rfl (fun ls hl => ?_)
    refine lv_iload_n hx hb dX0_withDay_6 rfl (lv_at hl 3 rfl) ?_
    refine lv_iconst (v := 1) hx hb dX0_withDay_7 (by decide) ?_
    refine lv_bipush (v := 31) hx hb dX0_withDay_8 (by decide) ?_
    refine ct_S hC hGx hD hEx hlocks (t_X0_requireWithin l hl9 k p1 (1 : Int32) (31 : Int32)) (gS w_295 w_296 w_26 w_297) kk_X0_requireWithin ⟨Nat.le_of_ble_eq_true rfl, Nat.le_of_ble_eq_true rfl⟩ ⟨Nat.le_of_ble_eq_true rfl, Nat.le_of_ble_eq_true rfl⟩ ⟨Nat.le_of_ble_eq_true rfl, Nat.le_of_ble_eq_true rfl⟩ hP hS hl.1 rfl rfl (Nat.le_of_ble_eq_true rfl) dX0_withDay_10 (fun h_2 => by have hm : m_X0_withDay p0 p1 z = ((m_X0_requireWithin p1 (1 : Int32) (31 : Int32)), 0, z) := hm.trans (if_neg h_2); exact ⟨by rw [hm], by rw [hm]⟩) (fun h_2 => ?_)
    have hm := hm.trans (if_pos h_2)
    refine lv_lload_n hx hb dX0_withDay_13 rfl (lv_at hl 0 rfl) ?_
    refine pc_S hC (c_X0_yearIn l ((m_X0_dateAt p0 z).2)) (gS w_168 w_169 w_26 w_170) kk_X0_yearIn ⟨Nat.le_of_ble_eq_true rfl, Nat.le_of_ble_eq_true rfl⟩ ⟨Nat.le_of_ble_eq_true rfl, Nat.le_of_ble_eq_true rfl⟩ hl.1 rfl rfl (Nat.le_of_ble_eq_true rfl) dX0_withDay_14 ?_
    refine lv_lload_n hx hb dX0_withDay_17 rfl (lv_at hl 0 rfl) ?_
    refine pc_S hC (c_X0_monthIn l ((m_X0_dateAt p0 z).2)) (gS w_192 w_193 w_26 w_194) kk_X0_monthIn ⟨Nat.le_of_ble_eq_true rfl, Nat.le_of_ble_eq_true rfl⟩ ⟨Nat.le_of_ble_eq_true rfl, Nat.le_of_ble_eq_true rfl⟩ hl.1 rfl rfl (Nat.le_of_ble_eq_true rfl) dX0_withDay_18 ?_
    refine lv_iload_n hx hb dX0_withDay_21 rfl (lv_at hl 3 rfl) ?_
    refine ct_S hC hGx hD hEx hlocks (t_X0_requireDayOfMonth l hl9 k (m_X0_yearIn ((m_X0_dateAt p0 z).2)) (m_X0_monthIn ((m_X0_dateAt p0 z).2)) p1) (gS w_632 w_633 w_26 w_634) kk_X0_requireDayOfMonth ⟨Nat.le_of_ble_eq_true rfl, Nat.le_of_ble_eq_true rfl⟩ ⟨Nat.le_of_ble_eq_true rfl, Nat.le_of_ble_eq_true rfl⟩ ⟨Nat.le_of_ble_eq_true rfl, Nat.le_of_ble_eq_true rfl⟩ hP hS hl.1 rfl rfl (Nat.le_of_ble_eq_true rfl) dX0_withDay_22 (fun h_3 => by have hm : m_X0_withDay p0 p1 z = ((m_X0_requireDayOfMonth (m_X0_yearIn ((m_X0_dateAt p0 z).2)) (m_X0_monthIn ((m_X0_dateAt p0 z).2)) p1), 0, z) := hm.trans (if_neg h_3); exact ⟨by rw [hm], by rw [hm]⟩) (fun h_3 => ?_)
    have hm := hm.trans (if_pos h_3)
    refine lv_aload_n hx hb dX0_withDay_25 rfl (lv_at hl 1 rfl) ?_
    refine lv_iload_n hx hb dX0_withDay_26 rfl (lv_at hl 2 rfl) ?_
    refine lv_lload_n hx hb dX0_withDay_27 rfl (lv_at hl 0 rfl) ?_
    refine pc_S hC (c_X0_yearIn l ((m_X0_dateAt p0 z).2)) (gS w_168 w_169 w_26 w_170) kk_X0_yearIn ⟨Nat.le_of_ble_eq_true rfl, Nat.le_of_ble_eq_true rfl⟩ ⟨Nat.le_of_ble_eq_true rfl, Nat.le_of_ble_eq_true rfl⟩ hl.1 rfl rfl (Nat.le_of_ble_eq_true rfl) dX0_withDay_28 ?_
    refine lv_lload_n hx hb dX0_withDay_31 rfl (lv_at hl 0 rfl) ?_
    refine pc_S hC (c_X0_monthIn l ((m_X0_dateAt p0 z).2)) (gS w_192 w_193 w_26 w_194) kk_X0_monthIn ⟨Nat.le_of_ble_eq_true rfl, Nat.le_of_ble_eq_true rfl⟩ ⟨Nat.le_of_ble_eq_true rfl, Nat.le_of_ble_eq_true rfl⟩ hl.1 rfl rfl (Nat.le_of_ble_eq_true rfl) dX0_withDay_32 ?_
    refine lv_iload_n hx hb dX0_withDay_35 rfl (lv_at hl 3 rfl) ?_
    refine pc_S hC (c_X0_dateOf l (m_X0_yearIn ((m_X0_dateAt p0 z).2)) (m_X0_monthIn ((m_X0_dateAt p0 z).2)) p1) (gS w_208 w_209 w_26 w_210) kk_X0_dateOf ⟨Nat.le_of_ble_eq_true rfl, Nat.le_of_ble_eq_true rfl⟩ ⟨Nat.le_of_ble_eq_true rfl, Nat.le_of_ble_eq_true rfl⟩ hl.1 rfl rfl (Nat.le_of_ble_eq_true rfl) dX0_withDay_36 ?_
    refine cc_V hC hGx hD hEx hlocks (c_X0_give l hl9 k a hD p0 (m_X0_dateOf (m_X0_yearIn ((m_X0_dateAt p0 z).2)) (m_X0_monthIn ((m_X0_dateAt p0 z).2)) p1) z) (gV w_649 w_650 w_12 w_26 w_651) kk_X0_give rfl ⟨Nat.le_of_ble_eq_true rfl, Nat.le_of_ble_eq_true rfl⟩ ⟨Nat.le_of_ble_eq_true rfl, Nat.le_of_ble_eq_true rfl⟩ ⟨Nat.le_of_ble_eq_true rfl, Nat.le_of_ble_eq_true rfl⟩ hP hS hl.1 rfl rfl (Nat.le_of_ble_eq_true rfl) dX0_withDay_39 (fun h_4 => ?_) (fun h_4 H locs hP hS => ?_)
    · have hm : m_X0_withDay p0 p1 z = ((m_X0_give p0 (m_X0_dateOf (m_X0_yearIn ((m_X0_dateAt p0 z).2)) (m_X0_monthIn ((m_X0_dateAt p0 z).2)) p1) z).1, 0, (m_X0_give p0 (m_X0_dateOf (m_X0_yearIn ((m_X0_dateAt p0 z).2)) (m_X0_monthIn ((m_X0_dateAt p0 z).2)) p1) z).2.2) := hm.trans (if_neg h_4)
      exact ⟨by rw [hm], by rw [hm]⟩
    · have hm := hm.trans (if_pos h_4)
      have hm : m_X0_withDay p0 p1 z = (0, (m_X0_give p0 (m_X0_dateOf (m_X0_yearIn ((m_X0_dateAt p0 z).2)) (m_X0_monthIn ((m_X0_dateAt p0 z).2)) p1) z).2.1, (m_X0_give p0 (m_X0_dateOf (m_X0_yearIn ((m_X0_dateAt p0 z).2)) (m_X0_monthIn ((m_X0_dateAt p0 z).2)) p1) z).2.2) := hm
      exact c_iret (E := (m_X0_give p0 (m_X0_dateOf (m_X0_yearIn ((m_X0_dateAt p0 z).2)) (m_X0_monthIn ((m_X0_dateAt p0 z).2)) p1) z).2.1) hx hb hr hlocks (by rw [hm]) (by rw [hm]) (by rw [hm]) hP hS ⟨Nat.le_of_ble_eq_true rfl, Nat.le_of_ble_eq_true rfl⟩ dX0_withDay_42
def m_X0_withDayOfYear (p0 : Int32) (p1 : Int32) (z : CS) : Nat × Int32 × CS := (if (m_X0_dateAt p0 z).1 = 0 then (if (m_X0_giveYearDay p0 (m_X0_yearIn ((m_X0_dateAt p0 z).2)) p1 z).1 = 0 then (0, (m_X0_giveYearDay p0 (m_X0_yearIn ((m_X0_dateAt p0 z).2)) p1 z).2.1, (m_X0_giveYearDay p0 (m_X0_yearIn ((m_X0_dateAt p0 z).2)) p1 z).2.2) else ((m_X0_giveYearDay p0 (m_X0_yearIn ((m_X0_dateAt p0 z).2)) p1 z).1, 0, (m_X0_giveYearDay p0 (m_X0_yearIn ((m_X0_dateAt p0 z).2)) p1 z).2.2)) else ((m_X0_dateAt p0 z).1, 0, z))
theorem kk_X0_withDayOfYear : pK yX0_withDayOfYear wsX0_withDayOfYear cX0_withDayOfYear 3 (some .int) 2 := ⟨⟨_, rfl⟩, by decide +kernel, by decide +kernel, by decide +kernel⟩
set_option maxRecDepth 100000 in
set_option maxHeartbeats 4000000 in
theorem c_X0_withDayOfYear (l : Launch) (hl9 : l.stackTraces = false) (k : Kx) (a : CA) (hD : cD k a) (p0 : Int32) (p1 : Int32) (z : CS) : cM l k a yX0_withDayOfYear wsX0_withDayOfYear 10 210 4 24 [.int p0, .int p1] z (some (.int (m_X0_withDayOfYear p0 p1 z).2.1)) (m_X0_withDayOfYear p0 p1 z).1 (m_X0_withDayOfYear p0 p1 z).2.2 := by
  intro sz
  refine vx_ofW (cc := cX0_withDayOfYear) (maxL := 3) (ret := (some .int)) (by decide) rfl ?_
  intro p e s m args below meth c s₁ B hml hEx hv
  obtain ⟨rfl, rfl, hGx, hP⟩ := hv
  have hx := B.exec
  have hb := B.bytes
  have hr := B.returns
  have hts := atoms_spec (ws := wsX0_withDayOfYear) B.pre
  have hown : s.vm.findClass RX0 = some m.cls := findClass_of_methodNamed B.named
  have hlocks := B.notSynchronized
  have htg : ∀ w ∈ GL, w.before _ s = true := fun w h => hts w (List.mem_cons_of_mem _ h)
  have hC : CallFix p m c cX0_withDayOfYear 3 s _ wsX0_withDayOfYear RX0 := ⟨hx, hb, hml, hown, hts⟩
  have hS : va_S (cA a s.heap.size) s.heap s.heap [] := va_S.rf
  have hl := lv_entry ([.ref a.1, .int p0, .int p1]) (n := 3) (Nat.le_of_ble_eq_true rfl)
  rw [lg_entry_eq]
  generalize (lg_sl ([.ref a.1, .int p0, .int p1]) ++ List.replicate (3 - (lg_sl ([.ref a.1, .int p0, .int p1])).length) Slot.unset).toArray = ls at hl ⊢
  have hl : lv_has ls 3 [(0, .ref a.1), (1, .int p0), (2, .int p1)] := hl
  have hm : m_X0_withDayOfYear p0 p1 z = m_X0_withDayOfYear p0 p1 z := rfl
  refine lv_aload_n hx hb dX0_withDayOfYear_0 rfl (lv_at hl 0 rfl) ?_
  refine lv_iload_n hx hb dX0_withDayOfYear_1 rfl (lv_at hl 1 rfl) ?_
  refine lv_aload_n hx hb dX0_withDayOfYear_2 rfl (lv_at hl 0 rfl) ?_
  refine lv_iload_n hx hb dX0_withDayOfYear_3 rfl (lv_at hl 1 rfl) ?_
  refine cc_V hC hGx hD hEx hlocks (c_X0_dateAt l hl9 k a hD p0 z) (gV w_153 w_154 w_8 w_26 w_155) kk_X0_dateAt rfl ⟨Nat.le_of_ble_eq_true rfl, Nat.le_of_ble_eq_true rfl⟩ ⟨Nat.le_of_ble_eq_true rfl, Nat.le_of_ble_eq_true rfl⟩ ⟨Nat.le_of_ble_eq_true rfl, Nat.le_of_ble_eq_true rfl⟩ hP hS hl.1 rfl rfl (Nat.le_of_ble_eq_true rfl) dX0_withDayOfYear_4 (fun h_1 => ?_) (fun h_1 H locs hP hS => ?_)
  · have hm : m_X0_withDayOfYear p0 p1 z = ((m_X0_dateAt p0 z).1, 0, z) := hm.trans (if_neg h_1)
    exact ⟨by rw [hm], by rw [hm]⟩
  · have hm := hm.trans (if_pos h_1)
    refine pc_S hC (c_X0_yearIn l ((m_X0_dateAt p0 z).2)) (gS w_168 w_169 w_26 w_170) kk_X0_yearIn ⟨Nat.le_of_ble_eq_true rfl, Nat.le_of_ble_eq_true rfl⟩ ⟨Nat.le_of_ble_eq_true rfl, Nat.le_of_ble_eq_true rfl⟩ hl.1 rfl rfl (Nat.le_of_ble_eq_true rfl) dX0_withDayOfYear_7 ?_
    refine lv_iload_n hx hb dX0_withDayOfYear_10 rfl (lv_at hl 2 rfl) ?_
    refine cc_V hC hGx hD hEx hlocks (c_X0_giveYearDay l hl9 k a hD p0 (m_X0_yearIn ((m_X0_dateAt p0 z).2)) p1 z) (gV w_676 w_677 w_14 w_26 w_678) kk_X0_giveYearDay rfl ⟨Nat.le_of_ble_eq_true rfl, Nat.le_of_ble_eq_true rfl⟩ ⟨Nat.le_of_ble_eq_true rfl, Nat.le_of_ble_eq_true rfl⟩ ⟨Nat.le_of_ble_eq_true rfl, Nat.le_of_ble_eq_true rfl⟩ hP hS hl.1 rfl rfl (Nat.le_of_ble_eq_true rfl) dX0_withDayOfYear_11 (fun h_2 => ?_) (fun h_2 H locs hP hS => ?_)
    · have hm : m_X0_withDayOfYear p0 p1 z = ((m_X0_giveYearDay p0 (m_X0_yearIn ((m_X0_dateAt p0 z).2)) p1 z).1, 0, (m_X0_giveYearDay p0 (m_X0_yearIn ((m_X0_dateAt p0 z).2)) p1 z).2.2) := hm.trans (if_neg h_2)
      exact ⟨by rw [hm], by rw [hm]⟩
    · have hm := hm.trans (if_pos h_2)
      have hm : m_X0_withDayOfYear p0 p1 z = (0, (m_X0_giveYearDay p0 (m_X0_yearIn ((m_X0_dateAt p0 z).2)) p1 z).2.1, (m_X0_giveYearDay p0 (m_X0_yearIn ((m_X0_dateAt p0 z).2)) p1 z).2.2) := hm
      exact c_iret (E := (m_X0_giveYearDay p0 (m_X0_yearIn ((m_X0_dateAt p0 z).2)) p1 z).2.1) hx hb hr hlocks (by rw [hm]) (by rw [hm]) (by rw [hm]) hP hS ⟨Nat.le_of_ble_eq_true rfl, Nat.le_of_ble_eq_true rfl⟩ dX0_withDayOfYear_14
def m_X0_toFirst (p0 : Int32) (z : CS) : Nat × Int32 × CS := (if (m_X0_dateAt p0 z).1 = 0 then (if (m_X0_give p0 (m_X0_dateOf (m_X0_yearIn ((m_X0_dateAt p0 z).2)) (m_X0_monthIn ((m_X0_dateAt p0 z).2)) (1 : Int32)) z).1 = 0 then (0, (m_X0_give p0 (m_X0_dateOf (m_X0_yearIn ((m_X0_dateAt p0 z).2)) (m_X0_monthIn ((m_X0_dateAt p0 z).2)) (1 : Int32)) z).2.1, (m_X0_give p0 (m_X0_dateOf (m_X0_yearIn ((m_X0_dateAt p0 z).2)) (m_X0_monthIn ((m_X0_dateAt p0 z).2)) (1 : Int32)) z).2.2) else ((m_X0_give p0 (m_X0_dateOf (m_X0_yearIn ((m_X0_dateAt p0 z).2)) (m_X0_monthIn ((m_X0_dateAt p0 z).2)) (1 : Int32)) z).1, 0, (m_X0_give p0 (m_X0_dateOf (m_X0_yearIn ((m_X0_dateAt p0 z).2)) (m_X0_monthIn ((m_X0_dateAt p0 z).2)) (1 : Int32)) z).2.2)) else ((m_X0_dateAt p0 z).1, 0, z))
theorem kk_X0_toFirst : pK yX0_toFirst wsX0_toFirst cX0_toFirst 4 (some .int) 1 := ⟨⟨_, rfl⟩, by decide +kernel, by decide +kernel, by decide +kernel⟩
set_option maxRecDepth 100000 in
set_option maxHeartbeats 4000000 in
theorem c_X0_toFirst (l : Launch) (hl9 : l.stackTraces = false) (k : Kx) (a : CA) (hD : cD k a) (p0 : Int32) (z : CS) : cM l k a yX0_toFirst wsX0_toFirst 9 186 3 18 [.int p0] z (some (.int (m_X0_toFirst p0 z).2.1)) (m_X0_toFirst p0 z).1 (m_X0_toFirst p0 z).2.2 := by
  intro sz
  refine vx_ofW (cc := cX0_toFirst) (maxL := 4) (ret := (some .int)) (by decide) rfl ?_
  intro p e s m args below meth c s₁ B hml hEx hv
  obtain ⟨rfl, rfl, hGx, hP⟩ := hv
  have hx := B.exec
  have hb := B.bytes
  have hr := B.returns
  have hts := atoms_spec (ws := wsX0_toFirst) B.pre
  have hown : s.vm.findClass RX0 = some m.cls := findClass_of_methodNamed B.named
  have hlocks := B.notSynchronized
  have htg : ∀ w ∈ GL, w.before _ s = true := fun w h => hts w (List.mem_cons_of_mem _ h)
  have hC : CallFix p m c cX0_toFirst 4 s _ wsX0_toFirst RX0 := ⟨hx, hb, hml, hown, hts⟩
  have hS : va_S (cA a s.heap.size) s.heap s.heap [] := va_S.rf
  have hl := lv_entry ([.ref a.1, .int p0]) (n := 4) (Nat.le_of_ble_eq_true rfl)
  rw [lg_entry_eq]
  generalize (lg_sl ([.ref a.1, .int p0]) ++ List.replicate (4 - (lg_sl ([.ref a.1, .int p0])).length) Slot.unset).toArray = ls at hl ⊢
  have hl : lv_has ls 4 [(0, .ref a.1), (1, .int p0)] := hl
  have hm : m_X0_toFirst p0 z = m_X0_toFirst p0 z := rfl
  refine lv_aload_n hx hb dX0_toFirst_0 rfl (lv_at hl 0 rfl) ?_
  refine lv_iload_n hx hb dX0_toFirst_1 rfl (lv_at hl 1 rfl) ?_
  refine cc_V hC hGx hD hEx hlocks (c_X0_dateAt l hl9 k a hD p0 z) (gV w_153 w_154 w_8 w_26 w_155) kk_X0_dateAt rfl ⟨Nat.le_of_ble_eq_true rfl, Nat.le_of_ble_eq_true rfl⟩ ⟨Nat.le_of_ble_eq_true rfl, Nat.le_of_ble_eq_true rfl⟩ ⟨Nat.le_of_ble_eq_true rfl, Nat.le_of_ble_eq_true rfl⟩ hP hS hl.1 rfl rfl (Nat.le_of_ble_eq_true rfl) dX0_toFirst_2 (fun h_1 => ?_) (fun h_1 H locs hP hS => ?_)
  · have hm : m_X0_toFirst p0 z = ((m_X0_dateAt p0 z).1, 0, z) := hm.trans (if_neg h_1)
    exact ⟨by rw [hm], by rw [hm]⟩
  · have hm := hm.trans (if_pos h_1)
    refine lv_lstore_n (lv' := [(2, .long ((m_X0_dateAt p0 z).2)), (0, .ref a.1), (1, .int p0)]) hx hb dX0_toFirst_5 rfl hl (by decide) rfl (fun ls hl => ?_)
    refine lv_aload_n hx hb dX0_toFirst_6 rfl (lv_at hl 1 rfl) ?_
    refine lv_iload_n hx hb dX0_toFirst_7 rfl (lv_at hl 2 rfl) ?_
    refine lv_lload_n hx hb dX0_toFirst_8 rfl (lv_at hl 0 rfl) ?_
    refine pc_S hC (c_X0_yearIn l ((m_X0_dateAt p0 z).2)) (gS w_168 w_169 w_26 w_170) kk_X0_yearIn ⟨Nat.le_of_ble_eq_true rfl, Nat.le_of_ble_eq_true rfl⟩ ⟨Nat.le_of_ble_eq_true rfl, Nat.le_of_ble_eq_true rfl⟩ hl.1 rfl rfl (Nat.le_of_ble_eq_true rfl) dX0_toFirst_9 ?_
    refine lv_lload_n hx hb dX0_toFirst_12 rfl (lv_at hl 0 rfl) ?_
    refine pc_S hC (c_X0_monthIn l ((m_X0_dateAt p0 z).2)) (gS w_192 w_193 w_26 w_194) kk_X0_monthIn ⟨Nat.le_of_ble_eq_true rfl, Nat.le_of_ble_eq_true rfl⟩ ⟨Nat.le_of_ble_eq_true rfl, Nat.le_of_ble_eq_true rfl⟩ hl.1 rfl rfl (Nat.le_of_ble_eq_true rfl) dX0_toFirst_13 ?_
    refine lv_iconst (v := 1) hx hb dX0_toFirst_16 (by decide) ?_
    refine pc_S hC (c_X0_dateOf l (m_X0_yearIn ((m_X0_dateAt p0 z).2)) (m_X0_monthIn ((m_X0_dateAt p0 z).2)) (1 : Int32)) (gS w_208 w_209 w_26 w_210) kk_X0_dateOf ⟨Nat.le_of_ble_eq_true rfl, Nat.le_of_ble_eq_true rfl⟩ ⟨Nat.le_of_ble_eq_true rfl, Nat.le_of_ble_eq_true rfl⟩ hl.1 rfl rfl (Nat.le_of_ble_eq_true rfl) dX0_toFirst_17 ?_
    refine cc_V hC hGx hD hEx hlocks (c_X0_give l hl9 k a hD p0 (m_X0_dateOf (m_X0_yearIn ((m_X0_dateAt p0 z).2)) (m_X0_monthIn ((m_X0_dateAt p0 z).2)) (1 : Int32)) z) (gV w_649 w_650 w_12 w_26 w_651) kk_X0_give rfl ⟨Nat.le_of_ble_eq_true rfl, Nat.le_of_ble_eq_true rfl⟩ ⟨Nat.le_of_ble_eq_true rfl, Nat.le_of_ble_eq_true rfl⟩ ⟨Nat.le_of_ble_eq_true rfl, Nat.le_of_ble_eq_true rfl⟩ hP hS hl.1 rfl rfl (Nat.le_of_ble_eq_true rfl) dX0_toFirst_20 (fun h_2 => ?_) (fun h_2 H locs hP hS => ?_)
    · have hm : m_X0_toFirst p0 z = ((m_X0_give p0 (m_X0_dateOf (m_X0_yearIn ((m_X0_dateAt p0 z).2)) (m_X0_monthIn ((m_X0_dateAt p0 z).2)) (1 : Int32)) z).1, 0, (m_X0_give p0 (m_X0_dateOf (m_X0_yearIn ((m_X0_dateAt p0 z).2)) (m_X0_monthIn ((m_X0_dateAt p0 z).2)) (1 : Int32)) z).2.2) := hm.trans (if_neg h_2)
      exact ⟨by rw [hm], by rw [hm]⟩
    · have hm := hm.trans (if_pos h_2)
      have hm : m_X0_toFirst p0 z = (0, (m_X0_give p0 (m_X0_dateOf (m_X0_yearIn ((m_X0_dateAt p0 z).2)) (m_X0_monthIn ((m_X0_dateAt p0 z).2)) (1 : Int32)) z).2.1, (m_X0_give p0 (m_X0_dateOf (m_X0_yearIn ((m_X0_dateAt p0 z).2)) (m_X0_monthIn ((m_X0_dateAt p0 z).2)) (1 : Int32)) z).2.2) := hm
      exact c_iret (E := (m_X0_give p0 (m_X0_dateOf (m_X0_yearIn ((m_X0_dateAt p0 z).2)) (m_X0_monthIn ((m_X0_dateAt p0 z).2)) (1 : Int32)) z).2.1) hx hb hr hlocks (by rw [hm]) (by rw [hm]) (by rw [hm]) hP hS ⟨Nat.le_of_ble_eq_true rfl, Nat.le_of_ble_eq_true rfl⟩ dX0_toFirst_23
def m_X0_toLast (p0 : Int32) (z : CS) : Nat × Int32 × CS := (if (m_X0_dateAt p0 z).1 = 0 then (if (m_X0_give p0 (m_X0_fittedDate (m_X0_yearIn ((m_X0_dateAt p0 z).2)) (m_X0_monthIn ((m_X0_dateAt p0 z).2)) (31 : Int32)) z).1 = 0 then (0, (m_X0_give p0 (m_X0_fittedDate (m_X0_yearIn ((m_X0_dateAt p0 z).2)) (m_X0_monthIn ((m_X0_dateAt p0 z).2)) (31 : Int32)) z).2.1, (m_X0_give p0 (m_X0_fittedDate (m_X0_yearIn ((m_X0_dateAt p0 z).2)) (m_X0_monthIn ((m_X0_dateAt p0 z).2)) (31 : Int32)) z).2.2) else ((m_X0_give p0 (m_X0_fittedDate (m_X0_yearIn ((m_X0_dateAt p0 z).2)) (m_X0_monthIn ((m_X0_dateAt p0 z).2)) (31 : Int32)) z).1, 0, (m_X0_give p0 (m_X0_fittedDate (m_X0_yearIn ((m_X0_dateAt p0 z).2)) (m_X0_monthIn ((m_X0_dateAt p0 z).2)) (31 : Int32)) z).2.2)) else ((m_X0_dateAt p0 z).1, 0, z))
theorem kk_X0_toLast : pK yX0_toLast wsX0_toLast cX0_toLast 4 (some .int) 1 := ⟨⟨_, rfl⟩, by decide +kernel, by decide +kernel, by decide +kernel⟩
set_option maxRecDepth 100000 in
set_option maxHeartbeats 4000000 in
theorem c_X0_toLast (l : Launch) (hl9 : l.stackTraces = false) (k : Kx) (a : CA) (hD : cD k a) (p0 : Int32) (z : CS) : cM l k a yX0_toLast wsX0_toLast 9 186 3 18 [.int p0] z (some (.int (m_X0_toLast p0 z).2.1)) (m_X0_toLast p0 z).1 (m_X0_toLast p0 z).2.2 := by
  intro sz
  refine vx_ofW (cc := cX0_toLast) (maxL := 4) (ret := (some .int)) (by decide) rfl ?_
  intro p e s m args below meth c s₁ B hml hEx hv
  obtain ⟨rfl, rfl, hGx, hP⟩ := hv
  have hx := B.exec
  have hb := B.bytes
  have hr := B.returns
  have hts := atoms_spec (ws := wsX0_toLast) B.pre
  have hown : s.vm.findClass RX0 = some m.cls := findClass_of_methodNamed B.named
  have hlocks := B.notSynchronized
  have htg : ∀ w ∈ GL, w.before _ s = true := fun w h => hts w (List.mem_cons_of_mem _ h)
  have hC : CallFix p m c cX0_toLast 4 s _ wsX0_toLast RX0 := ⟨hx, hb, hml, hown, hts⟩
  have hS : va_S (cA a s.heap.size) s.heap s.heap [] := va_S.rf
  have hl := lv_entry ([.ref a.1, .int p0]) (n := 4) (Nat.le_of_ble_eq_true rfl)
  rw [lg_entry_eq]
  generalize (lg_sl ([.ref a.1, .int p0]) ++ List.replicate (4 - (lg_sl ([.ref a.1, .int p0])).length) Slot.unset).toArray = ls at hl ⊢
  have hl : lv_has ls 4 [(0, .ref a.1), (1, .int p0)] := hl
  have hm : m_X0_toLast p0 z = m_X0_toLast p0 z := rfl
  refine lv_aload_n hx hb dX0_toLast_0 rfl (lv_at hl 0 rfl) ?_
  refine lv_iload_n hx hb dX0_toLast_1 rfl (lv_at hl 1 rfl) ?_
  refine cc_V hC hGx hD hEx hlocks (c_X0_dateAt l hl9 k a hD p0 z) (gV w_153 w_154 w_8 w_26 w_155) kk_X0_dateAt rfl ⟨Nat.le_of_ble_eq_true rfl, Nat.le_of_ble_eq_true rfl⟩ ⟨Nat.le_of_ble_eq_true rfl, Nat.le_of_ble_eq_true rfl⟩ ⟨Nat.le_of_ble_eq_true rfl, Nat.le_of_ble_eq_true rfl⟩ hP hS hl.1 rfl rfl (Nat.le_of_ble_eq_true rfl) dX0_toLast_2 (fun h_1 => ?_) (fun h_1 H locs hP hS => ?_)
  · have hm : m_X0_toLast p0 z = ((m_X0_dateAt p0 z).1, 0, z) := hm.trans (if_neg h_1)
    exact ⟨by rw [hm], by rw [hm]⟩
  · have hm := hm.trans (if_pos h_1)
    refine lv_lstore_n (lv' := [(2, .long ((m_X0_dateAt p0 z).2)), (0, .ref a.1), (1, .int p0)]) hx hb dX0_toLast_5 rfl hl (by decide) rfl (fun ls hl => ?_)
    refine lv_aload_n hx hb dX0_toLast_6 rfl (lv_at hl 1 rfl) ?_
    refine lv_iload_n hx hb dX0_toLast_7 rfl (lv_at hl 2 rfl) ?_
    refine lv_lload_n hx hb dX0_toLast_8 rfl (lv_at hl 0 rfl) ?_
    refine pc_S hC (c_X0_yearIn l ((m_X0_dateAt p0 z).2)) (gS w_168 w_169 w_26 w_170) kk_X0_yearIn ⟨Nat.le_of_ble_eq_true rfl, Nat.le_of_ble_eq_true rfl⟩ ⟨Nat.le_of_ble_eq_true rfl, Nat.le_of_ble_eq_true rfl⟩ hl.1 rfl rfl (Nat.le_of_ble_eq_true rfl) dX0_toLast_9 ?_
    refine lv_lload_n hx hb dX0_toLast_12 rfl (lv_at hl 0 rfl) ?_
    refine pc_S hC (c_X0_monthIn l ((m_X0_dateAt p0 z).2)) (gS w_192 w_193 w_26 w_194) kk_X0_monthIn ⟨Nat.le_of_ble_eq_true rfl, Nat.le_of_ble_eq_true rfl⟩ ⟨Nat.le_of_ble_eq_true rfl, Nat.le_of_ble_eq_true rfl⟩ hl.1 rfl rfl (Nat.le_of_ble_eq_true rfl) dX0_toLast_13 ?_
    refine lv_bipush (v := 31) hx hb dX0_toLast_16 (by decide) ?_
    refine pc_S hC (c_X0_fittedDate l (m_X0_yearIn ((m_X0_dateAt p0 z).2)) (m_X0_monthIn ((m_X0_dateAt p0 z).2)) (31 : Int32)) (gS w_211 w_212 w_26 w_213) kk_X0_fittedDate ⟨Nat.le_of_ble_eq_true rfl, Nat.le_of_ble_eq_true rfl⟩ ⟨Nat.le_of_ble_eq_true rfl, Nat.le_of_ble_eq_true rfl⟩ hl.1 rfl rfl (Nat.le_of_ble_eq_true rfl) dX0_toLast_18 ?_
    refine cc_V hC hGx hD hEx hlocks (c_X0_give l hl9 k a hD p0 (m_X0_fittedDate (m_X0_yearIn ((m_X0_dateAt p0 z).2)) (m_X0_monthIn ((m_X0_dateAt p0 z).2)) (31 : Int32)) z) (gV w_649 w_650 w_12 w_26 w_651) kk_X0_give rfl ⟨Nat.le_of_ble_eq_true rfl, Nat.le_of_ble_eq_true rfl⟩ ⟨Nat.le_of_ble_eq_true rfl, Nat.le_of_ble_eq_true rfl⟩ ⟨Nat.le_of_ble_eq_true rfl, Nat.le_of_ble_eq_true rfl⟩ hP hS hl.1 rfl rfl (Nat.le_of_ble_eq_true rfl) dX0_toLast_21 (fun h_2 => ?_) (fun h_2 H locs hP hS => ?_)
    · have hm : m_X0_toLast p0 z = ((m_X0_give p0 (m_X0_fittedDate (m_X0_yearIn ((m_X0_dateAt p0 z).2)) (m_X0_monthIn ((m_X0_dateAt p0 z).2)) (31 : Int32)) z).1, 0, (m_X0_give p0 (m_X0_fittedDate (m_X0_yearIn ((m_X0_dateAt p0 z).2)) (m_X0_monthIn ((m_X0_dateAt p0 z).2)) (31 : Int32)) z).2.2) := hm.trans (if_neg h_2)
      exact ⟨by rw [hm], by rw [hm]⟩
    · have hm := hm.trans (if_pos h_2)
      have hm : m_X0_toLast p0 z = (0, (m_X0_give p0 (m_X0_fittedDate (m_X0_yearIn ((m_X0_dateAt p0 z).2)) (m_X0_monthIn ((m_X0_dateAt p0 z).2)) (31 : Int32)) z).2.1, (m_X0_give p0 (m_X0_fittedDate (m_X0_yearIn ((m_X0_dateAt p0 z).2)) (m_X0_monthIn ((m_X0_dateAt p0 z).2)) (31 : Int32)) z).2.2) := hm
      exact c_iret (E := (m_X0_give p0 (m_X0_fittedDate (m_X0_yearIn ((m_X0_dateAt p0 z).2)) (m_X0_monthIn ((m_X0_dateAt p0 z).2)) (31 : Int32)) z).2.1) hx hb hr hlocks (by rw [hm]) (by rw [hm]) (by rw [hm]) hP hS ⟨Nat.le_of_ble_eq_true rfl, Nat.le_of_ble_eq_true rfl⟩ dX0_toLast_24
def m_X0_plusDays (p0 : Int32) (p1 : Int32) (z : CS) : Nat × Int32 × CS := (if (m_X0_move p0 (0 : Int32) p1 z).1 = 0 then (0, (m_X0_move p0 (0 : Int32) p1 z).2.1, (m_X0_move p0 (0 : Int32) p1 z).2.2) else ((m_X0_move p0 (0 : Int32) p1 z).1, 0, (m_X0_move p0 (0 : Int32) p1 z).2.2))
theorem kk_X0_plusDays : pK yX0_plusDays wsX0_plusDays cX0_plusDays 3 (some .int) 2 := ⟨⟨_, rfl⟩, by decide +kernel, by decide +kernel, by decide +kernel⟩
set_option maxRecDepth 100000 in
set_option maxHeartbeats 4000000 in
theorem c_X0_plusDays (l : Launch) (hl9 : l.stackTraces = false) (k : Kx) (a : CA) (hD : cD k a) (p0 : Int32) (p1 : Int32) (z : CS) : cM l k a yX0_plusDays wsX0_plusDays 10 211 4 24 [.int p0, .int p1] z (some (.int (m_X0_plusDays p0 p1 z).2.1)) (m_X0_plusDays p0 p1 z).1 (m_X0_plusDays p0 p1 z).2.2 := by
  intro sz
  refine vx_ofW (cc := cX0_plusDays) (maxL := 3) (ret := (some .int)) (by decide) rfl ?_
  intro p e s m args below meth c s₁ B hml hEx hv
  obtain ⟨rfl, rfl, hGx, hP⟩ := hv
  have hx := B.exec
  have hb := B.bytes
  have hr := B.returns
  have hts := atoms_spec (ws := wsX0_plusDays) B.pre
  have hown : s.vm.findClass RX0 = some m.cls := findClass_of_methodNamed B.named
  have hlocks := B.notSynchronized
  have htg : ∀ w ∈ GL, w.before _ s = true := fun w h => hts w (List.mem_cons_of_mem _ h)
  have hC : CallFix p m c cX0_plusDays 3 s _ wsX0_plusDays RX0 := ⟨hx, hb, hml, hown, hts⟩
  have hS : va_S (cA a s.heap.size) s.heap s.heap [] := va_S.rf
  have hl := lv_entry ([.ref a.1, .int p0, .int p1]) (n := 3) (Nat.le_of_ble_eq_true rfl)
  rw [lg_entry_eq]
  generalize (lg_sl ([.ref a.1, .int p0, .int p1]) ++ List.replicate (3 - (lg_sl ([.ref a.1, .int p0, .int p1])).length) Slot.unset).toArray = ls at hl ⊢
  have hl : lv_has ls 3 [(0, .ref a.1), (1, .int p0), (2, .int p1)] := hl
  have hm : m_X0_plusDays p0 p1 z = m_X0_plusDays p0 p1 z := rfl
  refine lv_aload_n hx hb dX0_plusDays_0 rfl (lv_at hl 0 rfl) ?_
  refine lv_iload_n hx hb dX0_plusDays_1 rfl (lv_at hl 1 rfl) ?_
  refine lv_iconst (v := 0) hx hb dX0_plusDays_2 (by decide) ?_
  refine lv_iload_n hx hb dX0_plusDays_3 rfl (lv_at hl 2 rfl) ?_
  refine cc_V hC hGx hD hEx hlocks (c_X0_move l hl9 k a hD p0 (0 : Int32) p1 z) (gV w_749 w_750 w_15 w_26 w_751) kk_X0_move rfl ⟨Nat.le_of_ble_eq_true rfl, Nat.le_of_ble_eq_true rfl⟩ ⟨Nat.le_of_ble_eq_true rfl, Nat.le_of_ble_eq_true rfl⟩ ⟨Nat.le_of_ble_eq_true rfl, Nat.le_of_ble_eq_true rfl⟩ hP hS hl.1 rfl rfl (Nat.le_of_ble_eq_true rfl) dX0_plusDays_4 (fun h_1 => ?_) (fun h_1 H locs hP hS => ?_)
  · have hm : m_X0_plusDays p0 p1 z = ((m_X0_move p0 (0 : Int32) p1 z).1, 0, (m_X0_move p0 (0 : Int32) p1 z).2.2) := hm.trans (if_neg h_1)
    exact ⟨by rw [hm], by rw [hm]⟩
  · have hm := hm.trans (if_pos h_1)
    have hm : m_X0_plusDays p0 p1 z = (0, (m_X0_move p0 (0 : Int32) p1 z).2.1, (m_X0_move p0 (0 : Int32) p1 z).2.2) := hm
    exact c_iret (E := (m_X0_move p0 (0 : Int32) p1 z).2.1) hx hb hr hlocks (by rw [hm]) (by rw [hm]) (by rw [hm]) hP hS ⟨Nat.le_of_ble_eq_true rfl, Nat.le_of_ble_eq_true rfl⟩ dX0_plusDays_7
def m_X0_plusWeeks (p0 : Int32) (p1 : Int32) (z : CS) : Nat × Int32 × CS := (if (m_X0_move p0 (1 : Int32) p1 z).1 = 0 then (0, (m_X0_move p0 (1 : Int32) p1 z).2.1, (m_X0_move p0 (1 : Int32) p1 z).2.2) else ((m_X0_move p0 (1 : Int32) p1 z).1, 0, (m_X0_move p0 (1 : Int32) p1 z).2.2))
theorem kk_X0_plusWeeks : pK yX0_plusWeeks wsX0_plusWeeks cX0_plusWeeks 3 (some .int) 2 := ⟨⟨_, rfl⟩, by decide +kernel, by decide +kernel, by decide +kernel⟩
set_option maxRecDepth 100000 in
set_option maxHeartbeats 4000000 in
theorem c_X0_plusWeeks (l : Launch) (hl9 : l.stackTraces = false) (k : Kx) (a : CA) (hD : cD k a) (p0 : Int32) (p1 : Int32) (z : CS) : cM l k a yX0_plusWeeks wsX0_plusWeeks 10 211 4 24 [.int p0, .int p1] z (some (.int (m_X0_plusWeeks p0 p1 z).2.1)) (m_X0_plusWeeks p0 p1 z).1 (m_X0_plusWeeks p0 p1 z).2.2 := by
  intro sz
  refine vx_ofW (cc := cX0_plusWeeks) (maxL := 3) (ret := (some .int)) (by decide) rfl ?_
  intro p e s m args below meth c s₁ B hml hEx hv
  obtain ⟨rfl, rfl, hGx, hP⟩ := hv
  have hx := B.exec
  have hb := B.bytes
  have hr := B.returns
  have hts := atoms_spec (ws := wsX0_plusWeeks) B.pre
  have hown : s.vm.findClass RX0 = some m.cls := findClass_of_methodNamed B.named
  have hlocks := B.notSynchronized
  have htg : ∀ w ∈ GL, w.before _ s = true := fun w h => hts w (List.mem_cons_of_mem _ h)
  have hC : CallFix p m c cX0_plusWeeks 3 s _ wsX0_plusWeeks RX0 := ⟨hx, hb, hml, hown, hts⟩
  have hS : va_S (cA a s.heap.size) s.heap s.heap [] := va_S.rf
  have hl := lv_entry ([.ref a.1, .int p0, .int p1]) (n := 3) (Nat.le_of_ble_eq_true rfl)
  rw [lg_entry_eq]
  generalize (lg_sl ([.ref a.1, .int p0, .int p1]) ++ List.replicate (3 - (lg_sl ([.ref a.1, .int p0, .int p1])).length) Slot.unset).toArray = ls at hl ⊢
  have hl : lv_has ls 3 [(0, .ref a.1), (1, .int p0), (2, .int p1)] := hl
  have hm : m_X0_plusWeeks p0 p1 z = m_X0_plusWeeks p0 p1 z := rfl
  refine lv_aload_n hx hb dX0_plusWeeks_0 rfl (lv_at hl 0 rfl) ?_
  refine lv_iload_n hx hb dX0_plusWeeks_1 rfl (lv_at hl 1 rfl) ?_
  refine lv_iconst (v := 1) hx hb dX0_plusWeeks_2 (by decide) ?_
  refine lv_iload_n hx hb dX0_plusWeeks_3 rfl (lv_at hl 2 rfl) ?_
  refine cc_V hC hGx hD hEx hlocks (c_X0_move l hl9 k a hD p0 (1 : Int32) p1 z) (gV w_749 w_750 w_15 w_26 w_751) kk_X0_move rfl ⟨Nat.le_of_ble_eq_true rfl, Nat.le_of_ble_eq_true rfl⟩ ⟨Nat.le_of_ble_eq_true rfl, Nat.le_of_ble_eq_true rfl⟩ ⟨Nat.le_of_ble_eq_true rfl, Nat.le_of_ble_eq_true rfl⟩ hP hS hl.1 rfl rfl (Nat.le_of_ble_eq_true rfl) dX0_plusWeeks_4 (fun h_1 => ?_) (fun h_1 H locs hP hS => ?_)
  · have hm : m_X0_plusWeeks p0 p1 z = ((m_X0_move p0 (1 : Int32) p1 z).1, 0, (m_X0_move p0 (1 : Int32) p1 z).2.2) := hm.trans (if_neg h_1)
    exact ⟨by rw [hm], by rw [hm]⟩
  · have hm := hm.trans (if_pos h_1)
    have hm : m_X0_plusWeeks p0 p1 z = (0, (m_X0_move p0 (1 : Int32) p1 z).2.1, (m_X0_move p0 (1 : Int32) p1 z).2.2) := hm
    exact c_iret (E := (m_X0_move p0 (1 : Int32) p1 z).2.1) hx hb hr hlocks (by rw [hm]) (by rw [hm]) (by rw [hm]) hP hS ⟨Nat.le_of_ble_eq_true rfl, Nat.le_of_ble_eq_true rfl⟩ dX0_plusWeeks_7
def m_X0_plusMonths (p0 : Int32) (p1 : Int32) (z : CS) : Nat × Int32 × CS := (if (m_X0_move p0 (2 : Int32) p1 z).1 = 0 then (0, (m_X0_move p0 (2 : Int32) p1 z).2.1, (m_X0_move p0 (2 : Int32) p1 z).2.2) else ((m_X0_move p0 (2 : Int32) p1 z).1, 0, (m_X0_move p0 (2 : Int32) p1 z).2.2))
theorem kk_X0_plusMonths : pK yX0_plusMonths wsX0_plusMonths cX0_plusMonths 3 (some .int) 2 := ⟨⟨_, rfl⟩, by decide +kernel, by decide +kernel, by decide +kernel⟩
set_option maxRecDepth 100000 in
set_option maxHeartbeats 4000000 in
theorem c_X0_plusMonths (l : Launch) (hl9 : l.stackTraces = false) (k : Kx) (a : CA) (hD : cD k a) (p0 : Int32) (p1 : Int32) (z : CS) : cM l k a yX0_plusMonths wsX0_plusMonths 10 211 4 24 [.int p0, .int p1] z (some (.int (m_X0_plusMonths p0 p1 z).2.1)) (m_X0_plusMonths p0 p1 z).1 (m_X0_plusMonths p0 p1 z).2.2 := by
  intro sz
  refine vx_ofW (cc := cX0_plusMonths) (maxL := 3) (ret := (some .int)) (by decide) rfl ?_
  intro p e s m args below meth c s₁ B hml hEx hv
  obtain ⟨rfl, rfl, hGx, hP⟩ := hv
  have hx := B.exec
  have hb := B.bytes
  have hr := B.returns
  have hts := atoms_spec (ws := wsX0_plusMonths) B.pre
  have hown : s.vm.findClass RX0 = some m.cls := findClass_of_methodNamed B.named
  have hlocks := B.notSynchronized
  have htg : ∀ w ∈ GL, w.before _ s = true := fun w h => hts w (List.mem_cons_of_mem _ h)
  have hC : CallFix p m c cX0_plusMonths 3 s _ wsX0_plusMonths RX0 := ⟨hx, hb, hml, hown, hts⟩
  have hS : va_S (cA a s.heap.size) s.heap s.heap [] := va_S.rf
  have hl := lv_entry ([.ref a.1, .int p0, .int p1]) (n := 3) (Nat.le_of_ble_eq_true rfl)
  rw [lg_entry_eq]
  generalize (lg_sl ([.ref a.1, .int p0, .int p1]) ++ List.replicate (3 - (lg_sl ([.ref a.1, .int p0, .int p1])).length) Slot.unset).toArray = ls at hl ⊢
  have hl : lv_has ls 3 [(0, .ref a.1), (1, .int p0), (2, .int p1)] := hl
  have hm : m_X0_plusMonths p0 p1 z = m_X0_plusMonths p0 p1 z := rfl
  refine lv_aload_n hx hb dX0_plusMonths_0 rfl (lv_at hl 0 rfl) ?_
  refine lv_iload_n hx hb dX0_plusMonths_1 rfl (lv_at hl 1 rfl) ?_
  refine lv_iconst (v := 2) hx hb dX0_plusMonths_2 (by decide) ?_
  refine lv_iload_n hx hb dX0_plusMonths_3 rfl (lv_at hl 2 rfl) ?_
  refine cc_V hC hGx hD hEx hlocks (c_X0_move l hl9 k a hD p0 (2 : Int32) p1 z) (gV w_749 w_750 w_15 w_26 w_751) kk_X0_move rfl ⟨Nat.le_of_ble_eq_true rfl, Nat.le_of_ble_eq_true rfl⟩ ⟨Nat.le_of_ble_eq_true rfl, Nat.le_of_ble_eq_true rfl⟩ ⟨Nat.le_of_ble_eq_true rfl, Nat.le_of_ble_eq_true rfl⟩ hP hS hl.1 rfl rfl (Nat.le_of_ble_eq_true rfl) dX0_plusMonths_4 (fun h_1 => ?_) (fun h_1 H locs hP hS => ?_)
  · have hm : m_X0_plusMonths p0 p1 z = ((m_X0_move p0 (2 : Int32) p1 z).1, 0, (m_X0_move p0 (2 : Int32) p1 z).2.2) := hm.trans (if_neg h_1)
    exact ⟨by rw [hm], by rw [hm]⟩
  · have hm := hm.trans (if_pos h_1)
    have hm : m_X0_plusMonths p0 p1 z = (0, (m_X0_move p0 (2 : Int32) p1 z).2.1, (m_X0_move p0 (2 : Int32) p1 z).2.2) := hm
    exact c_iret (E := (m_X0_move p0 (2 : Int32) p1 z).2.1) hx hb hr hlocks (by rw [hm]) (by rw [hm]) (by rw [hm]) hP hS ⟨Nat.le_of_ble_eq_true rfl, Nat.le_of_ble_eq_true rfl⟩ dX0_plusMonths_7
def m_X0_plusYears (p0 : Int32) (p1 : Int32) (z : CS) : Nat × Int32 × CS := (if (m_X0_move p0 (3 : Int32) p1 z).1 = 0 then (0, (m_X0_move p0 (3 : Int32) p1 z).2.1, (m_X0_move p0 (3 : Int32) p1 z).2.2) else ((m_X0_move p0 (3 : Int32) p1 z).1, 0, (m_X0_move p0 (3 : Int32) p1 z).2.2))
theorem kk_X0_plusYears : pK yX0_plusYears wsX0_plusYears cX0_plusYears 3 (some .int) 2 := ⟨⟨_, rfl⟩, by decide +kernel, by decide +kernel, by decide +kernel⟩
set_option maxRecDepth 100000 in
set_option maxHeartbeats 4000000 in
theorem c_X0_plusYears (l : Launch) (hl9 : l.stackTraces = false) (k : Kx) (a : CA) (hD : cD k a) (p0 : Int32) (p1 : Int32) (z : CS) : cM l k a yX0_plusYears wsX0_plusYears 10 211 4 24 [.int p0, .int p1] z (some (.int (m_X0_plusYears p0 p1 z).2.1)) (m_X0_plusYears p0 p1 z).1 (m_X0_plusYears p0 p1 z).2.2 := by
  intro sz
  refine vx_ofW (cc := cX0_plusYears) (maxL := 3) (ret := (some .int)) (by decide) rfl ?_
  intro p e s m args below meth c s₁ B hml hEx hv
  obtain ⟨rfl, rfl, hGx, hP⟩ := hv
  have hx := B.exec
  have hb := B.bytes
  have hr := B.returns
  have hts := atoms_spec (ws := wsX0_plusYears) B.pre
  have hown : s.vm.findClass RX0 = some m.cls := findClass_of_methodNamed B.named
  have hlocks := B.notSynchronized
  have htg : ∀ w ∈ GL, w.before _ s = true := fun w h => hts w (List.mem_cons_of_mem _ h)
  have hC : CallFix p m c cX0_plusYears 3 s _ wsX0_plusYears RX0 := ⟨hx, hb, hml, hown, hts⟩
  have hS : va_S (cA a s.heap.size) s.heap s.heap [] := va_S.rf
  have hl := lv_entry ([.ref a.1, .int p0, .int p1]) (n := 3) (Nat.le_of_ble_eq_true rfl)
  rw [lg_entry_eq]
  generalize (lg_sl ([.ref a.1, .int p0, .int p1]) ++ List.replicate (3 - (lg_sl ([.ref a.1, .int p0, .int p1])).length) Slot.unset).toArray = ls at hl ⊢
  have hl : lv_has ls 3 [(0, .ref a.1), (1, .int p0), (2, .int p1)] := hl
  have hm : m_X0_plusYears p0 p1 z = m_X0_plusYears p0 p1 z := rfl
  refine lv_aload_n hx hb dX0_plusYears_0 rfl (lv_at hl 0 rfl) ?_
  refine lv_iload_n hx hb dX0_plusYears_1 rfl (lv_at hl 1 rfl) ?_
  refine lv_iconst (v := 3) hx hb dX0_plusYears_2 (by decide) ?_
  refine lv_iload_n hx hb dX0_plusYears_3 rfl (lv_at hl 2 rfl) ?_
  refine cc_V hC hGx hD hEx hlocks (c_X0_move l hl9 k a hD p0 (3 : Int32) p1 z) (gV w_749 w_750 w_15 w_26 w_751) kk_X0_move rfl ⟨Nat.le_of_ble_eq_true rfl, Nat.le_of_ble_eq_true rfl⟩ ⟨Nat.le_of_ble_eq_true rfl, Nat.le_of_ble_eq_true rfl⟩ ⟨Nat.le_of_ble_eq_true rfl, Nat.le_of_ble_eq_true rfl⟩ hP hS hl.1 rfl rfl (Nat.le_of_ble_eq_true rfl) dX0_plusYears_4 (fun h_1 => ?_) (fun h_1 H locs hP hS => ?_)
  · have hm : m_X0_plusYears p0 p1 z = ((m_X0_move p0 (3 : Int32) p1 z).1, 0, (m_X0_move p0 (3 : Int32) p1 z).2.2) := hm.trans (if_neg h_1)
    exact ⟨by rw [hm], by rw [hm]⟩
  · have hm := hm.trans (if_pos h_1)
    have hm : m_X0_plusYears p0 p1 z = (0, (m_X0_move p0 (3 : Int32) p1 z).2.1, (m_X0_move p0 (3 : Int32) p1 z).2.2) := hm
    exact c_iret (E := (m_X0_move p0 (3 : Int32) p1 z).2.1) hx hb hr hlocks (by rw [hm]) (by rw [hm]) (by rw [hm]) hP hS ⟨Nat.le_of_ble_eq_true rfl, Nat.le_of_ble_eq_true rfl⟩ dX0_plusYears_7
def m_X0_minusDays (p0 : Int32) (p1 : Int32) (z : CS) : Nat × Int32 × CS := (if (m_X0_move p0 (0 : Int32) (-p1) z).1 = 0 then (0, (m_X0_move p0 (0 : Int32) (-p1) z).2.1, (m_X0_move p0 (0 : Int32) (-p1) z).2.2) else ((m_X0_move p0 (0 : Int32) (-p1) z).1, 0, (m_X0_move p0 (0 : Int32) (-p1) z).2.2))
theorem kk_X0_minusDays : pK yX0_minusDays wsX0_minusDays cX0_minusDays 3 (some .int) 2 := ⟨⟨_, rfl⟩, by decide +kernel, by decide +kernel, by decide +kernel⟩
set_option maxRecDepth 100000 in
set_option maxHeartbeats 4000000 in
theorem c_X0_minusDays (l : Launch) (hl9 : l.stackTraces = false) (k : Kx) (a : CA) (hD : cD k a) (p0 : Int32) (p1 : Int32) (z : CS) : cM l k a yX0_minusDays wsX0_minusDays 10 211 4 24 [.int p0, .int p1] z (some (.int (m_X0_minusDays p0 p1 z).2.1)) (m_X0_minusDays p0 p1 z).1 (m_X0_minusDays p0 p1 z).2.2 := by
  intro sz
  refine vx_ofW (cc := cX0_minusDays) (maxL := 3) (ret := (some .int)) (by decide) rfl ?_
  intro p e s m args below meth c s₁ B hml hEx hv
  obtain ⟨rfl, rfl, hGx, hP⟩ := hv
  have hx := B.exec
  have hb := B.bytes
  have hr := B.returns
  have hts := atoms_spec (ws := wsX0_minusDays) B.pre
  have hown : s.vm.findClass RX0 = some m.cls := findClass_of_methodNamed B.named
  have hlocks := B.notSynchronized
  have htg : ∀ w ∈ GL, w.before _ s = true := fun w h => hts w (List.mem_cons_of_mem _ h)
  have hC : CallFix p m c cX0_minusDays 3 s _ wsX0_minusDays RX0 := ⟨hx, hb, hml, hown, hts⟩
  have hS : va_S (cA a s.heap.size) s.heap s.heap [] := va_S.rf
  have hl := lv_entry ([.ref a.1, .int p0, .int p1]) (n := 3) (Nat.le_of_ble_eq_true rfl)
  rw [lg_entry_eq]
  generalize (lg_sl ([.ref a.1, .int p0, .int p1]) ++ List.replicate (3 - (lg_sl ([.ref a.1, .int p0, .int p1])).length) Slot.unset).toArray = ls at hl ⊢
  have hl : lv_has ls 3 [(0, .ref a.1), (1, .int p0), (2, .int p1)] := hl
  have hm : m_X0_minusDays p0 p1 z = m_X0_minusDays p0 p1 z := rfl
  refine lv_aload_n hx hb dX0_minusDays_0 rfl (lv_at hl 0 rfl) ?_
  refine lv_iload_n hx hb dX0_minusDays_1 rfl (lv_at hl 1 rfl) ?_
  refine lv_iconst (v := 0) hx hb dX0_minusDays_2 (by decide) ?_
  refine lv_iload_n hx hb dX0_minusDays_3 rfl (lv_at hl 2 rfl) ?_
  refine lv_ineg hx hb dX0_minusDays_4 ?_
  refine cc_V hC hGx hD hEx hlocks (c_X0_move l hl9 k a hD p0 (0 : Int32) (-p1) z) (gV w_749 w_750 w_15 w_26 w_751) kk_X0_move rfl ⟨Nat.le_of_ble_eq_true rfl, Nat.le_of_ble_eq_true rfl⟩ ⟨Nat.le_of_ble_eq_true rfl, Nat.le_of_ble_eq_true rfl⟩ ⟨Nat.le_of_ble_eq_true rfl, Nat.le_of_ble_eq_true rfl⟩ hP hS hl.1 rfl rfl (Nat.le_of_ble_eq_true rfl) dX0_minusDays_5 (fun h_1 => ?_) (fun h_1 H locs hP hS => ?_)
  · have hm : m_X0_minusDays p0 p1 z = ((m_X0_move p0 (0 : Int32) (-p1) z).1, 0, (m_X0_move p0 (0 : Int32) (-p1) z).2.2) := hm.trans (if_neg h_1)
    exact ⟨by rw [hm], by rw [hm]⟩
  · have hm := hm.trans (if_pos h_1)
    have hm : m_X0_minusDays p0 p1 z = (0, (m_X0_move p0 (0 : Int32) (-p1) z).2.1, (m_X0_move p0 (0 : Int32) (-p1) z).2.2) := hm
    exact c_iret (E := (m_X0_move p0 (0 : Int32) (-p1) z).2.1) hx hb hr hlocks (by rw [hm]) (by rw [hm]) (by rw [hm]) hP hS ⟨Nat.le_of_ble_eq_true rfl, Nat.le_of_ble_eq_true rfl⟩ dX0_minusDays_8
def m_X0_minusWeeks (p0 : Int32) (p1 : Int32) (z : CS) : Nat × Int32 × CS := (if (m_X0_move p0 (1 : Int32) (-p1) z).1 = 0 then (0, (m_X0_move p0 (1 : Int32) (-p1) z).2.1, (m_X0_move p0 (1 : Int32) (-p1) z).2.2) else ((m_X0_move p0 (1 : Int32) (-p1) z).1, 0, (m_X0_move p0 (1 : Int32) (-p1) z).2.2))
theorem kk_X0_minusWeeks : pK yX0_minusWeeks wsX0_minusWeeks cX0_minusWeeks 3 (some .int) 2 := ⟨⟨_, rfl⟩, by decide +kernel, by decide +kernel, by decide +kernel⟩
set_option maxRecDepth 100000 in
set_option maxHeartbeats 4000000 in
theorem c_X0_minusWeeks (l : Launch) (hl9 : l.stackTraces = false) (k : Kx) (a : CA) (hD : cD k a) (p0 : Int32) (p1 : Int32) (z : CS) : cM l k a yX0_minusWeeks wsX0_minusWeeks 10 211 4 24 [.int p0, .int p1] z (some (.int (m_X0_minusWeeks p0 p1 z).2.1)) (m_X0_minusWeeks p0 p1 z).1 (m_X0_minusWeeks p0 p1 z).2.2 := by
  intro sz
  refine vx_ofW (cc := cX0_minusWeeks) (maxL := 3) (ret := (some .int)) (by decide) rfl ?_
  intro p e s m args below meth c s₁ B hml hEx hv
  obtain ⟨rfl, rfl, hGx, hP⟩ := hv
  have hx := B.exec
  have hb := B.bytes
  have hr := B.returns
  have hts := atoms_spec (ws := wsX0_minusWeeks) B.pre
  have hown : s.vm.findClass RX0 = some m.cls := findClass_of_methodNamed B.named
  have hlocks := B.notSynchronized
  have htg : ∀ w ∈ GL, w.before _ s = true := fun w h => hts w (List.mem_cons_of_mem _ h)
  have hC : CallFix p m c cX0_minusWeeks 3 s _ wsX0_minusWeeks RX0 := ⟨hx, hb, hml, hown, hts⟩
  have hS : va_S (cA a s.heap.size) s.heap s.heap [] := va_S.rf
  have hl := lv_entry ([.ref a.1, .int p0, .int p1]) (n := 3) (Nat.le_of_ble_eq_true rfl)
  rw [lg_entry_eq]
  generalize (lg_sl ([.ref a.1, .int p0, .int p1]) ++ List.replicate (3 - (lg_sl ([.ref a.1, .int p0, .int p1])).length) Slot.unset).toArray = ls at hl ⊢
  have hl : lv_has ls 3 [(0, .ref a.1), (1, .int p0), (2, .int p1)] := hl
  have hm : m_X0_minusWeeks p0 p1 z = m_X0_minusWeeks p0 p1 z := rfl
  refine lv_aload_n hx hb dX0_minusWeeks_0 rfl (lv_at hl 0 rfl) ?_
  refine lv_iload_n hx hb dX0_minusWeeks_1 rfl (lv_at hl 1 rfl) ?_
  refine lv_iconst (v := 1) hx hb dX0_minusWeeks_2 (by decide) ?_
  refine lv_iload_n hx hb dX0_minusWeeks_3 rfl (lv_at hl 2 rfl) ?_
  refine lv_ineg hx hb dX0_minusWeeks_4 ?_
  refine cc_V hC hGx hD hEx hlocks (c_X0_move l hl9 k a hD p0 (1 : Int32) (-p1) z) (gV w_749 w_750 w_15 w_26 w_751) kk_X0_move rfl ⟨Nat.le_of_ble_eq_true rfl, Nat.le_of_ble_eq_true rfl⟩ ⟨Nat.le_of_ble_eq_true rfl, Nat.le_of_ble_eq_true rfl⟩ ⟨Nat.le_of_ble_eq_true rfl, Nat.le_of_ble_eq_true rfl⟩ hP hS hl.1 rfl rfl (Nat.le_of_ble_eq_true rfl) dX0_minusWeeks_5 (fun h_1 => ?_) (fun h_1 H locs hP hS => ?_)
  · have hm : m_X0_minusWeeks p0 p1 z = ((m_X0_move p0 (1 : Int32) (-p1) z).1, 0, (m_X0_move p0 (1 : Int32) (-p1) z).2.2) := hm.trans (if_neg h_1)
    exact ⟨by rw [hm], by rw [hm]⟩
  · have hm := hm.trans (if_pos h_1)
    have hm : m_X0_minusWeeks p0 p1 z = (0, (m_X0_move p0 (1 : Int32) (-p1) z).2.1, (m_X0_move p0 (1 : Int32) (-p1) z).2.2) := hm
    exact c_iret (E := (m_X0_move p0 (1 : Int32) (-p1) z).2.1) hx hb hr hlocks (by rw [hm]) (by rw [hm]) (by rw [hm]) hP hS ⟨Nat.le_of_ble_eq_true rfl, Nat.le_of_ble_eq_true rfl⟩ dX0_minusWeeks_8
def m_X0_minusMonths (p0 : Int32) (p1 : Int32) (z : CS) : Nat × Int32 × CS := (if (m_X0_move p0 (2 : Int32) (-p1) z).1 = 0 then (0, (m_X0_move p0 (2 : Int32) (-p1) z).2.1, (m_X0_move p0 (2 : Int32) (-p1) z).2.2) else ((m_X0_move p0 (2 : Int32) (-p1) z).1, 0, (m_X0_move p0 (2 : Int32) (-p1) z).2.2))
theorem kk_X0_minusMonths : pK yX0_minusMonths wsX0_minusMonths cX0_minusMonths 3 (some .int) 2 := ⟨⟨_, rfl⟩, by decide +kernel, by decide +kernel, by decide +kernel⟩
set_option maxRecDepth 100000 in
set_option maxHeartbeats 4000000 in
theorem c_X0_minusMonths (l : Launch) (hl9 : l.stackTraces = false) (k : Kx) (a : CA) (hD : cD k a) (p0 : Int32) (p1 : Int32) (z : CS) : cM l k a yX0_minusMonths wsX0_minusMonths 10 211 4 24 [.int p0, .int p1] z (some (.int (m_X0_minusMonths p0 p1 z).2.1)) (m_X0_minusMonths p0 p1 z).1 (m_X0_minusMonths p0 p1 z).2.2 := by
  intro sz
  refine vx_ofW (cc := cX0_minusMonths) (maxL := 3) (ret := (some .int)) (by decide) rfl ?_
  intro p e s m args below meth c s₁ B hml hEx hv
  obtain ⟨rfl, rfl, hGx, hP⟩ := hv
  have hx := B.exec
  have hb := B.bytes
  have hr := B.returns
  have hts := atoms_spec (ws := wsX0_minusMonths) B.pre
  have hown : s.vm.findClass RX0 = some m.cls := findClass_of_methodNamed B.named
  have hlocks := B.notSynchronized
  have htg : ∀ w ∈ GL, w.before _ s = true := fun w h => hts w (List.mem_cons_of_mem _ h)
  have hC : CallFix p m c cX0_minusMonths 3 s _ wsX0_minusMonths RX0 := ⟨hx, hb, hml, hown, hts⟩
  have hS : va_S (cA a s.heap.size) s.heap s.heap [] := va_S.rf
  have hl := lv_entry ([.ref a.1, .int p0, .int p1]) (n := 3) (Nat.le_of_ble_eq_true rfl)
  rw [lg_entry_eq]
  generalize (lg_sl ([.ref a.1, .int p0, .int p1]) ++ List.replicate (3 - (lg_sl ([.ref a.1, .int p0, .int p1])).length) Slot.unset).toArray = ls at hl ⊢
  have hl : lv_has ls 3 [(0, .ref a.1), (1, .int p0), (2, .int p1)] := hl
  have hm : m_X0_minusMonths p0 p1 z = m_X0_minusMonths p0 p1 z := rfl
  refine lv_aload_n hx hb dX0_minusMonths_0 rfl (lv_at hl 0 rfl) ?_
  refine lv_iload_n hx hb dX0_minusMonths_1 rfl (lv_at hl 1 rfl) ?_
  refine lv_iconst (v := 2) hx hb dX0_minusMonths_2 (by decide) ?_
  refine lv_iload_n hx hb dX0_minusMonths_3 rfl (lv_at hl 2 rfl) ?_
  refine lv_ineg hx hb dX0_minusMonths_4 ?_
  refine cc_V hC hGx hD hEx hlocks (c_X0_move l hl9 k a hD p0 (2 : Int32) (-p1) z) (gV w_749 w_750 w_15 w_26 w_751) kk_X0_move rfl ⟨Nat.le_of_ble_eq_true rfl, Nat.le_of_ble_eq_true rfl⟩ ⟨Nat.le_of_ble_eq_true rfl, Nat.le_of_ble_eq_true rfl⟩ ⟨Nat.le_of_ble_eq_true rfl, Nat.le_of_ble_eq_true rfl⟩ hP hS hl.1 rfl rfl (Nat.le_of_ble_eq_true rfl) dX0_minusMonths_5 (fun h_1 => ?_) (fun h_1 H locs hP hS => ?_)
  · have hm : m_X0_minusMonths p0 p1 z = ((m_X0_move p0 (2 : Int32) (-p1) z).1, 0, (m_X0_move p0 (2 : Int32) (-p1) z).2.2) := hm.trans (if_neg h_1)
    exact ⟨by rw [hm], by rw [hm]⟩
  · have hm := hm.trans (if_pos h_1)
    have hm : m_X0_minusMonths p0 p1 z = (0, (m_X0_move p0 (2 : Int32) (-p1) z).2.1, (m_X0_move p0 (2 : Int32) (-p1) z).2.2) := hm
    exact c_iret (E := (m_X0_move p0 (2 : Int32) (-p1) z).2.1) hx hb hr hlocks (by rw [hm]) (by rw [hm]) (by rw [hm]) hP hS ⟨Nat.le_of_ble_eq_true rfl, Nat.le_of_ble_eq_true rfl⟩ dX0_minusMonths_8
def m_X0_minusYears (p0 : Int32) (p1 : Int32) (z : CS) : Nat × Int32 × CS := (if (m_X0_move p0 (3 : Int32) (-p1) z).1 = 0 then (0, (m_X0_move p0 (3 : Int32) (-p1) z).2.1, (m_X0_move p0 (3 : Int32) (-p1) z).2.2) else ((m_X0_move p0 (3 : Int32) (-p1) z).1, 0, (m_X0_move p0 (3 : Int32) (-p1) z).2.2))
theorem kk_X0_minusYears : pK yX0_minusYears wsX0_minusYears cX0_minusYears 3 (some .int) 2 := ⟨⟨_, rfl⟩, by decide +kernel, by decide +kernel, by decide +kernel⟩
set_option maxRecDepth 100000 in
set_option maxHeartbeats 4000000 in
theorem c_X0_minusYears (l : Launch) (hl9 : l.stackTraces = false) (k : Kx) (a : CA) (hD : cD k a) (p0 : Int32) (p1 : Int32) (z : CS) : cM l k a yX0_minusYears wsX0_minusYears 10 211 4 24 [.int p0, .int p1] z (some (.int (m_X0_minusYears p0 p1 z).2.1)) (m_X0_minusYears p0 p1 z).1 (m_X0_minusYears p0 p1 z).2.2 := by
  intro sz
  refine vx_ofW (cc := cX0_minusYears) (maxL := 3) (ret := (some .int)) (by decide) rfl ?_
  intro p e s m args below meth c s₁ B hml hEx hv
  obtain ⟨rfl, rfl, hGx, hP⟩ := hv
  have hx := B.exec
  have hb := B.bytes
  have hr := B.returns
  have hts := atoms_spec (ws := wsX0_minusYears) B.pre
  have hown : s.vm.findClass RX0 = some m.cls := findClass_of_methodNamed B.named
  have hlocks := B.notSynchronized
  have htg : ∀ w ∈ GL, w.before _ s = true := fun w h => hts w (List.mem_cons_of_mem _ h)
  have hC : CallFix p m c cX0_minusYears 3 s _ wsX0_minusYears RX0 := ⟨hx, hb, hml, hown, hts⟩
  have hS : va_S (cA a s.heap.size) s.heap s.heap [] := va_S.rf
  have hl := lv_entry ([.ref a.1, .int p0, .int p1]) (n := 3) (Nat.le_of_ble_eq_true rfl)
  rw [lg_entry_eq]
  generalize (lg_sl ([.ref a.1, .int p0, .int p1]) ++ List.replicate (3 - (lg_sl ([.ref a.1, .int p0, .int p1])).length) Slot.unset).toArray = ls at hl ⊢
  have hl : lv_has ls 3 [(0, .ref a.1), (1, .int p0), (2, .int p1)] := hl
  have hm : m_X0_minusYears p0 p1 z = m_X0_minusYears p0 p1 z := rfl
  refine lv_aload_n hx hb dX0_minusYears_0 rfl (lv_at hl 0 rfl) ?_
  refine lv_iload_n hx hb dX0_minusYears_1 rfl (lv_at hl 1 rfl) ?_
  refine lv_iconst (v := 3) hx hb dX0_minusYears_2 (by decide) ?_
  refine lv_iload_n hx hb dX0_minusYears_3 rfl (lv_at hl 2 rfl) ?_
  refine lv_ineg hx hb dX0_minusYears_4 ?_
  refine cc_V hC hGx hD hEx hlocks (c_X0_move l hl9 k a hD p0 (3 : Int32) (-p1) z) (gV w_749 w_750 w_15 w_26 w_751) kk_X0_move rfl ⟨Nat.le_of_ble_eq_true rfl, Nat.le_of_ble_eq_true rfl⟩ ⟨Nat.le_of_ble_eq_true rfl, Nat.le_of_ble_eq_true rfl⟩ ⟨Nat.le_of_ble_eq_true rfl, Nat.le_of_ble_eq_true rfl⟩ hP hS hl.1 rfl rfl (Nat.le_of_ble_eq_true rfl) dX0_minusYears_5 (fun h_1 => ?_) (fun h_1 H locs hP hS => ?_)
  · have hm : m_X0_minusYears p0 p1 z = ((m_X0_move p0 (3 : Int32) (-p1) z).1, 0, (m_X0_move p0 (3 : Int32) (-p1) z).2.2) := hm.trans (if_neg h_1)
    exact ⟨by rw [hm], by rw [hm]⟩
  · have hm := hm.trans (if_pos h_1)
    have hm : m_X0_minusYears p0 p1 z = (0, (m_X0_move p0 (3 : Int32) (-p1) z).2.1, (m_X0_move p0 (3 : Int32) (-p1) z).2.2) := hm
    exact c_iret (E := (m_X0_move p0 (3 : Int32) (-p1) z).2.1) hx hb hr hlocks (by rw [hm]) (by rw [hm]) (by rw [hm]) hP hS ⟨Nat.le_of_ble_eq_true rfl, Nat.le_of_ble_eq_true rfl⟩ dX0_minusYears_8
def m_X0_span (p0 : Int32) (p1 : Int32) (p2 : Int32) (p3 : Int32) (z : CS) : Nat × Int32 × CS := (if m_X0_requireSpan p0 = 0 then (if m_X0_requireWithin p1 (-100000 : Int32) (100000 : Int32) = 0 then (if m_X0_requireWithin p2 (-100000 : Int32) (100000 : Int32) = 0 then (if m_X0_requireWithin p3 (-100000 : Int32) (100000 : Int32) = 0 then (if (m_X0_giveSpan p0 p1 p2 p3 z).1 = 0 then (if (m_X0_monthsOfSpan p0 ((m_X0_giveSpan p0 p1 p2 p3 z).2)).1 = 0 then (0, (m_X0_monthsOfSpan p0 ((m_X0_giveSpan p0 p1 p2 p3 z).2)).2, (m_X0_giveSpan p0 p1 p2 p3 z).2) else ((m_X0_monthsOfSpan p0 ((m_X0_giveSpan p0 p1 p2 p3 z).2)).1, 0, (m_X0_giveSpan p0 p1 p2 p3 z).2)) else ((m_X0_giveSpan p0 p1 p2 p3 z).1, 0, (m_X0_giveSpan p0 p1 p2 p3 z).2)) else ((m_X0_requireWithin p3 (-100000 : Int32) (100000 : Int32)), 0, z)) else ((m_X0_requireWithin p2 (-100000 : Int32) (100000 : Int32)), 0, z)) else ((m_X0_requireWithin p1 (-100000 : Int32) (100000 : Int32)), 0, z)) else ((m_X0_requireSpan p0), 0, z))
theorem kk_X0_span : pK yX0_span wsX0_span cX0_span 5 (some .int) 4 := ⟨⟨_, rfl⟩, by decide +kernel, by decide +kernel, by decide +kernel⟩
set_option maxRecDepth 100000 in
set_option maxHeartbeats 4000000 in
theorem c_X0_span (l : Launch) (hl9 : l.stackTraces = false) (k : Kx) (a : CA) (hD : cD k a) (p0 : Int32) (p1 : Int32) (p2 : Int32) (p3 : Int32) (z : CS) : cM l k a yX0_span wsX0_span 9 188 6 36 [.int p0, .int p1, .int p2, .int p3] z (some (.int (m_X0_span p0 p1 p2 p3 z).2.1)) (m_X0_span p0 p1 p2 p3 z).1 (m_X0_span p0 p1 p2 p3 z).2.2 := by
  intro sz
  refine vx_ofW (cc := cX0_span) (maxL := 5) (ret := (some .int)) (by decide) rfl ?_
  intro p e s m args below meth c s₁ B hml hEx hv
  obtain ⟨rfl, rfl, hGx, hP⟩ := hv
  have hx := B.exec
  have hb := B.bytes
  have hr := B.returns
  have hts := atoms_spec (ws := wsX0_span) B.pre
  have hown : s.vm.findClass RX0 = some m.cls := findClass_of_methodNamed B.named
  have hlocks := B.notSynchronized
  have htg : ∀ w ∈ GL, w.before _ s = true := fun w h => hts w (List.mem_cons_of_mem _ h)
  have hC : CallFix p m c cX0_span 5 s _ wsX0_span RX0 := ⟨hx, hb, hml, hown, hts⟩
  have hS : va_S (cA a s.heap.size) s.heap s.heap [] := va_S.rf
  have hl := lv_entry ([.ref a.1, .int p0, .int p1, .int p2, .int p3]) (n := 5) (Nat.le_of_ble_eq_true rfl)
  rw [lg_entry_eq]
  generalize (lg_sl ([.ref a.1, .int p0, .int p1, .int p2, .int p3]) ++ List.replicate (5 - (lg_sl ([.ref a.1, .int p0, .int p1, .int p2, .int p3])).length) Slot.unset).toArray = ls at hl ⊢
  have hl : lv_has ls 5 [(0, .ref a.1), (1, .int p0), (2, .int p1), (3, .int p2), (4, .int p3)] := hl
  have hm : m_X0_span p0 p1 p2 p3 z = m_X0_span p0 p1 p2 p3 z := rfl
  refine lv_iload_n hx hb dX0_span_0 rfl (lv_at hl 1 rfl) ?_
  refine ct_S hC hGx hD hEx hlocks (t_X0_requireSpan l hl9 k p0) (gS w_85 w_86 w_26 w_87) kk_X0_requireSpan ⟨Nat.le_of_ble_eq_true rfl, Nat.le_of_ble_eq_true rfl⟩ ⟨Nat.le_of_ble_eq_true rfl, Nat.le_of_ble_eq_true rfl⟩ ⟨Nat.le_of_ble_eq_true rfl, Nat.le_of_ble_eq_true rfl⟩ hP hS hl.1 rfl rfl (Nat.le_of_ble_eq_true rfl) dX0_span_1 (fun h_1 => by have hm : m_X0_span p0 p1 p2 p3 z = ((m_X0_requireSpan p0), 0, z) := hm.trans (if_neg h_1); exact ⟨by rw [hm], by rw [hm]⟩) (fun h_1 => ?_)
  have hm := hm.trans (if_pos h_1)
  refine lv_iload_n hx hb dX0_span_4 rfl (lv_at hl 2 rfl) ?_
  refine lv_ldc hx hb hown (htg _ w_820) dX0_span_5 ?_
  refine lv_ldc hx hb hown (htg _ w_821) dX0_span_7 ?_
  refine ct_S hC hGx hD hEx hlocks (t_X0_requireWithin l hl9 k p1 (-100000 : Int32) (100000 : Int32)) (gS w_295 w_296 w_26 w_297) kk_X0_requireWithin ⟨Nat.le_of_ble_eq_true rfl, Nat.le_of_ble_eq_true rfl⟩ ⟨Nat.le_of_ble_eq_true rfl, Nat.le_of_ble_eq_true rfl⟩ ⟨Nat.le_of_ble_eq_true rfl, Nat.le_of_ble_eq_true rfl⟩ hP hS hl.1 rfl rfl (Nat.le_of_ble_eq_true rfl) dX0_span_9 (fun h_2 => by have hm : m_X0_span p0 p1 p2 p3 z = ((m_X0_requireWithin p1 (-100000 : Int32) (100000 : Int32)), 0, z) := hm.trans (if_neg h_2); exact ⟨by rw [hm], by rw [hm]⟩) (fun h_2 => ?_)
  have hm := hm.trans (if_pos h_2)
  refine lv_iload_n hx hb dX0_span_12 rfl (lv_at hl 3 rfl) ?_
  refine lv_ldc hx hb hown (htg _ w_820) dX0_span_13 ?_
  refine lv_ldc hx hb hown (htg _ w_821) dX0_span_15 ?_
  refine ct_S hC hGx hD hEx hlocks (t_X0_requireWithin l hl9 k p2 (-100000 : Int32) (100000 : Int32)) (gS w_295 w_296 w_26 w_297) kk_X0_requireWithin ⟨Nat.le_of_ble_eq_true rfl, Nat.le_of_ble_eq_true rfl⟩ ⟨Nat.le_of_ble_eq_true rfl, Nat.le_of_ble_eq_true rfl⟩ ⟨Nat.le_of_ble_eq_true rfl, Nat.le_of_ble_eq_true rfl⟩ hP hS hl.1 rfl rfl (Nat.le_of_ble_eq_true rfl) dX0_span_17 (fun h_3 => by have hm : m_X0_span p0 p1 p2 p3 z = ((m_X0_requireWithin p2 (-100000 : Int32) (100000 : Int32)), 0, z) := hm.trans (if_neg h_3); exact ⟨by rw [hm], by rw [hm]⟩) (fun h_3 => ?_)
  have hm := hm.trans (if_pos h_3)
  refine lv_iload hx hb dX0_span_20 (lv_at hl 4 rfl) ?_
  refine lv_ldc hx hb hown (htg _ w_820) dX0_span_22 ?_
  refine lv_ldc hx hb hown (htg _ w_821) dX0_span_24 ?_
  refine ct_S hC hGx hD hEx hlocks (t_X0_requireWithin l hl9 k p3 (-100000 : Int32) (100000 : Int32)) (gS w_295 w_296 w_26 w_297) kk_X0_requireWithin ⟨Nat.le_of_ble_eq_true rfl, Nat.le_of_ble_eq_true rfl⟩ ⟨Nat.le_of_ble_eq_true rfl, Nat.le_of_ble_eq_true rfl⟩ ⟨Nat.le_of_ble_eq_true rfl, Nat.le_of_ble_eq_true rfl⟩ hP hS hl.1 rfl rfl (Nat.le_of_ble_eq_true rfl) dX0_span_26 (fun h_4 => by have hm : m_X0_span p0 p1 p2 p3 z = ((m_X0_requireWithin p3 (-100000 : Int32) (100000 : Int32)), 0, z) := hm.trans (if_neg h_4); exact ⟨by rw [hm], by rw [hm]⟩) (fun h_4 => ?_)
  have hm := hm.trans (if_pos h_4)
  refine lv_aload_n hx hb dX0_span_29 rfl (lv_at hl 0 rfl) ?_
  refine lv_iload_n hx hb dX0_span_30 rfl (lv_at hl 1 rfl) ?_
  refine lv_iload_n hx hb dX0_span_31 rfl (lv_at hl 2 rfl) ?_
  refine lv_iload_n hx hb dX0_span_32 rfl (lv_at hl 3 rfl) ?_
  refine lv_iload hx hb dX0_span_33 (lv_at hl 4 rfl) ?_
  refine cc_V hC hGx hD hEx hlocks (c_X0_giveSpan l hl9 k a hD p0 p1 p2 p3 z) (gV w_822 w_823 w_16 w_26 w_824) kk_X0_giveSpan rfl ⟨Nat.le_of_ble_eq_true rfl, Nat.le_of_ble_eq_true rfl⟩ ⟨Nat.le_of_ble_eq_true rfl, Nat.le_of_ble_eq_true rfl⟩ ⟨Nat.le_of_ble_eq_true rfl, Nat.le_of_ble_eq_true rfl⟩ hP hS hl.1 rfl rfl (Nat.le_of_ble_eq_true rfl) dX0_span_35 (fun h_5 => ?_) (fun h_5 H locs hP hS => ?_)
  · have hm : m_X0_span p0 p1 p2 p3 z = ((m_X0_giveSpan p0 p1 p2 p3 z).1, 0, (m_X0_giveSpan p0 p1 p2 p3 z).2) := hm.trans (if_neg h_5)
    exact ⟨by rw [hm], by rw [hm]⟩
  · have hm := hm.trans (if_pos h_5)
    refine lv_aload_n hx hb dX0_span_38 rfl (lv_at hl 0 rfl) ?_
    refine lv_iload_n hx hb dX0_span_39 rfl (lv_at hl 1 rfl) ?_
    refine cc_V hC hGx hD hEx hlocks (c_X0_monthsOfSpan l hl9 k a hD p0 ((m_X0_giveSpan p0 p1 p2 p3 z).2)) (gV w_825 w_826 w_17 w_26 w_827) kk_X0_monthsOfSpan rfl ⟨Nat.le_of_ble_eq_true rfl, Nat.le_of_ble_eq_true rfl⟩ ⟨Nat.le_of_ble_eq_true rfl, Nat.le_of_ble_eq_true rfl⟩ ⟨Nat.le_of_ble_eq_true rfl, Nat.le_of_ble_eq_true rfl⟩ hP hS hl.1 rfl rfl (Nat.le_of_ble_eq_true rfl) dX0_span_40 (fun h_6 => ?_) (fun h_6 H locs hP hS => ?_)
    · have hm : m_X0_span p0 p1 p2 p3 z = ((m_X0_monthsOfSpan p0 ((m_X0_giveSpan p0 p1 p2 p3 z).2)).1, 0, (m_X0_giveSpan p0 p1 p2 p3 z).2) := hm.trans (if_neg h_6)
      exact ⟨by rw [hm], by rw [hm]⟩
    · have hm := hm.trans (if_pos h_6)
      have hm : m_X0_span p0 p1 p2 p3 z = (0, (m_X0_monthsOfSpan p0 ((m_X0_giveSpan p0 p1 p2 p3 z).2)).2, (m_X0_giveSpan p0 p1 p2 p3 z).2) := hm
      exact c_iret (E := (m_X0_monthsOfSpan p0 ((m_X0_giveSpan p0 p1 p2 p3 z).2)).2) hx hb hr hlocks (by rw [hm]) (by rw [hm]) (by rw [hm]) hP hS ⟨Nat.le_of_ble_eq_true rfl, Nat.le_of_ble_eq_true rfl⟩ dX0_span_43
