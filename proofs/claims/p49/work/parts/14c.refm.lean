def o_X3_laterDayOfWeek (p0 : Int32) (p1 : Int32) (z : MS) : Option (Int32 × MS) := (if m_X3_isIn p1.toInt64 (-200000 : Int64) (200000 : Int64) = 0 then ((o_X3_fails (m_X3_isNo p0) (1 : Int32) (0 : Int32) z).bind fun x_4 => (if x_4.1 = 0 then (if p0 < 0 ∨ 6 ≤ p0.toNatClampNeg then none else ((o_X2_number (x_4.2.2.1 p0.toNatClampNeg)).bind fun x_6 => some (m_X3_weekDay (x_6.toInt64 + p1.toInt64), x_4.2))) else some ((0 : Int32), x_4.2))) else ((o_X3_fails (m_X3_isNo p0) (0 : Int32) (0 : Int32) z).bind fun x_1 => (if x_1.1 = 0 then (if p0 < 0 ∨ 6 ≤ p0.toNatClampNeg then none else ((o_X2_number (x_1.2.2.1 p0.toNatClampNeg)).bind fun x_3 => some (m_X3_weekDay (x_3.toInt64 + p1.toInt64), x_1.2))) else some ((0 : Int32), x_1.2))))
theorem kk_X3_laterDayOfWeek : pK yX3_laterDayOfWeek wsX3_laterDayOfWeek cX3_laterDayOfWeek 3 (some .int) 2 := ⟨⟨_, rfl⟩, by decide +kernel, by decide +kernel, by decide +kernel⟩
set_option maxRecDepth 100000 in
set_option maxHeartbeats 4000000 in
theorem k_X3_laterDayOfWeek (l : Launch) (k : Kx) (b : CA) (L : List Nat) (hD : mD k b L) (p0 : Int32) (p1 : Int32) (z : MS) {r : (Int32 × MS)} (hm : o_X3_laterDayOfWeek p0 p1 z = some r) : mM l k b L yX3_laterDayOfWeek wsX3_laterDayOfWeek 4 86 0 0 [.int p0, .int p1] [] z (some (.int r.1)) r.2 := by
  intro sz q
  refine Met.ofW (cc := cX3_laterDayOfWeek) (maxL := 3) (ret := (some .int)) (by decide) rfl ?_
  intro p e s m args below meth c s₁ B hml hv
  obtain ⟨rfl, rfl, hGx, hV, hLb, hds⟩ := hv
  have hx := B.exec
  have hb := B.bytes
  have hr := B.returns
  have hts := atoms_spec (ws := wsX3_laterDayOfWeek) B.pre
  have hown : s.vm.findClass RX3 = some m.cls := findClass_of_methodNamed B.named
  have hlocks := B.notSynchronized
  have htg : ∀ w ∈ GL, w.before _ s = true := fun w h => hts w (List.mem_cons_of_mem _ h)
  have hC : CallFix p m c cX3_laterDayOfWeek 3 s _ wsX3_laterDayOfWeek RX3 := ⟨hx, hb, hml, hown, hts⟩
  have hA : ∀ q, s.heap.size ≤ q → cA b s.heap.size q := fun q h => cA.new q h
  have hAB : ∀ q, cA b s.heap.size q → kB k ≤ q := hD.high hGx.2.1
  have hS : mS b s.heap s.heap [] := mS.rf
  have hl := lv_entry ([.ref b.1, .int p0, .int p1]) (n := 3) (Nat.le_of_ble_eq_true rfl)
  rw [lg_entry_eq]
  generalize (lg_sl ([.ref b.1, .int p0, .int p1]) ++ List.replicate (3 - (lg_sl ([.ref b.1, .int p0, .int p1])).length) Slot.unset).toArray = ls at hl ⊢
  have hl : lv_has ls 3 [(0, .ref b.1), (1, .int p0), (2, .int p1)] := hl
  refine lv_aload_n hx hb dX3_laterDayOfWeek_0 rfl (lv_at hl 0 rfl) ?_
  refine lv_iload_n hx hb dX3_laterDayOfWeek_1 rfl (lv_at hl 1 rfl) ?_
  refine pc_S hC (c_X3_isNo l p0) (gS w_1045 w_1046 w_27 w_1047) kk_X3_isNo ⟨Nat.le_of_ble_eq_true rfl, Nat.le_of_ble_eq_true rfl⟩ ⟨Nat.le_of_ble_eq_true rfl, Nat.le_of_ble_eq_true rfl⟩ hl.1 rfl rfl (Nat.le_of_ble_eq_true rfl) dX3_laterDayOfWeek_2 ?_
  refine lv_iload_n hx hb dX3_laterDayOfWeek_5 rfl (lv_at hl 2 rfl) ?_
  refine lv_i2l hx hb dX3_laterDayOfWeek_6 rfl ?_
  refine lv_ldc2 hx hb hown (htg _ w_1147) dX3_laterDayOfWeek_7 ?_
  refine lv_ldc2 hx hb hown (htg _ w_1148) dX3_laterDayOfWeek_10 ?_
  refine pc_S hC (c_X3_isIn l p1.toInt64 (-200000 : Int64) (200000 : Int64)) (gS w_1040 w_1041 w_27 w_1042) kk_X3_isIn ⟨Nat.le_of_ble_eq_true rfl, Nat.le_of_ble_eq_true rfl⟩ ⟨Nat.le_of_ble_eq_true rfl, Nat.le_of_ble_eq_true rfl⟩ hl.1 rfl rfl (Nat.le_of_ble_eq_true rfl) dX3_laterDayOfWeek_13 ?_
  refine lv_if_ne (tgt := 23) hx hb dX3_laterDayOfWeek_16 (by decide) (fun h_1 => ?_) (fun h_1 => ?_)
  · have hm := (if_neg h_1).symm.trans hm
    refine lv_iconst (v := 0) hx hb dX3_laterDayOfWeek_23 (by decide) ?_
    refine lv_iconst (v := 0) hx hb dX3_laterDayOfWeek_24 (by decide) ?_
    obtain ⟨x_1, hx_1, hm⟩ := Option.bind_eq_some_iff.mp hm
    refine mc_V hC hGx hD (k_X3_fails l k b L hD (m_X3_isNo p0) (0 : Int32) (0 : Int32)  z hx_1) (gV w_1056 w_1057 w_18 w_27 w_1058) kk_X3_fails rfl (List.forall_mem_nil _) hLb ⟨Nat.le_of_ble_eq_true rfl, Nat.le_of_ble_eq_true rfl⟩ ⟨Nat.le_of_ble_eq_true rfl, Nat.le_of_ble_eq_true rfl⟩ hV hS hl.1 rfl rfl (Nat.le_of_ble_eq_true rfl) dX3_laterDayOfWeek_25 (fun q_1 H locs hV hS hz hq => ?_)
    refine lv_if_eq (tgt := 35) hx hb dX3_laterDayOfWeek_28 (by decide) (fun h_2 => ?_) (fun h_2 => ?_)
    · have hm := (if_pos h_2).symm.trans hm
      refine lv_aload_n hx hb dX3_laterDayOfWeek_35 rfl (lv_at hl 0 rfl) ?_
      refine va_get (D := kD k) (ci := 5) (v := .ref b.2.1) (C := RX3) (T := TX3) (N := 5) hx hb htg inG_X3 hown hGx.1 hV.1 0 rfl rfl 1 (by decide) (htg _ w_1012) (fun _ h9 => h9) rfl dX3_laterDayOfWeek_36 ?_
      refine lv_iload_n hx hb dX3_laterDayOfWeek_39 rfl (lv_at hl 1 rfl) ?_
      by_cases h_3 : p0 < 0 ∨ 6 ≤ p0.toNatClampNeg
      · have hm := (if_pos h_3).symm.trans hm
        cases hm
      have hm := (if_neg h_3).symm.trans hm
      refine m_ald hx hb hGx hV h_3 dX3_laterDayOfWeek_40 (fun hP_2 => ?_)
      obtain ⟨x_3, hx_3, hm⟩ := Option.bind_eq_some_iff.mp hm
      have hs_3 := hS.1.1
      have hLn_3 := m_hLn hLb hS
      have hL9 := hS.2
      refine qc_V hC hGx (k_X2_number l k (x_1.2.2.1 p0.toNatClampNeg) (q_1 p0.toNatClampNeg) hx_3) (gV w_1062 w_1063 w_1064 w_28 w_1065) kk_X2_number rfl hP_2.1 (List.forall_mem_cons.mpr ⟨hP_2.1, (List.forall_mem_nil _)⟩) ⟨Nat.le_of_ble_eq_true rfl, Nat.le_of_ble_eq_true rfl⟩ ⟨Nat.le_of_ble_eq_true rfl, Nat.le_of_ble_eq_true rfl⟩ hS.1 hA hAB hl.1 rfl rfl (Nat.le_of_ble_eq_true rfl) dX3_laterDayOfWeek_41 (fun v_3 H hv hz hq hS => ?_)
      have hS : mS b s.heap H _ := ⟨hS, hL9⟩
      have hV := hV.up hq
      have hv : v_3 = some (.int x_3) := hv
      subst hv
      refine lv_i2l hx hb dX3_laterDayOfWeek_44 rfl ?_
      refine lv_iload_n hx hb dX3_laterDayOfWeek_45 rfl (lv_at hl 2 rfl) ?_
      refine lv_i2l hx hb dX3_laterDayOfWeek_46 rfl ?_
      refine lv_ladd hx hb dX3_laterDayOfWeek_47 ?_
      refine pc_S hC (c_X3_weekDay l (x_3.toInt64 + p1.toInt64)) (gS w_1265 w_1266 w_27 w_1267) kk_X3_weekDay ⟨Nat.le_of_ble_eq_true rfl, Nat.le_of_ble_eq_true rfl⟩ ⟨Nat.le_of_ble_eq_true rfl, Nat.le_of_ble_eq_true rfl⟩ hl.1 rfl rfl (Nat.le_of_ble_eq_true rfl) dX3_laterDayOfWeek_48 ?_
      exact m_iret hx hb hr hlocks (Option.some.inj hm) hV hS ⟨Nat.le_of_ble_eq_true rfl, Nat.le_of_ble_eq_true rfl⟩ dX3_laterDayOfWeek_51
    · have hm := (if_neg h_2).symm.trans hm
      refine lv_iconst (v := 0) hx hb dX3_laterDayOfWeek_31 (by decide) ?_
      refine lv_goto (tgt := 51) hx hb dX3_laterDayOfWeek_32 (by decide) ?_
      exact m_iret hx hb hr hlocks (Option.some.inj hm) hV hS ⟨Nat.le_of_ble_eq_true rfl, Nat.le_of_ble_eq_true rfl⟩ dX3_laterDayOfWeek_51
  · have hm := (if_pos h_1).symm.trans hm
    refine lv_iconst (v := 1) hx hb dX3_laterDayOfWeek_19 (by decide) ?_
    refine lv_goto (tgt := 24) hx hb dX3_laterDayOfWeek_20 (by decide) ?_
    refine lv_iconst (v := 0) hx hb dX3_laterDayOfWeek_24 (by decide) ?_
    obtain ⟨x_4, hx_4, hm⟩ := Option.bind_eq_some_iff.mp hm
    refine mc_V hC hGx hD (k_X3_fails l k b L hD (m_X3_isNo p0) (1 : Int32) (0 : Int32)  z hx_4) (gV w_1056 w_1057 w_18 w_27 w_1058) kk_X3_fails rfl (List.forall_mem_nil _) hLb ⟨Nat.le_of_ble_eq_true rfl, Nat.le_of_ble_eq_true rfl⟩ ⟨Nat.le_of_ble_eq_true rfl, Nat.le_of_ble_eq_true rfl⟩ hV hS hl.1 rfl rfl (Nat.le_of_ble_eq_true rfl) dX3_laterDayOfWeek_25 (fun q_4 H locs hV hS hz hq => ?_)
    refine lv_if_eq (tgt := 35) hx hb dX3_laterDayOfWeek_28 (by decide) (fun h_4 => ?_) (fun h_4 => ?_)
    · have hm := (if_pos h_4).symm.trans hm
      refine lv_aload_n hx hb dX3_laterDayOfWeek_35 rfl (lv_at hl 0 rfl) ?_
      refine va_get (D := kD k) (ci := 5) (v := .ref b.2.1) (C := RX3) (T := TX3) (N := 5) hx hb htg inG_X3 hown hGx.1 hV.1 0 rfl rfl 1 (by decide) (htg _ w_1012) (fun _ h9 => h9) rfl dX3_laterDayOfWeek_36 ?_
      refine lv_iload_n hx hb dX3_laterDayOfWeek_39 rfl (lv_at hl 1 rfl) ?_
      by_cases h_5 : p0 < 0 ∨ 6 ≤ p0.toNatClampNeg
      · have hm := (if_pos h_5).symm.trans hm
        cases hm
      have hm := (if_neg h_5).symm.trans hm
      refine m_ald hx hb hGx hV h_5 dX3_laterDayOfWeek_40 (fun hP_5 => ?_)
      obtain ⟨x_6, hx_6, hm⟩ := Option.bind_eq_some_iff.mp hm
      have hs_6 := hS.1.1
      have hLn_6 := m_hLn hLb hS
      have hL9 := hS.2
      refine qc_V hC hGx (k_X2_number l k (x_4.2.2.1 p0.toNatClampNeg) (q_4 p0.toNatClampNeg) hx_6) (gV w_1062 w_1063 w_1064 w_28 w_1065) kk_X2_number rfl hP_5.1 (List.forall_mem_cons.mpr ⟨hP_5.1, (List.forall_mem_nil _)⟩) ⟨Nat.le_of_ble_eq_true rfl, Nat.le_of_ble_eq_true rfl⟩ ⟨Nat.le_of_ble_eq_true rfl, Nat.le_of_ble_eq_true rfl⟩ hS.1 hA hAB hl.1 rfl rfl (Nat.le_of_ble_eq_true rfl) dX3_laterDayOfWeek_41 (fun v_6 H hv hz hq hS => ?_)
      have hS : mS b s.heap H _ := ⟨hS, hL9⟩
      have hV := hV.up hq
      have hv : v_6 = some (.int x_6) := hv
      subst hv
      refine lv_i2l hx hb dX3_laterDayOfWeek_44 rfl ?_
      refine lv_iload_n hx hb dX3_laterDayOfWeek_45 rfl (lv_at hl 2 rfl) ?_
      refine lv_i2l hx hb dX3_laterDayOfWeek_46 rfl ?_
      refine lv_ladd hx hb dX3_laterDayOfWeek_47 ?_
      refine pc_S hC (c_X3_weekDay l (x_6.toInt64 + p1.toInt64)) (gS w_1265 w_1266 w_27 w_1267) kk_X3_weekDay ⟨Nat.le_of_ble_eq_true rfl, Nat.le_of_ble_eq_true rfl⟩ ⟨Nat.le_of_ble_eq_true rfl, Nat.le_of_ble_eq_true rfl⟩ hl.1 rfl rfl (Nat.le_of_ble_eq_true rfl) dX3_laterDayOfWeek_48 ?_
      exact m_iret hx hb hr hlocks (Option.some.inj hm) hV hS ⟨Nat.le_of_ble_eq_true rfl, Nat.le_of_ble_eq_true rfl⟩ dX3_laterDayOfWeek_51
    · have hm := (if_neg h_4).symm.trans hm
      refine lv_iconst (v := 0) hx hb dX3_laterDayOfWeek_31 (by decide) ?_
      refine lv_goto (tgt := 51) hx hb dX3_laterDayOfWeek_32 (by decide) ?_
      exact m_iret hx hb hr hlocks (Option.some.inj hm) hV hS ⟨Nat.le_of_ble_eq_true rfl, Nat.le_of_ble_eq_true rfl⟩ dX3_laterDayOfWeek_51
def o_X3_lengthOfMonth (p0 : Int32) (z : MS) : Option (Int32 × MS) := ((o_X3_fails (m_X3_isNo p0) (0 : Int32) (0 : Int32) z).bind fun x_1 => (if x_1.1 = 0 then (if p0 < 0 ∨ 6 ≤ p0.toNatClampNeg then none else (if p0 < 0 ∨ 6 ≤ p0.toNatClampNeg then none else ((o_X3_lengthOf_ ((x_1.2.2.1 p0.toNatClampNeg).1) ((x_1.2.2.1 p0.toNatClampNeg).2.1)).bind fun x_4 => some (x_4, x_1.2)))) else some ((0 : Int32), x_1.2)))
theorem kk_X3_lengthOfMonth : pK yX3_lengthOfMonth wsX3_lengthOfMonth cX3_lengthOfMonth 2 (some .int) 1 := ⟨⟨_, rfl⟩, by decide +kernel, by decide +kernel, by decide +kernel⟩
set_option maxRecDepth 100000 in
set_option maxHeartbeats 4000000 in
theorem k_X3_lengthOfMonth (l : Launch) (k : Kx) (b : CA) (L : List Nat) (hD : mD k b L) (p0 : Int32) (z : MS) {r : (Int32 × MS)} (hm : o_X3_lengthOfMonth p0 z = some r) : mM l k b L yX3_lengthOfMonth wsX3_lengthOfMonth 2 45 0 0 [.int p0] [] z (some (.int r.1)) r.2 := by
  intro sz q
  refine Met.ofW (cc := cX3_lengthOfMonth) (maxL := 2) (ret := (some .int)) (by decide) rfl ?_
  intro p e s m args below meth c s₁ B hml hv
  obtain ⟨rfl, rfl, hGx, hV, hLb, hds⟩ := hv
  have hx := B.exec
  have hb := B.bytes
  have hr := B.returns
  have hts := atoms_spec (ws := wsX3_lengthOfMonth) B.pre
  have hown : s.vm.findClass RX3 = some m.cls := findClass_of_methodNamed B.named
  have hlocks := B.notSynchronized
  have htg : ∀ w ∈ GL, w.before _ s = true := fun w h => hts w (List.mem_cons_of_mem _ h)
  have hC : CallFix p m c cX3_lengthOfMonth 2 s _ wsX3_lengthOfMonth RX3 := ⟨hx, hb, hml, hown, hts⟩
  have hA : ∀ q, s.heap.size ≤ q → cA b s.heap.size q := fun q h => cA.new q h
  have hAB : ∀ q, cA b s.heap.size q → kB k ≤ q := hD.high hGx.2.1
  have hS : mS b s.heap s.heap [] := mS.rf
  have hl := lv_entry ([.ref b.1, .int p0]) (n := 2) (Nat.le_of_ble_eq_true rfl)
  rw [lg_entry_eq]
  generalize (lg_sl ([.ref b.1, .int p0]) ++ List.replicate (2 - (lg_sl ([.ref b.1, .int p0])).length) Slot.unset).toArray = ls at hl ⊢
  have hl : lv_has ls 2 [(0, .ref b.1), (1, .int p0)] := hl
  refine lv_aload_n hx hb dX3_lengthOfMonth_0 rfl (lv_at hl 0 rfl) ?_
  refine lv_iload_n hx hb dX3_lengthOfMonth_1 rfl (lv_at hl 1 rfl) ?_
  refine pc_S hC (c_X3_isNo l p0) (gS w_1045 w_1046 w_27 w_1047) kk_X3_isNo ⟨Nat.le_of_ble_eq_true rfl, Nat.le_of_ble_eq_true rfl⟩ ⟨Nat.le_of_ble_eq_true rfl, Nat.le_of_ble_eq_true rfl⟩ hl.1 rfl rfl (Nat.le_of_ble_eq_true rfl) dX3_lengthOfMonth_2 ?_
  refine lv_iconst (v := 0) hx hb dX3_lengthOfMonth_5 (by decide) ?_
  refine lv_iconst (v := 0) hx hb dX3_lengthOfMonth_6 (by decide) ?_
  obtain ⟨x_1, hx_1, hm⟩ := Option.bind_eq_some_iff.mp hm
  refine mc_V hC hGx hD (k_X3_fails l k b L hD (m_X3_isNo p0) (0 : Int32) (0 : Int32)  z hx_1) (gV w_1056 w_1057 w_18 w_27 w_1058) kk_X3_fails rfl (List.forall_mem_nil _) hLb ⟨Nat.le_of_ble_eq_true rfl, Nat.le_of_ble_eq_true rfl⟩ ⟨Nat.le_of_ble_eq_true rfl, Nat.le_of_ble_eq_true rfl⟩ hV hS hl.1 rfl rfl (Nat.le_of_ble_eq_true rfl) dX3_lengthOfMonth_7 (fun q_1 H locs hV hS hz hq => ?_)
  refine lv_if_eq (tgt := 17) hx hb dX3_lengthOfMonth_10 (by decide) (fun h_1 => ?_) (fun h_1 => ?_)
  · have hm := (if_pos h_1).symm.trans hm
    refine lv_aload_n hx hb dX3_lengthOfMonth_17 rfl (lv_at hl 0 rfl) ?_
    refine va_get (D := kD k) (ci := 5) (v := .ref b.2.1) (C := RX3) (T := TX3) (N := 5) hx hb htg inG_X3 hown hGx.1 hV.1 0 rfl rfl 1 (by decide) (htg _ w_1012) (fun _ h9 => h9) rfl dX3_lengthOfMonth_18 ?_
    refine lv_iload_n hx hb dX3_lengthOfMonth_21 rfl (lv_at hl 1 rfl) ?_
    by_cases h_2 : p0 < 0 ∨ 6 ≤ p0.toNatClampNeg
    · have hm := (if_pos h_2).symm.trans hm
      cases hm
    have hm := (if_neg h_2).symm.trans hm
    refine m_ald hx hb hGx hV h_2 dX3_lengthOfMonth_22 (fun hP_2 => ?_)
    refine va_get (D := kD k) (ci := 4) (v := .int ((x_1.2.2.1 p0.toNatClampNeg).1)) (C := RX2) (T := TX2) (N := 3) hx hb htg inG_X2 hown hGx.1 hP_2.1 0 rfl rfl 0 (by decide) (htg _ w_999) (fun _ h9 => h9) rfl dX3_lengthOfMonth_23 ?_
    refine lv_aload_n hx hb dX3_lengthOfMonth_26 rfl (lv_at hl 0 rfl) ?_
    refine va_get (D := kD k) (ci := 5) (v := .ref b.2.1) (C := RX3) (T := TX3) (N := 5) hx hb htg inG_X3 hown hGx.1 hV.1 0 rfl rfl 1 (by decide) (htg _ w_1012) (fun _ h9 => h9) rfl dX3_lengthOfMonth_27 ?_
    refine lv_iload_n hx hb dX3_lengthOfMonth_30 rfl (lv_at hl 1 rfl) ?_
    by_cases h_3 : p0 < 0 ∨ 6 ≤ p0.toNatClampNeg
    · have hm := (if_pos h_3).symm.trans hm
      cases hm
    have hm := (if_neg h_3).symm.trans hm
    refine m_ald hx hb hGx hV h_3 dX3_lengthOfMonth_31 (fun hP_3 => ?_)
    refine va_get (D := kD k) (ci := 4) (v := .int ((x_1.2.2.1 p0.toNatClampNeg).2.1)) (C := RX2) (T := TX2) (N := 3) hx hb htg inG_X2 hown hGx.1 hP_3.1 0 rfl rfl 1 (by decide) (htg _ w_1001) (fun _ h9 => h9) rfl dX3_lengthOfMonth_32 ?_
    obtain ⟨x_4, hx_4, hm⟩ := Option.bind_eq_some_iff.mp hm
    have hs_4 := hS.1.1
    have hLn_4 := m_hLn hLb hS
    have hL9 := hS.2
    refine qc_S hC hGx (k_X3_lengthOf_ l k ((x_1.2.2.1 p0.toNatClampNeg).1) ((x_1.2.2.1 p0.toNatClampNeg).2.1)  hx_4) (gS w_1049 w_1050 w_27 w_1051) kk_X3_lengthOf_ (List.forall_mem_nil _) ⟨Nat.le_of_ble_eq_true rfl, Nat.le_of_ble_eq_true rfl⟩ ⟨Nat.le_of_ble_eq_true rfl, Nat.le_of_ble_eq_true rfl⟩ hS.1 hA hAB hl.1 rfl rfl (Nat.le_of_ble_eq_true rfl) dX3_lengthOfMonth_35 (fun v_4 H hv hz hq hS => ?_)
    have hS : mS b s.heap H _ := ⟨hS, hL9⟩
    have hV := hV.up hq
    have hv : v_4 = some (.int x_4) := hv
    subst hv
    exact m_iret hx hb hr hlocks (Option.some.inj hm) hV hS ⟨Nat.le_of_ble_eq_true rfl, Nat.le_of_ble_eq_true rfl⟩ dX3_lengthOfMonth_38
  · have hm := (if_neg h_1).symm.trans hm
    refine lv_iconst (v := 0) hx hb dX3_lengthOfMonth_13 (by decide) ?_
    refine lv_goto (tgt := 38) hx hb dX3_lengthOfMonth_14 (by decide) ?_
    exact m_iret hx hb hr hlocks (Option.some.inj hm) hV hS ⟨Nat.le_of_ble_eq_true rfl, Nat.le_of_ble_eq_true rfl⟩ dX3_lengthOfMonth_38
def o_X3_lengthOfYear (p0 : Int32) (z : MS) : Option (Int32 × MS) := ((o_X3_fails (m_X3_isNo p0) (0 : Int32) (0 : Int32) z).bind fun x_1 => (if x_1.1 = 0 then (if p0 < 0 ∨ 6 ≤ p0.toNatClampNeg then none else some (m_X3_lengthOf ((x_1.2.2.1 p0.toNatClampNeg).1), x_1.2)) else some ((0 : Int32), x_1.2)))
theorem kk_X3_lengthOfYear : pK yX3_lengthOfYear wsX3_lengthOfYear cX3_lengthOfYear 2 (some .int) 1 := ⟨⟨_, rfl⟩, by decide +kernel, by decide +kernel, by decide +kernel⟩
set_option maxRecDepth 100000 in
set_option maxHeartbeats 4000000 in
theorem k_X3_lengthOfYear (l : Launch) (k : Kx) (b : CA) (L : List Nat) (hD : mD k b L) (p0 : Int32) (z : MS) {r : (Int32 × MS)} (hm : o_X3_lengthOfYear p0 z = some r) : mM l k b L yX3_lengthOfYear wsX3_lengthOfYear 2 45 0 0 [.int p0] [] z (some (.int r.1)) r.2 := by
  intro sz q
  refine Met.ofW (cc := cX3_lengthOfYear) (maxL := 2) (ret := (some .int)) (by decide) rfl ?_
  intro p e s m args below meth c s₁ B hml hv
  obtain ⟨rfl, rfl, hGx, hV, hLb, hds⟩ := hv
  have hx := B.exec
  have hb := B.bytes
  have hr := B.returns
  have hts := atoms_spec (ws := wsX3_lengthOfYear) B.pre
  have hown : s.vm.findClass RX3 = some m.cls := findClass_of_methodNamed B.named
  have hlocks := B.notSynchronized
  have htg : ∀ w ∈ GL, w.before _ s = true := fun w h => hts w (List.mem_cons_of_mem _ h)
  have hC : CallFix p m c cX3_lengthOfYear 2 s _ wsX3_lengthOfYear RX3 := ⟨hx, hb, hml, hown, hts⟩
  have hA : ∀ q, s.heap.size ≤ q → cA b s.heap.size q := fun q h => cA.new q h
  have hAB : ∀ q, cA b s.heap.size q → kB k ≤ q := hD.high hGx.2.1
  have hS : mS b s.heap s.heap [] := mS.rf
  have hl := lv_entry ([.ref b.1, .int p0]) (n := 2) (Nat.le_of_ble_eq_true rfl)
  rw [lg_entry_eq]
  generalize (lg_sl ([.ref b.1, .int p0]) ++ List.replicate (2 - (lg_sl ([.ref b.1, .int p0])).length) Slot.unset).toArray = ls at hl ⊢
  have hl : lv_has ls 2 [(0, .ref b.1), (1, .int p0)] := hl
  refine lv_aload_n hx hb dX3_lengthOfYear_0 rfl (lv_at hl 0 rfl) ?_
  refine lv_iload_n hx hb dX3_lengthOfYear_1 rfl (lv_at hl 1 rfl) ?_
  refine pc_S hC (c_X3_isNo l p0) (gS w_1045 w_1046 w_27 w_1047) kk_X3_isNo ⟨Nat.le_of_ble_eq_true rfl, Nat.le_of_ble_eq_true rfl⟩ ⟨Nat.le_of_ble_eq_true rfl, Nat.le_of_ble_eq_true rfl⟩ hl.1 rfl rfl (Nat.le_of_ble_eq_true rfl) dX3_lengthOfYear_2 ?_
  refine lv_iconst (v := 0) hx hb dX3_lengthOfYear_5 (by decide) ?_
  refine lv_iconst (v := 0) hx hb dX3_lengthOfYear_6 (by decide) ?_
  obtain ⟨x_1, hx_1, hm⟩ := Option.bind_eq_some_iff.mp hm
  refine mc_V hC hGx hD (k_X3_fails l k b L hD (m_X3_isNo p0) (0 : Int32) (0 : Int32)  z hx_1) (gV w_1056 w_1057 w_18 w_27 w_1058) kk_X3_fails rfl (List.forall_mem_nil _) hLb ⟨Nat.le_of_ble_eq_true rfl, Nat.le_of_ble_eq_true rfl⟩ ⟨Nat.le_of_ble_eq_true rfl, Nat.le_of_ble_eq_true rfl⟩ hV hS hl.1 rfl rfl (Nat.le_of_ble_eq_true rfl) dX3_lengthOfYear_7 (fun q_1 H locs hV hS hz hq => ?_)
  refine lv_if_eq (tgt := 17) hx hb dX3_lengthOfYear_10 (by decide) (fun h_1 => ?_) (fun h_1 => ?_)
  · have hm := (if_pos h_1).symm.trans hm
    refine lv_aload_n hx hb dX3_lengthOfYear_17 rfl (lv_at hl 0 rfl) ?_
    refine va_get (D := kD k) (ci := 5) (v := .ref b.2.1) (C := RX3) (T := TX3) (N := 5) hx hb htg inG_X3 hown hGx.1 hV.1 0 rfl rfl 1 (by decide) (htg _ w_1012) (fun _ h9 => h9) rfl dX3_lengthOfYear_18 ?_
    refine lv_iload_n hx hb dX3_lengthOfYear_21 rfl (lv_at hl 1 rfl) ?_
    by_cases h_2 : p0 < 0 ∨ 6 ≤ p0.toNatClampNeg
    · have hm := (if_pos h_2).symm.trans hm
      cases hm
    have hm := (if_neg h_2).symm.trans hm
    refine m_ald hx hb hGx hV h_2 dX3_lengthOfYear_22 (fun hP_2 => ?_)
    refine va_get (D := kD k) (ci := 4) (v := .int ((x_1.2.2.1 p0.toNatClampNeg).1)) (C := RX2) (T := TX2) (N := 3) hx hb htg inG_X2 hown hGx.1 hP_2.1 0 rfl rfl 0 (by decide) (htg _ w_999) (fun _ h9 => h9) rfl dX3_lengthOfYear_23 ?_
    refine pc_S hC (c_X3_lengthOf l ((x_1.2.2.1 p0.toNatClampNeg).1)) (gS w_1095 w_1071 w_27 w_1072) kk_X3_lengthOf ⟨Nat.le_of_ble_eq_true rfl, Nat.le_of_ble_eq_true rfl⟩ ⟨Nat.le_of_ble_eq_true rfl, Nat.le_of_ble_eq_true rfl⟩ hl.1 rfl rfl (Nat.le_of_ble_eq_true rfl) dX3_lengthOfYear_26 ?_
    exact m_iret hx hb hr hlocks (Option.some.inj hm) hV hS ⟨Nat.le_of_ble_eq_true rfl, Nat.le_of_ble_eq_true rfl⟩ dX3_lengthOfYear_29
  · have hm := (if_neg h_1).symm.trans hm
    refine lv_iconst (v := 0) hx hb dX3_lengthOfYear_13 (by decide) ?_
    refine lv_goto (tgt := 29) hx hb dX3_lengthOfYear_14 (by decide) ?_
    exact m_iret hx hb hr hlocks (Option.some.inj hm) hV hS ⟨Nat.le_of_ble_eq_true rfl, Nat.le_of_ble_eq_true rfl⟩ dX3_lengthOfYear_29
def o_X3_isLeapYear (p0 : Int32) (z : MS) : Option (Int32 × MS) := ((o_X3_fails (m_X3_isNo p0) (0 : Int32) (0 : Int32) z).bind fun x_1 => (if x_1.1 = 0 then (if p0 < 0 ∨ 6 ≤ p0.toNatClampNeg then none else (if m_X3_isLeap ((x_1.2.2.1 p0.toNatClampNeg).1) = 0 then some ((0 : Int32), x_1.2) else some ((1 : Int32), x_1.2))) else some ((0 : Int32), x_1.2)))
theorem kk_X3_isLeapYear : pK yX3_isLeapYear wsX3_isLeapYear cX3_isLeapYear 2 (some .boolean) 1 := ⟨⟨_, rfl⟩, by decide +kernel, by decide +kernel, by decide +kernel⟩
set_option maxRecDepth 100000 in
set_option maxHeartbeats 4000000 in
theorem k_X3_isLeapYear (l : Launch) (k : Kx) (b : CA) (L : List Nat) (hD : mD k b L) (p0 : Int32) (z : MS) {r : (Int32 × MS)} (hm : o_X3_isLeapYear p0 z = some r) : mM l k b L yX3_isLeapYear wsX3_isLeapYear 2 45 0 0 [.int p0] [] z (some (.int r.1)) r.2 := by
  intro sz q
  refine Met.ofW (cc := cX3_isLeapYear) (maxL := 2) (ret := (some .boolean)) (by decide) rfl ?_
  intro p e s m args below meth c s₁ B hml hv
  obtain ⟨rfl, rfl, hGx, hV, hLb, hds⟩ := hv
  have hx := B.exec
  have hb := B.bytes
  have hr := B.returns
  have hts := atoms_spec (ws := wsX3_isLeapYear) B.pre
  have hown : s.vm.findClass RX3 = some m.cls := findClass_of_methodNamed B.named
  have hlocks := B.notSynchronized
  have htg : ∀ w ∈ GL, w.before _ s = true := fun w h => hts w (List.mem_cons_of_mem _ h)
  have hC : CallFix p m c cX3_isLeapYear 2 s _ wsX3_isLeapYear RX3 := ⟨hx, hb, hml, hown, hts⟩
  have hA : ∀ q, s.heap.size ≤ q → cA b s.heap.size q := fun q h => cA.new q h
  have hAB : ∀ q, cA b s.heap.size q → kB k ≤ q := hD.high hGx.2.1
  have hS : mS b s.heap s.heap [] := mS.rf
  have hl := lv_entry ([.ref b.1, .int p0]) (n := 2) (Nat.le_of_ble_eq_true rfl)
  rw [lg_entry_eq]
  generalize (lg_sl ([.ref b.1, .int p0]) ++ List.replicate (2 - (lg_sl ([.ref b.1, .int p0])).length) Slot.unset).toArray = ls at hl ⊢
  have hl : lv_has ls 2 [(0, .ref b.1), (1, .int p0)] := hl
  refine lv_aload_n hx hb dX3_isLeapYear_0 rfl (lv_at hl 0 rfl) ?_
  refine lv_iload_n hx hb dX3_isLeapYear_1 rfl (lv_at hl 1 rfl) ?_
  refine pc_S hC (c_X3_isNo l p0) (gS w_1045 w_1046 w_27 w_1047) kk_X3_isNo ⟨Nat.le_of_ble_eq_true rfl, Nat.le_of_ble_eq_true rfl⟩ ⟨Nat.le_of_ble_eq_true rfl, Nat.le_of_ble_eq_true rfl⟩ hl.1 rfl rfl (Nat.le_of_ble_eq_true rfl) dX3_isLeapYear_2 ?_
  refine lv_iconst (v := 0) hx hb dX3_isLeapYear_5 (by decide) ?_
  refine lv_iconst (v := 0) hx hb dX3_isLeapYear_6 (by decide) ?_
  obtain ⟨x_1, hx_1, hm⟩ := Option.bind_eq_some_iff.mp hm
  refine mc_V hC hGx hD (k_X3_fails l k b L hD (m_X3_isNo p0) (0 : Int32) (0 : Int32)  z hx_1) (gV w_1056 w_1057 w_18 w_27 w_1058) kk_X3_fails rfl (List.forall_mem_nil _) hLb ⟨Nat.le_of_ble_eq_true rfl, Nat.le_of_ble_eq_true rfl⟩ ⟨Nat.le_of_ble_eq_true rfl, Nat.le_of_ble_eq_true rfl⟩ hV hS hl.1 rfl rfl (Nat.le_of_ble_eq_true rfl) dX3_isLeapYear_7 (fun q_1 H locs hV hS hz hq => ?_)
  refine lv_if_ne (tgt := 32) hx hb dX3_isLeapYear_10 (by decide) (fun h_1 => ?_) (fun h_1 => ?_)
  · have hm := (if_neg h_1).symm.trans hm
    refine lv_iconst (v := 0) hx hb dX3_isLeapYear_32 (by decide) ?_
    exact m_zret hx hb hr hlocks rfl (Option.some.inj hm) hV hS ⟨Nat.le_of_ble_eq_true rfl, Nat.le_of_ble_eq_true rfl⟩ dX3_isLeapYear_33
  · have hm := (if_pos h_1).symm.trans hm
    refine lv_aload_n hx hb dX3_isLeapYear_13 rfl (lv_at hl 0 rfl) ?_
    refine va_get (D := kD k) (ci := 5) (v := .ref b.2.1) (C := RX3) (T := TX3) (N := 5) hx hb htg inG_X3 hown hGx.1 hV.1 0 rfl rfl 1 (by decide) (htg _ w_1012) (fun _ h9 => h9) rfl dX3_isLeapYear_14 ?_
    refine lv_iload_n hx hb dX3_isLeapYear_17 rfl (lv_at hl 1 rfl) ?_
    by_cases h_2 : p0 < 0 ∨ 6 ≤ p0.toNatClampNeg
    · have hm := (if_pos h_2).symm.trans hm
      cases hm
    have hm := (if_neg h_2).symm.trans hm
    refine m_ald hx hb hGx hV h_2 dX3_isLeapYear_18 (fun hP_2 => ?_)
    refine va_get (D := kD k) (ci := 4) (v := .int ((x_1.2.2.1 p0.toNatClampNeg).1)) (C := RX2) (T := TX2) (N := 3) hx hb htg inG_X2 hown hGx.1 hP_2.1 0 rfl rfl 0 (by decide) (htg _ w_999) (fun _ h9 => h9) rfl dX3_isLeapYear_19 ?_
    refine pc_S hC (c_X3_isLeap l ((x_1.2.2.1 p0.toNatClampNeg).1)) (gS w_1052 w_1053 w_27 w_1054) kk_X3_isLeap ⟨Nat.le_of_ble_eq_true rfl, Nat.le_of_ble_eq_true rfl⟩ ⟨Nat.le_of_ble_eq_true rfl, Nat.le_of_ble_eq_true rfl⟩ hl.1 rfl rfl (Nat.le_of_ble_eq_true rfl) dX3_isLeapYear_22 ?_
    refine lv_if_eq (tgt := 32) hx hb dX3_isLeapYear_25 (by decide) (fun h_3 => ?_) (fun h_3 => ?_)
    · have hm := (if_pos h_3).symm.trans hm
      refine lv_iconst (v := 0) hx hb dX3_isLeapYear_32 (by decide) ?_
      exact m_zret hx hb hr hlocks rfl (Option.some.inj hm) hV hS ⟨Nat.le_of_ble_eq_true rfl, Nat.le_of_ble_eq_true rfl⟩ dX3_isLeapYear_33
    · have hm := (if_neg h_3).symm.trans hm
      refine lv_iconst (v := 1) hx hb dX3_isLeapYear_28 (by decide) ?_
      refine lv_goto (tgt := 33) hx hb dX3_isLeapYear_29 (by decide) ?_
      exact m_zret hx hb hr hlocks rfl (Option.some.inj hm) hV hS ⟨Nat.le_of_ble_eq_true rfl, Nat.le_of_ble_eq_true rfl⟩ dX3_isLeapYear_33
def o_X3_field (p0 : Int32) (p1 : Int32) (z : MS) : Option (Int32 × MS) := (if m_X3_isIn p1.toInt64 (0 : Int64) (5 : Int64) = 0 then ((o_X3_fails (m_X3_isNo p0) (1 : Int32) (0 : Int32) z).bind fun x_4 => (if x_4.1 = 0 then (if p0 < 0 ∨ 6 ≤ p0.toNatClampNeg then none else ((o_X3_fieldOf (x_4.2.2.1 p0.toNatClampNeg) p1).bind fun x_6 => some (x_6, x_4.2))) else some ((0 : Int32), x_4.2))) else ((o_X3_fails (m_X3_isNo p0) (0 : Int32) (0 : Int32) z).bind fun x_1 => (if x_1.1 = 0 then (if p0 < 0 ∨ 6 ≤ p0.toNatClampNeg then none else ((o_X3_fieldOf (x_1.2.2.1 p0.toNatClampNeg) p1).bind fun x_3 => some (x_3, x_1.2))) else some ((0 : Int32), x_1.2))))
theorem kk_X3_field : pK yX3_field wsX3_field cX3_field 3 (some .int) 2 := ⟨⟨_, rfl⟩, by decide +kernel, by decide +kernel, by decide +kernel⟩
set_option maxRecDepth 100000 in
set_option maxHeartbeats 4000000 in
theorem k_X3_field (l : Launch) (k : Kx) (b : CA) (L : List Nat) (hD : mD k b L) (p0 : Int32) (p1 : Int32) (z : MS) {r : (Int32 × MS)} (hm : o_X3_field p0 p1 z = some r) : mM l k b L yX3_field wsX3_field 4 86 0 0 [.int p0, .int p1] [] z (some (.int r.1)) r.2 := by
  intro sz q
  refine Met.ofW (cc := cX3_field) (maxL := 3) (ret := (some .int)) (by decide) rfl ?_
  intro p e s m args below meth c s₁ B hml hv
  obtain ⟨rfl, rfl, hGx, hV, hLb, hds⟩ := hv
  have hx := B.exec
  have hb := B.bytes
  have hr := B.returns
  have hts := atoms_spec (ws := wsX3_field) B.pre
  have hown : s.vm.findClass RX3 = some m.cls := findClass_of_methodNamed B.named
  have hlocks := B.notSynchronized
  have htg : ∀ w ∈ GL, w.before _ s = true := fun w h => hts w (List.mem_cons_of_mem _ h)
  have hC : CallFix p m c cX3_field 3 s _ wsX3_field RX3 := ⟨hx, hb, hml, hown, hts⟩
  have hA : ∀ q, s.heap.size ≤ q → cA b s.heap.size q := fun q h => cA.new q h
  have hAB : ∀ q, cA b s.heap.size q → kB k ≤ q := hD.high hGx.2.1
  have hS : mS b s.heap s.heap [] := mS.rf
  have hl := lv_entry ([.ref b.1, .int p0, .int p1]) (n := 3) (Nat.le_of_ble_eq_true rfl)
  rw [lg_entry_eq]
  generalize (lg_sl ([.ref b.1, .int p0, .int p1]) ++ List.replicate (3 - (lg_sl ([.ref b.1, .int p0, .int p1])).length) Slot.unset).toArray = ls at hl ⊢
  have hl : lv_has ls 3 [(0, .ref b.1), (1, .int p0), (2, .int p1)] := hl
  refine lv_aload_n hx hb dX3_field_0 rfl (lv_at hl 0 rfl) ?_
  refine lv_iload_n hx hb dX3_field_1 rfl (lv_at hl 1 rfl) ?_
  refine pc_S hC (c_X3_isNo l p0) (gS w_1045 w_1046 w_27 w_1047) kk_X3_isNo ⟨Nat.le_of_ble_eq_true rfl, Nat.le_of_ble_eq_true rfl⟩ ⟨Nat.le_of_ble_eq_true rfl, Nat.le_of_ble_eq_true rfl⟩ hl.1 rfl rfl (Nat.le_of_ble_eq_true rfl) dX3_field_2 ?_
  refine lv_iload_n hx hb dX3_field_5 rfl (lv_at hl 2 rfl) ?_
  refine lv_i2l hx hb dX3_field_6 rfl ?_
  refine lv_lconst (v := 0) hx hb dX3_field_7 (by decide) ?_
  refine lv_ldc2 hx hb hown (htg _ w_1048) dX3_field_8 ?_
  refine pc_S hC (c_X3_isIn l p1.toInt64 (0 : Int64) (5 : Int64)) (gS w_1040 w_1041 w_27 w_1042) kk_X3_isIn ⟨Nat.le_of_ble_eq_true rfl, Nat.le_of_ble_eq_true rfl⟩ ⟨Nat.le_of_ble_eq_true rfl, Nat.le_of_ble_eq_true rfl⟩ hl.1 rfl rfl (Nat.le_of_ble_eq_true rfl) dX3_field_11 ?_
  refine lv_if_ne (tgt := 21) hx hb dX3_field_14 (by decide) (fun h_1 => ?_) (fun h_1 => ?_)
  · have hm := (if_neg h_1).symm.trans hm
    refine lv_iconst (v := 0) hx hb dX3_field_21 (by decide) ?_
    refine lv_iconst (v := 0) hx hb dX3_field_22 (by decide) ?_
    obtain ⟨x_1, hx_1, hm⟩ := Option.bind_eq_some_iff.mp hm
    refine mc_V hC hGx hD (k_X3_fails l k b L hD (m_X3_isNo p0) (0 : Int32) (0 : Int32)  z hx_1) (gV w_1056 w_1057 w_18 w_27 w_1058) kk_X3_fails rfl (List.forall_mem_nil _) hLb ⟨Nat.le_of_ble_eq_true rfl, Nat.le_of_ble_eq_true rfl⟩ ⟨Nat.le_of_ble_eq_true rfl, Nat.le_of_ble_eq_true rfl⟩ hV hS hl.1 rfl rfl (Nat.le_of_ble_eq_true rfl) dX3_field_23 (fun q_1 H locs hV hS hz hq => ?_)
    refine lv_if_eq (tgt := 33) hx hb dX3_field_26 (by decide) (fun h_2 => ?_) (fun h_2 => ?_)
    · have hm := (if_pos h_2).symm.trans hm
      refine lv_aload_n hx hb dX3_field_33 rfl (lv_at hl 0 rfl) ?_
      refine va_get (D := kD k) (ci := 5) (v := .ref b.2.1) (C := RX3) (T := TX3) (N := 5) hx hb htg inG_X3 hown hGx.1 hV.1 0 rfl rfl 1 (by decide) (htg _ w_1012) (fun _ h9 => h9) rfl dX3_field_34 ?_
      refine lv_iload_n hx hb dX3_field_37 rfl (lv_at hl 1 rfl) ?_
      by_cases h_3 : p0 < 0 ∨ 6 ≤ p0.toNatClampNeg
      · have hm := (if_pos h_3).symm.trans hm
        cases hm
      have hm := (if_neg h_3).symm.trans hm
      refine m_ald hx hb hGx hV h_3 dX3_field_38 (fun hP_2 => ?_)
      refine lv_iload_n hx hb dX3_field_39 rfl (lv_at hl 2 rfl) ?_
      obtain ⟨x_3, hx_3, hm⟩ := Option.bind_eq_some_iff.mp hm
      have hs_3 := hS.1.1
      have hLn_3 := m_hLn hLb hS
      have hL9 := hS.2
      refine qc_S hC hGx (k_X3_fieldOf l k (x_1.2.2.1 p0.toNatClampNeg) p1 (q_1 p0.toNatClampNeg) hx_3) (gS w_1289 w_1290 w_27 w_1291) kk_X3_fieldOf (List.forall_mem_cons.mpr ⟨hP_2.1, (List.forall_mem_nil _)⟩) ⟨Nat.le_of_ble_eq_true rfl, Nat.le_of_ble_eq_true rfl⟩ ⟨Nat.le_of_ble_eq_true rfl, Nat.le_of_ble_eq_true rfl⟩ hS.1 hA hAB hl.1 rfl rfl (Nat.le_of_ble_eq_true rfl) dX3_field_40 (fun v_3 H hv hz hq hS => ?_)
      have hS : mS b s.heap H _ := ⟨hS, hL9⟩
      have hV := hV.up hq
      have hv : v_3 = some (.int x_3) := hv
      subst hv
      exact m_iret hx hb hr hlocks (Option.some.inj hm) hV hS ⟨Nat.le_of_ble_eq_true rfl, Nat.le_of_ble_eq_true rfl⟩ dX3_field_43
    · have hm := (if_neg h_2).symm.trans hm
      refine lv_iconst (v := 0) hx hb dX3_field_29 (by decide) ?_
      refine lv_goto (tgt := 43) hx hb dX3_field_30 (by decide) ?_
      exact m_iret hx hb hr hlocks (Option.some.inj hm) hV hS ⟨Nat.le_of_ble_eq_true rfl, Nat.le_of_ble_eq_true rfl⟩ dX3_field_43
  · have hm := (if_pos h_1).symm.trans hm
    refine lv_iconst (v := 1) hx hb dX3_field_17 (by decide) ?_
    refine lv_goto (tgt := 22) hx hb dX3_field_18 (by decide) ?_
    refine lv_iconst (v := 0) hx hb dX3_field_22 (by decide) ?_
    obtain ⟨x_4, hx_4, hm⟩ := Option.bind_eq_some_iff.mp hm
    refine mc_V hC hGx hD (k_X3_fails l k b L hD (m_X3_isNo p0) (1 : Int32) (0 : Int32)  z hx_4) (gV w_1056 w_1057 w_18 w_27 w_1058) kk_X3_fails rfl (List.forall_mem_nil _) hLb ⟨Nat.le_of_ble_eq_true rfl, Nat.le_of_ble_eq_true rfl⟩ ⟨Nat.le_of_ble_eq_true rfl, Nat.le_of_ble_eq_true rfl⟩ hV hS hl.1 rfl rfl (Nat.le_of_ble_eq_true rfl) dX3_field_23 (fun q_4 H locs hV hS hz hq => ?_)
    refine lv_if_eq (tgt := 33) hx hb dX3_field_26 (by decide) (fun h_4 => ?_) (fun h_4 => ?_)
    · have hm := (if_pos h_4).symm.trans hm
      refine lv_aload_n hx hb dX3_field_33 rfl (lv_at hl 0 rfl) ?_
      refine va_get (D := kD k) (ci := 5) (v := .ref b.2.1) (C := RX3) (T := TX3) (N := 5) hx hb htg inG_X3 hown hGx.1 hV.1 0 rfl rfl 1 (by decide) (htg _ w_1012) (fun _ h9 => h9) rfl dX3_field_34 ?_
      refine lv_iload_n hx hb dX3_field_37 rfl (lv_at hl 1 rfl) ?_
      by_cases h_5 : p0 < 0 ∨ 6 ≤ p0.toNatClampNeg
      · have hm := (if_pos h_5).symm.trans hm
        cases hm
      have hm := (if_neg h_5).symm.trans hm
      refine m_ald hx hb hGx hV h_5 dX3_field_38 (fun hP_5 => ?_)
      refine lv_iload_n hx hb dX3_field_39 rfl (lv_at hl 2 rfl) ?_
      obtain ⟨x_6, hx_6, hm⟩ := Option.bind_eq_some_iff.mp hm
      have hs_6 := hS.1.1
      have hLn_6 := m_hLn hLb hS
      have hL9 := hS.2
      refine qc_S hC hGx (k_X3_fieldOf l k (x_4.2.2.1 p0.toNatClampNeg) p1 (q_4 p0.toNatClampNeg) hx_6) (gS w_1289 w_1290 w_27 w_1291) kk_X3_fieldOf (List.forall_mem_cons.mpr ⟨hP_5.1, (List.forall_mem_nil _)⟩) ⟨Nat.le_of_ble_eq_true rfl, Nat.le_of_ble_eq_true rfl⟩ ⟨Nat.le_of_ble_eq_true rfl, Nat.le_of_ble_eq_true rfl⟩ hS.1 hA hAB hl.1 rfl rfl (Nat.le_of_ble_eq_true rfl) dX3_field_40 (fun v_6 H hv hz hq hS => ?_)
      have hS : mS b s.heap H _ := ⟨hS, hL9⟩
      have hV := hV.up hq
      have hv : v_6 = some (.int x_6) := hv
      subst hv
      exact m_iret hx hb hr hlocks (Option.some.inj hm) hV hS ⟨Nat.le_of_ble_eq_true rfl, Nat.le_of_ble_eq_true rfl⟩ dX3_field_43
    · have hm := (if_neg h_4).symm.trans hm
      refine lv_iconst (v := 0) hx hb dX3_field_29 (by decide) ?_
      refine lv_goto (tgt := 43) hx hb dX3_field_30 (by decide) ?_
      exact m_iret hx hb hr hlocks (Option.some.inj hm) hV hS ⟨Nat.le_of_ble_eq_true rfl, Nat.le_of_ble_eq_true rfl⟩ dX3_field_43
def o_X3_toDay (p0 : Int32) (z : MS) : Option (Int32 × MS) := ((o_X3_fails (m_X3_isNo p0) (0 : Int32) (0 : Int32) z).bind fun x_1 => (if x_1.1 = 0 then (if p0 < 0 ∨ 6 ≤ p0.toNatClampNeg then none else ((o_X2_number (x_1.2.2.1 p0.toNatClampNeg)).bind fun x_3 => some (x_3, x_1.2))) else some ((0 : Int32), x_1.2)))
theorem kk_X3_toDay : pK yX3_toDay wsX3_toDay cX3_toDay 2 (some .int) 1 := ⟨⟨_, rfl⟩, by decide +kernel, by decide +kernel, by decide +kernel⟩
set_option maxRecDepth 100000 in
set_option maxHeartbeats 4000000 in
theorem k_X3_toDay (l : Launch) (k : Kx) (b : CA) (L : List Nat) (hD : mD k b L) (p0 : Int32) (z : MS) {r : (Int32 × MS)} (hm : o_X3_toDay p0 z = some r) : mM l k b L yX3_toDay wsX3_toDay 4 86 0 0 [.int p0] [] z (some (.int r.1)) r.2 := by
  intro sz q
  refine Met.ofW (cc := cX3_toDay) (maxL := 2) (ret := (some .int)) (by decide) rfl ?_
  intro p e s m args below meth c s₁ B hml hv
  obtain ⟨rfl, rfl, hGx, hV, hLb, hds⟩ := hv
  have hx := B.exec
  have hb := B.bytes
  have hr := B.returns
  have hts := atoms_spec (ws := wsX3_toDay) B.pre
  have hown : s.vm.findClass RX3 = some m.cls := findClass_of_methodNamed B.named
  have hlocks := B.notSynchronized
  have htg : ∀ w ∈ GL, w.before _ s = true := fun w h => hts w (List.mem_cons_of_mem _ h)
  have hC : CallFix p m c cX3_toDay 2 s _ wsX3_toDay RX3 := ⟨hx, hb, hml, hown, hts⟩
  have hA : ∀ q, s.heap.size ≤ q → cA b s.heap.size q := fun q h => cA.new q h
  have hAB : ∀ q, cA b s.heap.size q → kB k ≤ q := hD.high hGx.2.1
  have hS : mS b s.heap s.heap [] := mS.rf
  have hl := lv_entry ([.ref b.1, .int p0]) (n := 2) (Nat.le_of_ble_eq_true rfl)
  rw [lg_entry_eq]
  generalize (lg_sl ([.ref b.1, .int p0]) ++ List.replicate (2 - (lg_sl ([.ref b.1, .int p0])).length) Slot.unset).toArray = ls at hl ⊢
  have hl : lv_has ls 2 [(0, .ref b.1), (1, .int p0)] := hl
  refine lv_aload_n hx hb dX3_toDay_0 rfl (lv_at hl 0 rfl) ?_
  refine lv_iload_n hx hb dX3_toDay_1 rfl (lv_at hl 1 rfl) ?_
  refine pc_S hC (c_X3_isNo l p0) (gS w_1045 w_1046 w_27 w_1047) kk_X3_isNo ⟨Nat.le_of_ble_eq_true rfl, Nat.le_of_ble_eq_true rfl⟩ ⟨Nat.le_of_ble_eq_true rfl, Nat.le_of_ble_eq_true rfl⟩ hl.1 rfl rfl (Nat.le_of_ble_eq_true rfl) dX3_toDay_2 ?_
  refine lv_iconst (v := 0) hx hb dX3_toDay_5 (by decide) ?_
  refine lv_iconst (v := 0) hx hb dX3_toDay_6 (by decide) ?_
  obtain ⟨x_1, hx_1, hm⟩ := Option.bind_eq_some_iff.mp hm
  refine mc_V hC hGx hD (k_X3_fails l k b L hD (m_X3_isNo p0) (0 : Int32) (0 : Int32)  z hx_1) (gV w_1056 w_1057 w_18 w_27 w_1058) kk_X3_fails rfl (List.forall_mem_nil _) hLb ⟨Nat.le_of_ble_eq_true rfl, Nat.le_of_ble_eq_true rfl⟩ ⟨Nat.le_of_ble_eq_true rfl, Nat.le_of_ble_eq_true rfl⟩ hV hS hl.1 rfl rfl (Nat.le_of_ble_eq_true rfl) dX3_toDay_7 (fun q_1 H locs hV hS hz hq => ?_)
  refine lv_if_eq (tgt := 17) hx hb dX3_toDay_10 (by decide) (fun h_1 => ?_) (fun h_1 => ?_)
  · have hm := (if_pos h_1).symm.trans hm
    refine lv_aload_n hx hb dX3_toDay_17 rfl (lv_at hl 0 rfl) ?_
    refine va_get (D := kD k) (ci := 5) (v := .ref b.2.1) (C := RX3) (T := TX3) (N := 5) hx hb htg inG_X3 hown hGx.1 hV.1 0 rfl rfl 1 (by decide) (htg _ w_1012) (fun _ h9 => h9) rfl dX3_toDay_18 ?_
    refine lv_iload_n hx hb dX3_toDay_21 rfl (lv_at hl 1 rfl) ?_
    by_cases h_2 : p0 < 0 ∨ 6 ≤ p0.toNatClampNeg
    · have hm := (if_pos h_2).symm.trans hm
      cases hm
    have hm := (if_neg h_2).symm.trans hm
    refine m_ald hx hb hGx hV h_2 dX3_toDay_22 (fun hP_2 => ?_)
    obtain ⟨x_3, hx_3, hm⟩ := Option.bind_eq_some_iff.mp hm
    have hs_3 := hS.1.1
    have hLn_3 := m_hLn hLb hS
    have hL9 := hS.2
    refine qc_V hC hGx (k_X2_number l k (x_1.2.2.1 p0.toNatClampNeg) (q_1 p0.toNatClampNeg) hx_3) (gV w_1062 w_1063 w_1064 w_28 w_1065) kk_X2_number rfl hP_2.1 (List.forall_mem_cons.mpr ⟨hP_2.1, (List.forall_mem_nil _)⟩) ⟨Nat.le_of_ble_eq_true rfl, Nat.le_of_ble_eq_true rfl⟩ ⟨Nat.le_of_ble_eq_true rfl, Nat.le_of_ble_eq_true rfl⟩ hS.1 hA hAB hl.1 rfl rfl (Nat.le_of_ble_eq_true rfl) dX3_toDay_23 (fun v_3 H hv hz hq hS => ?_)
    have hS : mS b s.heap H _ := ⟨hS, hL9⟩
    have hV := hV.up hq
    have hv : v_3 = some (.int x_3) := hv
    subst hv
    exact m_iret hx hb hr hlocks (Option.some.inj hm) hV hS ⟨Nat.le_of_ble_eq_true rfl, Nat.le_of_ble_eq_true rfl⟩ dX3_toDay_26
  · have hm := (if_neg h_1).symm.trans hm
    refine lv_iconst (v := 0) hx hb dX3_toDay_13 (by decide) ?_
    refine lv_goto (tgt := 26) hx hb dX3_toDay_14 (by decide) ?_
    exact m_iret hx hb hr hlocks (Option.some.inj hm) hV hS ⟨Nat.le_of_ble_eq_true rfl, Nat.le_of_ble_eq_true rfl⟩ dX3_toDay_26
def o_X3_isDate_ (p0 : Int32) (p1 : Int32) (p2 : Int32) (z : MS) : Option (Int32 × MS) := (if m_X3_isNoYear p0 = 0 then (if m_X3_isIn p1.toInt64 (1 : Int64) (12 : Int64) = 0 then ((o_X3_fails (1 : Int32) (0 : Int32) (0 : Int32) z).bind fun x_3 => (if x_3.1 = 0 then ((o_X3_lengthOf_ p0 p1).bind fun x_4 => (if x_4 < p2 then some ((0 : Int32), x_3.2) else some ((1 : Int32), x_3.2))) else some ((0 : Int32), x_3.2))) else (if m_X3_isIn p2.toInt64 (1 : Int64) (31 : Int64) = 0 then ((o_X3_fails (1 : Int32) (0 : Int32) (0 : Int32) z).bind fun x_7 => (if x_7.1 = 0 then ((o_X3_lengthOf_ p0 p1).bind fun x_8 => (if x_8 < p2 then some ((0 : Int32), x_7.2) else some ((1 : Int32), x_7.2))) else some ((0 : Int32), x_7.2))) else ((o_X3_fails (0 : Int32) (0 : Int32) (0 : Int32) z).bind fun x_5 => (if x_5.1 = 0 then ((o_X3_lengthOf_ p0 p1).bind fun x_6 => (if x_6 < p2 then some ((0 : Int32), x_5.2) else some ((1 : Int32), x_5.2))) else some ((0 : Int32), x_5.2))))) else ((o_X3_fails (1 : Int32) (0 : Int32) (0 : Int32) z).bind fun x_1 => (if x_1.1 = 0 then ((o_X3_lengthOf_ p0 p1).bind fun x_2 => (if x_2 < p2 then some ((0 : Int32), x_1.2) else some ((1 : Int32), x_1.2))) else some ((0 : Int32), x_1.2))))
theorem kk_X3_isDate_ : pK yX3_isDate_ wsX3_isDate_ cX3_isDate_ 4 (some .boolean) 3 := ⟨⟨_, rfl⟩, by decide +kernel, by decide +kernel, by decide +kernel⟩
set_option maxRecDepth 100000 in
set_option maxHeartbeats 4000000 in
theorem k_X3_isDate_ (l : Launch) (k : Kx) (b : CA) (L : List Nat) (hD : mD k b L) (p0 : Int32) (p1 : Int32) (p2 : Int32) (z : MS) {r : (Int32 × MS)} (hm : o_X3_isDate_ p0 p1 p2 z = some r) : mM l k b L yX3_isDate_ wsX3_isDate_ 2 45 0 0 [.int p0, .int p1, .int p2] [] z (some (.int r.1)) r.2 := by
  intro sz q
  refine Met.ofW (cc := cX3_isDate_) (maxL := 4) (ret := (some .boolean)) (by decide) rfl ?_
  intro p e s m args below meth c s₁ B hml hv
  obtain ⟨rfl, rfl, hGx, hV, hLb, hds⟩ := hv
  have hx := B.exec
  have hb := B.bytes
  have hr := B.returns
  have hts := atoms_spec (ws := wsX3_isDate_) B.pre
  have hown : s.vm.findClass RX3 = some m.cls := findClass_of_methodNamed B.named
  have hlocks := B.notSynchronized
  have htg : ∀ w ∈ GL, w.before _ s = true := fun w h => hts w (List.mem_cons_of_mem _ h)
  have hC : CallFix p m c cX3_isDate_ 4 s _ wsX3_isDate_ RX3 := ⟨hx, hb, hml, hown, hts⟩
  have hA : ∀ q, s.heap.size ≤ q → cA b s.heap.size q := fun q h => cA.new q h
  have hAB : ∀ q, cA b s.heap.size q → kB k ≤ q := hD.high hGx.2.1
  have hS : mS b s.heap s.heap [] := mS.rf
  have hl := lv_entry ([.ref b.1, .int p0, .int p1, .int p2]) (n := 4) (Nat.le_of_ble_eq_true rfl)
  rw [lg_entry_eq]
  generalize (lg_sl ([.ref b.1, .int p0, .int p1, .int p2]) ++ List.replicate (4 - (lg_sl ([.ref b.1, .int p0, .int p1, .int p2])).length) Slot.unset).toArray = ls at hl ⊢
  have hl : lv_has ls 4 [(0, .ref b.1), (1, .int p0), (2, .int p1), (3, .int p2)] := hl
  refine lv_aload_n hx hb dX3_isDate__0 rfl (lv_at hl 0 rfl) ?_
  refine lv_iload_n hx hb dX3_isDate__1 rfl (lv_at hl 1 rfl) ?_
  refine pc_S hC (c_X3_isNoYear l p0) (gS w_1035 w_1036 w_27 w_1037) kk_X3_isNoYear ⟨Nat.le_of_ble_eq_true rfl, Nat.le_of_ble_eq_true rfl⟩ ⟨Nat.le_of_ble_eq_true rfl, Nat.le_of_ble_eq_true rfl⟩ hl.1 rfl rfl (Nat.le_of_ble_eq_true rfl) dX3_isDate__2 ?_
  refine lv_if_ne (tgt := 32) hx hb dX3_isDate__5 (by decide) (fun h_1 => ?_) (fun h_1 => ?_)
  · have hm := (if_neg h_1).symm.trans hm
    refine lv_iconst (v := 1) hx hb dX3_isDate__32 (by decide) ?_
    refine lv_goto (tgt := 37) hx hb dX3_isDate__33 (by decide) ?_
    refine lv_iconst (v := 0) hx hb dX3_isDate__37 (by decide) ?_
    refine lv_iconst (v := 0) hx hb dX3_isDate__38 (by decide) ?_
    obtain ⟨x_1, hx_1, hm⟩ := Option.bind_eq_some_iff.mp hm
    refine mc_V hC hGx hD (k_X3_fails l k b L hD (1 : Int32) (0 : Int32) (0 : Int32)  z hx_1) (gV w_1056 w_1057 w_18 w_27 w_1058) kk_X3_fails rfl (List.forall_mem_nil _) hLb ⟨Nat.le_of_ble_eq_true rfl, Nat.le_of_ble_eq_true rfl⟩ ⟨Nat.le_of_ble_eq_true rfl, Nat.le_of_ble_eq_true rfl⟩ hV hS hl.1 rfl rfl (Nat.le_of_ble_eq_true rfl) dX3_isDate__39 (fun q_1 H locs hV hS hz hq => ?_)
    refine lv_if_ne (tgt := 58) hx hb dX3_isDate__42 (by decide) (fun h_2 => ?_) (fun h_2 => ?_)
    · have hm := (if_neg h_2).symm.trans hm
      refine lv_iconst (v := 0) hx hb dX3_isDate__58 (by decide) ?_
      exact m_zret hx hb hr hlocks rfl (Option.some.inj hm) hV hS ⟨Nat.le_of_ble_eq_true rfl, Nat.le_of_ble_eq_true rfl⟩ dX3_isDate__59
    · have hm := (if_pos h_2).symm.trans hm
      refine lv_iload_n hx hb dX3_isDate__45 rfl (lv_at hl 3 rfl) ?_
      refine lv_iload_n hx hb dX3_isDate__46 rfl (lv_at hl 1 rfl) ?_
      refine lv_iload_n hx hb dX3_isDate__47 rfl (lv_at hl 2 rfl) ?_
      obtain ⟨x_2, hx_2, hm⟩ := Option.bind_eq_some_iff.mp hm
      have hs_2 := hS.1.1
      have hLn_2 := m_hLn hLb hS
      have hL9 := hS.2
      refine qc_S hC hGx (k_X3_lengthOf_ l k p0 p1  hx_2) (gS w_1049 w_1050 w_27 w_1051) kk_X3_lengthOf_ (List.forall_mem_nil _) ⟨Nat.le_of_ble_eq_true rfl, Nat.le_of_ble_eq_true rfl⟩ ⟨Nat.le_of_ble_eq_true rfl, Nat.le_of_ble_eq_true rfl⟩ hS.1 hA hAB hl.1 rfl rfl (Nat.le_of_ble_eq_true rfl) dX3_isDate__48 (fun v_2 H hv hz hq hS => ?_)
      have hS : mS b s.heap H _ := ⟨hS, hL9⟩
      have hV := hV.up hq
      have hv : v_2 = some (.int x_2) := hv
      subst hv
      refine lv_icmp_gt (tgt := 58) hx hb dX3_isDate__51 (by decide) (fun h_3 => ?_) (fun h_3 => ?_)
      · have hm := (if_pos h_3).symm.trans hm
        refine lv_iconst (v := 0) hx hb dX3_isDate__58 (by decide) ?_
        exact m_zret hx hb hr hlocks rfl (Option.some.inj hm) hV hS ⟨Nat.le_of_ble_eq_true rfl, Nat.le_of_ble_eq_true rfl⟩ dX3_isDate__59
      · have hm := (if_neg h_3).symm.trans hm
        refine lv_iconst (v := 1) hx hb dX3_isDate__54 (by decide) ?_
        refine lv_goto (tgt := 59) hx hb dX3_isDate__55 (by decide) ?_
        exact m_zret hx hb hr hlocks rfl (Option.some.inj hm) hV hS ⟨Nat.le_of_ble_eq_true rfl, Nat.le_of_ble_eq_true rfl⟩ dX3_isDate__59
  · have hm := (if_pos h_1).symm.trans hm
    refine lv_iload_n hx hb dX3_isDate__8 rfl (lv_at hl 2 rfl) ?_
    refine lv_i2l hx hb dX3_isDate__9 rfl ?_
    refine lv_lconst (v := 1) hx hb dX3_isDate__10 (by decide) ?_
    refine lv_ldc2 hx hb hown (htg _ w_1043) dX3_isDate__11 ?_
    refine pc_S hC (c_X3_isIn l p1.toInt64 (1 : Int64) (12 : Int64)) (gS w_1040 w_1041 w_27 w_1042) kk_X3_isIn ⟨Nat.le_of_ble_eq_true rfl, Nat.le_of_ble_eq_true rfl⟩ ⟨Nat.le_of_ble_eq_true rfl, Nat.le_of_ble_eq_true rfl⟩ hl.1 rfl rfl (Nat.le_of_ble_eq_true rfl) dX3_isDate__14 ?_
    refine lv_if_eq (tgt := 32) hx hb dX3_isDate__17 (by decide) (fun h_4 => ?_) (fun h_4 => ?_)
    · have hm := (if_pos h_4).symm.trans hm
      refine lv_iconst (v := 1) hx hb dX3_isDate__32 (by decide) ?_
      refine lv_goto (tgt := 37) hx hb dX3_isDate__33 (by decide) ?_
      refine lv_iconst (v := 0) hx hb dX3_isDate__37 (by decide) ?_
      refine lv_iconst (v := 0) hx hb dX3_isDate__38 (by decide) ?_
      obtain ⟨x_3, hx_3, hm⟩ := Option.bind_eq_some_iff.mp hm
      refine mc_V hC hGx hD (k_X3_fails l k b L hD (1 : Int32) (0 : Int32) (0 : Int32)  z hx_3) (gV w_1056 w_1057 w_18 w_27 w_1058) kk_X3_fails rfl (List.forall_mem_nil _) hLb ⟨Nat.le_of_ble_eq_true rfl, Nat.le_of_ble_eq_true rfl⟩ ⟨Nat.le_of_ble_eq_true rfl, Nat.le_of_ble_eq_true rfl⟩ hV hS hl.1 rfl rfl (Nat.le_of_ble_eq_true rfl) dX3_isDate__39 (fun q_3 H locs hV hS hz hq => ?_)
      refine lv_if_ne (tgt := 58) hx hb dX3_isDate__42 (by decide) (fun h_5 => ?_) (fun h_5 => ?_)
      · have hm := (if_neg h_5).symm.trans hm
        refine lv_iconst (v := 0) hx hb dX3_isDate__58 (by decide) ?_
        exact m_zret hx hb hr hlocks rfl (Option.some.inj hm) hV hS ⟨Nat.le_of_ble_eq_true rfl, Nat.le_of_ble_eq_true rfl⟩ dX3_isDate__59
      · have hm := (if_pos h_5).symm.trans hm
        refine lv_iload_n hx hb dX3_isDate__45 rfl (lv_at hl 3 rfl) ?_
        refine lv_iload_n hx hb dX3_isDate__46 rfl (lv_at hl 1 rfl) ?_
        refine lv_iload_n hx hb dX3_isDate__47 rfl (lv_at hl 2 rfl) ?_
        obtain ⟨x_4, hx_4, hm⟩ := Option.bind_eq_some_iff.mp hm
        have hs_4 := hS.1.1
        have hLn_4 := m_hLn hLb hS
        have hL9 := hS.2
        refine qc_S hC hGx (k_X3_lengthOf_ l k p0 p1  hx_4) (gS w_1049 w_1050 w_27 w_1051) kk_X3_lengthOf_ (List.forall_mem_nil _) ⟨Nat.le_of_ble_eq_true rfl, Nat.le_of_ble_eq_true rfl⟩ ⟨Nat.le_of_ble_eq_true rfl, Nat.le_of_ble_eq_true rfl⟩ hS.1 hA hAB hl.1 rfl rfl (Nat.le_of_ble_eq_true rfl) dX3_isDate__48 (fun v_4 H hv hz hq hS => ?_)
        have hS : mS b s.heap H _ := ⟨hS, hL9⟩
        have hV := hV.up hq
        have hv : v_4 = some (.int x_4) := hv
        subst hv
        refine lv_icmp_gt (tgt := 58) hx hb dX3_isDate__51 (by decide) (fun h_6 => ?_) (fun h_6 => ?_)
        · have hm := (if_pos h_6).symm.trans hm
          refine lv_iconst (v := 0) hx hb dX3_isDate__58 (by decide) ?_
          exact m_zret hx hb hr hlocks rfl (Option.some.inj hm) hV hS ⟨Nat.le_of_ble_eq_true rfl, Nat.le_of_ble_eq_true rfl⟩ dX3_isDate__59
        · have hm := (if_neg h_6).symm.trans hm
          refine lv_iconst (v := 1) hx hb dX3_isDate__54 (by decide) ?_
          refine lv_goto (tgt := 59) hx hb dX3_isDate__55 (by decide) ?_
          exact m_zret hx hb hr hlocks rfl (Option.some.inj hm) hV hS ⟨Nat.le_of_ble_eq_true rfl, Nat.le_of_ble_eq_true rfl⟩ dX3_isDate__59
    · have hm := (if_neg h_4).symm.trans hm
      refine lv_iload_n hx hb dX3_isDate__20 rfl (lv_at hl 3 rfl) ?_
      refine lv_i2l hx hb dX3_isDate__21 rfl ?_
      refine lv_lconst (v := 1) hx hb dX3_isDate__22 (by decide) ?_
      refine lv_ldc2 hx hb hown (htg _ w_1044) dX3_isDate__23 ?_
      refine pc_S hC (c_X3_isIn l p2.toInt64 (1 : Int64) (31 : Int64)) (gS w_1040 w_1041 w_27 w_1042) kk_X3_isIn ⟨Nat.le_of_ble_eq_true rfl, Nat.le_of_ble_eq_true rfl⟩ ⟨Nat.le_of_ble_eq_true rfl, Nat.le_of_ble_eq_true rfl⟩ hl.1 rfl rfl (Nat.le_of_ble_eq_true rfl) dX3_isDate__26 ?_
      refine lv_if_ne (tgt := 36) hx hb dX3_isDate__29 (by decide) (fun h_7 => ?_) (fun h_7 => ?_)
      · have hm := (if_neg h_7).symm.trans hm
        refine lv_iconst (v := 0) hx hb dX3_isDate__36 (by decide) ?_
        refine lv_iconst (v := 0) hx hb dX3_isDate__37 (by decide) ?_
        refine lv_iconst (v := 0) hx hb dX3_isDate__38 (by decide) ?_
        obtain ⟨x_5, hx_5, hm⟩ := Option.bind_eq_some_iff.mp hm
        refine mc_V hC hGx hD (k_X3_fails l k b L hD (0 : Int32) (0 : Int32) (0 : Int32)  z hx_5) (gV w_1056 w_1057 w_18 w_27 w_1058) kk_X3_fails rfl (List.forall_mem_nil _) hLb ⟨Nat.le_of_ble_eq_true rfl, Nat.le_of_ble_eq_true rfl⟩ ⟨Nat.le_of_ble_eq_true rfl, Nat.le_of_ble_eq_true rfl⟩ hV hS hl.1 rfl rfl (Nat.le_of_ble_eq_true rfl) dX3_isDate__39 (fun q_5 H locs hV hS hz hq => ?_)
        refine lv_if_ne (tgt := 58) hx hb dX3_isDate__42 (by decide) (fun h_8 => ?_) (fun h_8 => ?_)
        · have hm := (if_neg h_8).symm.trans hm
          refine lv_iconst (v := 0) hx hb dX3_isDate__58 (by decide) ?_
          exact m_zret hx hb hr hlocks rfl (Option.some.inj hm) hV hS ⟨Nat.le_of_ble_eq_true rfl, Nat.le_of_ble_eq_true rfl⟩ dX3_isDate__59
        · have hm := (if_pos h_8).symm.trans hm
          refine lv_iload_n hx hb dX3_isDate__45 rfl (lv_at hl 3 rfl) ?_
          refine lv_iload_n hx hb dX3_isDate__46 rfl (lv_at hl 1 rfl) ?_
          refine lv_iload_n hx hb dX3_isDate__47 rfl (lv_at hl 2 rfl) ?_
          obtain ⟨x_6, hx_6, hm⟩ := Option.bind_eq_some_iff.mp hm
          have hs_6 := hS.1.1
          have hLn_6 := m_hLn hLb hS
          have hL9 := hS.2
          refine qc_S hC hGx (k_X3_lengthOf_ l k p0 p1  hx_6) (gS w_1049 w_1050 w_27 w_1051) kk_X3_lengthOf_ (List.forall_mem_nil _) ⟨Nat.le_of_ble_eq_true rfl, Nat.le_of_ble_eq_true rfl⟩ ⟨Nat.le_of_ble_eq_true rfl, Nat.le_of_ble_eq_true rfl⟩ hS.1 hA hAB hl.1 rfl rfl (Nat.le_of_ble_eq_true rfl) dX3_isDate__48 (fun v_6 H hv hz hq hS => ?_)
          have hS : mS b s.heap H _ := ⟨hS, hL9⟩
          have hV := hV.up hq
          have hv : v_6 = some (.int x_6) := hv
          subst hv
          refine lv_icmp_gt (tgt := 58) hx hb dX3_isDate__51 (by decide) (fun h_9 => ?_) (fun h_9 => ?_)
          · have hm := (if_pos h_9).symm.trans hm
            refine lv_iconst (v := 0) hx hb dX3_isDate__58 (by decide) ?_
            exact m_zret hx hb hr hlocks rfl (Option.some.inj hm) hV hS ⟨Nat.le_of_ble_eq_true rfl, Nat.le_of_ble_eq_true rfl⟩ dX3_isDate__59
          · have hm := (if_neg h_9).symm.trans hm
            refine lv_iconst (v := 1) hx hb dX3_isDate__54 (by decide) ?_
            refine lv_goto (tgt := 59) hx hb dX3_isDate__55 (by decide) ?_
            exact m_zret hx hb hr hlocks rfl (Option.some.inj hm) hV hS ⟨Nat.le_of_ble_eq_true rfl, Nat.le_of_ble_eq_true rfl⟩ dX3_isDate__59
      · have hm := (if_pos h_7).symm.trans hm
        refine lv_iconst (v := 1) hx hb dX3_isDate__32 (by decide) ?_
        refine lv_goto (tgt := 37) hx hb dX3_isDate__33 (by decide) ?_
        refine lv_iconst (v := 0) hx hb dX3_isDate__37 (by decide) ?_
        refine lv_iconst (v := 0) hx hb dX3_isDate__38 (by decide) ?_
        obtain ⟨x_7, hx_7, hm⟩ := Option.bind_eq_some_iff.mp hm
        refine mc_V hC hGx hD (k_X3_fails l k b L hD (1 : Int32) (0 : Int32) (0 : Int32)  z hx_7) (gV w_1056 w_1057 w_18 w_27 w_1058) kk_X3_fails rfl (List.forall_mem_nil _) hLb ⟨Nat.le_of_ble_eq_true rfl, Nat.le_of_ble_eq_true rfl⟩ ⟨Nat.le_of_ble_eq_true rfl, Nat.le_of_ble_eq_true rfl⟩ hV hS hl.1 rfl rfl (Nat.le_of_ble_eq_true rfl) dX3_isDate__39 (fun q_7 H locs hV hS hz hq => ?_)
        refine lv_if_ne (tgt := 58) hx hb dX3_isDate__42 (by decide) (fun h_10 => ?_) (fun h_10 => ?_)
        · have hm := (if_neg h_10).symm.trans hm
          refine lv_iconst (v := 0) hx hb dX3_isDate__58 (by decide) ?_
          exact m_zret hx hb hr hlocks rfl (Option.some.inj hm) hV hS ⟨Nat.le_of_ble_eq_true rfl, Nat.le_of_ble_eq_true rfl⟩ dX3_isDate__59
        · have hm := (if_pos h_10).symm.trans hm
          refine lv_iload_n hx hb dX3_isDate__45 rfl (lv_at hl 3 rfl) ?_
          refine lv_iload_n hx hb dX3_isDate__46 rfl (lv_at hl 1 rfl) ?_
          refine lv_iload_n hx hb dX3_isDate__47 rfl (lv_at hl 2 rfl) ?_
          obtain ⟨x_8, hx_8, hm⟩ := Option.bind_eq_some_iff.mp hm
          have hs_8 := hS.1.1
          have hLn_8 := m_hLn hLb hS
          have hL9 := hS.2
          refine qc_S hC hGx (k_X3_lengthOf_ l k p0 p1  hx_8) (gS w_1049 w_1050 w_27 w_1051) kk_X3_lengthOf_ (List.forall_mem_nil _) ⟨Nat.le_of_ble_eq_true rfl, Nat.le_of_ble_eq_true rfl⟩ ⟨Nat.le_of_ble_eq_true rfl, Nat.le_of_ble_eq_true rfl⟩ hS.1 hA hAB hl.1 rfl rfl (Nat.le_of_ble_eq_true rfl) dX3_isDate__48 (fun v_8 H hv hz hq hS => ?_)
          have hS : mS b s.heap H _ := ⟨hS, hL9⟩
          have hV := hV.up hq
          have hv : v_8 = some (.int x_8) := hv
          subst hv
          refine lv_icmp_gt (tgt := 58) hx hb dX3_isDate__51 (by decide) (fun h_11 => ?_) (fun h_11 => ?_)
          · have hm := (if_pos h_11).symm.trans hm
            refine lv_iconst (v := 0) hx hb dX3_isDate__58 (by decide) ?_
            exact m_zret hx hb hr hlocks rfl (Option.some.inj hm) hV hS ⟨Nat.le_of_ble_eq_true rfl, Nat.le_of_ble_eq_true rfl⟩ dX3_isDate__59
          · have hm := (if_neg h_11).symm.trans hm
            refine lv_iconst (v := 1) hx hb dX3_isDate__54 (by decide) ?_
            refine lv_goto (tgt := 59) hx hb dX3_isDate__55 (by decide) ?_
            exact m_zret hx hb hr hlocks rfl (Option.some.inj hm) hV hS ⟨Nat.le_of_ble_eq_true rfl, Nat.le_of_ble_eq_true rfl⟩ dX3_isDate__59
def o_X3_wouldBe (p0 : Int32) (p1 : Int32) (p2 : Int32) (z : MS) : Option (Int32 × MS) := (if m_X3_isIn p1.toInt64 (0 : Int64) (6 : Int64) = 0 then ((o_X3_fails (m_X3_isNo p0) (1 : Int32) (0 : Int32) z).bind fun x_1 => (if x_1.1 = 0 then (if p0 < 0 ∨ 6 ≤ p0.toNatClampNeg then none else ((o_X3_moved (x_1.2.2.1 p0.toNatClampNeg) p1 p2.toInt64).bind fun x_3 => (Option.elim x_3 (((o_X3_isDateN ).bind fun x_4 => (if x_4 = 0 then ((o_X3_fails (0 : Int32) (0 : Int32) (1 : Int32) x_1.2).bind fun x_6 => (if x_6.1 = 0 then none else some ((0 : Int32), x_6.2))) else ((o_X3_fails (0 : Int32) (0 : Int32) (0 : Int32) x_1.2).bind fun x_5 => (if x_5.1 = 0 then none else some ((0 : Int32), x_5.2)))))) fun d_3 => ((o_X3_isDate d_3).bind fun x_7 => (if x_7 = 0 then ((o_X3_fails (0 : Int32) (0 : Int32) (1 : Int32) x_1.2).bind fun x_10 => (if x_10.1 = 0 then ((o_X2_number d_3).bind fun x_11 => some (x_11, x_10.2)) else some ((0 : Int32), x_10.2))) else ((o_X3_fails (0 : Int32) (0 : Int32) (0 : Int32) x_1.2).bind fun x_8 => (if x_8.1 = 0 then ((o_X2_number d_3).bind fun x_9 => some (x_9, x_8.2)) else some ((0 : Int32), x_8.2)))))))) else some ((0 : Int32), x_1.2))) else (if m_X3_isIn p2.toInt64 (-200000 : Int64) (200000 : Int64) = 0 then ((o_X3_fails (m_X3_isNo p0) (1 : Int32) (0 : Int32) z).bind fun x_23 => (if x_23.1 = 0 then (if p0 < 0 ∨ 6 ≤ p0.toNatClampNeg then none else ((o_X3_moved (x_23.2.2.1 p0.toNatClampNeg) p1 p2.toInt64).bind fun x_25 => (Option.elim x_25 (((o_X3_isDateN ).bind fun x_26 => (if x_26 = 0 then ((o_X3_fails (0 : Int32) (0 : Int32) (1 : Int32) x_23.2).bind fun x_28 => (if x_28.1 = 0 then none else some ((0 : Int32), x_28.2))) else ((o_X3_fails (0 : Int32) (0 : Int32) (0 : Int32) x_23.2).bind fun x_27 => (if x_27.1 = 0 then none else some ((0 : Int32), x_27.2)))))) fun d_25 => ((o_X3_isDate d_25).bind fun x_29 => (if x_29 = 0 then ((o_X3_fails (0 : Int32) (0 : Int32) (1 : Int32) x_23.2).bind fun x_32 => (if x_32.1 = 0 then ((o_X2_number d_25).bind fun x_33 => some (x_33, x_32.2)) else some ((0 : Int32), x_32.2))) else ((o_X3_fails (0 : Int32) (0 : Int32) (0 : Int32) x_23.2).bind fun x_30 => (if x_30.1 = 0 then ((o_X2_number d_25).bind fun x_31 => some (x_31, x_30.2)) else some ((0 : Int32), x_30.2)))))))) else some ((0 : Int32), x_23.2))) else ((o_X3_fails (m_X3_isNo p0) (0 : Int32) (0 : Int32) z).bind fun x_12 => (if x_12.1 = 0 then (if p0 < 0 ∨ 6 ≤ p0.toNatClampNeg then none else ((o_X3_moved (x_12.2.2.1 p0.toNatClampNeg) p1 p2.toInt64).bind fun x_14 => (Option.elim x_14 (((o_X3_isDateN ).bind fun x_15 => (if x_15 = 0 then ((o_X3_fails (0 : Int32) (0 : Int32) (1 : Int32) x_12.2).bind fun x_17 => (if x_17.1 = 0 then none else some ((0 : Int32), x_17.2))) else ((o_X3_fails (0 : Int32) (0 : Int32) (0 : Int32) x_12.2).bind fun x_16 => (if x_16.1 = 0 then none else some ((0 : Int32), x_16.2)))))) fun d_14 => ((o_X3_isDate d_14).bind fun x_18 => (if x_18 = 0 then ((o_X3_fails (0 : Int32) (0 : Int32) (1 : Int32) x_12.2).bind fun x_21 => (if x_21.1 = 0 then ((o_X2_number d_14).bind fun x_22 => some (x_22, x_21.2)) else some ((0 : Int32), x_21.2))) else ((o_X3_fails (0 : Int32) (0 : Int32) (0 : Int32) x_12.2).bind fun x_19 => (if x_19.1 = 0 then ((o_X2_number d_14).bind fun x_20 => some (x_20, x_19.2)) else some ((0 : Int32), x_19.2)))))))) else some ((0 : Int32), x_12.2)))))
theorem kk_X3_wouldBe : pK yX3_wouldBe wsX3_wouldBe cX3_wouldBe 5 (some .int) 3 := ⟨⟨_, rfl⟩, by decide +kernel, by decide +kernel, by decide +kernel⟩
set_option maxRecDepth 100000 in
set_option maxHeartbeats 4000000 in
theorem k_X3_wouldBe (l : Launch) (k : Kx) (b : CA) (L : List Nat) (hD : mD k b L) (p0 : Int32) (p1 : Int32) (p2 : Int32) (z : MS) {r : (Int32 × MS)} (hm : o_X3_wouldBe p0 p1 p2 z = some r) : mM l k b L yX3_wouldBe wsX3_wouldBe 6 158 1 3 [.int p0, .int p1, .int p2] [] z (some (.int r.1)) r.2 := by
  intro sz q
  refine Met.ofW (cc := cX3_wouldBe) (maxL := 5) (ret := (some .int)) (by decide) rfl ?_
  intro p e s m args below meth c s₁ B hml hv
  obtain ⟨rfl, rfl, hGx, hV, hLb, hds⟩ := hv
  have hx := B.exec
  have hb := B.bytes
  have hr := B.returns
  have hts := atoms_spec (ws := wsX3_wouldBe) B.pre
  have hown : s.vm.findClass RX3 = some m.cls := findClass_of_methodNamed B.named
  have hlocks := B.notSynchronized
  have htg : ∀ w ∈ GL, w.before _ s = true := fun w h => hts w (List.mem_cons_of_mem _ h)
  have hC : CallFix p m c cX3_wouldBe 5 s _ wsX3_wouldBe RX3 := ⟨hx, hb, hml, hown, hts⟩
  have hA : ∀ q, s.heap.size ≤ q → cA b s.heap.size q := fun q h => cA.new q h
  have hAB : ∀ q, cA b s.heap.size q → kB k ≤ q := hD.high hGx.2.1
  have hS : mS b s.heap s.heap [] := mS.rf
  have hl := lv_entry ([.ref b.1, .int p0, .int p1, .int p2]) (n := 5) (Nat.le_of_ble_eq_true rfl)
  rw [lg_entry_eq]
  generalize (lg_sl ([.ref b.1, .int p0, .int p1, .int p2]) ++ List.replicate (5 - (lg_sl ([.ref b.1, .int p0, .int p1, .int p2])).length) Slot.unset).toArray = ls at hl ⊢
  have hl : lv_has ls 5 [(0, .ref b.1), (1, .int p0), (2, .int p1), (3, .int p2)] := hl
  refine lv_aload_n hx hb dX3_wouldBe_0 rfl (lv_at hl 0 rfl) ?_
  refine lv_iload_n hx hb dX3_wouldBe_1 rfl (lv_at hl 1 rfl) ?_
  refine pc_S hC (c_X3_isNo l p0) (gS w_1045 w_1046 w_27 w_1047) kk_X3_isNo ⟨Nat.le_of_ble_eq_true rfl, Nat.le_of_ble_eq_true rfl⟩ ⟨Nat.le_of_ble_eq_true rfl, Nat.le_of_ble_eq_true rfl⟩ hl.1 rfl rfl (Nat.le_of_ble_eq_true rfl) dX3_wouldBe_2 ?_
  refine lv_iload_n hx hb dX3_wouldBe_5 rfl (lv_at hl 2 rfl) ?_
  refine lv_i2l hx hb dX3_wouldBe_6 rfl ?_
  refine lv_lconst (v := 0) hx hb dX3_wouldBe_7 (by decide) ?_
  refine lv_ldc2 hx hb hown (htg _ w_1320) dX3_wouldBe_8 ?_
  refine pc_S hC (c_X3_isIn l p1.toInt64 (0 : Int64) (6 : Int64)) (gS w_1040 w_1041 w_27 w_1042) kk_X3_isIn ⟨Nat.le_of_ble_eq_true rfl, Nat.le_of_ble_eq_true rfl⟩ ⟨Nat.le_of_ble_eq_true rfl, Nat.le_of_ble_eq_true rfl⟩ hl.1 rfl rfl (Nat.le_of_ble_eq_true rfl) dX3_wouldBe_11 ?_
  refine lv_if_eq (tgt := 31) hx hb dX3_wouldBe_14 (by decide) (fun h_1 => ?_) (fun h_1 => ?_)
  · have hm := (if_pos h_1).symm.trans hm
    refine lv_iconst (v := 1) hx hb dX3_wouldBe_31 (by decide) ?_
    refine lv_goto (tgt := 36) hx hb dX3_wouldBe_32 (by decide) ?_
    refine lv_iconst (v := 0) hx hb dX3_wouldBe_36 (by decide) ?_
    obtain ⟨x_1, hx_1, hm⟩ := Option.bind_eq_some_iff.mp hm
    refine mc_V hC hGx hD (k_X3_fails l k b L hD (m_X3_isNo p0) (1 : Int32) (0 : Int32)  z hx_1) (gV w_1056 w_1057 w_18 w_27 w_1058) kk_X3_fails rfl (List.forall_mem_nil _) hLb ⟨Nat.le_of_ble_eq_true rfl, Nat.le_of_ble_eq_true rfl⟩ ⟨Nat.le_of_ble_eq_true rfl, Nat.le_of_ble_eq_true rfl⟩ hV hS hl.1 rfl rfl (Nat.le_of_ble_eq_true rfl) dX3_wouldBe_37 (fun q_1 H locs hV hS hz hq => ?_)
    refine lv_if_eq (tgt := 45) hx hb dX3_wouldBe_40 (by decide) (fun h_2 => ?_) (fun h_2 => ?_)
    · have hm := (if_pos h_2).symm.trans hm
      refine lv_aload_n hx hb dX3_wouldBe_45 rfl (lv_at hl 0 rfl) ?_
      refine va_get (D := kD k) (ci := 5) (v := .ref b.2.1) (C := RX3) (T := TX3) (N := 5) hx hb htg inG_X3 hown hGx.1 hV.1 0 rfl rfl 1 (by decide) (htg _ w_1012) (fun _ h9 => h9) rfl dX3_wouldBe_46 ?_
      refine lv_iload_n hx hb dX3_wouldBe_49 rfl (lv_at hl 1 rfl) ?_
      by_cases h_3 : p0 < 0 ∨ 6 ≤ p0.toNatClampNeg
      · have hm := (if_pos h_3).symm.trans hm
        cases hm
      have hm := (if_neg h_3).symm.trans hm
      refine m_ald hx hb hGx hV h_3 dX3_wouldBe_50 (fun hP_2 => ?_)
      refine lv_iload_n hx hb dX3_wouldBe_51 rfl (lv_at hl 2 rfl) ?_
      refine lv_iload_n hx hb dX3_wouldBe_52 rfl (lv_at hl 3 rfl) ?_
      refine lv_i2l hx hb dX3_wouldBe_53 rfl ?_
      obtain ⟨x_3, hx_3, hm⟩ := Option.bind_eq_some_iff.mp hm
      have hs_3 := hS.1.1
      have hLn_3 := m_hLn hLb hS
      have hL9 := hS.2
      refine qc_S hC hGx (k_X3_moved l k (x_1.2.2.1 p0.toNatClampNeg) p1 p2.toInt64 (q_1 p0.toNatClampNeg) hx_3) (gS w_1149 w_1150 w_27 w_1151) kk_X3_moved (List.forall_mem_cons.mpr ⟨hP_2.1, (List.forall_mem_nil _)⟩) ⟨Nat.le_of_ble_eq_true rfl, Nat.le_of_ble_eq_true rfl⟩ ⟨Nat.le_of_ble_eq_true rfl, Nat.le_of_ble_eq_true rfl⟩ hS.1 hA hAB hl.1 rfl rfl (Nat.le_of_ble_eq_true rfl) dX3_wouldBe_54 (fun v_3 H hv hz hq hS => ?_)
      have hS : mS b s.heap H _ := ⟨hS, hL9⟩
      have hV := hV.up hq
      cases x_3 with
      | none =>
        rw [Option.elim_none] at hm
        have hv : v_3 = some .null := hv
        subst hv
        refine lv_astoreN (lv' := [(4, .null), (0, .ref b.1), (1, .int p0), (2, .int p1), (3, .int p2)]) hx hb dX3_wouldBe_57 hl (by decide) rfl (fun ls hl => ?_)
        refine lv_aload_n hx hb dX3_wouldBe_59 rfl (lv_at hl 1 rfl) ?_
        refine lv_iconst (v := 0) hx hb dX3_wouldBe_60 (by decide) ?_
        refine lv_iconst (v := 0) hx hb dX3_wouldBe_61 (by decide) ?_
        refine lv_aloadN hx hb dX3_wouldBe_62 (lv_at hl 0 rfl) ?_
        obtain ⟨x_4, hx_4, hm⟩ := Option.bind_eq_some_iff.mp hm
        have hs_4 := hS.1.1
        have hLn_4 := m_hLn hLb hS
        have hL9 := hS.2
        refine qc_S hC hGx (k_X3_isDateN l k   hx_4) (gS w_1162 w_1163 w_27 w_1164) kk_X3_isDate (List.forall_mem_nil _) ⟨Nat.le_of_ble_eq_true rfl, Nat.le_of_ble_eq_true rfl⟩ ⟨Nat.le_of_ble_eq_true rfl, Nat.le_of_ble_eq_true rfl⟩ hS.1 hA hAB hl.1 rfl rfl (Nat.le_of_ble_eq_true rfl) dX3_wouldBe_64 (fun v_4 H hv hz hq hS => ?_)
        have hS : mS b s.heap H _ := ⟨hS, hL9⟩
        have hV := hV.up hq
        have hv : v_4 = some (.int x_4) := hv
        subst hv
        refine lv_if_ne (tgt := 74) hx hb dX3_wouldBe_67 (by decide) (fun h_4 => ?_) (fun h_4 => ?_)
        · have hm := (if_neg h_4).symm.trans hm
          refine lv_iconst (v := 0) hx hb dX3_wouldBe_74 (by decide) ?_
          obtain ⟨x_5, hx_5, hm⟩ := Option.bind_eq_some_iff.mp hm
          refine mc_V hC hGx hD (k_X3_fails l k b L hD (0 : Int32) (0 : Int32) (0 : Int32)  x_1.2 hx_5) (gV w_1056 w_1057 w_18 w_27 w_1058) kk_X3_fails rfl (List.forall_mem_nil _) hLb ⟨Nat.le_of_ble_eq_true rfl, Nat.le_of_ble_eq_true rfl⟩ ⟨Nat.le_of_ble_eq_true rfl, Nat.le_of_ble_eq_true rfl⟩ hV hS hl.1 rfl rfl (Nat.le_of_ble_eq_true rfl) dX3_wouldBe_75 (fun q_5 H locs hV hS hz hq => ?_)
          refine lv_if_eq (tgt := 85) hx hb dX3_wouldBe_78 (by decide) (fun h_5 => ?_) (fun h_5 => ?_)
          · have hm := (if_pos h_5).symm.trans hm
            refine lv_aloadN hx hb dX3_wouldBe_85 (lv_at hl 0 rfl) ?_
            cases hm
          · have hm := (if_neg h_5).symm.trans hm
            refine lv_iconst (v := 0) hx hb dX3_wouldBe_81 (by decide) ?_
            refine lv_goto (tgt := 90) hx hb dX3_wouldBe_82 (by decide) ?_
            exact m_iret hx hb hr hlocks (Option.some.inj hm) hV hS ⟨Nat.le_of_ble_eq_true rfl, Nat.le_of_ble_eq_true rfl⟩ dX3_wouldBe_90
        · have hm := (if_pos h_4).symm.trans hm
          refine lv_iconst (v := 1) hx hb dX3_wouldBe_70 (by decide) ?_
          refine lv_goto (tgt := 75) hx hb dX3_wouldBe_71 (by decide) ?_
          obtain ⟨x_6, hx_6, hm⟩ := Option.bind_eq_some_iff.mp hm
          refine mc_V hC hGx hD (k_X3_fails l k b L hD (0 : Int32) (0 : Int32) (1 : Int32)  x_1.2 hx_6) (gV w_1056 w_1057 w_18 w_27 w_1058) kk_X3_fails rfl (List.forall_mem_nil _) hLb ⟨Nat.le_of_ble_eq_true rfl, Nat.le_of_ble_eq_true rfl⟩ ⟨Nat.le_of_ble_eq_true rfl, Nat.le_of_ble_eq_true rfl⟩ hV hS hl.1 rfl rfl (Nat.le_of_ble_eq_true rfl) dX3_wouldBe_75 (fun q_6 H locs hV hS hz hq => ?_)
          refine lv_if_eq (tgt := 85) hx hb dX3_wouldBe_78 (by decide) (fun h_6 => ?_) (fun h_6 => ?_)
          · have hm := (if_pos h_6).symm.trans hm
            refine lv_aloadN hx hb dX3_wouldBe_85 (lv_at hl 0 rfl) ?_
            cases hm
          · have hm := (if_neg h_6).symm.trans hm
            refine lv_iconst (v := 0) hx hb dX3_wouldBe_81 (by decide) ?_
            refine lv_goto (tgt := 90) hx hb dX3_wouldBe_82 (by decide) ?_
            exact m_iret hx hb hr hlocks (Option.some.inj hm) hV hS ⟨Nat.le_of_ble_eq_true rfl, Nat.le_of_ble_eq_true rfl⟩ dX3_wouldBe_90
      | some d_3 =>
        rw [Option.elim_some] at hm
        obtain ⟨a_3, rfl, hn_3, hP_3⟩ := hv
        have hP_3 := dF.made hLn_3 hn_3 hP_3
        have hn_3 := Nat.le_trans hs_3 hn_3
        refine lv_astore (lv' := [(4, .ref a_3), (0, .ref b.1), (1, .int p0), (2, .int p1), (3, .int p2)]) hx hb dX3_wouldBe_57 hl (by decide) rfl (fun ls hl => ?_)
        refine lv_aload_n hx hb dX3_wouldBe_59 rfl (lv_at hl 1 rfl) ?_
        refine lv_iconst (v := 0) hx hb dX3_wouldBe_60 (by decide) ?_
        refine lv_iconst (v := 0) hx hb dX3_wouldBe_61 (by decide) ?_
        refine lv_aload hx hb dX3_wouldBe_62 (lv_at hl 0 rfl) ?_
        obtain ⟨x_7, hx_7, hm⟩ := Option.bind_eq_some_iff.mp hm
        have hs_7 := hS.1.1
        have hLn_7 := m_hLn hLb hS
        have hL9 := hS.2
        refine qc_S hC hGx (k_X3_isDate l k d_3 a_3 hx_7) (gS w_1162 w_1163 w_27 w_1164) kk_X3_isDate (List.forall_mem_cons.mpr ⟨hP_3.1, (List.forall_mem_nil _)⟩) ⟨Nat.le_of_ble_eq_true rfl, Nat.le_of_ble_eq_true rfl⟩ ⟨Nat.le_of_ble_eq_true rfl, Nat.le_of_ble_eq_true rfl⟩ hS.1 hA hAB hl.1 rfl rfl (Nat.le_of_ble_eq_true rfl) dX3_wouldBe_64 (fun v_7 H hv hz hq hS => ?_)
        have hS : mS b s.heap H _ := ⟨hS, hL9⟩
        have hV := hV.up hq
        have hP_3 := hP_3.up (fun x h9 _ => hq x h9)
        have hv : v_7 = some (.int x_7) := hv
        subst hv
        refine lv_if_ne (tgt := 74) hx hb dX3_wouldBe_67 (by decide) (fun h_7 => ?_) (fun h_7 => ?_)
        · have hm := (if_neg h_7).symm.trans hm
          refine lv_iconst (v := 0) hx hb dX3_wouldBe_74 (by decide) ?_
          obtain ⟨x_8, hx_8, hm⟩ := Option.bind_eq_some_iff.mp hm
          refine mc_V hC hGx hD (k_X3_fails l k b L hD (0 : Int32) (0 : Int32) (0 : Int32)  x_1.2 hx_8) (gV w_1056 w_1057 w_18 w_27 w_1058) kk_X3_fails rfl (List.forall_mem_nil _) hLb ⟨Nat.le_of_ble_eq_true rfl, Nat.le_of_ble_eq_true rfl⟩ ⟨Nat.le_of_ble_eq_true rfl, Nat.le_of_ble_eq_true rfl⟩ hV hS hl.1 rfl rfl (Nat.le_of_ble_eq_true rfl) dX3_wouldBe_75 (fun q_8 H locs hV hS hz hq => ?_)
          have hP_3 := hP_3.up hq
          refine lv_if_eq (tgt := 85) hx hb dX3_wouldBe_78 (by decide) (fun h_8 => ?_) (fun h_8 => ?_)
          · have hm := (if_pos h_8).symm.trans hm
            refine lv_aload hx hb dX3_wouldBe_85 (lv_at hl 0 rfl) ?_
            obtain ⟨x_9, hx_9, hm⟩ := Option.bind_eq_some_iff.mp hm
            have hs_9 := hS.1.1
            have hLn_9 := m_hLn hLb hS
            have hL9 := hS.2
            refine qc_V hC hGx (k_X2_number l k d_3 a_3 hx_9) (gV w_1062 w_1063 w_1064 w_28 w_1065) kk_X2_number rfl hP_3.1 (List.forall_mem_cons.mpr ⟨hP_3.1, (List.forall_mem_nil _)⟩) ⟨Nat.le_of_ble_eq_true rfl, Nat.le_of_ble_eq_true rfl⟩ ⟨Nat.le_of_ble_eq_true rfl, Nat.le_of_ble_eq_true rfl⟩ hS.1 hA hAB hl.1 rfl rfl (Nat.le_of_ble_eq_true rfl) dX3_wouldBe_87 (fun v_9 H hv hz hq hS => ?_)
            have hS : mS b s.heap H _ := ⟨hS, hL9⟩
            have hV := hV.up hq
            have hP_3 := hP_3.up (fun x h9 _ => hq x h9)
            have hv : v_9 = some (.int x_9) := hv
            subst hv
            exact m_iret hx hb hr hlocks (Option.some.inj hm) hV hS ⟨Nat.le_of_ble_eq_true rfl, Nat.le_of_ble_eq_true rfl⟩ dX3_wouldBe_90
          · have hm := (if_neg h_8).symm.trans hm
            refine lv_iconst (v := 0) hx hb dX3_wouldBe_81 (by decide) ?_
            refine lv_goto (tgt := 90) hx hb dX3_wouldBe_82 (by decide) ?_
            exact m_iret hx hb hr hlocks (Option.some.inj hm) hV hS ⟨Nat.le_of_ble_eq_true rfl, Nat.le_of_ble_eq_true rfl⟩ dX3_wouldBe_90
        · have hm := (if_pos h_7).symm.trans hm
          refine lv_iconst (v := 1) hx hb dX3_wouldBe_70 (by decide) ?_
          refine lv_goto (tgt := 75) hx hb dX3_wouldBe_71 (by decide) ?_
          obtain ⟨x_10, hx_10, hm⟩ := Option.bind_eq_some_iff.mp hm
          refine mc_V hC hGx hD (k_X3_fails l k b L hD (0 : Int32) (0 : Int32) (1 : Int32)  x_1.2 hx_10) (gV w_1056 w_1057 w_18 w_27 w_1058) kk_X3_fails rfl (List.forall_mem_nil _) hLb ⟨Nat.le_of_ble_eq_true rfl, Nat.le_of_ble_eq_true rfl⟩ ⟨Nat.le_of_ble_eq_true rfl, Nat.le_of_ble_eq_true rfl⟩ hV hS hl.1 rfl rfl (Nat.le_of_ble_eq_true rfl) dX3_wouldBe_75 (fun q_10 H locs hV hS hz hq => ?_)
          have hP_3 := hP_3.up hq
          refine lv_if_eq (tgt := 85) hx hb dX3_wouldBe_78 (by decide) (fun h_9 => ?_) (fun h_9 => ?_)
          · have hm := (if_pos h_9).symm.trans hm
            refine lv_aload hx hb dX3_wouldBe_85 (lv_at hl 0 rfl) ?_
            obtain ⟨x_11, hx_11, hm⟩ := Option.bind_eq_some_iff.mp hm
            have hs_11 := hS.1.1
            have hLn_11 := m_hLn hLb hS
            have hL9 := hS.2
            refine qc_V hC hGx (k_X2_number l k d_3 a_3 hx_11) (gV w_1062 w_1063 w_1064 w_28 w_1065) kk_X2_number rfl hP_3.1 (List.forall_mem_cons.mpr ⟨hP_3.1, (List.forall_mem_nil _)⟩) ⟨Nat.le_of_ble_eq_true rfl, Nat.le_of_ble_eq_true rfl⟩ ⟨Nat.le_of_ble_eq_true rfl, Nat.le_of_ble_eq_true rfl⟩ hS.1 hA hAB hl.1 rfl rfl (Nat.le_of_ble_eq_true rfl) dX3_wouldBe_87 (fun v_11 H hv hz hq hS => ?_)
            have hS : mS b s.heap H _ := ⟨hS, hL9⟩
            have hV := hV.up hq
            have hP_3 := hP_3.up (fun x h9 _ => hq x h9)
            have hv : v_11 = some (.int x_11) := hv
            subst hv
            exact m_iret hx hb hr hlocks (Option.some.inj hm) hV hS ⟨Nat.le_of_ble_eq_true rfl, Nat.le_of_ble_eq_true rfl⟩ dX3_wouldBe_90
          · have hm := (if_neg h_9).symm.trans hm
            refine lv_iconst (v := 0) hx hb dX3_wouldBe_81 (by decide) ?_
            refine lv_goto (tgt := 90) hx hb dX3_wouldBe_82 (by decide) ?_
            exact m_iret hx hb hr hlocks (Option.some.inj hm) hV hS ⟨Nat.le_of_ble_eq_true rfl, Nat.le_of_ble_eq_true rfl⟩ dX3_wouldBe_90
    · have hm := (if_neg h_2).symm.trans hm
      refine lv_iconst (v := 0) hx hb dX3_wouldBe_43 (by decide) ?_
      exact m_iret hx hb hr hlocks (Option.some.inj hm) hV hS ⟨Nat.le_of_ble_eq_true rfl, Nat.le_of_ble_eq_true rfl⟩ dX3_wouldBe_44
  · have hm := (if_neg h_1).symm.trans hm
    refine lv_iload_n hx hb dX3_wouldBe_17 rfl (lv_at hl 3 rfl) ?_
    refine lv_i2l hx hb dX3_wouldBe_18 rfl ?_
    refine lv_ldc2 hx hb hown (htg _ w_1147) dX3_wouldBe_19 ?_
    refine lv_ldc2 hx hb hown (htg _ w_1148) dX3_wouldBe_22 ?_
    refine pc_S hC (c_X3_isIn l p2.toInt64 (-200000 : Int64) (200000 : Int64)) (gS w_1040 w_1041 w_27 w_1042) kk_X3_isIn ⟨Nat.le_of_ble_eq_true rfl, Nat.le_of_ble_eq_true rfl⟩ ⟨Nat.le_of_ble_eq_true rfl, Nat.le_of_ble_eq_true rfl⟩ hl.1 rfl rfl (Nat.le_of_ble_eq_true rfl) dX3_wouldBe_25 ?_
    refine lv_if_ne (tgt := 35) hx hb dX3_wouldBe_28 (by decide) (fun h_10 => ?_) (fun h_10 => ?_)
    · have hm := (if_neg h_10).symm.trans hm
      refine lv_iconst (v := 0) hx hb dX3_wouldBe_35 (by decide) ?_
      refine lv_iconst (v := 0) hx hb dX3_wouldBe_36 (by decide) ?_
      obtain ⟨x_12, hx_12, hm⟩ := Option.bind_eq_some_iff.mp hm
      refine mc_V hC hGx hD (k_X3_fails l k b L hD (m_X3_isNo p0) (0 : Int32) (0 : Int32)  z hx_12) (gV w_1056 w_1057 w_18 w_27 w_1058) kk_X3_fails rfl (List.forall_mem_nil _) hLb ⟨Nat.le_of_ble_eq_true rfl, Nat.le_of_ble_eq_true rfl⟩ ⟨Nat.le_of_ble_eq_true rfl, Nat.le_of_ble_eq_true rfl⟩ hV hS hl.1 rfl rfl (Nat.le_of_ble_eq_true rfl) dX3_wouldBe_37 (fun q_12 H locs hV hS hz hq => ?_)
      refine lv_if_eq (tgt := 45) hx hb dX3_wouldBe_40 (by decide) (fun h_11 => ?_) (fun h_11 => ?_)
      · have hm := (if_pos h_11).symm.trans hm
        refine lv_aload_n hx hb dX3_wouldBe_45 rfl (lv_at hl 0 rfl) ?_
        refine va_get (D := kD k) (ci := 5) (v := .ref b.2.1) (C := RX3) (T := TX3) (N := 5) hx hb htg inG_X3 hown hGx.1 hV.1 0 rfl rfl 1 (by decide) (htg _ w_1012) (fun _ h9 => h9) rfl dX3_wouldBe_46 ?_
        refine lv_iload_n hx hb dX3_wouldBe_49 rfl (lv_at hl 1 rfl) ?_
        by_cases h_12 : p0 < 0 ∨ 6 ≤ p0.toNatClampNeg
        · have hm := (if_pos h_12).symm.trans hm
          cases hm
        have hm := (if_neg h_12).symm.trans hm
        refine m_ald hx hb hGx hV h_12 dX3_wouldBe_50 (fun hP_13 => ?_)
        refine lv_iload_n hx hb dX3_wouldBe_51 rfl (lv_at hl 2 rfl) ?_
        refine lv_iload_n hx hb dX3_wouldBe_52 rfl (lv_at hl 3 rfl) ?_
        refine lv_i2l hx hb dX3_wouldBe_53 rfl ?_
        obtain ⟨x_14, hx_14, hm⟩ := Option.bind_eq_some_iff.mp hm
        have hs_14 := hS.1.1
        have hLn_14 := m_hLn hLb hS
        have hL9 := hS.2
        refine qc_S hC hGx (k_X3_moved l k (x_12.2.2.1 p0.toNatClampNeg) p1 p2.toInt64 (q_12 p0.toNatClampNeg) hx_14) (gS w_1149 w_1150 w_27 w_1151) kk_X3_moved (List.forall_mem_cons.mpr ⟨hP_13.1, (List.forall_mem_nil _)⟩) ⟨Nat.le_of_ble_eq_true rfl, Nat.le_of_ble_eq_true rfl⟩ ⟨Nat.le_of_ble_eq_true rfl, Nat.le_of_ble_eq_true rfl⟩ hS.1 hA hAB hl.1 rfl rfl (Nat.le_of_ble_eq_true rfl) dX3_wouldBe_54 (fun v_14 H hv hz hq hS => ?_)
        have hS : mS b s.heap H _ := ⟨hS, hL9⟩
        have hV := hV.up hq
        cases x_14 with
        | none =>
          rw [Option.elim_none] at hm
          have hv : v_14 = some .null := hv
          subst hv
          refine lv_astoreN (lv' := [(4, .null), (0, .ref b.1), (1, .int p0), (2, .int p1), (3, .int p2)]) hx hb dX3_wouldBe_57 hl (by decide) rfl (fun ls hl => ?_)
          refine lv_aload_n hx hb dX3_wouldBe_59 rfl (lv_at hl 1 rfl) ?_
          refine lv_iconst (v := 0) hx hb dX3_wouldBe_60 (by decide) ?_
          refine lv_iconst (v := 0) hx hb dX3_wouldBe_61 (by decide) ?_
          refine lv_aloadN hx hb dX3_wouldBe_62 (lv_at hl 0 rfl) ?_
          obtain ⟨x_15, hx_15, hm⟩ := Option.bind_eq_some_iff.mp hm
          have hs_15 := hS.1.1
          have hLn_15 := m_hLn hLb hS
          have hL9 := hS.2
          refine qc_S hC hGx (k_X3_isDateN l k   hx_15) (gS w_1162 w_1163 w_27 w_1164) kk_X3_isDate (List.forall_mem_nil _) ⟨Nat.le_of_ble_eq_true rfl, Nat.le_of_ble_eq_true rfl⟩ ⟨Nat.le_of_ble_eq_true rfl, Nat.le_of_ble_eq_true rfl⟩ hS.1 hA hAB hl.1 rfl rfl (Nat.le_of_ble_eq_true rfl) dX3_wouldBe_64 (fun v_15 H hv hz hq hS => ?_)
          have hS : mS b s.heap H _ := ⟨hS, hL9⟩
          have hV := hV.up hq
          have hv : v_15 = some (.int x_15) := hv
          subst hv
          refine lv_if_ne (tgt := 74) hx hb dX3_wouldBe_67 (by decide) (fun h_13 => ?_) (fun h_13 => ?_)
          · have hm := (if_neg h_13).symm.trans hm
            refine lv_iconst (v := 0) hx hb dX3_wouldBe_74 (by decide) ?_
            obtain ⟨x_16, hx_16, hm⟩ := Option.bind_eq_some_iff.mp hm
            refine mc_V hC hGx hD (k_X3_fails l k b L hD (0 : Int32) (0 : Int32) (0 : Int32)  x_12.2 hx_16) (gV w_1056 w_1057 w_18 w_27 w_1058) kk_X3_fails rfl (List.forall_mem_nil _) hLb ⟨Nat.le_of_ble_eq_true rfl, Nat.le_of_ble_eq_true rfl⟩ ⟨Nat.le_of_ble_eq_true rfl, Nat.le_of_ble_eq_true rfl⟩ hV hS hl.1 rfl rfl (Nat.le_of_ble_eq_true rfl) dX3_wouldBe_75 (fun q_16 H locs hV hS hz hq => ?_)
            refine lv_if_eq (tgt := 85) hx hb dX3_wouldBe_78 (by decide) (fun h_14 => ?_) (fun h_14 => ?_)
            · have hm := (if_pos h_14).symm.trans hm
              refine lv_aloadN hx hb dX3_wouldBe_85 (lv_at hl 0 rfl) ?_
              cases hm
            · have hm := (if_neg h_14).symm.trans hm
              refine lv_iconst (v := 0) hx hb dX3_wouldBe_81 (by decide) ?_
              refine lv_goto (tgt := 90) hx hb dX3_wouldBe_82 (by decide) ?_
              exact m_iret hx hb hr hlocks (Option.some.inj hm) hV hS ⟨Nat.le_of_ble_eq_true rfl, Nat.le_of_ble_eq_true rfl⟩ dX3_wouldBe_90
          · have hm := (if_pos h_13).symm.trans hm
            refine lv_iconst (v := 1) hx hb dX3_wouldBe_70 (by decide) ?_
            refine lv_goto (tgt := 75) hx hb dX3_wouldBe_71 (by decide) ?_
            obtain ⟨x_17, hx_17, hm⟩ := Option.bind_eq_some_iff.mp hm
            refine mc_V hC hGx hD (k_X3_fails l k b L hD (0 : Int32) (0 : Int32) (1 : Int32)  x_12.2 hx_17) (gV w_1056 w_1057 w_18 w_27 w_1058) kk_X3_fails rfl (List.forall_mem_nil _) hLb ⟨Nat.le_of_ble_eq_true rfl, Nat.le_of_ble_eq_true rfl⟩ ⟨Nat.le_of_ble_eq_true rfl, Nat.le_of_ble_eq_true rfl⟩ hV hS hl.1 rfl rfl (Nat.le_of_ble_eq_true rfl) dX3_wouldBe_75 (fun q_17 H locs hV hS hz hq => ?_)
            refine lv_if_eq (tgt := 85) hx hb dX3_wouldBe_78 (by decide) (fun h_15 => ?_) (fun h_15 => ?_)
            · have hm := (if_pos h_15).symm.trans hm
              refine lv_aloadN hx hb dX3_wouldBe_85 (lv_at hl 0 rfl) ?_
              cases hm
            · have hm := (if_neg h_15).symm.trans hm
              refine lv_iconst (v := 0) hx hb dX3_wouldBe_81 (by decide) ?_
              refine lv_goto (tgt := 90) hx hb dX3_wouldBe_82 (by decide) ?_
              exact m_iret hx hb hr hlocks (Option.some.inj hm) hV hS ⟨Nat.le_of_ble_eq_true rfl, Nat.le_of_ble_eq_true rfl⟩ dX3_wouldBe_90
        | some d_14 =>
          rw [Option.elim_some] at hm
          obtain ⟨a_14, rfl, hn_14, hP_14⟩ := hv
          have hP_14 := dF.made hLn_14 hn_14 hP_14
          have hn_14 := Nat.le_trans hs_14 hn_14
          refine lv_astore (lv' := [(4, .ref a_14), (0, .ref b.1), (1, .int p0), (2, .int p1), (3, .int p2)]) hx hb dX3_wouldBe_57 hl (by decide) rfl (fun ls hl => ?_)
          refine lv_aload_n hx hb dX3_wouldBe_59 rfl (lv_at hl 1 rfl) ?_
          refine lv_iconst (v := 0) hx hb dX3_wouldBe_60 (by decide) ?_
          refine lv_iconst (v := 0) hx hb dX3_wouldBe_61 (by decide) ?_
          refine lv_aload hx hb dX3_wouldBe_62 (lv_at hl 0 rfl) ?_
          obtain ⟨x_18, hx_18, hm⟩ := Option.bind_eq_some_iff.mp hm
          have hs_18 := hS.1.1
          have hLn_18 := m_hLn hLb hS
          have hL9 := hS.2
          refine qc_S hC hGx (k_X3_isDate l k d_14 a_14 hx_18) (gS w_1162 w_1163 w_27 w_1164) kk_X3_isDate (List.forall_mem_cons.mpr ⟨hP_14.1, (List.forall_mem_nil _)⟩) ⟨Nat.le_of_ble_eq_true rfl, Nat.le_of_ble_eq_true rfl⟩ ⟨Nat.le_of_ble_eq_true rfl, Nat.le_of_ble_eq_true rfl⟩ hS.1 hA hAB hl.1 rfl rfl (Nat.le_of_ble_eq_true rfl) dX3_wouldBe_64 (fun v_18 H hv hz hq hS => ?_)
          have hS : mS b s.heap H _ := ⟨hS, hL9⟩
          have hV := hV.up hq
          have hP_14 := hP_14.up (fun x h9 _ => hq x h9)
          have hv : v_18 = some (.int x_18) := hv
          subst hv
          refine lv_if_ne (tgt := 74) hx hb dX3_wouldBe_67 (by decide) (fun h_16 => ?_) (fun h_16 => ?_)
          · have hm := (if_neg h_16).symm.trans hm
            refine lv_iconst (v := 0) hx hb dX3_wouldBe_74 (by decide) ?_
            obtain ⟨x_19, hx_19, hm⟩ := Option.bind_eq_some_iff.mp hm
            refine mc_V hC hGx hD (k_X3_fails l k b L hD (0 : Int32) (0 : Int32) (0 : Int32)  x_12.2 hx_19) (gV w_1056 w_1057 w_18 w_27 w_1058) kk_X3_fails rfl (List.forall_mem_nil _) hLb ⟨Nat.le_of_ble_eq_true rfl, Nat.le_of_ble_eq_true rfl⟩ ⟨Nat.le_of_ble_eq_true rfl, Nat.le_of_ble_eq_true rfl⟩ hV hS hl.1 rfl rfl (Nat.le_of_ble_eq_true rfl) dX3_wouldBe_75 (fun q_19 H locs hV hS hz hq => ?_)
            have hP_14 := hP_14.up hq
            refine lv_if_eq (tgt := 85) hx hb dX3_wouldBe_78 (by decide) (fun h_17 => ?_) (fun h_17 => ?_)
            · have hm := (if_pos h_17).symm.trans hm
              refine lv_aload hx hb dX3_wouldBe_85 (lv_at hl 0 rfl) ?_
              obtain ⟨x_20, hx_20, hm⟩ := Option.bind_eq_some_iff.mp hm
              have hs_20 := hS.1.1
              have hLn_20 := m_hLn hLb hS
              have hL9 := hS.2
              refine qc_V hC hGx (k_X2_number l k d_14 a_14 hx_20) (gV w_1062 w_1063 w_1064 w_28 w_1065) kk_X2_number rfl hP_14.1 (List.forall_mem_cons.mpr ⟨hP_14.1, (List.forall_mem_nil _)⟩) ⟨Nat.le_of_ble_eq_true rfl, Nat.le_of_ble_eq_true rfl⟩ ⟨Nat.le_of_ble_eq_true rfl, Nat.le_of_ble_eq_true rfl⟩ hS.1 hA hAB hl.1 rfl rfl (Nat.le_of_ble_eq_true rfl) dX3_wouldBe_87 (fun v_20 H hv hz hq hS => ?_)
              have hS : mS b s.heap H _ := ⟨hS, hL9⟩
              have hV := hV.up hq
              have hP_14 := hP_14.up (fun x h9 _ => hq x h9)
              have hv : v_20 = some (.int x_20) := hv
              subst hv
              exact m_iret hx hb hr hlocks (Option.some.inj hm) hV hS ⟨Nat.le_of_ble_eq_true rfl, Nat.le_of_ble_eq_true rfl⟩ dX3_wouldBe_90
            · have hm := (if_neg h_17).symm.trans hm
              refine lv_iconst (v := 0) hx hb dX3_wouldBe_81 (by decide) ?_
              refine lv_goto (tgt := 90) hx hb dX3_wouldBe_82 (by decide) ?_
              exact m_iret hx hb hr hlocks (Option.some.inj hm) hV hS ⟨Nat.le_of_ble_eq_true rfl, Nat.le_of_ble_eq_true rfl⟩ dX3_wouldBe_90
          · have hm := (if_pos h_16).symm.trans hm
            refine lv_iconst (v := 1) hx hb dX3_wouldBe_70 (by decide) ?_
            refine lv_goto (tgt := 75) hx hb dX3_wouldBe_71 (by decide) ?_
            obtain ⟨x_21, hx_21, hm⟩ := Option.bind_eq_some_iff.mp hm
            refine mc_V hC hGx hD (k_X3_fails l k b L hD (0 : Int32) (0 : Int32) (1 : Int32)  x_12.2 hx_21) (gV w_1056 w_1057 w_18 w_27 w_1058) kk_X3_fails rfl (List.forall_mem_nil _) hLb ⟨Nat.le_of_ble_eq_true rfl, Nat.le_of_ble_eq_true rfl⟩ ⟨Nat.le_of_ble_eq_true rfl, Nat.le_of_ble_eq_true rfl⟩ hV hS hl.1 rfl rfl (Nat.le_of_ble_eq_true rfl) dX3_wouldBe_75 (fun q_21 H locs hV hS hz hq => ?_)
            have hP_14 := hP_14.up hq
            refine lv_if_eq (tgt := 85) hx hb dX3_wouldBe_78 (by decide) (fun h_18 => ?_) (fun h_18 => ?_)
            · have hm := (if_pos h_18).symm.trans hm
              refine lv_aload hx hb dX3_wouldBe_85 (lv_at hl 0 rfl) ?_
              obtain ⟨x_22, hx_22, hm⟩ := Option.bind_eq_some_iff.mp hm
              have hs_22 := hS.1.1
              have hLn_22 := m_hLn hLb hS
              have hL9 := hS.2
              refine qc_V hC hGx (k_X2_number l k d_14 a_14 hx_22) (gV w_1062 w_1063 w_1064 w_28 w_1065) kk_X2_number rfl hP_14.1 (List.forall_mem_cons.mpr ⟨hP_14.1, (List.forall_mem_nil _)⟩) ⟨Nat.le_of_ble_eq_true rfl, Nat.le_of_ble_eq_true rfl⟩ ⟨Nat.le_of_ble_eq_true rfl, Nat.le_of_ble_eq_true rfl⟩ hS.1 hA hAB hl.1 rfl rfl (Nat.le_of_ble_eq_true rfl) dX3_wouldBe_87 (fun v_22 H hv hz hq hS => ?_)
              have hS : mS b s.heap H _ := ⟨hS, hL9⟩
              have hV := hV.up hq
              have hP_14 := hP_14.up (fun x h9 _ => hq x h9)
              have hv : v_22 = some (.int x_22) := hv
              subst hv
              exact m_iret hx hb hr hlocks (Option.some.inj hm) hV hS ⟨Nat.le_of_ble_eq_true rfl, Nat.le_of_ble_eq_true rfl⟩ dX3_wouldBe_90
            · have hm := (if_neg h_18).symm.trans hm
              refine lv_iconst (v := 0) hx hb dX3_wouldBe_81 (by decide) ?_
              refine lv_goto (tgt := 90) hx hb dX3_wouldBe_82 (by decide) ?_
              exact m_iret hx hb hr hlocks (Option.some.inj hm) hV hS ⟨Nat.le_of_ble_eq_true rfl, Nat.le_of_ble_eq_true rfl⟩ dX3_wouldBe_90
      · have hm := (if_neg h_11).symm.trans hm
        refine lv_iconst (v := 0) hx hb dX3_wouldBe_43 (by decide) ?_
        exact m_iret hx hb hr hlocks (Option.some.inj hm) hV hS ⟨Nat.le_of_ble_eq_true rfl, Nat.le_of_ble_eq_true rfl⟩ dX3_wouldBe_44
    · have hm := (if_pos h_10).symm.trans hm
      refine lv_iconst (v := 1) hx hb dX3_wouldBe_31 (by decide) ?_
      refine lv_goto (tgt := 36) hx hb dX3_wouldBe_32 (by decide) ?_
      refine lv_iconst (v := 0) hx hb dX3_wouldBe_36 (by decide) ?_
      obtain ⟨x_23, hx_23, hm⟩ := Option.bind_eq_some_iff.mp hm
      refine mc_V hC hGx hD (k_X3_fails l k b L hD (m_X3_isNo p0) (1 : Int32) (0 : Int32)  z hx_23) (gV w_1056 w_1057 w_18 w_27 w_1058) kk_X3_fails rfl (List.forall_mem_nil _) hLb ⟨Nat.le_of_ble_eq_true rfl, Nat.le_of_ble_eq_true rfl⟩ ⟨Nat.le_of_ble_eq_true rfl, Nat.le_of_ble_eq_true rfl⟩ hV hS hl.1 rfl rfl (Nat.le_of_ble_eq_true rfl) dX3_wouldBe_37 (fun q_23 H locs hV hS hz hq => ?_)
      refine lv_if_eq (tgt := 45) hx hb dX3_wouldBe_40 (by decide) (fun h_19 => ?_) (fun h_19 => ?_)
      · have hm := (if_pos h_19).symm.trans hm
        refine lv_aload_n hx hb dX3_wouldBe_45 rfl (lv_at hl 0 rfl) ?_
        refine va_get (D := kD k) (ci := 5) (v := .ref b.2.1) (C := RX3) (T := TX3) (N := 5) hx hb htg inG_X3 hown hGx.1 hV.1 0 rfl rfl 1 (by decide) (htg _ w_1012) (fun _ h9 => h9) rfl dX3_wouldBe_46 ?_
        refine lv_iload_n hx hb dX3_wouldBe_49 rfl (lv_at hl 1 rfl) ?_
        by_cases h_20 : p0 < 0 ∨ 6 ≤ p0.toNatClampNeg
        · have hm := (if_pos h_20).symm.trans hm
          cases hm
        have hm := (if_neg h_20).symm.trans hm
        refine m_ald hx hb hGx hV h_20 dX3_wouldBe_50 (fun hP_24 => ?_)
        refine lv_iload_n hx hb dX3_wouldBe_51 rfl (lv_at hl 2 rfl) ?_
        refine lv_iload_n hx hb dX3_wouldBe_52 rfl (lv_at hl 3 rfl) ?_
        refine lv_i2l hx hb dX3_wouldBe_53 rfl ?_
        obtain ⟨x_25, hx_25, hm⟩ := Option.bind_eq_some_iff.mp hm
        have hs_25 := hS.1.1
        have hLn_25 := m_hLn hLb hS
        have hL9 := hS.2
        refine qc_S hC hGx (k_X3_moved l k (x_23.2.2.1 p0.toNatClampNeg) p1 p2.toInt64 (q_23 p0.toNatClampNeg) hx_25) (gS w_1149 w_1150 w_27 w_1151) kk_X3_moved (List.forall_mem_cons.mpr ⟨hP_24.1, (List.forall_mem_nil _)⟩) ⟨Nat.le_of_ble_eq_true rfl, Nat.le_of_ble_eq_true rfl⟩ ⟨Nat.le_of_ble_eq_true rfl, Nat.le_of_ble_eq_true rfl⟩ hS.1 hA hAB hl.1 rfl rfl (Nat.le_of_ble_eq_true rfl) dX3_wouldBe_54 (fun v_25 H hv hz hq hS => ?_)
        have hS : mS b s.heap H _ := ⟨hS, hL9⟩
        have hV := hV.up hq
        cases x_25 with
        | none =>
          rw [Option.elim_none] at hm
          have hv : v_25 = some .null := hv
          subst hv
          refine lv_astoreN (lv' := [(4, .null), (0, .ref b.1), (1, .int p0), (2, .int p1), (3, .int p2)]) hx hb dX3_wouldBe_57 hl (by decide) rfl (fun ls hl => ?_)
          refine lv_aload_n hx hb dX3_wouldBe_59 rfl (lv_at hl 1 rfl) ?_
          refine lv_iconst (v := 0) hx hb dX3_wouldBe_60 (by decide) ?_
          refine lv_iconst (v := 0) hx hb dX3_wouldBe_61 (by decide) ?_
          refine lv_aloadN hx hb dX3_wouldBe_62 (lv_at hl 0 rfl) ?_
          obtain ⟨x_26, hx_26, hm⟩ := Option.bind_eq_some_iff.mp hm
          have hs_26 := hS.1.1
          have hLn_26 := m_hLn hLb hS
          have hL9 := hS.2
          refine qc_S hC hGx (k_X3_isDateN l k   hx_26) (gS w_1162 w_1163 w_27 w_1164) kk_X3_isDate (List.forall_mem_nil _) ⟨Nat.le_of_ble_eq_true rfl, Nat.le_of_ble_eq_true rfl⟩ ⟨Nat.le_of_ble_eq_true rfl, Nat.le_of_ble_eq_true rfl⟩ hS.1 hA hAB hl.1 rfl rfl (Nat.le_of_ble_eq_true rfl) dX3_wouldBe_64 (fun v_26 H hv hz hq hS => ?_)
          have hS : mS b s.heap H _ := ⟨hS, hL9⟩
          have hV := hV.up hq
          have hv : v_26 = some (.int x_26) := hv
          subst hv
          refine lv_if_ne (tgt := 74) hx hb dX3_wouldBe_67 (by decide) (fun h_21 => ?_) (fun h_21 => ?_)
          · have hm := (if_neg h_21).symm.trans hm
            refine lv_iconst (v := 0) hx hb dX3_wouldBe_74 (by decide) ?_
            obtain ⟨x_27, hx_27, hm⟩ := Option.bind_eq_some_iff.mp hm
            refine mc_V hC hGx hD (k_X3_fails l k b L hD (0 : Int32) (0 : Int32) (0 : Int32)  x_23.2 hx_27) (gV w_1056 w_1057 w_18 w_27 w_1058) kk_X3_fails rfl (List.forall_mem_nil _) hLb ⟨Nat.le_of_ble_eq_true rfl, Nat.le_of_ble_eq_true rfl⟩ ⟨Nat.le_of_ble_eq_true rfl, Nat.le_of_ble_eq_true rfl⟩ hV hS hl.1 rfl rfl (Nat.le_of_ble_eq_true rfl) dX3_wouldBe_75 (fun q_27 H locs hV hS hz hq => ?_)
            refine lv_if_eq (tgt := 85) hx hb dX3_wouldBe_78 (by decide) (fun h_22 => ?_) (fun h_22 => ?_)
            · have hm := (if_pos h_22).symm.trans hm
              refine lv_aloadN hx hb dX3_wouldBe_85 (lv_at hl 0 rfl) ?_
              cases hm
            · have hm := (if_neg h_22).symm.trans hm
              refine lv_iconst (v := 0) hx hb dX3_wouldBe_81 (by decide) ?_
              refine lv_goto (tgt := 90) hx hb dX3_wouldBe_82 (by decide) ?_
              exact m_iret hx hb hr hlocks (Option.some.inj hm) hV hS ⟨Nat.le_of_ble_eq_true rfl, Nat.le_of_ble_eq_true rfl⟩ dX3_wouldBe_90
          · have hm := (if_pos h_21).symm.trans hm
            refine lv_iconst (v := 1) hx hb dX3_wouldBe_70 (by decide) ?_
            refine lv_goto (tgt := 75) hx hb dX3_wouldBe_71 (by decide) ?_
            obtain ⟨x_28, hx_28, hm⟩ := Option.bind_eq_some_iff.mp hm
            refine mc_V hC hGx hD (k_X3_fails l k b L hD (0 : Int32) (0 : Int32) (1 : Int32)  x_23.2 hx_28) (gV w_1056 w_1057 w_18 w_27 w_1058) kk_X3_fails rfl (List.forall_mem_nil _) hLb ⟨Nat.le_of_ble_eq_true rfl, Nat.le_of_ble_eq_true rfl⟩ ⟨Nat.le_of_ble_eq_true rfl, Nat.le_of_ble_eq_true rfl⟩ hV hS hl.1 rfl rfl (Nat.le_of_ble_eq_true rfl) dX3_wouldBe_75 (fun q_28 H locs hV hS hz hq => ?_)
            refine lv_if_eq (tgt := 85) hx hb dX3_wouldBe_78 (by decide) (fun h_23 => ?_) (fun h_23 => ?_)
            · have hm := (if_pos h_23).symm.trans hm
              refine lv_aloadN hx hb dX3_wouldBe_85 (lv_at hl 0 rfl) ?_
              cases hm
            · have hm := (if_neg h_23).symm.trans hm
              refine lv_iconst (v := 0) hx hb dX3_wouldBe_81 (by decide) ?_
              refine lv_goto (tgt := 90) hx hb dX3_wouldBe_82 (by decide) ?_
              exact m_iret hx hb hr hlocks (Option.some.inj hm) hV hS ⟨Nat.le_of_ble_eq_true rfl, Nat.le_of_ble_eq_true rfl⟩ dX3_wouldBe_90
        | some d_25 =>
          rw [Option.elim_some] at hm
          obtain ⟨a_25, rfl, hn_25, hP_25⟩ := hv
          have hP_25 := dF.made hLn_25 hn_25 hP_25
          have hn_25 := Nat.le_trans hs_25 hn_25
          refine lv_astore (lv' := [(4, .ref a_25), (0, .ref b.1), (1, .int p0), (2, .int p1), (3, .int p2)]) hx hb dX3_wouldBe_57 hl (by decide) rfl (fun ls hl => ?_)
          refine lv_aload_n hx hb dX3_wouldBe_59 rfl (lv_at hl 1 rfl) ?_
          refine lv_iconst (v := 0) hx hb dX3_wouldBe_60 (by decide) ?_
          refine lv_iconst (v := 0) hx hb dX3_wouldBe_61 (by decide) ?_
          refine lv_aload hx hb dX3_wouldBe_62 (lv_at hl 0 rfl) ?_
          obtain ⟨x_29, hx_29, hm⟩ := Option.bind_eq_some_iff.mp hm
          have hs_29 := hS.1.1
          have hLn_29 := m_hLn hLb hS
          have hL9 := hS.2
          refine qc_S hC hGx (k_X3_isDate l k d_25 a_25 hx_29) (gS w_1162 w_1163 w_27 w_1164) kk_X3_isDate (List.forall_mem_cons.mpr ⟨hP_25.1, (List.forall_mem_nil _)⟩) ⟨Nat.le_of_ble_eq_true rfl, Nat.le_of_ble_eq_true rfl⟩ ⟨Nat.le_of_ble_eq_true rfl, Nat.le_of_ble_eq_true rfl⟩ hS.1 hA hAB hl.1 rfl rfl (Nat.le_of_ble_eq_true rfl) dX3_wouldBe_64 (fun v_29 H hv hz hq hS => ?_)
          have hS : mS b s.heap H _ := ⟨hS, hL9⟩
          have hV := hV.up hq
          have hP_25 := hP_25.up (fun x h9 _ => hq x h9)
          have hv : v_29 = some (.int x_29) := hv
          subst hv
          refine lv_if_ne (tgt := 74) hx hb dX3_wouldBe_67 (by decide) (fun h_24 => ?_) (fun h_24 => ?_)
          · have hm := (if_neg h_24).symm.trans hm
            refine lv_iconst (v := 0) hx hb dX3_wouldBe_74 (by decide) ?_
            obtain ⟨x_30, hx_30, hm⟩ := Option.bind_eq_some_iff.mp hm
            refine mc_V hC hGx hD (k_X3_fails l k b L hD (0 : Int32) (0 : Int32) (0 : Int32)  x_23.2 hx_30) (gV w_1056 w_1057 w_18 w_27 w_1058) kk_X3_fails rfl (List.forall_mem_nil _) hLb ⟨Nat.le_of_ble_eq_true rfl, Nat.le_of_ble_eq_true rfl⟩ ⟨Nat.le_of_ble_eq_true rfl, Nat.le_of_ble_eq_true rfl⟩ hV hS hl.1 rfl rfl (Nat.le_of_ble_eq_true rfl) dX3_wouldBe_75 (fun q_30 H locs hV hS hz hq => ?_)
            have hP_25 := hP_25.up hq
            refine lv_if_eq (tgt := 85) hx hb dX3_wouldBe_78 (by decide) (fun h_25 => ?_) (fun h_25 => ?_)
            · have hm := (if_pos h_25).symm.trans hm
              refine lv_aload hx hb dX3_wouldBe_85 (lv_at hl 0 rfl) ?_
              obtain ⟨x_31, hx_31, hm⟩ := Option.bind_eq_some_iff.mp hm
              have hs_31 := hS.1.1
              have hLn_31 := m_hLn hLb hS
              have hL9 := hS.2
              refine qc_V hC hGx (k_X2_number l k d_25 a_25 hx_31) (gV w_1062 w_1063 w_1064 w_28 w_1065) kk_X2_number rfl hP_25.1 (List.forall_mem_cons.mpr ⟨hP_25.1, (List.forall_mem_nil _)⟩) ⟨Nat.le_of_ble_eq_true rfl, Nat.le_of_ble_eq_true rfl⟩ ⟨Nat.le_of_ble_eq_true rfl, Nat.le_of_ble_eq_true rfl⟩ hS.1 hA hAB hl.1 rfl rfl (Nat.le_of_ble_eq_true rfl) dX3_wouldBe_87 (fun v_31 H hv hz hq hS => ?_)
              have hS : mS b s.heap H _ := ⟨hS, hL9⟩
              have hV := hV.up hq
              have hP_25 := hP_25.up (fun x h9 _ => hq x h9)
              have hv : v_31 = some (.int x_31) := hv
              subst hv
              exact m_iret hx hb hr hlocks (Option.some.inj hm) hV hS ⟨Nat.le_of_ble_eq_true rfl, Nat.le_of_ble_eq_true rfl⟩ dX3_wouldBe_90
            · have hm := (if_neg h_25).symm.trans hm
              refine lv_iconst (v := 0) hx hb dX3_wouldBe_81 (by decide) ?_
              refine lv_goto (tgt := 90) hx hb dX3_wouldBe_82 (by decide) ?_
              exact m_iret hx hb hr hlocks (Option.some.inj hm) hV hS ⟨Nat.le_of_ble_eq_true rfl, Nat.le_of_ble_eq_true rfl⟩ dX3_wouldBe_90
          · have hm := (if_pos h_24).symm.trans hm
            refine lv_iconst (v := 1) hx hb dX3_wouldBe_70 (by decide) ?_
            refine lv_goto (tgt := 75) hx hb dX3_wouldBe_71 (by decide) ?_
            obtain ⟨x_32, hx_32, hm⟩ := Option.bind_eq_some_iff.mp hm
            refine mc_V hC hGx hD (k_X3_fails l k b L hD (0 : Int32) (0 : Int32) (1 : Int32)  x_23.2 hx_32) (gV w_1056 w_1057 w_18 w_27 w_1058) kk_X3_fails rfl (List.forall_mem_nil _) hLb ⟨Nat.le_of_ble_eq_true rfl, Nat.le_of_ble_eq_true rfl⟩ ⟨Nat.le_of_ble_eq_true rfl, Nat.le_of_ble_eq_true rfl⟩ hV hS hl.1 rfl rfl (Nat.le_of_ble_eq_true rfl) dX3_wouldBe_75 (fun q_32 H locs hV hS hz hq => ?_)
            have hP_25 := hP_25.up hq
            refine lv_if_eq (tgt := 85) hx hb dX3_wouldBe_78 (by decide) (fun h_26 => ?_) (fun h_26 => ?_)
            · have hm := (if_pos h_26).symm.trans hm
              refine lv_aload hx hb dX3_wouldBe_85 (lv_at hl 0 rfl) ?_
              obtain ⟨x_33, hx_33, hm⟩ := Option.bind_eq_some_iff.mp hm
              have hs_33 := hS.1.1
              have hLn_33 := m_hLn hLb hS
              have hL9 := hS.2
              refine qc_V hC hGx (k_X2_number l k d_25 a_25 hx_33) (gV w_1062 w_1063 w_1064 w_28 w_1065) kk_X2_number rfl hP_25.1 (List.forall_mem_cons.mpr ⟨hP_25.1, (List.forall_mem_nil _)⟩) ⟨Nat.le_of_ble_eq_true rfl, Nat.le_of_ble_eq_true rfl⟩ ⟨Nat.le_of_ble_eq_true rfl, Nat.le_of_ble_eq_true rfl⟩ hS.1 hA hAB hl.1 rfl rfl (Nat.le_of_ble_eq_true rfl) dX3_wouldBe_87 (fun v_33 H hv hz hq hS => ?_)
              have hS : mS b s.heap H _ := ⟨hS, hL9⟩
              have hV := hV.up hq
              have hP_25 := hP_25.up (fun x h9 _ => hq x h9)
              have hv : v_33 = some (.int x_33) := hv
              subst hv
              exact m_iret hx hb hr hlocks (Option.some.inj hm) hV hS ⟨Nat.le_of_ble_eq_true rfl, Nat.le_of_ble_eq_true rfl⟩ dX3_wouldBe_90
            · have hm := (if_neg h_26).symm.trans hm
              refine lv_iconst (v := 0) hx hb dX3_wouldBe_81 (by decide) ?_
              refine lv_goto (tgt := 90) hx hb dX3_wouldBe_82 (by decide) ?_
              exact m_iret hx hb hr hlocks (Option.some.inj hm) hV hS ⟨Nat.le_of_ble_eq_true rfl, Nat.le_of_ble_eq_true rfl⟩ dX3_wouldBe_90
      · have hm := (if_neg h_19).symm.trans hm
        refine lv_iconst (v := 0) hx hb dX3_wouldBe_43 (by decide) ?_
        exact m_iret hx hb hr hlocks (Option.some.inj hm) hV hS ⟨Nat.le_of_ble_eq_true rfl, Nat.le_of_ble_eq_true rfl⟩ dX3_wouldBe_44
def o_X3_compare (p0 : Int32) (p1 : Int32) (z : MS) : Option (Int32 × MS) := ((o_X3_areNot p0 p1 z).bind fun x_1 => (if x_1.1 = 0 then (if p0 < 0 ∨ 6 ≤ p0.toNatClampNeg then none else (if p1 < 0 ∨ 6 ≤ p1.toNatClampNeg then none else ((o_X3_compared (x_1.2.2.1 p0.toNatClampNeg) (x_1.2.2.1 p1.toNatClampNeg)).bind fun x_4 => some (x_4, x_1.2)))) else some ((0 : Int32), x_1.2)))
theorem kk_X3_compare : pK yX3_compare wsX3_compare cX3_compare 3 (some .int) 2 := ⟨⟨_, rfl⟩, by decide +kernel, by decide +kernel, by decide +kernel⟩
set_option maxRecDepth 100000 in
set_option maxHeartbeats 4000000 in
theorem k_X3_compare (l : Launch) (k : Kx) (b : CA) (L : List Nat) (hD : mD k b L) (p0 : Int32) (p1 : Int32) (z : MS) {r : (Int32 × MS)} (hm : o_X3_compare p0 p1 z = some r) : mM l k b L yX3_compare wsX3_compare 3 67 0 0 [.int p0, .int p1] [] z (some (.int r.1)) r.2 := by
  intro sz q
  refine Met.ofW (cc := cX3_compare) (maxL := 3) (ret := (some .int)) (by decide) rfl ?_
  intro p e s m args below meth c s₁ B hml hv
  obtain ⟨rfl, rfl, hGx, hV, hLb, hds⟩ := hv
  have hx := B.exec
  have hb := B.bytes
  have hr := B.returns
  have hts := atoms_spec (ws := wsX3_compare) B.pre
  have hown : s.vm.findClass RX3 = some m.cls := findClass_of_methodNamed B.named
  have hlocks := B.notSynchronized
  have htg : ∀ w ∈ GL, w.before _ s = true := fun w h => hts w (List.mem_cons_of_mem _ h)
  have hC : CallFix p m c cX3_compare 3 s _ wsX3_compare RX3 := ⟨hx, hb, hml, hown, hts⟩
  have hA : ∀ q, s.heap.size ≤ q → cA b s.heap.size q := fun q h => cA.new q h
  have hAB : ∀ q, cA b s.heap.size q → kB k ≤ q := hD.high hGx.2.1
  have hS : mS b s.heap s.heap [] := mS.rf
  have hl := lv_entry ([.ref b.1, .int p0, .int p1]) (n := 3) (Nat.le_of_ble_eq_true rfl)
  rw [lg_entry_eq]
  generalize (lg_sl ([.ref b.1, .int p0, .int p1]) ++ List.replicate (3 - (lg_sl ([.ref b.1, .int p0, .int p1])).length) Slot.unset).toArray = ls at hl ⊢
  have hl : lv_has ls 3 [(0, .ref b.1), (1, .int p0), (2, .int p1)] := hl
  refine lv_aload_n hx hb dX3_compare_0 rfl (lv_at hl 0 rfl) ?_
  refine lv_iload_n hx hb dX3_compare_1 rfl (lv_at hl 1 rfl) ?_
  refine lv_iload_n hx hb dX3_compare_2 rfl (lv_at hl 2 rfl) ?_
  obtain ⟨x_1, hx_1, hm⟩ := Option.bind_eq_some_iff.mp hm
  refine mc_V hC hGx hD (k_X3_areNot l k b L hD p0 p1  z hx_1) (gV w_1325 w_1326 w_23 w_27 w_1327) kk_X3_areNot rfl (List.forall_mem_nil _) hLb ⟨Nat.le_of_ble_eq_true rfl, Nat.le_of_ble_eq_true rfl⟩ ⟨Nat.le_of_ble_eq_true rfl, Nat.le_of_ble_eq_true rfl⟩ hV hS hl.1 rfl rfl (Nat.le_of_ble_eq_true rfl) dX3_compare_3 (fun q_1 H locs hV hS hz hq => ?_)
  refine lv_if_eq (tgt := 13) hx hb dX3_compare_6 (by decide) (fun h_1 => ?_) (fun h_1 => ?_)
  · have hm := (if_pos h_1).symm.trans hm
    refine lv_aload_n hx hb dX3_compare_13 rfl (lv_at hl 0 rfl) ?_
    refine va_get (D := kD k) (ci := 5) (v := .ref b.2.1) (C := RX3) (T := TX3) (N := 5) hx hb htg inG_X3 hown hGx.1 hV.1 0 rfl rfl 1 (by decide) (htg _ w_1012) (fun _ h9 => h9) rfl dX3_compare_14 ?_
    refine lv_iload_n hx hb dX3_compare_17 rfl (lv_at hl 1 rfl) ?_
    by_cases h_2 : p0 < 0 ∨ 6 ≤ p0.toNatClampNeg
    · have hm := (if_pos h_2).symm.trans hm
      cases hm
    have hm := (if_neg h_2).symm.trans hm
    refine m_ald hx hb hGx hV h_2 dX3_compare_18 (fun hP_2 => ?_)
    refine lv_aload_n hx hb dX3_compare_19 rfl (lv_at hl 0 rfl) ?_
    refine va_get (D := kD k) (ci := 5) (v := .ref b.2.1) (C := RX3) (T := TX3) (N := 5) hx hb htg inG_X3 hown hGx.1 hV.1 0 rfl rfl 1 (by decide) (htg _ w_1012) (fun _ h9 => h9) rfl dX3_compare_20 ?_
    refine lv_iload_n hx hb dX3_compare_23 rfl (lv_at hl 2 rfl) ?_
    by_cases h_3 : p1 < 0 ∨ 6 ≤ p1.toNatClampNeg
    · have hm := (if_pos h_3).symm.trans hm
      cases hm
    have hm := (if_neg h_3).symm.trans hm
    refine m_ald hx hb hGx hV h_3 dX3_compare_24 (fun hP_3 => ?_)
    obtain ⟨x_4, hx_4, hm⟩ := Option.bind_eq_some_iff.mp hm
    have hs_4 := hS.1.1
    have hLn_4 := m_hLn hLb hS
    have hL9 := hS.2
    refine qc_S hC hGx (k_X3_compared l k (x_1.2.2.1 p0.toNatClampNeg) (x_1.2.2.1 p1.toNatClampNeg) (q_1 p0.toNatClampNeg) (q_1 p1.toNatClampNeg) hx_4) (gS w_1328 w_1329 w_27 w_1330) kk_X3_compared (List.forall_mem_cons.mpr ⟨hP_2.1, (List.forall_mem_cons.mpr ⟨hP_3.1, (List.forall_mem_nil _)⟩)⟩) ⟨Nat.le_of_ble_eq_true rfl, Nat.le_of_ble_eq_true rfl⟩ ⟨Nat.le_of_ble_eq_true rfl, Nat.le_of_ble_eq_true rfl⟩ hS.1 hA hAB hl.1 rfl rfl (Nat.le_of_ble_eq_true rfl) dX3_compare_25 (fun v_4 H hv hz hq hS => ?_)
    have hS : mS b s.heap H _ := ⟨hS, hL9⟩
    have hV := hV.up hq
    have hv : v_4 = some (.int x_4) := hv
    subst hv
    exact m_iret hx hb hr hlocks (Option.some.inj hm) hV hS ⟨Nat.le_of_ble_eq_true rfl, Nat.le_of_ble_eq_true rfl⟩ dX3_compare_28
  · have hm := (if_neg h_1).symm.trans hm
    refine lv_iconst (v := 0) hx hb dX3_compare_9 (by decide) ?_
    refine lv_goto (tgt := 28) hx hb dX3_compare_10 (by decide) ?_
    exact m_iret hx hb hr hlocks (Option.some.inj hm) hV hS ⟨Nat.le_of_ble_eq_true rfl, Nat.le_of_ble_eq_true rfl⟩ dX3_compare_28
def o_X3_isBefore (p0 : Int32) (p1 : Int32) (z : MS) : Option (Int32 × MS) := ((o_X3_areNot p0 p1 z).bind fun x_1 => (if x_1.1 = 0 then (if p0 < 0 ∨ 6 ≤ p0.toNatClampNeg then none else (if p1 < 0 ∨ 6 ≤ p1.toNatClampNeg then none else ((o_X3_isAhead (x_1.2.2.1 p0.toNatClampNeg) (x_1.2.2.1 p1.toNatClampNeg)).bind fun x_4 => (if x_4 = 0 then some ((0 : Int32), x_1.2) else some ((1 : Int32), x_1.2))))) else some ((0 : Int32), x_1.2)))
theorem kk_X3_isBefore : pK yX3_isBefore wsX3_isBefore cX3_isBefore 3 (some .boolean) 2 := ⟨⟨_, rfl⟩, by decide +kernel, by decide +kernel, by decide +kernel⟩
set_option maxRecDepth 100000 in
set_option maxHeartbeats 4000000 in
theorem k_X3_isBefore (l : Launch) (k : Kx) (b : CA) (L : List Nat) (hD : mD k b L) (p0 : Int32) (p1 : Int32) (z : MS) {r : (Int32 × MS)} (hm : o_X3_isBefore p0 p1 z = some r) : mM l k b L yX3_isBefore wsX3_isBefore 3 67 0 0 [.int p0, .int p1] [] z (some (.int r.1)) r.2 := by
  intro sz q
  refine Met.ofW (cc := cX3_isBefore) (maxL := 3) (ret := (some .boolean)) (by decide) rfl ?_
  intro p e s m args below meth c s₁ B hml hv
  obtain ⟨rfl, rfl, hGx, hV, hLb, hds⟩ := hv
  have hx := B.exec
  have hb := B.bytes
  have hr := B.returns
  have hts := atoms_spec (ws := wsX3_isBefore) B.pre
  have hown : s.vm.findClass RX3 = some m.cls := findClass_of_methodNamed B.named
  have hlocks := B.notSynchronized
  have htg : ∀ w ∈ GL, w.before _ s = true := fun w h => hts w (List.mem_cons_of_mem _ h)
  have hC : CallFix p m c cX3_isBefore 3 s _ wsX3_isBefore RX3 := ⟨hx, hb, hml, hown, hts⟩
  have hA : ∀ q, s.heap.size ≤ q → cA b s.heap.size q := fun q h => cA.new q h
  have hAB : ∀ q, cA b s.heap.size q → kB k ≤ q := hD.high hGx.2.1
  have hS : mS b s.heap s.heap [] := mS.rf
  have hl := lv_entry ([.ref b.1, .int p0, .int p1]) (n := 3) (Nat.le_of_ble_eq_true rfl)
  rw [lg_entry_eq]
  generalize (lg_sl ([.ref b.1, .int p0, .int p1]) ++ List.replicate (3 - (lg_sl ([.ref b.1, .int p0, .int p1])).length) Slot.unset).toArray = ls at hl ⊢
  have hl : lv_has ls 3 [(0, .ref b.1), (1, .int p0), (2, .int p1)] := hl
  refine lv_aload_n hx hb dX3_isBefore_0 rfl (lv_at hl 0 rfl) ?_
  refine lv_iload_n hx hb dX3_isBefore_1 rfl (lv_at hl 1 rfl) ?_
  refine lv_iload_n hx hb dX3_isBefore_2 rfl (lv_at hl 2 rfl) ?_
  obtain ⟨x_1, hx_1, hm⟩ := Option.bind_eq_some_iff.mp hm
  refine mc_V hC hGx hD (k_X3_areNot l k b L hD p0 p1  z hx_1) (gV w_1325 w_1326 w_23 w_27 w_1327) kk_X3_areNot rfl (List.forall_mem_nil _) hLb ⟨Nat.le_of_ble_eq_true rfl, Nat.le_of_ble_eq_true rfl⟩ ⟨Nat.le_of_ble_eq_true rfl, Nat.le_of_ble_eq_true rfl⟩ hV hS hl.1 rfl rfl (Nat.le_of_ble_eq_true rfl) dX3_isBefore_3 (fun q_1 H locs hV hS hz hq => ?_)
  refine lv_if_ne (tgt := 31) hx hb dX3_isBefore_6 (by decide) (fun h_1 => ?_) (fun h_1 => ?_)
  · have hm := (if_neg h_1).symm.trans hm
    refine lv_iconst (v := 0) hx hb dX3_isBefore_31 (by decide) ?_
    exact m_zret hx hb hr hlocks rfl (Option.some.inj hm) hV hS ⟨Nat.le_of_ble_eq_true rfl, Nat.le_of_ble_eq_true rfl⟩ dX3_isBefore_32
  · have hm := (if_pos h_1).symm.trans hm
    refine lv_aload_n hx hb dX3_isBefore_9 rfl (lv_at hl 0 rfl) ?_
    refine va_get (D := kD k) (ci := 5) (v := .ref b.2.1) (C := RX3) (T := TX3) (N := 5) hx hb htg inG_X3 hown hGx.1 hV.1 0 rfl rfl 1 (by decide) (htg _ w_1012) (fun _ h9 => h9) rfl dX3_isBefore_10 ?_
    refine lv_iload_n hx hb dX3_isBefore_13 rfl (lv_at hl 1 rfl) ?_
    by_cases h_2 : p0 < 0 ∨ 6 ≤ p0.toNatClampNeg
    · have hm := (if_pos h_2).symm.trans hm
      cases hm
    have hm := (if_neg h_2).symm.trans hm
    refine m_ald hx hb hGx hV h_2 dX3_isBefore_14 (fun hP_2 => ?_)
    refine lv_aload_n hx hb dX3_isBefore_15 rfl (lv_at hl 0 rfl) ?_
    refine va_get (D := kD k) (ci := 5) (v := .ref b.2.1) (C := RX3) (T := TX3) (N := 5) hx hb htg inG_X3 hown hGx.1 hV.1 0 rfl rfl 1 (by decide) (htg _ w_1012) (fun _ h9 => h9) rfl dX3_isBefore_16 ?_
    refine lv_iload_n hx hb dX3_isBefore_19 rfl (lv_at hl 2 rfl) ?_
    by_cases h_3 : p1 < 0 ∨ 6 ≤ p1.toNatClampNeg
    · have hm := (if_pos h_3).symm.trans hm
      cases hm
    have hm := (if_neg h_3).symm.trans hm
    refine m_ald hx hb hGx hV h_3 dX3_isBefore_20 (fun hP_3 => ?_)
    obtain ⟨x_4, hx_4, hm⟩ := Option.bind_eq_some_iff.mp hm
    have hs_4 := hS.1.1
    have hLn_4 := m_hLn hLb hS
    have hL9 := hS.2
    refine qc_S hC hGx (k_X3_isAhead l k (x_1.2.2.1 p0.toNatClampNeg) (x_1.2.2.1 p1.toNatClampNeg) (q_1 p0.toNatClampNeg) (q_1 p1.toNatClampNeg) hx_4) (gS w_1212 w_1213 w_27 w_1214) kk_X3_isAhead (List.forall_mem_cons.mpr ⟨hP_2.1, (List.forall_mem_cons.mpr ⟨hP_3.1, (List.forall_mem_nil _)⟩)⟩) ⟨Nat.le_of_ble_eq_true rfl, Nat.le_of_ble_eq_true rfl⟩ ⟨Nat.le_of_ble_eq_true rfl, Nat.le_of_ble_eq_true rfl⟩ hS.1 hA hAB hl.1 rfl rfl (Nat.le_of_ble_eq_true rfl) dX3_isBefore_21 (fun v_4 H hv hz hq hS => ?_)
    have hS : mS b s.heap H _ := ⟨hS, hL9⟩
    have hV := hV.up hq
    have hv : v_4 = some (.int x_4) := hv
    subst hv
    refine lv_if_eq (tgt := 31) hx hb dX3_isBefore_24 (by decide) (fun h_4 => ?_) (fun h_4 => ?_)
    · have hm := (if_pos h_4).symm.trans hm
      refine lv_iconst (v := 0) hx hb dX3_isBefore_31 (by decide) ?_
      exact m_zret hx hb hr hlocks rfl (Option.some.inj hm) hV hS ⟨Nat.le_of_ble_eq_true rfl, Nat.le_of_ble_eq_true rfl⟩ dX3_isBefore_32
    · have hm := (if_neg h_4).symm.trans hm
      refine lv_iconst (v := 1) hx hb dX3_isBefore_27 (by decide) ?_
      refine lv_goto (tgt := 32) hx hb dX3_isBefore_28 (by decide) ?_
      exact m_zret hx hb hr hlocks rfl (Option.some.inj hm) hV hS ⟨Nat.le_of_ble_eq_true rfl, Nat.le_of_ble_eq_true rfl⟩ dX3_isBefore_32
def o_X3_isAfter (p0 : Int32) (p1 : Int32) (z : MS) : Option (Int32 × MS) := ((o_X3_areNot p0 p1 z).bind fun x_1 => (if x_1.1 = 0 then (if p1 < 0 ∨ 6 ≤ p1.toNatClampNeg then none else (if p0 < 0 ∨ 6 ≤ p0.toNatClampNeg then none else ((o_X3_isAhead (x_1.2.2.1 p1.toNatClampNeg) (x_1.2.2.1 p0.toNatClampNeg)).bind fun x_4 => (if x_4 = 0 then some ((0 : Int32), x_1.2) else some ((1 : Int32), x_1.2))))) else some ((0 : Int32), x_1.2)))
theorem kk_X3_isAfter : pK yX3_isAfter wsX3_isAfter cX3_isAfter 3 (some .boolean) 2 := ⟨⟨_, rfl⟩, by decide +kernel, by decide +kernel, by decide +kernel⟩
set_option maxRecDepth 100000 in
set_option maxHeartbeats 4000000 in
theorem k_X3_isAfter (l : Launch) (k : Kx) (b : CA) (L : List Nat) (hD : mD k b L) (p0 : Int32) (p1 : Int32) (z : MS) {r : (Int32 × MS)} (hm : o_X3_isAfter p0 p1 z = some r) : mM l k b L yX3_isAfter wsX3_isAfter 3 67 0 0 [.int p0, .int p1] [] z (some (.int r.1)) r.2 := by
  intro sz q
  refine Met.ofW (cc := cX3_isAfter) (maxL := 3) (ret := (some .boolean)) (by decide) rfl ?_
  intro p e s m args below meth c s₁ B hml hv
  obtain ⟨rfl, rfl, hGx, hV, hLb, hds⟩ := hv
  have hx := B.exec
  have hb := B.bytes
  have hr := B.returns
  have hts := atoms_spec (ws := wsX3_isAfter) B.pre
  have hown : s.vm.findClass RX3 = some m.cls := findClass_of_methodNamed B.named
  have hlocks := B.notSynchronized
  have htg : ∀ w ∈ GL, w.before _ s = true := fun w h => hts w (List.mem_cons_of_mem _ h)
  have hC : CallFix p m c cX3_isAfter 3 s _ wsX3_isAfter RX3 := ⟨hx, hb, hml, hown, hts⟩
  have hA : ∀ q, s.heap.size ≤ q → cA b s.heap.size q := fun q h => cA.new q h
  have hAB : ∀ q, cA b s.heap.size q → kB k ≤ q := hD.high hGx.2.1
  have hS : mS b s.heap s.heap [] := mS.rf
  have hl := lv_entry ([.ref b.1, .int p0, .int p1]) (n := 3) (Nat.le_of_ble_eq_true rfl)
  rw [lg_entry_eq]
  generalize (lg_sl ([.ref b.1, .int p0, .int p1]) ++ List.replicate (3 - (lg_sl ([.ref b.1, .int p0, .int p1])).length) Slot.unset).toArray = ls at hl ⊢
  have hl : lv_has ls 3 [(0, .ref b.1), (1, .int p0), (2, .int p1)] := hl
  refine lv_aload_n hx hb dX3_isAfter_0 rfl (lv_at hl 0 rfl) ?_
  refine lv_iload_n hx hb dX3_isAfter_1 rfl (lv_at hl 1 rfl) ?_
  refine lv_iload_n hx hb dX3_isAfter_2 rfl (lv_at hl 2 rfl) ?_
  obtain ⟨x_1, hx_1, hm⟩ := Option.bind_eq_some_iff.mp hm
  refine mc_V hC hGx hD (k_X3_areNot l k b L hD p0 p1  z hx_1) (gV w_1325 w_1326 w_23 w_27 w_1327) kk_X3_areNot rfl (List.forall_mem_nil _) hLb ⟨Nat.le_of_ble_eq_true rfl, Nat.le_of_ble_eq_true rfl⟩ ⟨Nat.le_of_ble_eq_true rfl, Nat.le_of_ble_eq_true rfl⟩ hV hS hl.1 rfl rfl (Nat.le_of_ble_eq_true rfl) dX3_isAfter_3 (fun q_1 H locs hV hS hz hq => ?_)
  refine lv_if_ne (tgt := 31) hx hb dX3_isAfter_6 (by decide) (fun h_1 => ?_) (fun h_1 => ?_)
  · have hm := (if_neg h_1).symm.trans hm
    refine lv_iconst (v := 0) hx hb dX3_isAfter_31 (by decide) ?_
    exact m_zret hx hb hr hlocks rfl (Option.some.inj hm) hV hS ⟨Nat.le_of_ble_eq_true rfl, Nat.le_of_ble_eq_true rfl⟩ dX3_isAfter_32
  · have hm := (if_pos h_1).symm.trans hm
    refine lv_aload_n hx hb dX3_isAfter_9 rfl (lv_at hl 0 rfl) ?_
    refine va_get (D := kD k) (ci := 5) (v := .ref b.2.1) (C := RX3) (T := TX3) (N := 5) hx hb htg inG_X3 hown hGx.1 hV.1 0 rfl rfl 1 (by decide) (htg _ w_1012) (fun _ h9 => h9) rfl dX3_isAfter_10 ?_
    refine lv_iload_n hx hb dX3_isAfter_13 rfl (lv_at hl 2 rfl) ?_
    by_cases h_2 : p1 < 0 ∨ 6 ≤ p1.toNatClampNeg
    · have hm := (if_pos h_2).symm.trans hm
      cases hm
    have hm := (if_neg h_2).symm.trans hm
    refine m_ald hx hb hGx hV h_2 dX3_isAfter_14 (fun hP_2 => ?_)
    refine lv_aload_n hx hb dX3_isAfter_15 rfl (lv_at hl 0 rfl) ?_
    refine va_get (D := kD k) (ci := 5) (v := .ref b.2.1) (C := RX3) (T := TX3) (N := 5) hx hb htg inG_X3 hown hGx.1 hV.1 0 rfl rfl 1 (by decide) (htg _ w_1012) (fun _ h9 => h9) rfl dX3_isAfter_16 ?_
    refine lv_iload_n hx hb dX3_isAfter_19 rfl (lv_at hl 1 rfl) ?_
    by_cases h_3 : p0 < 0 ∨ 6 ≤ p0.toNatClampNeg
    · have hm := (if_pos h_3).symm.trans hm
      cases hm
    have hm := (if_neg h_3).symm.trans hm
    refine m_ald hx hb hGx hV h_3 dX3_isAfter_20 (fun hP_3 => ?_)
    obtain ⟨x_4, hx_4, hm⟩ := Option.bind_eq_some_iff.mp hm
    have hs_4 := hS.1.1
    have hLn_4 := m_hLn hLb hS
    have hL9 := hS.2
    refine qc_S hC hGx (k_X3_isAhead l k (x_1.2.2.1 p1.toNatClampNeg) (x_1.2.2.1 p0.toNatClampNeg) (q_1 p1.toNatClampNeg) (q_1 p0.toNatClampNeg) hx_4) (gS w_1212 w_1213 w_27 w_1214) kk_X3_isAhead (List.forall_mem_cons.mpr ⟨hP_2.1, (List.forall_mem_cons.mpr ⟨hP_3.1, (List.forall_mem_nil _)⟩)⟩) ⟨Nat.le_of_ble_eq_true rfl, Nat.le_of_ble_eq_true rfl⟩ ⟨Nat.le_of_ble_eq_true rfl, Nat.le_of_ble_eq_true rfl⟩ hS.1 hA hAB hl.1 rfl rfl (Nat.le_of_ble_eq_true rfl) dX3_isAfter_21 (fun v_4 H hv hz hq hS => ?_)
    have hS : mS b s.heap H _ := ⟨hS, hL9⟩
    have hV := hV.up hq
    have hv : v_4 = some (.int x_4) := hv
    subst hv
    refine lv_if_eq (tgt := 31) hx hb dX3_isAfter_24 (by decide) (fun h_4 => ?_) (fun h_4 => ?_)
    · have hm := (if_pos h_4).symm.trans hm
      refine lv_iconst (v := 0) hx hb dX3_isAfter_31 (by decide) ?_
      exact m_zret hx hb hr hlocks rfl (Option.some.inj hm) hV hS ⟨Nat.le_of_ble_eq_true rfl, Nat.le_of_ble_eq_true rfl⟩ dX3_isAfter_32
    · have hm := (if_neg h_4).symm.trans hm
      refine lv_iconst (v := 1) hx hb dX3_isAfter_27 (by decide) ?_
      refine lv_goto (tgt := 32) hx hb dX3_isAfter_28 (by decide) ?_
      exact m_zret hx hb hr hlocks rfl (Option.some.inj hm) hV hS ⟨Nat.le_of_ble_eq_true rfl, Nat.le_of_ble_eq_true rfl⟩ dX3_isAfter_32
def o_X3_isSame (p0 : Int32) (p1 : Int32) (z : MS) : Option (Int32 × MS) := ((o_X3_areNot p0 p1 z).bind fun x_1 => (if x_1.1 = 0 then (if p0 < 0 ∨ 6 ≤ p0.toNatClampNeg then none else (if p1 < 0 ∨ 6 ≤ p1.toNatClampNeg then none else ((o_X2_isLike (x_1.2.2.1 p0.toNatClampNeg) (x_1.2.2.1 p1.toNatClampNeg)).bind fun x_4 => (if x_4 = 0 then some ((0 : Int32), x_1.2) else some ((1 : Int32), x_1.2))))) else some ((0 : Int32), x_1.2)))
theorem kk_X3_isSame : pK yX3_isSame wsX3_isSame cX3_isSame 3 (some .boolean) 2 := ⟨⟨_, rfl⟩, by decide +kernel, by decide +kernel, by decide +kernel⟩
set_option maxRecDepth 100000 in
set_option maxHeartbeats 4000000 in
theorem k_X3_isSame (l : Launch) (k : Kx) (b : CA) (L : List Nat) (hD : mD k b L) (p0 : Int32) (p1 : Int32) (z : MS) {r : (Int32 × MS)} (hm : o_X3_isSame p0 p1 z = some r) : mM l k b L yX3_isSame wsX3_isSame 3 67 0 0 [.int p0, .int p1] [] z (some (.int r.1)) r.2 := by
  intro sz q
  refine Met.ofW (cc := cX3_isSame) (maxL := 3) (ret := (some .boolean)) (by decide) rfl ?_
  intro p e s m args below meth c s₁ B hml hv
  obtain ⟨rfl, rfl, hGx, hV, hLb, hds⟩ := hv
  have hx := B.exec
  have hb := B.bytes
  have hr := B.returns
  have hts := atoms_spec (ws := wsX3_isSame) B.pre
  have hown : s.vm.findClass RX3 = some m.cls := findClass_of_methodNamed B.named
  have hlocks := B.notSynchronized
  have htg : ∀ w ∈ GL, w.before _ s = true := fun w h => hts w (List.mem_cons_of_mem _ h)
  have hC : CallFix p m c cX3_isSame 3 s _ wsX3_isSame RX3 := ⟨hx, hb, hml, hown, hts⟩
  have hA : ∀ q, s.heap.size ≤ q → cA b s.heap.size q := fun q h => cA.new q h
  have hAB : ∀ q, cA b s.heap.size q → kB k ≤ q := hD.high hGx.2.1
  have hS : mS b s.heap s.heap [] := mS.rf
  have hl := lv_entry ([.ref b.1, .int p0, .int p1]) (n := 3) (Nat.le_of_ble_eq_true rfl)
  rw [lg_entry_eq]
  generalize (lg_sl ([.ref b.1, .int p0, .int p1]) ++ List.replicate (3 - (lg_sl ([.ref b.1, .int p0, .int p1])).length) Slot.unset).toArray = ls at hl ⊢
  have hl : lv_has ls 3 [(0, .ref b.1), (1, .int p0), (2, .int p1)] := hl
  refine lv_aload_n hx hb dX3_isSame_0 rfl (lv_at hl 0 rfl) ?_
  refine lv_iload_n hx hb dX3_isSame_1 rfl (lv_at hl 1 rfl) ?_
  refine lv_iload_n hx hb dX3_isSame_2 rfl (lv_at hl 2 rfl) ?_
  obtain ⟨x_1, hx_1, hm⟩ := Option.bind_eq_some_iff.mp hm
  refine mc_V hC hGx hD (k_X3_areNot l k b L hD p0 p1  z hx_1) (gV w_1325 w_1326 w_23 w_27 w_1327) kk_X3_areNot rfl (List.forall_mem_nil _) hLb ⟨Nat.le_of_ble_eq_true rfl, Nat.le_of_ble_eq_true rfl⟩ ⟨Nat.le_of_ble_eq_true rfl, Nat.le_of_ble_eq_true rfl⟩ hV hS hl.1 rfl rfl (Nat.le_of_ble_eq_true rfl) dX3_isSame_3 (fun q_1 H locs hV hS hz hq => ?_)
  refine lv_if_ne (tgt := 31) hx hb dX3_isSame_6 (by decide) (fun h_1 => ?_) (fun h_1 => ?_)
  · have hm := (if_neg h_1).symm.trans hm
    refine lv_iconst (v := 0) hx hb dX3_isSame_31 (by decide) ?_
    exact m_zret hx hb hr hlocks rfl (Option.some.inj hm) hV hS ⟨Nat.le_of_ble_eq_true rfl, Nat.le_of_ble_eq_true rfl⟩ dX3_isSame_32
  · have hm := (if_pos h_1).symm.trans hm
    refine lv_aload_n hx hb dX3_isSame_9 rfl (lv_at hl 0 rfl) ?_
    refine va_get (D := kD k) (ci := 5) (v := .ref b.2.1) (C := RX3) (T := TX3) (N := 5) hx hb htg inG_X3 hown hGx.1 hV.1 0 rfl rfl 1 (by decide) (htg _ w_1012) (fun _ h9 => h9) rfl dX3_isSame_10 ?_
    refine lv_iload_n hx hb dX3_isSame_13 rfl (lv_at hl 1 rfl) ?_
    by_cases h_2 : p0 < 0 ∨ 6 ≤ p0.toNatClampNeg
    · have hm := (if_pos h_2).symm.trans hm
      cases hm
    have hm := (if_neg h_2).symm.trans hm
    refine m_ald hx hb hGx hV h_2 dX3_isSame_14 (fun hP_2 => ?_)
    refine lv_aload_n hx hb dX3_isSame_15 rfl (lv_at hl 0 rfl) ?_
    refine va_get (D := kD k) (ci := 5) (v := .ref b.2.1) (C := RX3) (T := TX3) (N := 5) hx hb htg inG_X3 hown hGx.1 hV.1 0 rfl rfl 1 (by decide) (htg _ w_1012) (fun _ h9 => h9) rfl dX3_isSame_16 ?_
    refine lv_iload_n hx hb dX3_isSame_19 rfl (lv_at hl 2 rfl) ?_
    by_cases h_3 : p1 < 0 ∨ 6 ≤ p1.toNatClampNeg
    · have hm := (if_pos h_3).symm.trans hm
      cases hm
    have hm := (if_neg h_3).symm.trans hm
    refine m_ald hx hb hGx hV h_3 dX3_isSame_20 (fun hP_3 => ?_)
    obtain ⟨x_4, hx_4, hm⟩ := Option.bind_eq_some_iff.mp hm
    have hs_4 := hS.1.1
    have hLn_4 := m_hLn hLb hS
    have hL9 := hS.2
    refine qc_V hC hGx (k_X2_isLike l k (x_1.2.2.1 p0.toNatClampNeg) (x_1.2.2.1 p1.toNatClampNeg) (q_1 p0.toNatClampNeg) (q_1 p1.toNatClampNeg) hx_4) (gV w_1343 w_1344 w_1345 w_28 w_1346) kk_X2_isLike rfl hP_2.1 (List.forall_mem_cons.mpr ⟨hP_2.1, (List.forall_mem_cons.mpr ⟨hP_3.1, (List.forall_mem_nil _)⟩)⟩) ⟨Nat.le_of_ble_eq_true rfl, Nat.le_of_ble_eq_true rfl⟩ ⟨Nat.le_of_ble_eq_true rfl, Nat.le_of_ble_eq_true rfl⟩ hS.1 hA hAB hl.1 rfl rfl (Nat.le_of_ble_eq_true rfl) dX3_isSame_21 (fun v_4 H hv hz hq hS => ?_)
    have hS : mS b s.heap H _ := ⟨hS, hL9⟩
    have hV := hV.up hq
    have hv : v_4 = some (.int x_4) := hv
    subst hv
    refine lv_if_eq (tgt := 31) hx hb dX3_isSame_24 (by decide) (fun h_4 => ?_) (fun h_4 => ?_)
    · have hm := (if_pos h_4).symm.trans hm
      refine lv_iconst (v := 0) hx hb dX3_isSame_31 (by decide) ?_
      exact m_zret hx hb hr hlocks rfl (Option.some.inj hm) hV hS ⟨Nat.le_of_ble_eq_true rfl, Nat.le_of_ble_eq_true rfl⟩ dX3_isSame_32
    · have hm := (if_neg h_4).symm.trans hm
      refine lv_iconst (v := 1) hx hb dX3_isSame_27 (by decide) ?_
      refine lv_goto (tgt := 32) hx hb dX3_isSame_28 (by decide) ?_
      exact m_zret hx hb hr hlocks rfl (Option.some.inj hm) hV hS ⟨Nat.le_of_ble_eq_true rfl, Nat.le_of_ble_eq_true rfl⟩ dX3_isSame_32
def o_X3_between (p0 : Int32) (p1 : Int32) (p2 : Int32) (z : MS) : Option (Int32 × MS) := (if m_X3_isNo p0 = 0 then (if m_X3_isNo p1 = 0 then (if m_X3_isIn p2.toInt64 (0 : Int64) (6 : Int64) = 0 then ((o_X3_fails (0 : Int32) (1 : Int32) (0 : Int32) z).bind fun x_13 => (if x_13.1 = 0 then (if p0 < 0 ∨ 6 ≤ p0.toNatClampNeg then none else (if p1 < 0 ∨ 6 ≤ p1.toNatClampNeg then none else ((o_X3_whole (x_13.2.2.1 p0.toNatClampNeg) (x_13.2.2.1 p1.toNatClampNeg) p2).bind fun x_16 => some (x_16, x_13.2)))) else some ((0 : Int32), x_13.2))) else ((o_X3_fails (0 : Int32) (0 : Int32) (0 : Int32) z).bind fun x_9 => (if x_9.1 = 0 then (if p0 < 0 ∨ 6 ≤ p0.toNatClampNeg then none else (if p1 < 0 ∨ 6 ≤ p1.toNatClampNeg then none else ((o_X3_whole (x_9.2.2.1 p0.toNatClampNeg) (x_9.2.2.1 p1.toNatClampNeg) p2).bind fun x_12 => some (x_12, x_9.2)))) else some ((0 : Int32), x_9.2)))) else (if m_X3_isIn p2.toInt64 (0 : Int64) (6 : Int64) = 0 then ((o_X3_fails (1 : Int32) (1 : Int32) (0 : Int32) z).bind fun x_21 => (if x_21.1 = 0 then (if p0 < 0 ∨ 6 ≤ p0.toNatClampNeg then none else (if p1 < 0 ∨ 6 ≤ p1.toNatClampNeg then none else ((o_X3_whole (x_21.2.2.1 p0.toNatClampNeg) (x_21.2.2.1 p1.toNatClampNeg) p2).bind fun x_24 => some (x_24, x_21.2)))) else some ((0 : Int32), x_21.2))) else ((o_X3_fails (1 : Int32) (0 : Int32) (0 : Int32) z).bind fun x_17 => (if x_17.1 = 0 then (if p0 < 0 ∨ 6 ≤ p0.toNatClampNeg then none else (if p1 < 0 ∨ 6 ≤ p1.toNatClampNeg then none else ((o_X3_whole (x_17.2.2.1 p0.toNatClampNeg) (x_17.2.2.1 p1.toNatClampNeg) p2).bind fun x_20 => some (x_20, x_17.2)))) else some ((0 : Int32), x_17.2))))) else (if m_X3_isIn p2.toInt64 (0 : Int64) (6 : Int64) = 0 then ((o_X3_fails (1 : Int32) (1 : Int32) (0 : Int32) z).bind fun x_5 => (if x_5.1 = 0 then (if p0 < 0 ∨ 6 ≤ p0.toNatClampNeg then none else (if p1 < 0 ∨ 6 ≤ p1.toNatClampNeg then none else ((o_X3_whole (x_5.2.2.1 p0.toNatClampNeg) (x_5.2.2.1 p1.toNatClampNeg) p2).bind fun x_8 => some (x_8, x_5.2)))) else some ((0 : Int32), x_5.2))) else ((o_X3_fails (1 : Int32) (0 : Int32) (0 : Int32) z).bind fun x_1 => (if x_1.1 = 0 then (if p0 < 0 ∨ 6 ≤ p0.toNatClampNeg then none else (if p1 < 0 ∨ 6 ≤ p1.toNatClampNeg then none else ((o_X3_whole (x_1.2.2.1 p0.toNatClampNeg) (x_1.2.2.1 p1.toNatClampNeg) p2).bind fun x_4 => some (x_4, x_1.2)))) else some ((0 : Int32), x_1.2)))))
theorem kk_X3_between : pK yX3_between wsX3_between cX3_between 4 (some .int) 3 := ⟨⟨_, rfl⟩, by decide +kernel, by decide +kernel, by decide +kernel⟩
set_option maxRecDepth 100000 in
set_option maxHeartbeats 4000000 in
theorem k_X3_between (l : Launch) (k : Kx) (b : CA) (L : List Nat) (hD : mD k b L) (p0 : Int32) (p1 : Int32) (p2 : Int32) (z : MS) {r : (Int32 × MS)} (hm : o_X3_between p0 p1 p2 z = some r) : mM l k b L yX3_between wsX3_between 6 134 0 0 [.int p0, .int p1, .int p2] [] z (some (.int r.1)) r.2 := by
  intro sz q
  refine Met.ofW (cc := cX3_between) (maxL := 4) (ret := (some .int)) (by decide) rfl ?_
  intro p e s m args below meth c s₁ B hml hv
  obtain ⟨rfl, rfl, hGx, hV, hLb, hds⟩ := hv
  have hx := B.exec
  have hb := B.bytes
  have hr := B.returns
  have hts := atoms_spec (ws := wsX3_between) B.pre
  have hown : s.vm.findClass RX3 = some m.cls := findClass_of_methodNamed B.named
  have hlocks := B.notSynchronized
  have htg : ∀ w ∈ GL, w.before _ s = true := fun w h => hts w (List.mem_cons_of_mem _ h)
  have hC : CallFix p m c cX3_between 4 s _ wsX3_between RX3 := ⟨hx, hb, hml, hown, hts⟩
  have hA : ∀ q, s.heap.size ≤ q → cA b s.heap.size q := fun q h => cA.new q h
  have hAB : ∀ q, cA b s.heap.size q → kB k ≤ q := hD.high hGx.2.1
  have hS : mS b s.heap s.heap [] := mS.rf
  have hl := lv_entry ([.ref b.1, .int p0, .int p1, .int p2]) (n := 4) (Nat.le_of_ble_eq_true rfl)
  rw [lg_entry_eq]
  generalize (lg_sl ([.ref b.1, .int p0, .int p1, .int p2]) ++ List.replicate (4 - (lg_sl ([.ref b.1, .int p0, .int p1, .int p2])).length) Slot.unset).toArray = ls at hl ⊢
  have hl : lv_has ls 4 [(0, .ref b.1), (1, .int p0), (2, .int p1), (3, .int p2)] := hl
  refine lv_aload_n hx hb dX3_between_0 rfl (lv_at hl 0 rfl) ?_
  refine lv_iload_n hx hb dX3_between_1 rfl (lv_at hl 1 rfl) ?_
  refine pc_S hC (c_X3_isNo l p0) (gS w_1045 w_1046 w_27 w_1047) kk_X3_isNo ⟨Nat.le_of_ble_eq_true rfl, Nat.le_of_ble_eq_true rfl⟩ ⟨Nat.le_of_ble_eq_true rfl, Nat.le_of_ble_eq_true rfl⟩ hl.1 rfl rfl (Nat.le_of_ble_eq_true rfl) dX3_between_2 ?_
  refine lv_if_ne (tgt := 15) hx hb dX3_between_5 (by decide) (fun h_1 => ?_) (fun h_1 => ?_)
  · have hm := (if_neg h_1).symm.trans hm
    refine lv_iconst (v := 1) hx hb dX3_between_15 (by decide) ?_
    refine lv_goto (tgt := 20) hx hb dX3_between_16 (by decide) ?_
    refine lv_iload_n hx hb dX3_between_20 rfl (lv_at hl 3 rfl) ?_
    refine lv_i2l hx hb dX3_between_21 rfl ?_
    refine lv_lconst (v := 0) hx hb dX3_between_22 (by decide) ?_
    refine lv_ldc2 hx hb hown (htg _ w_1320) dX3_between_23 ?_
    refine pc_S hC (c_X3_isIn l p2.toInt64 (0 : Int64) (6 : Int64)) (gS w_1040 w_1041 w_27 w_1042) kk_X3_isIn ⟨Nat.le_of_ble_eq_true rfl, Nat.le_of_ble_eq_true rfl⟩ ⟨Nat.le_of_ble_eq_true rfl, Nat.le_of_ble_eq_true rfl⟩ hl.1 rfl rfl (Nat.le_of_ble_eq_true rfl) dX3_between_26 ?_
    refine lv_if_ne (tgt := 36) hx hb dX3_between_29 (by decide) (fun h_2 => ?_) (fun h_2 => ?_)
    · have hm := (if_neg h_2).symm.trans hm
      refine lv_iconst (v := 0) hx hb dX3_between_36 (by decide) ?_
      refine lv_iconst (v := 0) hx hb dX3_between_37 (by decide) ?_
      obtain ⟨x_1, hx_1, hm⟩ := Option.bind_eq_some_iff.mp hm
      refine mc_V hC hGx hD (k_X3_fails l k b L hD (1 : Int32) (0 : Int32) (0 : Int32)  z hx_1) (gV w_1056 w_1057 w_18 w_27 w_1058) kk_X3_fails rfl (List.forall_mem_nil _) hLb ⟨Nat.le_of_ble_eq_true rfl, Nat.le_of_ble_eq_true rfl⟩ ⟨Nat.le_of_ble_eq_true rfl, Nat.le_of_ble_eq_true rfl⟩ hV hS hl.1 rfl rfl (Nat.le_of_ble_eq_true rfl) dX3_between_38 (fun q_1 H locs hV hS hz hq => ?_)
      refine lv_if_eq (tgt := 48) hx hb dX3_between_41 (by decide) (fun h_3 => ?_) (fun h_3 => ?_)
      · have hm := (if_pos h_3).symm.trans hm
        refine lv_aload_n hx hb dX3_between_48 rfl (lv_at hl 0 rfl) ?_
        refine va_get (D := kD k) (ci := 5) (v := .ref b.2.1) (C := RX3) (T := TX3) (N := 5) hx hb htg inG_X3 hown hGx.1 hV.1 0 rfl rfl 1 (by decide) (htg _ w_1012) (fun _ h9 => h9) rfl dX3_between_49 ?_
        refine lv_iload_n hx hb dX3_between_52 rfl (lv_at hl 1 rfl) ?_
        by_cases h_4 : p0 < 0 ∨ 6 ≤ p0.toNatClampNeg
        · have hm := (if_pos h_4).symm.trans hm
          cases hm
        have hm := (if_neg h_4).symm.trans hm
        refine m_ald hx hb hGx hV h_4 dX3_between_53 (fun hP_2 => ?_)
        refine lv_aload_n hx hb dX3_between_54 rfl (lv_at hl 0 rfl) ?_
        refine va_get (D := kD k) (ci := 5) (v := .ref b.2.1) (C := RX3) (T := TX3) (N := 5) hx hb htg inG_X3 hown hGx.1 hV.1 0 rfl rfl 1 (by decide) (htg _ w_1012) (fun _ h9 => h9) rfl dX3_between_55 ?_
        refine lv_iload_n hx hb dX3_between_58 rfl (lv_at hl 2 rfl) ?_
        by_cases h_5 : p1 < 0 ∨ 6 ≤ p1.toNatClampNeg
        · have hm := (if_pos h_5).symm.trans hm
          cases hm
        have hm := (if_neg h_5).symm.trans hm
        refine m_ald hx hb hGx hV h_5 dX3_between_59 (fun hP_3 => ?_)
        refine lv_iload_n hx hb dX3_between_60 rfl (lv_at hl 3 rfl) ?_
        obtain ⟨x_4, hx_4, hm⟩ := Option.bind_eq_some_iff.mp hm
        have hs_4 := hS.1.1
        have hLn_4 := m_hLn hLb hS
        have hL9 := hS.2
        refine qc_S hC hGx (k_X3_whole l k (x_1.2.2.1 p0.toNatClampNeg) (x_1.2.2.1 p1.toNatClampNeg) p2 (q_1 p0.toNatClampNeg) (q_1 p1.toNatClampNeg) hx_4) (gS w_1351 w_1352 w_27 w_1353) kk_X3_whole (List.forall_mem_cons.mpr ⟨hP_2.1, (List.forall_mem_cons.mpr ⟨hP_3.1, (List.forall_mem_nil _)⟩)⟩) ⟨Nat.le_of_ble_eq_true rfl, Nat.le_of_ble_eq_true rfl⟩ ⟨Nat.le_of_ble_eq_true rfl, Nat.le_of_ble_eq_true rfl⟩ hS.1 hA hAB hl.1 rfl rfl (Nat.le_of_ble_eq_true rfl) dX3_between_61 (fun v_4 H hv hz hq hS => ?_)
        have hS : mS b s.heap H _ := ⟨hS, hL9⟩
        have hV := hV.up hq
        have hv : v_4 = some (.int x_4) := hv
        subst hv
        exact m_iret hx hb hr hlocks (Option.some.inj hm) hV hS ⟨Nat.le_of_ble_eq_true rfl, Nat.le_of_ble_eq_true rfl⟩ dX3_between_64
      · have hm := (if_neg h_3).symm.trans hm
        refine lv_iconst (v := 0) hx hb dX3_between_44 (by decide) ?_
        refine lv_goto (tgt := 64) hx hb dX3_between_45 (by decide) ?_
        exact m_iret hx hb hr hlocks (Option.some.inj hm) hV hS ⟨Nat.le_of_ble_eq_true rfl, Nat.le_of_ble_eq_true rfl⟩ dX3_between_64
    · have hm := (if_pos h_2).symm.trans hm
      refine lv_iconst (v := 1) hx hb dX3_between_32 (by decide) ?_
      refine lv_goto (tgt := 37) hx hb dX3_between_33 (by decide) ?_
      refine lv_iconst (v := 0) hx hb dX3_between_37 (by decide) ?_
      obtain ⟨x_5, hx_5, hm⟩ := Option.bind_eq_some_iff.mp hm
      refine mc_V hC hGx hD (k_X3_fails l k b L hD (1 : Int32) (1 : Int32) (0 : Int32)  z hx_5) (gV w_1056 w_1057 w_18 w_27 w_1058) kk_X3_fails rfl (List.forall_mem_nil _) hLb ⟨Nat.le_of_ble_eq_true rfl, Nat.le_of_ble_eq_true rfl⟩ ⟨Nat.le_of_ble_eq_true rfl, Nat.le_of_ble_eq_true rfl⟩ hV hS hl.1 rfl rfl (Nat.le_of_ble_eq_true rfl) dX3_between_38 (fun q_5 H locs hV hS hz hq => ?_)
      refine lv_if_eq (tgt := 48) hx hb dX3_between_41 (by decide) (fun h_6 => ?_) (fun h_6 => ?_)
      · have hm := (if_pos h_6).symm.trans hm
        refine lv_aload_n hx hb dX3_between_48 rfl (lv_at hl 0 rfl) ?_
        refine va_get (D := kD k) (ci := 5) (v := .ref b.2.1) (C := RX3) (T := TX3) (N := 5) hx hb htg inG_X3 hown hGx.1 hV.1 0 rfl rfl 1 (by decide) (htg _ w_1012) (fun _ h9 => h9) rfl dX3_between_49 ?_
        refine lv_iload_n hx hb dX3_between_52 rfl (lv_at hl 1 rfl) ?_
        by_cases h_7 : p0 < 0 ∨ 6 ≤ p0.toNatClampNeg
        · have hm := (if_pos h_7).symm.trans hm
          cases hm
        have hm := (if_neg h_7).symm.trans hm
        refine m_ald hx hb hGx hV h_7 dX3_between_53 (fun hP_6 => ?_)
        refine lv_aload_n hx hb dX3_between_54 rfl (lv_at hl 0 rfl) ?_
        refine va_get (D := kD k) (ci := 5) (v := .ref b.2.1) (C := RX3) (T := TX3) (N := 5) hx hb htg inG_X3 hown hGx.1 hV.1 0 rfl rfl 1 (by decide) (htg _ w_1012) (fun _ h9 => h9) rfl dX3_between_55 ?_
        refine lv_iload_n hx hb dX3_between_58 rfl (lv_at hl 2 rfl) ?_
        by_cases h_8 : p1 < 0 ∨ 6 ≤ p1.toNatClampNeg
        · have hm := (if_pos h_8).symm.trans hm
          cases hm
        have hm := (if_neg h_8).symm.trans hm
        refine m_ald hx hb hGx hV h_8 dX3_between_59 (fun hP_7 => ?_)
        refine lv_iload_n hx hb dX3_between_60 rfl (lv_at hl 3 rfl) ?_
        obtain ⟨x_8, hx_8, hm⟩ := Option.bind_eq_some_iff.mp hm
        have hs_8 := hS.1.1
        have hLn_8 := m_hLn hLb hS
        have hL9 := hS.2
        refine qc_S hC hGx (k_X3_whole l k (x_5.2.2.1 p0.toNatClampNeg) (x_5.2.2.1 p1.toNatClampNeg) p2 (q_5 p0.toNatClampNeg) (q_5 p1.toNatClampNeg) hx_8) (gS w_1351 w_1352 w_27 w_1353) kk_X3_whole (List.forall_mem_cons.mpr ⟨hP_6.1, (List.forall_mem_cons.mpr ⟨hP_7.1, (List.forall_mem_nil _)⟩)⟩) ⟨Nat.le_of_ble_eq_true rfl, Nat.le_of_ble_eq_true rfl⟩ ⟨Nat.le_of_ble_eq_true rfl, Nat.le_of_ble_eq_true rfl⟩ hS.1 hA hAB hl.1 rfl rfl (Nat.le_of_ble_eq_true rfl) dX3_between_61 (fun v_8 H hv hz hq hS => ?_)
        have hS : mS b s.heap H _ := ⟨hS, hL9⟩
        have hV := hV.up hq
        have hv : v_8 = some (.int x_8) := hv
        subst hv
        exact m_iret hx hb hr hlocks (Option.some.inj hm) hV hS ⟨Nat.le_of_ble_eq_true rfl, Nat.le_of_ble_eq_true rfl⟩ dX3_between_64
      · have hm := (if_neg h_6).symm.trans hm
        refine lv_iconst (v := 0) hx hb dX3_between_44 (by decide) ?_
        refine lv_goto (tgt := 64) hx hb dX3_between_45 (by decide) ?_
        exact m_iret hx hb hr hlocks (Option.some.inj hm) hV hS ⟨Nat.le_of_ble_eq_true rfl, Nat.le_of_ble_eq_true rfl⟩ dX3_between_64
  · have hm := (if_pos h_1).symm.trans hm
    refine lv_iload_n hx hb dX3_between_8 rfl (lv_at hl 2 rfl) ?_
    refine pc_S hC (c_X3_isNo l p1) (gS w_1045 w_1046 w_27 w_1047) kk_X3_isNo ⟨Nat.le_of_ble_eq_true rfl, Nat.le_of_ble_eq_true rfl⟩ ⟨Nat.le_of_ble_eq_true rfl, Nat.le_of_ble_eq_true rfl⟩ hl.1 rfl rfl (Nat.le_of_ble_eq_true rfl) dX3_between_9 ?_
    refine lv_if_eq (tgt := 19) hx hb dX3_between_12 (by decide) (fun h_9 => ?_) (fun h_9 => ?_)
    · have hm := (if_pos h_9).symm.trans hm
      refine lv_iconst (v := 0) hx hb dX3_between_19 (by decide) ?_
      refine lv_iload_n hx hb dX3_between_20 rfl (lv_at hl 3 rfl) ?_
      refine lv_i2l hx hb dX3_between_21 rfl ?_
      refine lv_lconst (v := 0) hx hb dX3_between_22 (by decide) ?_
      refine lv_ldc2 hx hb hown (htg _ w_1320) dX3_between_23 ?_
      refine pc_S hC (c_X3_isIn l p2.toInt64 (0 : Int64) (6 : Int64)) (gS w_1040 w_1041 w_27 w_1042) kk_X3_isIn ⟨Nat.le_of_ble_eq_true rfl, Nat.le_of_ble_eq_true rfl⟩ ⟨Nat.le_of_ble_eq_true rfl, Nat.le_of_ble_eq_true rfl⟩ hl.1 rfl rfl (Nat.le_of_ble_eq_true rfl) dX3_between_26 ?_
      refine lv_if_ne (tgt := 36) hx hb dX3_between_29 (by decide) (fun h_10 => ?_) (fun h_10 => ?_)
      · have hm := (if_neg h_10).symm.trans hm
        refine lv_iconst (v := 0) hx hb dX3_between_36 (by decide) ?_
        refine lv_iconst (v := 0) hx hb dX3_between_37 (by decide) ?_
        obtain ⟨x_9, hx_9, hm⟩ := Option.bind_eq_some_iff.mp hm
        refine mc_V hC hGx hD (k_X3_fails l k b L hD (0 : Int32) (0 : Int32) (0 : Int32)  z hx_9) (gV w_1056 w_1057 w_18 w_27 w_1058) kk_X3_fails rfl (List.forall_mem_nil _) hLb ⟨Nat.le_of_ble_eq_true rfl, Nat.le_of_ble_eq_true rfl⟩ ⟨Nat.le_of_ble_eq_true rfl, Nat.le_of_ble_eq_true rfl⟩ hV hS hl.1 rfl rfl (Nat.le_of_ble_eq_true rfl) dX3_between_38 (fun q_9 H locs hV hS hz hq => ?_)
        refine lv_if_eq (tgt := 48) hx hb dX3_between_41 (by decide) (fun h_11 => ?_) (fun h_11 => ?_)
        · have hm := (if_pos h_11).symm.trans hm
          refine lv_aload_n hx hb dX3_between_48 rfl (lv_at hl 0 rfl) ?_
          refine va_get (D := kD k) (ci := 5) (v := .ref b.2.1) (C := RX3) (T := TX3) (N := 5) hx hb htg inG_X3 hown hGx.1 hV.1 0 rfl rfl 1 (by decide) (htg _ w_1012) (fun _ h9 => h9) rfl dX3_between_49 ?_
          refine lv_iload_n hx hb dX3_between_52 rfl (lv_at hl 1 rfl) ?_
          by_cases h_12 : p0 < 0 ∨ 6 ≤ p0.toNatClampNeg
          · have hm := (if_pos h_12).symm.trans hm
            cases hm
          have hm := (if_neg h_12).symm.trans hm
          refine m_ald hx hb hGx hV h_12 dX3_between_53 (fun hP_10 => ?_)
          refine lv_aload_n hx hb dX3_between_54 rfl (lv_at hl 0 rfl) ?_
          refine va_get (D := kD k) (ci := 5) (v := .ref b.2.1) (C := RX3) (T := TX3) (N := 5) hx hb htg inG_X3 hown hGx.1 hV.1 0 rfl rfl 1 (by decide) (htg _ w_1012) (fun _ h9 => h9) rfl dX3_between_55 ?_
          refine lv_iload_n hx hb dX3_between_58 rfl (lv_at hl 2 rfl) ?_
          by_cases h_13 : p1 < 0 ∨ 6 ≤ p1.toNatClampNeg
          · have hm := (if_pos h_13).symm.trans hm
            cases hm
          have hm := (if_neg h_13).symm.trans hm
          refine m_ald hx hb hGx hV h_13 dX3_between_59 (fun hP_11 => ?_)
          refine lv_iload_n hx hb dX3_between_60 rfl (lv_at hl 3 rfl) ?_
          obtain ⟨x_12, hx_12, hm⟩ := Option.bind_eq_some_iff.mp hm
          have hs_12 := hS.1.1
          have hLn_12 := m_hLn hLb hS
          have hL9 := hS.2
          refine qc_S hC hGx (k_X3_whole l k (x_9.2.2.1 p0.toNatClampNeg) (x_9.2.2.1 p1.toNatClampNeg) p2 (q_9 p0.toNatClampNeg) (q_9 p1.toNatClampNeg) hx_12) (gS w_1351 w_1352 w_27 w_1353) kk_X3_whole (List.forall_mem_cons.mpr ⟨hP_10.1, (List.forall_mem_cons.mpr ⟨hP_11.1, (List.forall_mem_nil _)⟩)⟩) ⟨Nat.le_of_ble_eq_true rfl, Nat.le_of_ble_eq_true rfl⟩ ⟨Nat.le_of_ble_eq_true rfl, Nat.le_of_ble_eq_true rfl⟩ hS.1 hA hAB hl.1 rfl rfl (Nat.le_of_ble_eq_true rfl) dX3_between_61 (fun v_12 H hv hz hq hS => ?_)
          have hS : mS b s.heap H _ := ⟨hS, hL9⟩
          have hV := hV.up hq
          have hv : v_12 = some (.int x_12) := hv
          subst hv
          exact m_iret hx hb hr hlocks (Option.some.inj hm) hV hS ⟨Nat.le_of_ble_eq_true rfl, Nat.le_of_ble_eq_true rfl⟩ dX3_between_64
        · have hm := (if_neg h_11).symm.trans hm
          refine lv_iconst (v := 0) hx hb dX3_between_44 (by decide) ?_
          refine lv_goto (tgt := 64) hx hb dX3_between_45 (by decide) ?_
          exact m_iret hx hb hr hlocks (Option.some.inj hm) hV hS ⟨Nat.le_of_ble_eq_true rfl, Nat.le_of_ble_eq_true rfl⟩ dX3_between_64
      · have hm := (if_pos h_10).symm.trans hm
        refine lv_iconst (v := 1) hx hb dX3_between_32 (by decide) ?_
        refine lv_goto (tgt := 37) hx hb dX3_between_33 (by decide) ?_
        refine lv_iconst (v := 0) hx hb dX3_between_37 (by decide) ?_
        obtain ⟨x_13, hx_13, hm⟩ := Option.bind_eq_some_iff.mp hm
        refine mc_V hC hGx hD (k_X3_fails l k b L hD (0 : Int32) (1 : Int32) (0 : Int32)  z hx_13) (gV w_1056 w_1057 w_18 w_27 w_1058) kk_X3_fails rfl (List.forall_mem_nil _) hLb ⟨Nat.le_of_ble_eq_true rfl, Nat.le_of_ble_eq_true rfl⟩ ⟨Nat.le_of_ble_eq_true rfl, Nat.le_of_ble_eq_true rfl⟩ hV hS hl.1 rfl rfl (Nat.le_of_ble_eq_true rfl) dX3_between_38 (fun q_13 H locs hV hS hz hq => ?_)
        refine lv_if_eq (tgt := 48) hx hb dX3_between_41 (by decide) (fun h_14 => ?_) (fun h_14 => ?_)
        · have hm := (if_pos h_14).symm.trans hm
          refine lv_aload_n hx hb dX3_between_48 rfl (lv_at hl 0 rfl) ?_
          refine va_get (D := kD k) (ci := 5) (v := .ref b.2.1) (C := RX3) (T := TX3) (N := 5) hx hb htg inG_X3 hown hGx.1 hV.1 0 rfl rfl 1 (by decide) (htg _ w_1012) (fun _ h9 => h9) rfl dX3_between_49 ?_
          refine lv_iload_n hx hb dX3_between_52 rfl (lv_at hl 1 rfl) ?_
          by_cases h_15 : p0 < 0 ∨ 6 ≤ p0.toNatClampNeg
          · have hm := (if_pos h_15).symm.trans hm
            cases hm
          have hm := (if_neg h_15).symm.trans hm
          refine m_ald hx hb hGx hV h_15 dX3_between_53 (fun hP_14 => ?_)
          refine lv_aload_n hx hb dX3_between_54 rfl (lv_at hl 0 rfl) ?_
          refine va_get (D := kD k) (ci := 5) (v := .ref b.2.1) (C := RX3) (T := TX3) (N := 5) hx hb htg inG_X3 hown hGx.1 hV.1 0 rfl rfl 1 (by decide) (htg _ w_1012) (fun _ h9 => h9) rfl dX3_between_55 ?_
          refine lv_iload_n hx hb dX3_between_58 rfl (lv_at hl 2 rfl) ?_
          by_cases h_16 : p1 < 0 ∨ 6 ≤ p1.toNatClampNeg
          · have hm := (if_pos h_16).symm.trans hm
            cases hm
          have hm := (if_neg h_16).symm.trans hm
          refine m_ald hx hb hGx hV h_16 dX3_between_59 (fun hP_15 => ?_)
          refine lv_iload_n hx hb dX3_between_60 rfl (lv_at hl 3 rfl) ?_
          obtain ⟨x_16, hx_16, hm⟩ := Option.bind_eq_some_iff.mp hm
          have hs_16 := hS.1.1
          have hLn_16 := m_hLn hLb hS
          have hL9 := hS.2
          refine qc_S hC hGx (k_X3_whole l k (x_13.2.2.1 p0.toNatClampNeg) (x_13.2.2.1 p1.toNatClampNeg) p2 (q_13 p0.toNatClampNeg) (q_13 p1.toNatClampNeg) hx_16) (gS w_1351 w_1352 w_27 w_1353) kk_X3_whole (List.forall_mem_cons.mpr ⟨hP_14.1, (List.forall_mem_cons.mpr ⟨hP_15.1, (List.forall_mem_nil _)⟩)⟩) ⟨Nat.le_of_ble_eq_true rfl, Nat.le_of_ble_eq_true rfl⟩ ⟨Nat.le_of_ble_eq_true rfl, Nat.le_of_ble_eq_true rfl⟩ hS.1 hA hAB hl.1 rfl rfl (Nat.le_of_ble_eq_true rfl) dX3_between_61 (fun v_16 H hv hz hq hS => ?_)
          have hS : mS b s.heap H _ := ⟨hS, hL9⟩
          have hV := hV.up hq
          have hv : v_16 = some (.int x_16) := hv
          subst hv
          exact m_iret hx hb hr hlocks (Option.some.inj hm) hV hS ⟨Nat.le_of_ble_eq_true rfl, Nat.le_of_ble_eq_true rfl⟩ dX3_between_64
        · have hm := (if_neg h_14).symm.trans hm
          refine lv_iconst (v := 0) hx hb dX3_between_44 (by decide) ?_
          refine lv_goto (tgt := 64) hx hb dX3_between_45 (by decide) ?_
          exact m_iret hx hb hr hlocks (Option.some.inj hm) hV hS ⟨Nat.le_of_ble_eq_true rfl, Nat.le_of_ble_eq_true rfl⟩ dX3_between_64
    · have hm := (if_neg h_9).symm.trans hm
      refine lv_iconst (v := 1) hx hb dX3_between_15 (by decide) ?_
      refine lv_goto (tgt := 20) hx hb dX3_between_16 (by decide) ?_
      refine lv_iload_n hx hb dX3_between_20 rfl (lv_at hl 3 rfl) ?_
      refine lv_i2l hx hb dX3_between_21 rfl ?_
      refine lv_lconst (v := 0) hx hb dX3_between_22 (by decide) ?_
      refine lv_ldc2 hx hb hown (htg _ w_1320) dX3_between_23 ?_
      refine pc_S hC (c_X3_isIn l p2.toInt64 (0 : Int64) (6 : Int64)) (gS w_1040 w_1041 w_27 w_1042) kk_X3_isIn ⟨Nat.le_of_ble_eq_true rfl, Nat.le_of_ble_eq_true rfl⟩ ⟨Nat.le_of_ble_eq_true rfl, Nat.le_of_ble_eq_true rfl⟩ hl.1 rfl rfl (Nat.le_of_ble_eq_true rfl) dX3_between_26 ?_
      refine lv_if_ne (tgt := 36) hx hb dX3_between_29 (by decide) (fun h_17 => ?_) (fun h_17 => ?_)
      · have hm := (if_neg h_17).symm.trans hm
        refine lv_iconst (v := 0) hx hb dX3_between_36 (by decide) ?_
        refine lv_iconst (v := 0) hx hb dX3_between_37 (by decide) ?_
        obtain ⟨x_17, hx_17, hm⟩ := Option.bind_eq_some_iff.mp hm
        refine mc_V hC hGx hD (k_X3_fails l k b L hD (1 : Int32) (0 : Int32) (0 : Int32)  z hx_17) (gV w_1056 w_1057 w_18 w_27 w_1058) kk_X3_fails rfl (List.forall_mem_nil _) hLb ⟨Nat.le_of_ble_eq_true rfl, Nat.le_of_ble_eq_true rfl⟩ ⟨Nat.le_of_ble_eq_true rfl, Nat.le_of_ble_eq_true rfl⟩ hV hS hl.1 rfl rfl (Nat.le_of_ble_eq_true rfl) dX3_between_38 (fun q_17 H locs hV hS hz hq => ?_)
        refine lv_if_eq (tgt := 48) hx hb dX3_between_41 (by decide) (fun h_18 => ?_) (fun h_18 => ?_)
        · have hm := (if_pos h_18).symm.trans hm
          refine lv_aload_n hx hb dX3_between_48 rfl (lv_at hl 0 rfl) ?_
          refine va_get (D := kD k) (ci := 5) (v := .ref b.2.1) (C := RX3) (T := TX3) (N := 5) hx hb htg inG_X3 hown hGx.1 hV.1 0 rfl rfl 1 (by decide) (htg _ w_1012) (fun _ h9 => h9) rfl dX3_between_49 ?_
          refine lv_iload_n hx hb dX3_between_52 rfl (lv_at hl 1 rfl) ?_
          by_cases h_19 : p0 < 0 ∨ 6 ≤ p0.toNatClampNeg
          · have hm := (if_pos h_19).symm.trans hm
            cases hm
          have hm := (if_neg h_19).symm.trans hm
          refine m_ald hx hb hGx hV h_19 dX3_between_53 (fun hP_18 => ?_)
          refine lv_aload_n hx hb dX3_between_54 rfl (lv_at hl 0 rfl) ?_
          refine va_get (D := kD k) (ci := 5) (v := .ref b.2.1) (C := RX3) (T := TX3) (N := 5) hx hb htg inG_X3 hown hGx.1 hV.1 0 rfl rfl 1 (by decide) (htg _ w_1012) (fun _ h9 => h9) rfl dX3_between_55 ?_
          refine lv_iload_n hx hb dX3_between_58 rfl (lv_at hl 2 rfl) ?_
          by_cases h_20 : p1 < 0 ∨ 6 ≤ p1.toNatClampNeg
          · have hm := (if_pos h_20).symm.trans hm
            cases hm
          have hm := (if_neg h_20).symm.trans hm
          refine m_ald hx hb hGx hV h_20 dX3_between_59 (fun hP_19 => ?_)
          refine lv_iload_n hx hb dX3_between_60 rfl (lv_at hl 3 rfl) ?_
          obtain ⟨x_20, hx_20, hm⟩ := Option.bind_eq_some_iff.mp hm
          have hs_20 := hS.1.1
          have hLn_20 := m_hLn hLb hS
          have hL9 := hS.2
          refine qc_S hC hGx (k_X3_whole l k (x_17.2.2.1 p0.toNatClampNeg) (x_17.2.2.1 p1.toNatClampNeg) p2 (q_17 p0.toNatClampNeg) (q_17 p1.toNatClampNeg) hx_20) (gS w_1351 w_1352 w_27 w_1353) kk_X3_whole (List.forall_mem_cons.mpr ⟨hP_18.1, (List.forall_mem_cons.mpr ⟨hP_19.1, (List.forall_mem_nil _)⟩)⟩) ⟨Nat.le_of_ble_eq_true rfl, Nat.le_of_ble_eq_true rfl⟩ ⟨Nat.le_of_ble_eq_true rfl, Nat.le_of_ble_eq_true rfl⟩ hS.1 hA hAB hl.1 rfl rfl (Nat.le_of_ble_eq_true rfl) dX3_between_61 (fun v_20 H hv hz hq hS => ?_)
          have hS : mS b s.heap H _ := ⟨hS, hL9⟩
          have hV := hV.up hq
          have hv : v_20 = some (.int x_20) := hv
          subst hv
          exact m_iret hx hb hr hlocks (Option.some.inj hm) hV hS ⟨Nat.le_of_ble_eq_true rfl, Nat.le_of_ble_eq_true rfl⟩ dX3_between_64
        · have hm := (if_neg h_18).symm.trans hm
          refine lv_iconst (v := 0) hx hb dX3_between_44 (by decide) ?_
          refine lv_goto (tgt := 64) hx hb dX3_between_45 (by decide) ?_
          exact m_iret hx hb hr hlocks (Option.some.inj hm) hV hS ⟨Nat.le_of_ble_eq_true rfl, Nat.le_of_ble_eq_true rfl⟩ dX3_between_64
      · have hm := (if_pos h_17).symm.trans hm
        refine lv_iconst (v := 1) hx hb dX3_between_32 (by decide) ?_
        refine lv_goto (tgt := 37) hx hb dX3_between_33 (by decide) ?_
        refine lv_iconst (v := 0) hx hb dX3_between_37 (by decide) ?_
        obtain ⟨x_21, hx_21, hm⟩ := Option.bind_eq_some_iff.mp hm
        refine mc_V hC hGx hD (k_X3_fails l k b L hD (1 : Int32) (1 : Int32) (0 : Int32)  z hx_21) (gV w_1056 w_1057 w_18 w_27 w_1058) kk_X3_fails rfl (List.forall_mem_nil _) hLb ⟨Nat.le_of_ble_eq_true rfl, Nat.le_of_ble_eq_true rfl⟩ ⟨Nat.le_of_ble_eq_true rfl, Nat.le_of_ble_eq_true rfl⟩ hV hS hl.1 rfl rfl (Nat.le_of_ble_eq_true rfl) dX3_between_38 (fun q_21 H locs hV hS hz hq => ?_)
        refine lv_if_eq (tgt := 48) hx hb dX3_between_41 (by decide) (fun h_21 => ?_) (fun h_21 => ?_)
        · have hm := (if_pos h_21).symm.trans hm
          refine lv_aload_n hx hb dX3_between_48 rfl (lv_at hl 0 rfl) ?_
          refine va_get (D := kD k) (ci := 5) (v := .ref b.2.1) (C := RX3) (T := TX3) (N := 5) hx hb htg inG_X3 hown hGx.1 hV.1 0 rfl rfl 1 (by decide) (htg _ w_1012) (fun _ h9 => h9) rfl dX3_between_49 ?_
          refine lv_iload_n hx hb dX3_between_52 rfl (lv_at hl 1 rfl) ?_
          by_cases h_22 : p0 < 0 ∨ 6 ≤ p0.toNatClampNeg
          · have hm := (if_pos h_22).symm.trans hm
            cases hm
          have hm := (if_neg h_22).symm.trans hm
          refine m_ald hx hb hGx hV h_22 dX3_between_53 (fun hP_22 => ?_)
          refine lv_aload_n hx hb dX3_between_54 rfl (lv_at hl 0 rfl) ?_
          refine va_get (D := kD k) (ci := 5) (v := .ref b.2.1) (C := RX3) (T := TX3) (N := 5) hx hb htg inG_X3 hown hGx.1 hV.1 0 rfl rfl 1 (by decide) (htg _ w_1012) (fun _ h9 => h9) rfl dX3_between_55 ?_
          refine lv_iload_n hx hb dX3_between_58 rfl (lv_at hl 2 rfl) ?_
          by_cases h_23 : p1 < 0 ∨ 6 ≤ p1.toNatClampNeg
          · have hm := (if_pos h_23).symm.trans hm
            cases hm
          have hm := (if_neg h_23).symm.trans hm
          refine m_ald hx hb hGx hV h_23 dX3_between_59 (fun hP_23 => ?_)
          refine lv_iload_n hx hb dX3_between_60 rfl (lv_at hl 3 rfl) ?_
          obtain ⟨x_24, hx_24, hm⟩ := Option.bind_eq_some_iff.mp hm
          have hs_24 := hS.1.1
          have hLn_24 := m_hLn hLb hS
          have hL9 := hS.2
          refine qc_S hC hGx (k_X3_whole l k (x_21.2.2.1 p0.toNatClampNeg) (x_21.2.2.1 p1.toNatClampNeg) p2 (q_21 p0.toNatClampNeg) (q_21 p1.toNatClampNeg) hx_24) (gS w_1351 w_1352 w_27 w_1353) kk_X3_whole (List.forall_mem_cons.mpr ⟨hP_22.1, (List.forall_mem_cons.mpr ⟨hP_23.1, (List.forall_mem_nil _)⟩)⟩) ⟨Nat.le_of_ble_eq_true rfl, Nat.le_of_ble_eq_true rfl⟩ ⟨Nat.le_of_ble_eq_true rfl, Nat.le_of_ble_eq_true rfl⟩ hS.1 hA hAB hl.1 rfl rfl (Nat.le_of_ble_eq_true rfl) dX3_between_61 (fun v_24 H hv hz hq hS => ?_)
          have hS : mS b s.heap H _ := ⟨hS, hL9⟩
          have hV := hV.up hq
          have hv : v_24 = some (.int x_24) := hv
          subst hv
          exact m_iret hx hb hr hlocks (Option.some.inj hm) hV hS ⟨Nat.le_of_ble_eq_true rfl, Nat.le_of_ble_eq_true rfl⟩ dX3_between_64
        · have hm := (if_neg h_21).symm.trans hm
          refine lv_iconst (v := 0) hx hb dX3_between_44 (by decide) ?_
          refine lv_goto (tgt := 64) hx hb dX3_between_45 (by decide) ?_
          exact m_iret hx hb hr hlocks (Option.some.inj hm) hV hS ⟨Nat.le_of_ble_eq_true rfl, Nat.le_of_ble_eq_true rfl⟩ dX3_between_64
def o_X3_apart (p0 : Int32) (p1 : Int32) (p2 : Int32) (z : MS) : Option (Int32 × MS) := (if m_X3_isNo p0 = 0 then (if m_X3_isNo p1 = 0 then (if m_X3_isIn p2.toInt64 (0 : Int64) (2 : Int64) = 0 then ((o_X3_fails (0 : Int32) (1 : Int32) (0 : Int32) z).bind fun x_25 => (if x_25.1 = 0 then (if p0 < 0 ∨ 6 ≤ p0.toNatClampNeg then none else (if p1 < 0 ∨ 6 ≤ p1.toNatClampNeg then none else ((o_X3_isAhead (x_25.2.2.1 p1.toNatClampNeg) (x_25.2.2.1 p0.toNatClampNeg)).bind fun x_28 => ((o_X3_fails (0 : Int32) (0 : Int32) x_28 x_25.2).bind fun x_29 => (if x_29.1 = 0 then (if p2 = (2 : Int32) then ((o_X3_daysOf (x_25.2.2.1 p0.toNatClampNeg) (x_25.2.2.1 p1.toNatClampNeg)).bind fun x_32 => some (x_32, x_29.2)) else (if p2 = (1 : Int32) then ((o_X3_monthsOf (x_25.2.2.1 p0.toNatClampNeg) (x_25.2.2.1 p1.toNatClampNeg)).bind fun x_31 => some (x_31 - x_31 / (12 : Int32) * (12 : Int32), x_29.2)) else ((o_X3_monthsOf (x_25.2.2.1 p0.toNatClampNeg) (x_25.2.2.1 p1.toNatClampNeg)).bind fun x_30 => some (x_30 / (12 : Int32), x_29.2)))) else some ((0 : Int32), x_29.2)))))) else some ((0 : Int32), x_25.2))) else ((o_X3_fails (0 : Int32) (0 : Int32) (0 : Int32) z).bind fun x_17 => (if x_17.1 = 0 then (if p0 < 0 ∨ 6 ≤ p0.toNatClampNeg then none else (if p1 < 0 ∨ 6 ≤ p1.toNatClampNeg then none else ((o_X3_isAhead (x_17.2.2.1 p1.toNatClampNeg) (x_17.2.2.1 p0.toNatClampNeg)).bind fun x_20 => ((o_X3_fails (0 : Int32) (0 : Int32) x_20 x_17.2).bind fun x_21 => (if x_21.1 = 0 then (if p2 = (2 : Int32) then ((o_X3_daysOf (x_17.2.2.1 p0.toNatClampNeg) (x_17.2.2.1 p1.toNatClampNeg)).bind fun x_24 => some (x_24, x_21.2)) else (if p2 = (1 : Int32) then ((o_X3_monthsOf (x_17.2.2.1 p0.toNatClampNeg) (x_17.2.2.1 p1.toNatClampNeg)).bind fun x_23 => some (x_23 - x_23 / (12 : Int32) * (12 : Int32), x_21.2)) else ((o_X3_monthsOf (x_17.2.2.1 p0.toNatClampNeg) (x_17.2.2.1 p1.toNatClampNeg)).bind fun x_22 => some (x_22 / (12 : Int32), x_21.2)))) else some ((0 : Int32), x_21.2)))))) else some ((0 : Int32), x_17.2)))) else (if m_X3_isIn p2.toInt64 (0 : Int64) (2 : Int64) = 0 then ((o_X3_fails (1 : Int32) (1 : Int32) (0 : Int32) z).bind fun x_41 => (if x_41.1 = 0 then (if p0 < 0 ∨ 6 ≤ p0.toNatClampNeg then none else (if p1 < 0 ∨ 6 ≤ p1.toNatClampNeg then none else ((o_X3_isAhead (x_41.2.2.1 p1.toNatClampNeg) (x_41.2.2.1 p0.toNatClampNeg)).bind fun x_44 => ((o_X3_fails (0 : Int32) (0 : Int32) x_44 x_41.2).bind fun x_45 => (if x_45.1 = 0 then (if p2 = (2 : Int32) then ((o_X3_daysOf (x_41.2.2.1 p0.toNatClampNeg) (x_41.2.2.1 p1.toNatClampNeg)).bind fun x_48 => some (x_48, x_45.2)) else (if p2 = (1 : Int32) then ((o_X3_monthsOf (x_41.2.2.1 p0.toNatClampNeg) (x_41.2.2.1 p1.toNatClampNeg)).bind fun x_47 => some (x_47 - x_47 / (12 : Int32) * (12 : Int32), x_45.2)) else ((o_X3_monthsOf (x_41.2.2.1 p0.toNatClampNeg) (x_41.2.2.1 p1.toNatClampNeg)).bind fun x_46 => some (x_46 / (12 : Int32), x_45.2)))) else some ((0 : Int32), x_45.2)))))) else some ((0 : Int32), x_41.2))) else ((o_X3_fails (1 : Int32) (0 : Int32) (0 : Int32) z).bind fun x_33 => (if x_33.1 = 0 then (if p0 < 0 ∨ 6 ≤ p0.toNatClampNeg then none else (if p1 < 0 ∨ 6 ≤ p1.toNatClampNeg then none else ((o_X3_isAhead (x_33.2.2.1 p1.toNatClampNeg) (x_33.2.2.1 p0.toNatClampNeg)).bind fun x_36 => ((o_X3_fails (0 : Int32) (0 : Int32) x_36 x_33.2).bind fun x_37 => (if x_37.1 = 0 then (if p2 = (2 : Int32) then ((o_X3_daysOf (x_33.2.2.1 p0.toNatClampNeg) (x_33.2.2.1 p1.toNatClampNeg)).bind fun x_40 => some (x_40, x_37.2)) else (if p2 = (1 : Int32) then ((o_X3_monthsOf (x_33.2.2.1 p0.toNatClampNeg) (x_33.2.2.1 p1.toNatClampNeg)).bind fun x_39 => some (x_39 - x_39 / (12 : Int32) * (12 : Int32), x_37.2)) else ((o_X3_monthsOf (x_33.2.2.1 p0.toNatClampNeg) (x_33.2.2.1 p1.toNatClampNeg)).bind fun x_38 => some (x_38 / (12 : Int32), x_37.2)))) else some ((0 : Int32), x_37.2)))))) else some ((0 : Int32), x_33.2))))) else (if m_X3_isIn p2.toInt64 (0 : Int64) (2 : Int64) = 0 then ((o_X3_fails (1 : Int32) (1 : Int32) (0 : Int32) z).bind fun x_9 => (if x_9.1 = 0 then (if p0 < 0 ∨ 6 ≤ p0.toNatClampNeg then none else (if p1 < 0 ∨ 6 ≤ p1.toNatClampNeg then none else ((o_X3_isAhead (x_9.2.2.1 p1.toNatClampNeg) (x_9.2.2.1 p0.toNatClampNeg)).bind fun x_12 => ((o_X3_fails (0 : Int32) (0 : Int32) x_12 x_9.2).bind fun x_13 => (if x_13.1 = 0 then (if p2 = (2 : Int32) then ((o_X3_daysOf (x_9.2.2.1 p0.toNatClampNeg) (x_9.2.2.1 p1.toNatClampNeg)).bind fun x_16 => some (x_16, x_13.2)) else (if p2 = (1 : Int32) then ((o_X3_monthsOf (x_9.2.2.1 p0.toNatClampNeg) (x_9.2.2.1 p1.toNatClampNeg)).bind fun x_15 => some (x_15 - x_15 / (12 : Int32) * (12 : Int32), x_13.2)) else ((o_X3_monthsOf (x_9.2.2.1 p0.toNatClampNeg) (x_9.2.2.1 p1.toNatClampNeg)).bind fun x_14 => some (x_14 / (12 : Int32), x_13.2)))) else some ((0 : Int32), x_13.2)))))) else some ((0 : Int32), x_9.2))) else ((o_X3_fails (1 : Int32) (0 : Int32) (0 : Int32) z).bind fun x_1 => (if x_1.1 = 0 then (if p0 < 0 ∨ 6 ≤ p0.toNatClampNeg then none else (if p1 < 0 ∨ 6 ≤ p1.toNatClampNeg then none else ((o_X3_isAhead (x_1.2.2.1 p1.toNatClampNeg) (x_1.2.2.1 p0.toNatClampNeg)).bind fun x_4 => ((o_X3_fails (0 : Int32) (0 : Int32) x_4 x_1.2).bind fun x_5 => (if x_5.1 = 0 then (if p2 = (2 : Int32) then ((o_X3_daysOf (x_1.2.2.1 p0.toNatClampNeg) (x_1.2.2.1 p1.toNatClampNeg)).bind fun x_8 => some (x_8, x_5.2)) else (if p2 = (1 : Int32) then ((o_X3_monthsOf (x_1.2.2.1 p0.toNatClampNeg) (x_1.2.2.1 p1.toNatClampNeg)).bind fun x_7 => some (x_7 - x_7 / (12 : Int32) * (12 : Int32), x_5.2)) else ((o_X3_monthsOf (x_1.2.2.1 p0.toNatClampNeg) (x_1.2.2.1 p1.toNatClampNeg)).bind fun x_6 => some (x_6 / (12 : Int32), x_5.2)))) else some ((0 : Int32), x_5.2)))))) else some ((0 : Int32), x_1.2)))))
theorem kk_X3_apart : pK yX3_apart wsX3_apart cX3_apart 6 (some .int) 3 := ⟨⟨_, rfl⟩, by decide +kernel, by decide +kernel, by decide +kernel⟩
set_option maxRecDepth 100000 in
set_option maxHeartbeats 4000000 in
theorem k_X3_apart (l : Launch) (k : Kx) (b : CA) (L : List Nat) (hD : mD k b L) (p0 : Int32) (p1 : Int32) (p2 : Int32) (z : MS) {r : (Int32 × MS)} (hm : o_X3_apart p0 p1 p2 z = some r) : mM l k b L yX3_apart wsX3_apart 5 133 1 3 [.int p0, .int p1, .int p2] [] z (some (.int r.1)) r.2 := by
  intro sz q
  refine Met.ofW (cc := cX3_apart) (maxL := 6) (ret := (some .int)) (by decide) rfl ?_
  intro p e s m args below meth c s₁ B hml hv
  obtain ⟨rfl, rfl, hGx, hV, hLb, hds⟩ := hv
  have hx := B.exec
  have hb := B.bytes
  have hr := B.returns
  have hts := atoms_spec (ws := wsX3_apart) B.pre
  have hown : s.vm.findClass RX3 = some m.cls := findClass_of_methodNamed B.named
  have hlocks := B.notSynchronized
  have htg : ∀ w ∈ GL, w.before _ s = true := fun w h => hts w (List.mem_cons_of_mem _ h)
  have hC : CallFix p m c cX3_apart 6 s _ wsX3_apart RX3 := ⟨hx, hb, hml, hown, hts⟩
  have hA : ∀ q, s.heap.size ≤ q → cA b s.heap.size q := fun q h => cA.new q h
  have hAB : ∀ q, cA b s.heap.size q → kB k ≤ q := hD.high hGx.2.1
  have hS : mS b s.heap s.heap [] := mS.rf
  have hl := lv_entry ([.ref b.1, .int p0, .int p1, .int p2]) (n := 6) (Nat.le_of_ble_eq_true rfl)
  rw [lg_entry_eq]
  generalize (lg_sl ([.ref b.1, .int p0, .int p1, .int p2]) ++ List.replicate (6 - (lg_sl ([.ref b.1, .int p0, .int p1, .int p2])).length) Slot.unset).toArray = ls at hl ⊢
  have hl : lv_has ls 6 [(0, .ref b.1), (1, .int p0), (2, .int p1), (3, .int p2)] := hl
  refine lv_aload_n hx hb dX3_apart_0 rfl (lv_at hl 0 rfl) ?_
  refine lv_iload_n hx hb dX3_apart_1 rfl (lv_at hl 1 rfl) ?_
  refine pc_S hC (c_X3_isNo l p0) (gS w_1045 w_1046 w_27 w_1047) kk_X3_isNo ⟨Nat.le_of_ble_eq_true rfl, Nat.le_of_ble_eq_true rfl⟩ ⟨Nat.le_of_ble_eq_true rfl, Nat.le_of_ble_eq_true rfl⟩ hl.1 rfl rfl (Nat.le_of_ble_eq_true rfl) dX3_apart_2 ?_
  refine lv_if_ne (tgt := 15) hx hb dX3_apart_5 (by decide) (fun h_1 => ?_) (fun h_1 => ?_)
  · have hm := (if_neg h_1).symm.trans hm
    refine lv_iconst (v := 1) hx hb dX3_apart_15 (by decide) ?_
    refine lv_goto (tgt := 20) hx hb dX3_apart_16 (by decide) ?_
    refine lv_iload_n hx hb dX3_apart_20 rfl (lv_at hl 3 rfl) ?_
    refine lv_i2l hx hb dX3_apart_21 rfl ?_
    refine lv_lconst (v := 0) hx hb dX3_apart_22 (by decide) ?_
    refine lv_ldc2 hx hb hown (htg _ w_1232) dX3_apart_23 ?_
    refine pc_S hC (c_X3_isIn l p2.toInt64 (0 : Int64) (2 : Int64)) (gS w_1040 w_1041 w_27 w_1042) kk_X3_isIn ⟨Nat.le_of_ble_eq_true rfl, Nat.le_of_ble_eq_true rfl⟩ ⟨Nat.le_of_ble_eq_true rfl, Nat.le_of_ble_eq_true rfl⟩ hl.1 rfl rfl (Nat.le_of_ble_eq_true rfl) dX3_apart_26 ?_
    refine lv_if_ne (tgt := 36) hx hb dX3_apart_29 (by decide) (fun h_2 => ?_) (fun h_2 => ?_)
    · have hm := (if_neg h_2).symm.trans hm
      refine lv_iconst (v := 0) hx hb dX3_apart_36 (by decide) ?_
      refine lv_iconst (v := 0) hx hb dX3_apart_37 (by decide) ?_
      obtain ⟨x_1, hx_1, hm⟩ := Option.bind_eq_some_iff.mp hm
      refine mc_V hC hGx hD (k_X3_fails l k b L hD (1 : Int32) (0 : Int32) (0 : Int32)  z hx_1) (gV w_1056 w_1057 w_18 w_27 w_1058) kk_X3_fails rfl (List.forall_mem_nil _) hLb ⟨Nat.le_of_ble_eq_true rfl, Nat.le_of_ble_eq_true rfl⟩ ⟨Nat.le_of_ble_eq_true rfl, Nat.le_of_ble_eq_true rfl⟩ hV hS hl.1 rfl rfl (Nat.le_of_ble_eq_true rfl) dX3_apart_38 (fun q_1 H locs hV hS hz hq => ?_)
      refine lv_if_eq (tgt := 46) hx hb dX3_apart_41 (by decide) (fun h_3 => ?_) (fun h_3 => ?_)
      · have hm := (if_pos h_3).symm.trans hm
        refine lv_aload_n hx hb dX3_apart_46 rfl (lv_at hl 0 rfl) ?_
        refine va_get (D := kD k) (ci := 5) (v := .ref b.2.1) (C := RX3) (T := TX3) (N := 5) hx hb htg inG_X3 hown hGx.1 hV.1 0 rfl rfl 1 (by decide) (htg _ w_1012) (fun _ h9 => h9) rfl dX3_apart_47 ?_
        refine lv_iload_n hx hb dX3_apart_50 rfl (lv_at hl 1 rfl) ?_
        by_cases h_4 : p0 < 0 ∨ 6 ≤ p0.toNatClampNeg
        · have hm := (if_pos h_4).symm.trans hm
          cases hm
        have hm := (if_neg h_4).symm.trans hm
        refine m_ald hx hb hGx hV h_4 dX3_apart_51 (fun hP_2 => ?_)
        refine lv_astore (lv' := [(4, .ref (q_1 p0.toNatClampNeg)), (0, .ref b.1), (1, .int p0), (2, .int p1), (3, .int p2)]) hx hb dX3_apart_52 hl (by decide) rfl (fun ls hl => ?_)
        refine lv_aload_n hx hb dX3_apart_54 rfl (lv_at hl 1 rfl) ?_
        refine va_get (D := kD k) (ci := 5) (v := .ref b.2.1) (C := RX3) (T := TX3) (N := 5) hx hb htg inG_X3 hown hGx.1 hV.1 0 rfl rfl 1 (by decide) (htg _ w_1012) (fun _ h9 => h9) rfl dX3_apart_55 ?_
        refine lv_iload_n hx hb dX3_apart_58 rfl (lv_at hl 3 rfl) ?_
        by_cases h_5 : p1 < 0 ∨ 6 ≤ p1.toNatClampNeg
        · have hm := (if_pos h_5).symm.trans hm
          cases hm
        have hm := (if_neg h_5).symm.trans hm
        refine m_ald hx hb hGx hV h_5 dX3_apart_59 (fun hP_3 => ?_)
        refine lv_astore (lv' := [(5, .ref (q_1 p1.toNatClampNeg)), (4, .ref (q_1 p0.toNatClampNeg)), (0, .ref b.1), (1, .int p0), (2, .int p1), (3, .int p2)]) hx hb dX3_apart_60 hl (by decide) rfl (fun ls hl => ?_)
        refine lv_aload_n hx hb dX3_apart_62 rfl (lv_at hl 2 rfl) ?_
        refine lv_iconst (v := 0) hx hb dX3_apart_63 (by decide) ?_
        refine lv_iconst (v := 0) hx hb dX3_apart_64 (by decide) ?_
        refine lv_aload hx hb dX3_apart_65 (lv_at hl 0 rfl) ?_
        refine lv_aload hx hb dX3_apart_67 (lv_at hl 1 rfl) ?_
        obtain ⟨x_4, hx_4, hm⟩ := Option.bind_eq_some_iff.mp hm
        have hs_4 := hS.1.1
        have hLn_4 := m_hLn hLb hS
        have hL9 := hS.2
        refine qc_S hC hGx (k_X3_isAhead l k (x_1.2.2.1 p1.toNatClampNeg) (x_1.2.2.1 p0.toNatClampNeg) (q_1 p1.toNatClampNeg) (q_1 p0.toNatClampNeg) hx_4) (gS w_1212 w_1213 w_27 w_1214) kk_X3_isAhead (List.forall_mem_cons.mpr ⟨hP_3.1, (List.forall_mem_cons.mpr ⟨hP_2.1, (List.forall_mem_nil _)⟩)⟩) ⟨Nat.le_of_ble_eq_true rfl, Nat.le_of_ble_eq_true rfl⟩ ⟨Nat.le_of_ble_eq_true rfl, Nat.le_of_ble_eq_true rfl⟩ hS.1 hA hAB hl.1 rfl rfl (Nat.le_of_ble_eq_true rfl) dX3_apart_69 (fun v_4 H hv hz hq hS => ?_)
        have hS : mS b s.heap H _ := ⟨hS, hL9⟩
        have hV := hV.up hq
        have hP_3 := hP_3.up (fun x h9 _ => hq x h9)
        have hP_2 := hP_2.up (fun x h9 _ => hq x h9)
        have hv : v_4 = some (.int x_4) := hv
        subst hv
        obtain ⟨x_5, hx_5, hm⟩ := Option.bind_eq_some_iff.mp hm
        refine mc_V hC hGx hD (k_X3_fails l k b L hD (0 : Int32) (0 : Int32) x_4  x_1.2 hx_5) (gV w_1056 w_1057 w_18 w_27 w_1058) kk_X3_fails rfl (List.forall_mem_nil _) hLb ⟨Nat.le_of_ble_eq_true rfl, Nat.le_of_ble_eq_true rfl⟩ ⟨Nat.le_of_ble_eq_true rfl, Nat.le_of_ble_eq_true rfl⟩ hV hS hl.1 rfl rfl (Nat.le_of_ble_eq_true rfl) dX3_apart_72 (fun q_5 H locs hV hS hz hq => ?_)
        have hP_3 := hP_3.up hq
        have hP_2 := hP_2.up hq
        refine lv_if_eq (tgt := 80) hx hb dX3_apart_75 (by decide) (fun h_6 => ?_) (fun h_6 => ?_)
        · have hm := (if_pos h_6).symm.trans hm
          refine lv_iload_n hx hb dX3_apart_80 rfl (lv_at hl 5 rfl) ?_
          refine lv_iconst (v := 2) hx hb dX3_apart_81 (by decide) ?_
          refine lv_icmp_ne (tgt := 95) hx hb dX3_apart_82 (by decide) (fun h_7 => ?_) (fun h_7 => ?_)
          · have hm := (if_neg h_7).symm.trans hm
            refine lv_iload_n hx hb dX3_apart_95 rfl (lv_at hl 5 rfl) ?_
            refine lv_iconst (v := 1) hx hb dX3_apart_96 (by decide) ?_
            refine lv_icmp_ne (tgt := 113) hx hb dX3_apart_97 (by decide) (fun h_8 => ?_) (fun h_8 => ?_)
            · have hm := (if_neg h_8).symm.trans hm
              refine lv_aload hx hb dX3_apart_113 (lv_at hl 1 rfl) ?_
              refine lv_aload hx hb dX3_apart_115 (lv_at hl 0 rfl) ?_
              obtain ⟨x_6, hx_6, hm⟩ := Option.bind_eq_some_iff.mp hm
              have hs_6 := hS.1.1
              have hLn_6 := m_hLn hLb hS
              have hL9 := hS.2
              refine qc_S hC hGx (k_X3_monthsOf l k (x_1.2.2.1 p0.toNatClampNeg) (x_1.2.2.1 p1.toNatClampNeg) (q_1 p0.toNatClampNeg) (q_1 p1.toNatClampNeg) hx_6) (gS w_1215 w_1216 w_27 w_1217) kk_X3_monthsOf (List.forall_mem_cons.mpr ⟨hP_2.1, (List.forall_mem_cons.mpr ⟨hP_3.1, (List.forall_mem_nil _)⟩)⟩) ⟨Nat.le_of_ble_eq_true rfl, Nat.le_of_ble_eq_true rfl⟩ ⟨Nat.le_of_ble_eq_true rfl, Nat.le_of_ble_eq_true rfl⟩ hS.1 hA hAB hl.1 rfl rfl (Nat.le_of_ble_eq_true rfl) dX3_apart_117 (fun v_6 H hv hz hq hS => ?_)
              have hS : mS b s.heap H _ := ⟨hS, hL9⟩
              have hV := hV.up hq
              have hP_3 := hP_3.up (fun x h9 _ => hq x h9)
              have hP_2 := hP_2.up (fun x h9 _ => hq x h9)
              have hv : v_6 = some (.int x_6) := hv
              subst hv
              refine lv_bipush (v := 12) hx hb dX3_apart_120 (by decide) ?_
              refine lv_idiv hx hb dX3_apart_122 (by decide) ?_
              exact m_iret hx hb hr hlocks (Option.some.inj hm) hV hS ⟨Nat.le_of_ble_eq_true rfl, Nat.le_of_ble_eq_true rfl⟩ dX3_apart_123
            · have hm := (if_pos h_8).symm.trans hm
              refine lv_aload hx hb dX3_apart_100 (lv_at hl 1 rfl) ?_
              refine lv_aload hx hb dX3_apart_102 (lv_at hl 0 rfl) ?_
              obtain ⟨x_7, hx_7, hm⟩ := Option.bind_eq_some_iff.mp hm
              have hs_7 := hS.1.1
              have hLn_7 := m_hLn hLb hS
              have hL9 := hS.2
              refine qc_S hC hGx (k_X3_monthsOf l k (x_1.2.2.1 p0.toNatClampNeg) (x_1.2.2.1 p1.toNatClampNeg) (q_1 p0.toNatClampNeg) (q_1 p1.toNatClampNeg) hx_7) (gS w_1215 w_1216 w_27 w_1217) kk_X3_monthsOf (List.forall_mem_cons.mpr ⟨hP_2.1, (List.forall_mem_cons.mpr ⟨hP_3.1, (List.forall_mem_nil _)⟩)⟩) ⟨Nat.le_of_ble_eq_true rfl, Nat.le_of_ble_eq_true rfl⟩ ⟨Nat.le_of_ble_eq_true rfl, Nat.le_of_ble_eq_true rfl⟩ hS.1 hA hAB hl.1 rfl rfl (Nat.le_of_ble_eq_true rfl) dX3_apart_104 (fun v_7 H hv hz hq hS => ?_)
              have hS : mS b s.heap H _ := ⟨hS, hL9⟩
              have hV := hV.up hq
              have hP_3 := hP_3.up (fun x h9 _ => hq x h9)
              have hP_2 := hP_2.up (fun x h9 _ => hq x h9)
              have hv : v_7 = some (.int x_7) := hv
              subst hv
              refine lv_bipush (v := 12) hx hb dX3_apart_107 (by decide) ?_
              refine lv_irem hx hb dX3_apart_109 (by decide) ?_
              refine lv_goto (tgt := 123) hx hb dX3_apart_110 (by decide) ?_
              exact m_iret hx hb hr hlocks (Option.some.inj hm) hV hS ⟨Nat.le_of_ble_eq_true rfl, Nat.le_of_ble_eq_true rfl⟩ dX3_apart_123
          · have hm := (if_pos h_7).symm.trans hm
            refine lv_aload hx hb dX3_apart_85 (lv_at hl 1 rfl) ?_
            refine lv_aload hx hb dX3_apart_87 (lv_at hl 0 rfl) ?_
            obtain ⟨x_8, hx_8, hm⟩ := Option.bind_eq_some_iff.mp hm
            have hs_8 := hS.1.1
            have hLn_8 := m_hLn hLb hS
            have hL9 := hS.2
            refine qc_S hC hGx (k_X3_daysOf l k (x_1.2.2.1 p0.toNatClampNeg) (x_1.2.2.1 p1.toNatClampNeg) (q_1 p0.toNatClampNeg) (q_1 p1.toNatClampNeg) hx_8) (gS w_1221 w_1222 w_27 w_1223) kk_X3_daysOf (List.forall_mem_cons.mpr ⟨hP_2.1, (List.forall_mem_cons.mpr ⟨hP_3.1, (List.forall_mem_nil _)⟩)⟩) ⟨Nat.le_of_ble_eq_true rfl, Nat.le_of_ble_eq_true rfl⟩ ⟨Nat.le_of_ble_eq_true rfl, Nat.le_of_ble_eq_true rfl⟩ hS.1 hA hAB hl.1 rfl rfl (Nat.le_of_ble_eq_true rfl) dX3_apart_89 (fun v_8 H hv hz hq hS => ?_)
            have hS : mS b s.heap H _ := ⟨hS, hL9⟩
            have hV := hV.up hq
            have hP_3 := hP_3.up (fun x h9 _ => hq x h9)
            have hP_2 := hP_2.up (fun x h9 _ => hq x h9)
            have hv : v_8 = some (.int x_8) := hv
            subst hv
            refine lv_goto (tgt := 123) hx hb dX3_apart_92 (by decide) ?_
            exact m_iret hx hb hr hlocks (Option.some.inj hm) hV hS ⟨Nat.le_of_ble_eq_true rfl, Nat.le_of_ble_eq_true rfl⟩ dX3_apart_123
        · have hm := (if_neg h_6).symm.trans hm
          refine lv_iconst (v := 0) hx hb dX3_apart_78 (by decide) ?_
          exact m_iret hx hb hr hlocks (Option.some.inj hm) hV hS ⟨Nat.le_of_ble_eq_true rfl, Nat.le_of_ble_eq_true rfl⟩ dX3_apart_79
      · have hm := (if_neg h_3).symm.trans hm
        refine lv_iconst (v := 0) hx hb dX3_apart_44 (by decide) ?_
        exact m_iret hx hb hr hlocks (Option.some.inj hm) hV hS ⟨Nat.le_of_ble_eq_true rfl, Nat.le_of_ble_eq_true rfl⟩ dX3_apart_45
    · have hm := (if_pos h_2).symm.trans hm
      refine lv_iconst (v := 1) hx hb dX3_apart_32 (by decide) ?_
      refine lv_goto (tgt := 37) hx hb dX3_apart_33 (by decide) ?_
      refine lv_iconst (v := 0) hx hb dX3_apart_37 (by decide) ?_
      obtain ⟨x_9, hx_9, hm⟩ := Option.bind_eq_some_iff.mp hm
      refine mc_V hC hGx hD (k_X3_fails l k b L hD (1 : Int32) (1 : Int32) (0 : Int32)  z hx_9) (gV w_1056 w_1057 w_18 w_27 w_1058) kk_X3_fails rfl (List.forall_mem_nil _) hLb ⟨Nat.le_of_ble_eq_true rfl, Nat.le_of_ble_eq_true rfl⟩ ⟨Nat.le_of_ble_eq_true rfl, Nat.le_of_ble_eq_true rfl⟩ hV hS hl.1 rfl rfl (Nat.le_of_ble_eq_true rfl) dX3_apart_38 (fun q_9 H locs hV hS hz hq => ?_)
      refine lv_if_eq (tgt := 46) hx hb dX3_apart_41 (by decide) (fun h_9 => ?_) (fun h_9 => ?_)
      · have hm := (if_pos h_9).symm.trans hm
        refine lv_aload_n hx hb dX3_apart_46 rfl (lv_at hl 0 rfl) ?_
        refine va_get (D := kD k) (ci := 5) (v := .ref b.2.1) (C := RX3) (T := TX3) (N := 5) hx hb htg inG_X3 hown hGx.1 hV.1 0 rfl rfl 1 (by decide) (htg _ w_1012) (fun _ h9 => h9) rfl dX3_apart_47 ?_
        refine lv_iload_n hx hb dX3_apart_50 rfl (lv_at hl 1 rfl) ?_
        by_cases h_10 : p0 < 0 ∨ 6 ≤ p0.toNatClampNeg
        · have hm := (if_pos h_10).symm.trans hm
          cases hm
        have hm := (if_neg h_10).symm.trans hm
        refine m_ald hx hb hGx hV h_10 dX3_apart_51 (fun hP_10 => ?_)
        refine lv_astore (lv' := [(4, .ref (q_9 p0.toNatClampNeg)), (0, .ref b.1), (1, .int p0), (2, .int p1), (3, .int p2)]) hx hb dX3_apart_52 hl (by decide) rfl (fun ls hl => ?_)
        refine lv_aload_n hx hb dX3_apart_54 rfl (lv_at hl 1 rfl) ?_
        refine va_get (D := kD k) (ci := 5) (v := .ref b.2.1) (C := RX3) (T := TX3) (N := 5) hx hb htg inG_X3 hown hGx.1 hV.1 0 rfl rfl 1 (by decide) (htg _ w_1012) (fun _ h9 => h9) rfl dX3_apart_55 ?_
        refine lv_iload_n hx hb dX3_apart_58 rfl (lv_at hl 3 rfl) ?_
        by_cases h_11 : p1 < 0 ∨ 6 ≤ p1.toNatClampNeg
        · have hm := (if_pos h_11).symm.trans hm
          cases hm
        have hm := (if_neg h_11).symm.trans hm
        refine m_ald hx hb hGx hV h_11 dX3_apart_59 (fun hP_11 => ?_)
        refine lv_astore (lv' := [(5, .ref (q_9 p1.toNatClampNeg)), (4, .ref (q_9 p0.toNatClampNeg)), (0, .ref b.1), (1, .int p0), (2, .int p1), (3, .int p2)]) hx hb dX3_apart_60 hl (by decide) rfl (fun ls hl => ?_)
        refine lv_aload_n hx hb dX3_apart_62 rfl (lv_at hl 2 rfl) ?_
        refine lv_iconst (v := 0) hx hb dX3_apart_63 (by decide) ?_
        refine lv_iconst (v := 0) hx hb dX3_apart_64 (by decide) ?_
        refine lv_aload hx hb dX3_apart_65 (lv_at hl 0 rfl) ?_
        refine lv_aload hx hb dX3_apart_67 (lv_at hl 1 rfl) ?_
        obtain ⟨x_12, hx_12, hm⟩ := Option.bind_eq_some_iff.mp hm
        have hs_12 := hS.1.1
        have hLn_12 := m_hLn hLb hS
        have hL9 := hS.2
        refine qc_S hC hGx (k_X3_isAhead l k (x_9.2.2.1 p1.toNatClampNeg) (x_9.2.2.1 p0.toNatClampNeg) (q_9 p1.toNatClampNeg) (q_9 p0.toNatClampNeg) hx_12) (gS w_1212 w_1213 w_27 w_1214) kk_X3_isAhead (List.forall_mem_cons.mpr ⟨hP_11.1, (List.forall_mem_cons.mpr ⟨hP_10.1, (List.forall_mem_nil _)⟩)⟩) ⟨Nat.le_of_ble_eq_true rfl, Nat.le_of_ble_eq_true rfl⟩ ⟨Nat.le_of_ble_eq_true rfl, Nat.le_of_ble_eq_true rfl⟩ hS.1 hA hAB hl.1 rfl rfl (Nat.le_of_ble_eq_true rfl) dX3_apart_69 (fun v_12 H hv hz hq hS => ?_)
        have hS : mS b s.heap H _ := ⟨hS, hL9⟩
        have hV := hV.up hq
        have hP_11 := hP_11.up (fun x h9 _ => hq x h9)
        have hP_10 := hP_10.up (fun x h9 _ => hq x h9)
        have hv : v_12 = some (.int x_12) := hv
        subst hv
        obtain ⟨x_13, hx_13, hm⟩ := Option.bind_eq_some_iff.mp hm
        refine mc_V hC hGx hD (k_X3_fails l k b L hD (0 : Int32) (0 : Int32) x_12  x_9.2 hx_13) (gV w_1056 w_1057 w_18 w_27 w_1058) kk_X3_fails rfl (List.forall_mem_nil _) hLb ⟨Nat.le_of_ble_eq_true rfl, Nat.le_of_ble_eq_true rfl⟩ ⟨Nat.le_of_ble_eq_true rfl, Nat.le_of_ble_eq_true rfl⟩ hV hS hl.1 rfl rfl (Nat.le_of_ble_eq_true rfl) dX3_apart_72 (fun q_13 H locs hV hS hz hq => ?_)
        have hP_11 := hP_11.up hq
        have hP_10 := hP_10.up hq
        refine lv_if_eq (tgt := 80) hx hb dX3_apart_75 (by decide) (fun h_12 => ?_) (fun h_12 => ?_)
        · have hm := (if_pos h_12).symm.trans hm
          refine lv_iload_n hx hb dX3_apart_80 rfl (lv_at hl 5 rfl) ?_
          refine lv_iconst (v := 2) hx hb dX3_apart_81 (by decide) ?_
          refine lv_icmp_ne (tgt := 95) hx hb dX3_apart_82 (by decide) (fun h_13 => ?_) (fun h_13 => ?_)
          · have hm := (if_neg h_13).symm.trans hm
            refine lv_iload_n hx hb dX3_apart_95 rfl (lv_at hl 5 rfl) ?_
            refine lv_iconst (v := 1) hx hb dX3_apart_96 (by decide) ?_
            refine lv_icmp_ne (tgt := 113) hx hb dX3_apart_97 (by decide) (fun h_14 => ?_) (fun h_14 => ?_)
            · have hm := (if_neg h_14).symm.trans hm
              refine lv_aload hx hb dX3_apart_113 (lv_at hl 1 rfl) ?_
              refine lv_aload hx hb dX3_apart_115 (lv_at hl 0 rfl) ?_
              obtain ⟨x_14, hx_14, hm⟩ := Option.bind_eq_some_iff.mp hm
              have hs_14 := hS.1.1
              have hLn_14 := m_hLn hLb hS
              have hL9 := hS.2
              refine qc_S hC hGx (k_X3_monthsOf l k (x_9.2.2.1 p0.toNatClampNeg) (x_9.2.2.1 p1.toNatClampNeg) (q_9 p0.toNatClampNeg) (q_9 p1.toNatClampNeg) hx_14) (gS w_1215 w_1216 w_27 w_1217) kk_X3_monthsOf (List.forall_mem_cons.mpr ⟨hP_10.1, (List.forall_mem_cons.mpr ⟨hP_11.1, (List.forall_mem_nil _)⟩)⟩) ⟨Nat.le_of_ble_eq_true rfl, Nat.le_of_ble_eq_true rfl⟩ ⟨Nat.le_of_ble_eq_true rfl, Nat.le_of_ble_eq_true rfl⟩ hS.1 hA hAB hl.1 rfl rfl (Nat.le_of_ble_eq_true rfl) dX3_apart_117 (fun v_14 H hv hz hq hS => ?_)
              have hS : mS b s.heap H _ := ⟨hS, hL9⟩
              have hV := hV.up hq
              have hP_11 := hP_11.up (fun x h9 _ => hq x h9)
              have hP_10 := hP_10.up (fun x h9 _ => hq x h9)
              have hv : v_14 = some (.int x_14) := hv
              subst hv
              refine lv_bipush (v := 12) hx hb dX3_apart_120 (by decide) ?_
              refine lv_idiv hx hb dX3_apart_122 (by decide) ?_
              exact m_iret hx hb hr hlocks (Option.some.inj hm) hV hS ⟨Nat.le_of_ble_eq_true rfl, Nat.le_of_ble_eq_true rfl⟩ dX3_apart_123
            · have hm := (if_pos h_14).symm.trans hm
              refine lv_aload hx hb dX3_apart_100 (lv_at hl 1 rfl) ?_
              refine lv_aload hx hb dX3_apart_102 (lv_at hl 0 rfl) ?_
              obtain ⟨x_15, hx_15, hm⟩ := Option.bind_eq_some_iff.mp hm
              have hs_15 := hS.1.1
              have hLn_15 := m_hLn hLb hS
              have hL9 := hS.2
              refine qc_S hC hGx (k_X3_monthsOf l k (x_9.2.2.1 p0.toNatClampNeg) (x_9.2.2.1 p1.toNatClampNeg) (q_9 p0.toNatClampNeg) (q_9 p1.toNatClampNeg) hx_15) (gS w_1215 w_1216 w_27 w_1217) kk_X3_monthsOf (List.forall_mem_cons.mpr ⟨hP_10.1, (List.forall_mem_cons.mpr ⟨hP_11.1, (List.forall_mem_nil _)⟩)⟩) ⟨Nat.le_of_ble_eq_true rfl, Nat.le_of_ble_eq_true rfl⟩ ⟨Nat.le_of_ble_eq_true rfl, Nat.le_of_ble_eq_true rfl⟩ hS.1 hA hAB hl.1 rfl rfl (Nat.le_of_ble_eq_true rfl) dX3_apart_104 (fun v_15 H hv hz hq hS => ?_)
              have hS : mS b s.heap H _ := ⟨hS, hL9⟩
              have hV := hV.up hq
              have hP_11 := hP_11.up (fun x h9 _ => hq x h9)
              have hP_10 := hP_10.up (fun x h9 _ => hq x h9)
              have hv : v_15 = some (.int x_15) := hv
              subst hv
              refine lv_bipush (v := 12) hx hb dX3_apart_107 (by decide) ?_
              refine lv_irem hx hb dX3_apart_109 (by decide) ?_
              refine lv_goto (tgt := 123) hx hb dX3_apart_110 (by decide) ?_
              exact m_iret hx hb hr hlocks (Option.some.inj hm) hV hS ⟨Nat.le_of_ble_eq_true rfl, Nat.le_of_ble_eq_true rfl⟩ dX3_apart_123
          · have hm := (if_pos h_13).symm.trans hm
            refine lv_aload hx hb dX3_apart_85 (lv_at hl 1 rfl) ?_
            refine lv_aload hx hb dX3_apart_87 (lv_at hl 0 rfl) ?_
            obtain ⟨x_16, hx_16, hm⟩ := Option.bind_eq_some_iff.mp hm
            have hs_16 := hS.1.1
            have hLn_16 := m_hLn hLb hS
            have hL9 := hS.2
            refine qc_S hC hGx (k_X3_daysOf l k (x_9.2.2.1 p0.toNatClampNeg) (x_9.2.2.1 p1.toNatClampNeg) (q_9 p0.toNatClampNeg) (q_9 p1.toNatClampNeg) hx_16) (gS w_1221 w_1222 w_27 w_1223) kk_X3_daysOf (List.forall_mem_cons.mpr ⟨hP_10.1, (List.forall_mem_cons.mpr ⟨hP_11.1, (List.forall_mem_nil _)⟩)⟩) ⟨Nat.le_of_ble_eq_true rfl, Nat.le_of_ble_eq_true rfl⟩ ⟨Nat.le_of_ble_eq_true rfl, Nat.le_of_ble_eq_true rfl⟩ hS.1 hA hAB hl.1 rfl rfl (Nat.le_of_ble_eq_true rfl) dX3_apart_89 (fun v_16 H hv hz hq hS => ?_)
            have hS : mS b s.heap H _ := ⟨hS, hL9⟩
            have hV := hV.up hq
            have hP_11 := hP_11.up (fun x h9 _ => hq x h9)
            have hP_10 := hP_10.up (fun x h9 _ => hq x h9)
            have hv : v_16 = some (.int x_16) := hv
            subst hv
            refine lv_goto (tgt := 123) hx hb dX3_apart_92 (by decide) ?_
            exact m_iret hx hb hr hlocks (Option.some.inj hm) hV hS ⟨Nat.le_of_ble_eq_true rfl, Nat.le_of_ble_eq_true rfl⟩ dX3_apart_123
        · have hm := (if_neg h_12).symm.trans hm
          refine lv_iconst (v := 0) hx hb dX3_apart_78 (by decide) ?_
          exact m_iret hx hb hr hlocks (Option.some.inj hm) hV hS ⟨Nat.le_of_ble_eq_true rfl, Nat.le_of_ble_eq_true rfl⟩ dX3_apart_79
      · have hm := (if_neg h_9).symm.trans hm
        refine lv_iconst (v := 0) hx hb dX3_apart_44 (by decide) ?_
        exact m_iret hx hb hr hlocks (Option.some.inj hm) hV hS ⟨Nat.le_of_ble_eq_true rfl, Nat.le_of_ble_eq_true rfl⟩ dX3_apart_45
  · have hm := (if_pos h_1).symm.trans hm
    refine lv_iload_n hx hb dX3_apart_8 rfl (lv_at hl 2 rfl) ?_
    refine pc_S hC (c_X3_isNo l p1) (gS w_1045 w_1046 w_27 w_1047) kk_X3_isNo ⟨Nat.le_of_ble_eq_true rfl, Nat.le_of_ble_eq_true rfl⟩ ⟨Nat.le_of_ble_eq_true rfl, Nat.le_of_ble_eq_true rfl⟩ hl.1 rfl rfl (Nat.le_of_ble_eq_true rfl) dX3_apart_9 ?_
    refine lv_if_eq (tgt := 19) hx hb dX3_apart_12 (by decide) (fun h_15 => ?_) (fun h_15 => ?_)
    · have hm := (if_pos h_15).symm.trans hm
      refine lv_iconst (v := 0) hx hb dX3_apart_19 (by decide) ?_
      refine lv_iload_n hx hb dX3_apart_20 rfl (lv_at hl 3 rfl) ?_
      refine lv_i2l hx hb dX3_apart_21 rfl ?_
      refine lv_lconst (v := 0) hx hb dX3_apart_22 (by decide) ?_
      refine lv_ldc2 hx hb hown (htg _ w_1232) dX3_apart_23 ?_
      refine pc_S hC (c_X3_isIn l p2.toInt64 (0 : Int64) (2 : Int64)) (gS w_1040 w_1041 w_27 w_1042) kk_X3_isIn ⟨Nat.le_of_ble_eq_true rfl, Nat.le_of_ble_eq_true rfl⟩ ⟨Nat.le_of_ble_eq_true rfl, Nat.le_of_ble_eq_true rfl⟩ hl.1 rfl rfl (Nat.le_of_ble_eq_true rfl) dX3_apart_26 ?_
      refine lv_if_ne (tgt := 36) hx hb dX3_apart_29 (by decide) (fun h_16 => ?_) (fun h_16 => ?_)
      · have hm := (if_neg h_16).symm.trans hm
        refine lv_iconst (v := 0) hx hb dX3_apart_36 (by decide) ?_
        refine lv_iconst (v := 0) hx hb dX3_apart_37 (by decide) ?_
        obtain ⟨x_17, hx_17, hm⟩ := Option.bind_eq_some_iff.mp hm
        refine mc_V hC hGx hD (k_X3_fails l k b L hD (0 : Int32) (0 : Int32) (0 : Int32)  z hx_17) (gV w_1056 w_1057 w_18 w_27 w_1058) kk_X3_fails rfl (List.forall_mem_nil _) hLb ⟨Nat.le_of_ble_eq_true rfl, Nat.le_of_ble_eq_true rfl⟩ ⟨Nat.le_of_ble_eq_true rfl, Nat.le_of_ble_eq_true rfl⟩ hV hS hl.1 rfl rfl (Nat.le_of_ble_eq_true rfl) dX3_apart_38 (fun q_17 H locs hV hS hz hq => ?_)
        refine lv_if_eq (tgt := 46) hx hb dX3_apart_41 (by decide) (fun h_17 => ?_) (fun h_17 => ?_)
        · have hm := (if_pos h_17).symm.trans hm
          refine lv_aload_n hx hb dX3_apart_46 rfl (lv_at hl 0 rfl) ?_
          refine va_get (D := kD k) (ci := 5) (v := .ref b.2.1) (C := RX3) (T := TX3) (N := 5) hx hb htg inG_X3 hown hGx.1 hV.1 0 rfl rfl 1 (by decide) (htg _ w_1012) (fun _ h9 => h9) rfl dX3_apart_47 ?_
          refine lv_iload_n hx hb dX3_apart_50 rfl (lv_at hl 1 rfl) ?_
          by_cases h_18 : p0 < 0 ∨ 6 ≤ p0.toNatClampNeg
          · have hm := (if_pos h_18).symm.trans hm
            cases hm
          have hm := (if_neg h_18).symm.trans hm
          refine m_ald hx hb hGx hV h_18 dX3_apart_51 (fun hP_18 => ?_)
          refine lv_astore (lv' := [(4, .ref (q_17 p0.toNatClampNeg)), (0, .ref b.1), (1, .int p0), (2, .int p1), (3, .int p2)]) hx hb dX3_apart_52 hl (by decide) rfl (fun ls hl => ?_)
          refine lv_aload_n hx hb dX3_apart_54 rfl (lv_at hl 1 rfl) ?_
          refine va_get (D := kD k) (ci := 5) (v := .ref b.2.1) (C := RX3) (T := TX3) (N := 5) hx hb htg inG_X3 hown hGx.1 hV.1 0 rfl rfl 1 (by decide) (htg _ w_1012) (fun _ h9 => h9) rfl dX3_apart_55 ?_
          refine lv_iload_n hx hb dX3_apart_58 rfl (lv_at hl 3 rfl) ?_
          by_cases h_19 : p1 < 0 ∨ 6 ≤ p1.toNatClampNeg
          · have hm := (if_pos h_19).symm.trans hm
            cases hm
          have hm := (if_neg h_19).symm.trans hm
          refine m_ald hx hb hGx hV h_19 dX3_apart_59 (fun hP_19 => ?_)
          refine lv_astore (lv' := [(5, .ref (q_17 p1.toNatClampNeg)), (4, .ref (q_17 p0.toNatClampNeg)), (0, .ref b.1), (1, .int p0), (2, .int p1), (3, .int p2)]) hx hb dX3_apart_60 hl (by decide) rfl (fun ls hl => ?_)
          refine lv_aload_n hx hb dX3_apart_62 rfl (lv_at hl 2 rfl) ?_
          refine lv_iconst (v := 0) hx hb dX3_apart_63 (by decide) ?_
          refine lv_iconst (v := 0) hx hb dX3_apart_64 (by decide) ?_
          refine lv_aload hx hb dX3_apart_65 (lv_at hl 0 rfl) ?_
          refine lv_aload hx hb dX3_apart_67 (lv_at hl 1 rfl) ?_
          obtain ⟨x_20, hx_20, hm⟩ := Option.bind_eq_some_iff.mp hm
          have hs_20 := hS.1.1
          have hLn_20 := m_hLn hLb hS
          have hL9 := hS.2
          refine qc_S hC hGx (k_X3_isAhead l k (x_17.2.2.1 p1.toNatClampNeg) (x_17.2.2.1 p0.toNatClampNeg) (q_17 p1.toNatClampNeg) (q_17 p0.toNatClampNeg) hx_20) (gS w_1212 w_1213 w_27 w_1214) kk_X3_isAhead (List.forall_mem_cons.mpr ⟨hP_19.1, (List.forall_mem_cons.mpr ⟨hP_18.1, (List.forall_mem_nil _)⟩)⟩) ⟨Nat.le_of_ble_eq_true rfl, Nat.le_of_ble_eq_true rfl⟩ ⟨Nat.le_of_ble_eq_true rfl, Nat.le_of_ble_eq_true rfl⟩ hS.1 hA hAB hl.1 rfl rfl (Nat.le_of_ble_eq_true rfl) dX3_apart_69 (fun v_20 H hv hz hq hS => ?_)
          have hS : mS b s.heap H _ := ⟨hS, hL9⟩
          have hV := hV.up hq
          have hP_19 := hP_19.up (fun x h9 _ => hq x h9)
          have hP_18 := hP_18.up (fun x h9 _ => hq x h9)
          have hv : v_20 = some (.int x_20) := hv
          subst hv
          obtain ⟨x_21, hx_21, hm⟩ := Option.bind_eq_some_iff.mp hm
          refine mc_V hC hGx hD (k_X3_fails l k b L hD (0 : Int32) (0 : Int32) x_20  x_17.2 hx_21) (gV w_1056 w_1057 w_18 w_27 w_1058) kk_X3_fails rfl (List.forall_mem_nil _) hLb ⟨Nat.le_of_ble_eq_true rfl, Nat.le_of_ble_eq_true rfl⟩ ⟨Nat.le_of_ble_eq_true rfl, Nat.le_of_ble_eq_true rfl⟩ hV hS hl.1 rfl rfl (Nat.le_of_ble_eq_true rfl) dX3_apart_72 (fun q_21 H locs hV hS hz hq => ?_)
          have hP_19 := hP_19.up hq
          have hP_18 := hP_18.up hq
          refine lv_if_eq (tgt := 80) hx hb dX3_apart_75 (by decide) (fun h_20 => ?_) (fun h_20 => ?_)
          · have hm := (if_pos h_20).symm.trans hm
            refine lv_iload_n hx hb dX3_apart_80 rfl (lv_at hl 5 rfl) ?_
            refine lv_iconst (v := 2) hx hb dX3_apart_81 (by decide) ?_
            refine lv_icmp_ne (tgt := 95) hx hb dX3_apart_82 (by decide) (fun h_21 => ?_) (fun h_21 => ?_)
            · have hm := (if_neg h_21).symm.trans hm
              refine lv_iload_n hx hb dX3_apart_95 rfl (lv_at hl 5 rfl) ?_
              refine lv_iconst (v := 1) hx hb dX3_apart_96 (by decide) ?_
              refine lv_icmp_ne (tgt := 113) hx hb dX3_apart_97 (by decide) (fun h_22 => ?_) (fun h_22 => ?_)
              · have hm := (if_neg h_22).symm.trans hm
                refine lv_aload hx hb dX3_apart_113 (lv_at hl 1 rfl) ?_
                refine lv_aload hx hb dX3_apart_115 (lv_at hl 0 rfl) ?_
                obtain ⟨x_22, hx_22, hm⟩ := Option.bind_eq_some_iff.mp hm
                have hs_22 := hS.1.1
                have hLn_22 := m_hLn hLb hS
                have hL9 := hS.2
                refine qc_S hC hGx (k_X3_monthsOf l k (x_17.2.2.1 p0.toNatClampNeg) (x_17.2.2.1 p1.toNatClampNeg) (q_17 p0.toNatClampNeg) (q_17 p1.toNatClampNeg) hx_22) (gS w_1215 w_1216 w_27 w_1217) kk_X3_monthsOf (List.forall_mem_cons.mpr ⟨hP_18.1, (List.forall_mem_cons.mpr ⟨hP_19.1, (List.forall_mem_nil _)⟩)⟩) ⟨Nat.le_of_ble_eq_true rfl, Nat.le_of_ble_eq_true rfl⟩ ⟨Nat.le_of_ble_eq_true rfl, Nat.le_of_ble_eq_true rfl⟩ hS.1 hA hAB hl.1 rfl rfl (Nat.le_of_ble_eq_true rfl) dX3_apart_117 (fun v_22 H hv hz hq hS => ?_)
                have hS : mS b s.heap H _ := ⟨hS, hL9⟩
                have hV := hV.up hq
                have hP_19 := hP_19.up (fun x h9 _ => hq x h9)
                have hP_18 := hP_18.up (fun x h9 _ => hq x h9)
                have hv : v_22 = some (.int x_22) := hv
                subst hv
                refine lv_bipush (v := 12) hx hb dX3_apart_120 (by decide) ?_
                refine lv_idiv hx hb dX3_apart_122 (by decide) ?_
                exact m_iret hx hb hr hlocks (Option.some.inj hm) hV hS ⟨Nat.le_of_ble_eq_true rfl, Nat.le_of_ble_eq_true rfl⟩ dX3_apart_123
              · have hm := (if_pos h_22).symm.trans hm
                refine lv_aload hx hb dX3_apart_100 (lv_at hl 1 rfl) ?_
                refine lv_aload hx hb dX3_apart_102 (lv_at hl 0 rfl) ?_
                obtain ⟨x_23, hx_23, hm⟩ := Option.bind_eq_some_iff.mp hm
                have hs_23 := hS.1.1
                have hLn_23 := m_hLn hLb hS
                have hL9 := hS.2
                refine qc_S hC hGx (k_X3_monthsOf l k (x_17.2.2.1 p0.toNatClampNeg) (x_17.2.2.1 p1.toNatClampNeg) (q_17 p0.toNatClampNeg) (q_17 p1.toNatClampNeg) hx_23) (gS w_1215 w_1216 w_27 w_1217) kk_X3_monthsOf (List.forall_mem_cons.mpr ⟨hP_18.1, (List.forall_mem_cons.mpr ⟨hP_19.1, (List.forall_mem_nil _)⟩)⟩) ⟨Nat.le_of_ble_eq_true rfl, Nat.le_of_ble_eq_true rfl⟩ ⟨Nat.le_of_ble_eq_true rfl, Nat.le_of_ble_eq_true rfl⟩ hS.1 hA hAB hl.1 rfl rfl (Nat.le_of_ble_eq_true rfl) dX3_apart_104 (fun v_23 H hv hz hq hS => ?_)
                have hS : mS b s.heap H _ := ⟨hS, hL9⟩
                have hV := hV.up hq
                have hP_19 := hP_19.up (fun x h9 _ => hq x h9)
                have hP_18 := hP_18.up (fun x h9 _ => hq x h9)
                have hv : v_23 = some (.int x_23) := hv
                subst hv
                refine lv_bipush (v := 12) hx hb dX3_apart_107 (by decide) ?_
                refine lv_irem hx hb dX3_apart_109 (by decide) ?_
                refine lv_goto (tgt := 123) hx hb dX3_apart_110 (by decide) ?_
                exact m_iret hx hb hr hlocks (Option.some.inj hm) hV hS ⟨Nat.le_of_ble_eq_true rfl, Nat.le_of_ble_eq_true rfl⟩ dX3_apart_123
            · have hm := (if_pos h_21).symm.trans hm
              refine lv_aload hx hb dX3_apart_85 (lv_at hl 1 rfl) ?_
              refine lv_aload hx hb dX3_apart_87 (lv_at hl 0 rfl) ?_
              obtain ⟨x_24, hx_24, hm⟩ := Option.bind_eq_some_iff.mp hm
              have hs_24 := hS.1.1
              have hLn_24 := m_hLn hLb hS
              have hL9 := hS.2
              refine qc_S hC hGx (k_X3_daysOf l k (x_17.2.2.1 p0.toNatClampNeg) (x_17.2.2.1 p1.toNatClampNeg) (q_17 p0.toNatClampNeg) (q_17 p1.toNatClampNeg) hx_24) (gS w_1221 w_1222 w_27 w_1223) kk_X3_daysOf (List.forall_mem_cons.mpr ⟨hP_18.1, (List.forall_mem_cons.mpr ⟨hP_19.1, (List.forall_mem_nil _)⟩)⟩) ⟨Nat.le_of_ble_eq_true rfl, Nat.le_of_ble_eq_true rfl⟩ ⟨Nat.le_of_ble_eq_true rfl, Nat.le_of_ble_eq_true rfl⟩ hS.1 hA hAB hl.1 rfl rfl (Nat.le_of_ble_eq_true rfl) dX3_apart_89 (fun v_24 H hv hz hq hS => ?_)
              have hS : mS b s.heap H _ := ⟨hS, hL9⟩
              have hV := hV.up hq
              have hP_19 := hP_19.up (fun x h9 _ => hq x h9)
              have hP_18 := hP_18.up (fun x h9 _ => hq x h9)
              have hv : v_24 = some (.int x_24) := hv
              subst hv
              refine lv_goto (tgt := 123) hx hb dX3_apart_92 (by decide) ?_
              exact m_iret hx hb hr hlocks (Option.some.inj hm) hV hS ⟨Nat.le_of_ble_eq_true rfl, Nat.le_of_ble_eq_true rfl⟩ dX3_apart_123
          · have hm := (if_neg h_20).symm.trans hm
            refine lv_iconst (v := 0) hx hb dX3_apart_78 (by decide) ?_
            exact m_iret hx hb hr hlocks (Option.some.inj hm) hV hS ⟨Nat.le_of_ble_eq_true rfl, Nat.le_of_ble_eq_true rfl⟩ dX3_apart_79
        · have hm := (if_neg h_17).symm.trans hm
          refine lv_iconst (v := 0) hx hb dX3_apart_44 (by decide) ?_
          exact m_iret hx hb hr hlocks (Option.some.inj hm) hV hS ⟨Nat.le_of_ble_eq_true rfl, Nat.le_of_ble_eq_true rfl⟩ dX3_apart_45
      · have hm := (if_pos h_16).symm.trans hm
        refine lv_iconst (v := 1) hx hb dX3_apart_32 (by decide) ?_
        refine lv_goto (tgt := 37) hx hb dX3_apart_33 (by decide) ?_
        refine lv_iconst (v := 0) hx hb dX3_apart_37 (by decide) ?_
        obtain ⟨x_25, hx_25, hm⟩ := Option.bind_eq_some_iff.mp hm
        refine mc_V hC hGx hD (k_X3_fails l k b L hD (0 : Int32) (1 : Int32) (0 : Int32)  z hx_25) (gV w_1056 w_1057 w_18 w_27 w_1058) kk_X3_fails rfl (List.forall_mem_nil _) hLb ⟨Nat.le_of_ble_eq_true rfl, Nat.le_of_ble_eq_true rfl⟩ ⟨Nat.le_of_ble_eq_true rfl, Nat.le_of_ble_eq_true rfl⟩ hV hS hl.1 rfl rfl (Nat.le_of_ble_eq_true rfl) dX3_apart_38 (fun q_25 H locs hV hS hz hq => ?_)
        refine lv_if_eq (tgt := 46) hx hb dX3_apart_41 (by decide) (fun h_23 => ?_) (fun h_23 => ?_)
        · have hm := (if_pos h_23).symm.trans hm
          refine lv_aload_n hx hb dX3_apart_46 rfl (lv_at hl 0 rfl) ?_
          refine va_get (D := kD k) (ci := 5) (v := .ref b.2.1) (C := RX3) (T := TX3) (N := 5) hx hb htg inG_X3 hown hGx.1 hV.1 0 rfl rfl 1 (by decide) (htg _ w_1012) (fun _ h9 => h9) rfl dX3_apart_47 ?_
          refine lv_iload_n hx hb dX3_apart_50 rfl (lv_at hl 1 rfl) ?_
          by_cases h_24 : p0 < 0 ∨ 6 ≤ p0.toNatClampNeg
          · have hm := (if_pos h_24).symm.trans hm
            cases hm
          have hm := (if_neg h_24).symm.trans hm
          refine m_ald hx hb hGx hV h_24 dX3_apart_51 (fun hP_26 => ?_)
          refine lv_astore (lv' := [(4, .ref (q_25 p0.toNatClampNeg)), (0, .ref b.1), (1, .int p0), (2, .int p1), (3, .int p2)]) hx hb dX3_apart_52 hl (by decide) rfl (fun ls hl => ?_)
          refine lv_aload_n hx hb dX3_apart_54 rfl (lv_at hl 1 rfl) ?_
          refine va_get (D := kD k) (ci := 5) (v := .ref b.2.1) (C := RX3) (T := TX3) (N := 5) hx hb htg inG_X3 hown hGx.1 hV.1 0 rfl rfl 1 (by decide) (htg _ w_1012) (fun _ h9 => h9) rfl dX3_apart_55 ?_
          refine lv_iload_n hx hb dX3_apart_58 rfl (lv_at hl 3 rfl) ?_
          by_cases h_25 : p1 < 0 ∨ 6 ≤ p1.toNatClampNeg
          · have hm := (if_pos h_25).symm.trans hm
            cases hm
          have hm := (if_neg h_25).symm.trans hm
          refine m_ald hx hb hGx hV h_25 dX3_apart_59 (fun hP_27 => ?_)
          refine lv_astore (lv' := [(5, .ref (q_25 p1.toNatClampNeg)), (4, .ref (q_25 p0.toNatClampNeg)), (0, .ref b.1), (1, .int p0), (2, .int p1), (3, .int p2)]) hx hb dX3_apart_60 hl (by decide) rfl (fun ls hl => ?_)
          refine lv_aload_n hx hb dX3_apart_62 rfl (lv_at hl 2 rfl) ?_
          refine lv_iconst (v := 0) hx hb dX3_apart_63 (by decide) ?_
          refine lv_iconst (v := 0) hx hb dX3_apart_64 (by decide) ?_
          refine lv_aload hx hb dX3_apart_65 (lv_at hl 0 rfl) ?_
          refine lv_aload hx hb dX3_apart_67 (lv_at hl 1 rfl) ?_
          obtain ⟨x_28, hx_28, hm⟩ := Option.bind_eq_some_iff.mp hm
          have hs_28 := hS.1.1
          have hLn_28 := m_hLn hLb hS
          have hL9 := hS.2
          refine qc_S hC hGx (k_X3_isAhead l k (x_25.2.2.1 p1.toNatClampNeg) (x_25.2.2.1 p0.toNatClampNeg) (q_25 p1.toNatClampNeg) (q_25 p0.toNatClampNeg) hx_28) (gS w_1212 w_1213 w_27 w_1214) kk_X3_isAhead (List.forall_mem_cons.mpr ⟨hP_27.1, (List.forall_mem_cons.mpr ⟨hP_26.1, (List.forall_mem_nil _)⟩)⟩) ⟨Nat.le_of_ble_eq_true rfl, Nat.le_of_ble_eq_true rfl⟩ ⟨Nat.le_of_ble_eq_true rfl, Nat.le_of_ble_eq_true rfl⟩ hS.1 hA hAB hl.1 rfl rfl (Nat.le_of_ble_eq_true rfl) dX3_apart_69 (fun v_28 H hv hz hq hS => ?_)
          have hS : mS b s.heap H _ := ⟨hS, hL9⟩
          have hV := hV.up hq
          have hP_27 := hP_27.up (fun x h9 _ => hq x h9)
          have hP_26 := hP_26.up (fun x h9 _ => hq x h9)
          have hv : v_28 = some (.int x_28) := hv
          subst hv
          obtain ⟨x_29, hx_29, hm⟩ := Option.bind_eq_some_iff.mp hm
          refine mc_V hC hGx hD (k_X3_fails l k b L hD (0 : Int32) (0 : Int32) x_28  x_25.2 hx_29) (gV w_1056 w_1057 w_18 w_27 w_1058) kk_X3_fails rfl (List.forall_mem_nil _) hLb ⟨Nat.le_of_ble_eq_true rfl, Nat.le_of_ble_eq_true rfl⟩ ⟨Nat.le_of_ble_eq_true rfl, Nat.le_of_ble_eq_true rfl⟩ hV hS hl.1 rfl rfl (Nat.le_of_ble_eq_true rfl) dX3_apart_72 (fun q_29 H locs hV hS hz hq => ?_)
          have hP_27 := hP_27.up hq
          have hP_26 := hP_26.up hq
          refine lv_if_eq (tgt := 80) hx hb dX3_apart_75 (by decide) (fun h_26 => ?_) (fun h_26 => ?_)
          · have hm := (if_pos h_26).symm.trans hm
            refine lv_iload_n hx hb dX3_apart_80 rfl (lv_at hl 5 rfl) ?_
            refine lv_iconst (v := 2) hx hb dX3_apart_81 (by decide) ?_
            refine lv_icmp_ne (tgt := 95) hx hb dX3_apart_82 (by decide) (fun h_27 => ?_) (fun h_27 => ?_)
            · have hm := (if_neg h_27).symm.trans hm
              refine lv_iload_n hx hb dX3_apart_95 rfl (lv_at hl 5 rfl) ?_
              refine lv_iconst (v := 1) hx hb dX3_apart_96 (by decide) ?_
              refine lv_icmp_ne (tgt := 113) hx hb dX3_apart_97 (by decide) (fun h_28 => ?_) (fun h_28 => ?_)
              · have hm := (if_neg h_28).symm.trans hm
                refine lv_aload hx hb dX3_apart_113 (lv_at hl 1 rfl) ?_
                refine lv_aload hx hb dX3_apart_115 (lv_at hl 0 rfl) ?_
                obtain ⟨x_30, hx_30, hm⟩ := Option.bind_eq_some_iff.mp hm
                have hs_30 := hS.1.1
                have hLn_30 := m_hLn hLb hS
                have hL9 := hS.2
                refine qc_S hC hGx (k_X3_monthsOf l k (x_25.2.2.1 p0.toNatClampNeg) (x_25.2.2.1 p1.toNatClampNeg) (q_25 p0.toNatClampNeg) (q_25 p1.toNatClampNeg) hx_30) (gS w_1215 w_1216 w_27 w_1217) kk_X3_monthsOf (List.forall_mem_cons.mpr ⟨hP_26.1, (List.forall_mem_cons.mpr ⟨hP_27.1, (List.forall_mem_nil _)⟩)⟩) ⟨Nat.le_of_ble_eq_true rfl, Nat.le_of_ble_eq_true rfl⟩ ⟨Nat.le_of_ble_eq_true rfl, Nat.le_of_ble_eq_true rfl⟩ hS.1 hA hAB hl.1 rfl rfl (Nat.le_of_ble_eq_true rfl) dX3_apart_117 (fun v_30 H hv hz hq hS => ?_)
                have hS : mS b s.heap H _ := ⟨hS, hL9⟩
                have hV := hV.up hq
                have hP_27 := hP_27.up (fun x h9 _ => hq x h9)
                have hP_26 := hP_26.up (fun x h9 _ => hq x h9)
                have hv : v_30 = some (.int x_30) := hv
                subst hv
                refine lv_bipush (v := 12) hx hb dX3_apart_120 (by decide) ?_
                refine lv_idiv hx hb dX3_apart_122 (by decide) ?_
                exact m_iret hx hb hr hlocks (Option.some.inj hm) hV hS ⟨Nat.le_of_ble_eq_true rfl, Nat.le_of_ble_eq_true rfl⟩ dX3_apart_123
              · have hm := (if_pos h_28).symm.trans hm
                refine lv_aload hx hb dX3_apart_100 (lv_at hl 1 rfl) ?_
                refine lv_aload hx hb dX3_apart_102 (lv_at hl 0 rfl) ?_
                obtain ⟨x_31, hx_31, hm⟩ := Option.bind_eq_some_iff.mp hm
                have hs_31 := hS.1.1
                have hLn_31 := m_hLn hLb hS
                have hL9 := hS.2
                refine qc_S hC hGx (k_X3_monthsOf l k (x_25.2.2.1 p0.toNatClampNeg) (x_25.2.2.1 p1.toNatClampNeg) (q_25 p0.toNatClampNeg) (q_25 p1.toNatClampNeg) hx_31) (gS w_1215 w_1216 w_27 w_1217) kk_X3_monthsOf (List.forall_mem_cons.mpr ⟨hP_26.1, (List.forall_mem_cons.mpr ⟨hP_27.1, (List.forall_mem_nil _)⟩)⟩) ⟨Nat.le_of_ble_eq_true rfl, Nat.le_of_ble_eq_true rfl⟩ ⟨Nat.le_of_ble_eq_true rfl, Nat.le_of_ble_eq_true rfl⟩ hS.1 hA hAB hl.1 rfl rfl (Nat.le_of_ble_eq_true rfl) dX3_apart_104 (fun v_31 H hv hz hq hS => ?_)
                have hS : mS b s.heap H _ := ⟨hS, hL9⟩
                have hV := hV.up hq
                have hP_27 := hP_27.up (fun x h9 _ => hq x h9)
                have hP_26 := hP_26.up (fun x h9 _ => hq x h9)
                have hv : v_31 = some (.int x_31) := hv
                subst hv
                refine lv_bipush (v := 12) hx hb dX3_apart_107 (by decide) ?_
                refine lv_irem hx hb dX3_apart_109 (by decide) ?_
                refine lv_goto (tgt := 123) hx hb dX3_apart_110 (by decide) ?_
                exact m_iret hx hb hr hlocks (Option.some.inj hm) hV hS ⟨Nat.le_of_ble_eq_true rfl, Nat.le_of_ble_eq_true rfl⟩ dX3_apart_123
            · have hm := (if_pos h_27).symm.trans hm
              refine lv_aload hx hb dX3_apart_85 (lv_at hl 1 rfl) ?_
              refine lv_aload hx hb dX3_apart_87 (lv_at hl 0 rfl) ?_
              obtain ⟨x_32, hx_32, hm⟩ := Option.bind_eq_some_iff.mp hm
              have hs_32 := hS.1.1
              have hLn_32 := m_hLn hLb hS
              have hL9 := hS.2
              refine qc_S hC hGx (k_X3_daysOf l k (x_25.2.2.1 p0.toNatClampNeg) (x_25.2.2.1 p1.toNatClampNeg) (q_25 p0.toNatClampNeg) (q_25 p1.toNatClampNeg) hx_32) (gS w_1221 w_1222 w_27 w_1223) kk_X3_daysOf (List.forall_mem_cons.mpr ⟨hP_26.1, (List.forall_mem_cons.mpr ⟨hP_27.1, (List.forall_mem_nil _)⟩)⟩) ⟨Nat.le_of_ble_eq_true rfl, Nat.le_of_ble_eq_true rfl⟩ ⟨Nat.le_of_ble_eq_true rfl, Nat.le_of_ble_eq_true rfl⟩ hS.1 hA hAB hl.1 rfl rfl (Nat.le_of_ble_eq_true rfl) dX3_apart_89 (fun v_32 H hv hz hq hS => ?_)
              have hS : mS b s.heap H _ := ⟨hS, hL9⟩
              have hV := hV.up hq
              have hP_27 := hP_27.up (fun x h9 _ => hq x h9)
              have hP_26 := hP_26.up (fun x h9 _ => hq x h9)
              have hv : v_32 = some (.int x_32) := hv
              subst hv
              refine lv_goto (tgt := 123) hx hb dX3_apart_92 (by decide) ?_
              exact m_iret hx hb hr hlocks (Option.some.inj hm) hV hS ⟨Nat.le_of_ble_eq_true rfl, Nat.le_of_ble_eq_true rfl⟩ dX3_apart_123
          · have hm := (if_neg h_26).symm.trans hm
            refine lv_iconst (v := 0) hx hb dX3_apart_78 (by decide) ?_
            exact m_iret hx hb hr hlocks (Option.some.inj hm) hV hS ⟨Nat.le_of_ble_eq_true rfl, Nat.le_of_ble_eq_true rfl⟩ dX3_apart_79
        · have hm := (if_neg h_23).symm.trans hm
          refine lv_iconst (v := 0) hx hb dX3_apart_44 (by decide) ?_
          exact m_iret hx hb hr hlocks (Option.some.inj hm) hV hS ⟨Nat.le_of_ble_eq_true rfl, Nat.le_of_ble_eq_true rfl⟩ dX3_apart_45
    · have hm := (if_neg h_15).symm.trans hm
      refine lv_iconst (v := 1) hx hb dX3_apart_15 (by decide) ?_
      refine lv_goto (tgt := 20) hx hb dX3_apart_16 (by decide) ?_
      refine lv_iload_n hx hb dX3_apart_20 rfl (lv_at hl 3 rfl) ?_
      refine lv_i2l hx hb dX3_apart_21 rfl ?_
      refine lv_lconst (v := 0) hx hb dX3_apart_22 (by decide) ?_
      refine lv_ldc2 hx hb hown (htg _ w_1232) dX3_apart_23 ?_
      refine pc_S hC (c_X3_isIn l p2.toInt64 (0 : Int64) (2 : Int64)) (gS w_1040 w_1041 w_27 w_1042) kk_X3_isIn ⟨Nat.le_of_ble_eq_true rfl, Nat.le_of_ble_eq_true rfl⟩ ⟨Nat.le_of_ble_eq_true rfl, Nat.le_of_ble_eq_true rfl⟩ hl.1 rfl rfl (Nat.le_of_ble_eq_true rfl) dX3_apart_26 ?_
      refine lv_if_ne (tgt := 36) hx hb dX3_apart_29 (by decide) (fun h_29 => ?_) (fun h_29 => ?_)
      · have hm := (if_neg h_29).symm.trans hm
        refine lv_iconst (v := 0) hx hb dX3_apart_36 (by decide) ?_
        refine lv_iconst (v := 0) hx hb dX3_apart_37 (by decide) ?_
        obtain ⟨x_33, hx_33, hm⟩ := Option.bind_eq_some_iff.mp hm
        refine mc_V hC hGx hD (k_X3_fails l k b L hD (1 : Int32) (0 : Int32) (0 : Int32)  z hx_33) (gV w_1056 w_1057 w_18 w_27 w_1058) kk_X3_fails rfl (List.forall_mem_nil _) hLb ⟨Nat.le_of_ble_eq_true rfl, Nat.le_of_ble_eq_true rfl⟩ ⟨Nat.le_of_ble_eq_true rfl, Nat.le_of_ble_eq_true rfl⟩ hV hS hl.1 rfl rfl (Nat.le_of_ble_eq_true rfl) dX3_apart_38 (fun q_33 H locs hV hS hz hq => ?_)
        refine lv_if_eq (tgt := 46) hx hb dX3_apart_41 (by decide) (fun h_30 => ?_) (fun h_30 => ?_)
        · have hm := (if_pos h_30).symm.trans hm
          refine lv_aload_n hx hb dX3_apart_46 rfl (lv_at hl 0 rfl) ?_
          refine va_get (D := kD k) (ci := 5) (v := .ref b.2.1) (C := RX3) (T := TX3) (N := 5) hx hb htg inG_X3 hown hGx.1 hV.1 0 rfl rfl 1 (by decide) (htg _ w_1012) (fun _ h9 => h9) rfl dX3_apart_47 ?_
          refine lv_iload_n hx hb dX3_apart_50 rfl (lv_at hl 1 rfl) ?_
          by_cases h_31 : p0 < 0 ∨ 6 ≤ p0.toNatClampNeg
          · have hm := (if_pos h_31).symm.trans hm
            cases hm
          have hm := (if_neg h_31).symm.trans hm
          refine m_ald hx hb hGx hV h_31 dX3_apart_51 (fun hP_34 => ?_)
          refine lv_astore (lv' := [(4, .ref (q_33 p0.toNatClampNeg)), (0, .ref b.1), (1, .int p0), (2, .int p1), (3, .int p2)]) hx hb dX3_apart_52 hl (by decide) rfl (fun ls hl => ?_)
          refine lv_aload_n hx hb dX3_apart_54 rfl (lv_at hl 1 rfl) ?_
          refine va_get (D := kD k) (ci := 5) (v := .ref b.2.1) (C := RX3) (T := TX3) (N := 5) hx hb htg inG_X3 hown hGx.1 hV.1 0 rfl rfl 1 (by decide) (htg _ w_1012) (fun _ h9 => h9) rfl dX3_apart_55 ?_
          refine lv_iload_n hx hb dX3_apart_58 rfl (lv_at hl 3 rfl) ?_
          by_cases h_32 : p1 < 0 ∨ 6 ≤ p1.toNatClampNeg
          · have hm := (if_pos h_32).symm.trans hm
            cases hm
          have hm := (if_neg h_32).symm.trans hm
          refine m_ald hx hb hGx hV h_32 dX3_apart_59 (fun hP_35 => ?_)
          refine lv_astore (lv' := [(5, .ref (q_33 p1.toNatClampNeg)), (4, .ref (q_33 p0.toNatClampNeg)), (0, .ref b.1), (1, .int p0), (2, .int p1), (3, .int p2)]) hx hb dX3_apart_60 hl (by decide) rfl (fun ls hl => ?_)
          refine lv_aload_n hx hb dX3_apart_62 rfl (lv_at hl 2 rfl) ?_
          refine lv_iconst (v := 0) hx hb dX3_apart_63 (by decide) ?_
          refine lv_iconst (v := 0) hx hb dX3_apart_64 (by decide) ?_
          refine lv_aload hx hb dX3_apart_65 (lv_at hl 0 rfl) ?_
          refine lv_aload hx hb dX3_apart_67 (lv_at hl 1 rfl) ?_
          obtain ⟨x_36, hx_36, hm⟩ := Option.bind_eq_some_iff.mp hm
          have hs_36 := hS.1.1
          have hLn_36 := m_hLn hLb hS
          have hL9 := hS.2
          refine qc_S hC hGx (k_X3_isAhead l k (x_33.2.2.1 p1.toNatClampNeg) (x_33.2.2.1 p0.toNatClampNeg) (q_33 p1.toNatClampNeg) (q_33 p0.toNatClampNeg) hx_36) (gS w_1212 w_1213 w_27 w_1214) kk_X3_isAhead (List.forall_mem_cons.mpr ⟨hP_35.1, (List.forall_mem_cons.mpr ⟨hP_34.1, (List.forall_mem_nil _)⟩)⟩) ⟨Nat.le_of_ble_eq_true rfl, Nat.le_of_ble_eq_true rfl⟩ ⟨Nat.le_of_ble_eq_true rfl, Nat.le_of_ble_eq_true rfl⟩ hS.1 hA hAB hl.1 rfl rfl (Nat.le_of_ble_eq_true rfl) dX3_apart_69 (fun v_36 H hv hz hq hS => ?_)
          have hS : mS b s.heap H _ := ⟨hS, hL9⟩
          have hV := hV.up hq
          have hP_35 := hP_35.up (fun x h9 _ => hq x h9)
          have hP_34 := hP_34.up (fun x h9 _ => hq x h9)
          have hv : v_36 = some (.int x_36) := hv
          subst hv
          obtain ⟨x_37, hx_37, hm⟩ := Option.bind_eq_some_iff.mp hm
          refine mc_V hC hGx hD (k_X3_fails l k b L hD (0 : Int32) (0 : Int32) x_36  x_33.2 hx_37) (gV w_1056 w_1057 w_18 w_27 w_1058) kk_X3_fails rfl (List.forall_mem_nil _) hLb ⟨Nat.le_of_ble_eq_true rfl, Nat.le_of_ble_eq_true rfl⟩ ⟨Nat.le_of_ble_eq_true rfl, Nat.le_of_ble_eq_true rfl⟩ hV hS hl.1 rfl rfl (Nat.le_of_ble_eq_true rfl) dX3_apart_72 (fun q_37 H locs hV hS hz hq => ?_)
          have hP_35 := hP_35.up hq
          have hP_34 := hP_34.up hq
          refine lv_if_eq (tgt := 80) hx hb dX3_apart_75 (by decide) (fun h_33 => ?_) (fun h_33 => ?_)
          · have hm := (if_pos h_33).symm.trans hm
            refine lv_iload_n hx hb dX3_apart_80 rfl (lv_at hl 5 rfl) ?_
            refine lv_iconst (v := 2) hx hb dX3_apart_81 (by decide) ?_
            refine lv_icmp_ne (tgt := 95) hx hb dX3_apart_82 (by decide) (fun h_34 => ?_) (fun h_34 => ?_)
            · have hm := (if_neg h_34).symm.trans hm
              refine lv_iload_n hx hb dX3_apart_95 rfl (lv_at hl 5 rfl) ?_
              refine lv_iconst (v := 1) hx hb dX3_apart_96 (by decide) ?_
              refine lv_icmp_ne (tgt := 113) hx hb dX3_apart_97 (by decide) (fun h_35 => ?_) (fun h_35 => ?_)
              · have hm := (if_neg h_35).symm.trans hm
                refine lv_aload hx hb dX3_apart_113 (lv_at hl 1 rfl) ?_
                refine lv_aload hx hb dX3_apart_115 (lv_at hl 0 rfl) ?_
                obtain ⟨x_38, hx_38, hm⟩ := Option.bind_eq_some_iff.mp hm
                have hs_38 := hS.1.1
                have hLn_38 := m_hLn hLb hS
                have hL9 := hS.2
                refine qc_S hC hGx (k_X3_monthsOf l k (x_33.2.2.1 p0.toNatClampNeg) (x_33.2.2.1 p1.toNatClampNeg) (q_33 p0.toNatClampNeg) (q_33 p1.toNatClampNeg) hx_38) (gS w_1215 w_1216 w_27 w_1217) kk_X3_monthsOf (List.forall_mem_cons.mpr ⟨hP_34.1, (List.forall_mem_cons.mpr ⟨hP_35.1, (List.forall_mem_nil _)⟩)⟩) ⟨Nat.le_of_ble_eq_true rfl, Nat.le_of_ble_eq_true rfl⟩ ⟨Nat.le_of_ble_eq_true rfl, Nat.le_of_ble_eq_true rfl⟩ hS.1 hA hAB hl.1 rfl rfl (Nat.le_of_ble_eq_true rfl) dX3_apart_117 (fun v_38 H hv hz hq hS => ?_)
                have hS : mS b s.heap H _ := ⟨hS, hL9⟩
                have hV := hV.up hq
                have hP_35 := hP_35.up (fun x h9 _ => hq x h9)
                have hP_34 := hP_34.up (fun x h9 _ => hq x h9)
                have hv : v_38 = some (.int x_38) := hv
                subst hv
                refine lv_bipush (v := 12) hx hb dX3_apart_120 (by decide) ?_
                refine lv_idiv hx hb dX3_apart_122 (by decide) ?_
                exact m_iret hx hb hr hlocks (Option.some.inj hm) hV hS ⟨Nat.le_of_ble_eq_true rfl, Nat.le_of_ble_eq_true rfl⟩ dX3_apart_123
              · have hm := (if_pos h_35).symm.trans hm
                refine lv_aload hx hb dX3_apart_100 (lv_at hl 1 rfl) ?_
                refine lv_aload hx hb dX3_apart_102 (lv_at hl 0 rfl) ?_
                obtain ⟨x_39, hx_39, hm⟩ := Option.bind_eq_some_iff.mp hm
                have hs_39 := hS.1.1
                have hLn_39 := m_hLn hLb hS
                have hL9 := hS.2
                refine qc_S hC hGx (k_X3_monthsOf l k (x_33.2.2.1 p0.toNatClampNeg) (x_33.2.2.1 p1.toNatClampNeg) (q_33 p0.toNatClampNeg) (q_33 p1.toNatClampNeg) hx_39) (gS w_1215 w_1216 w_27 w_1217) kk_X3_monthsOf (List.forall_mem_cons.mpr ⟨hP_34.1, (List.forall_mem_cons.mpr ⟨hP_35.1, (List.forall_mem_nil _)⟩)⟩) ⟨Nat.le_of_ble_eq_true rfl, Nat.le_of_ble_eq_true rfl⟩ ⟨Nat.le_of_ble_eq_true rfl, Nat.le_of_ble_eq_true rfl⟩ hS.1 hA hAB hl.1 rfl rfl (Nat.le_of_ble_eq_true rfl) dX3_apart_104 (fun v_39 H hv hz hq hS => ?_)
                have hS : mS b s.heap H _ := ⟨hS, hL9⟩
                have hV := hV.up hq
                have hP_35 := hP_35.up (fun x h9 _ => hq x h9)
                have hP_34 := hP_34.up (fun x h9 _ => hq x h9)
                have hv : v_39 = some (.int x_39) := hv
                subst hv
                refine lv_bipush (v := 12) hx hb dX3_apart_107 (by decide) ?_
                refine lv_irem hx hb dX3_apart_109 (by decide) ?_
                refine lv_goto (tgt := 123) hx hb dX3_apart_110 (by decide) ?_
                exact m_iret hx hb hr hlocks (Option.some.inj hm) hV hS ⟨Nat.le_of_ble_eq_true rfl, Nat.le_of_ble_eq_true rfl⟩ dX3_apart_123
            · have hm := (if_pos h_34).symm.trans hm
              refine lv_aload hx hb dX3_apart_85 (lv_at hl 1 rfl) ?_
              refine lv_aload hx hb dX3_apart_87 (lv_at hl 0 rfl) ?_
              obtain ⟨x_40, hx_40, hm⟩ := Option.bind_eq_some_iff.mp hm
              have hs_40 := hS.1.1
              have hLn_40 := m_hLn hLb hS
              have hL9 := hS.2
              refine qc_S hC hGx (k_X3_daysOf l k (x_33.2.2.1 p0.toNatClampNeg) (x_33.2.2.1 p1.toNatClampNeg) (q_33 p0.toNatClampNeg) (q_33 p1.toNatClampNeg) hx_40) (gS w_1221 w_1222 w_27 w_1223) kk_X3_daysOf (List.forall_mem_cons.mpr ⟨hP_34.1, (List.forall_mem_cons.mpr ⟨hP_35.1, (List.forall_mem_nil _)⟩)⟩) ⟨Nat.le_of_ble_eq_true rfl, Nat.le_of_ble_eq_true rfl⟩ ⟨Nat.le_of_ble_eq_true rfl, Nat.le_of_ble_eq_true rfl⟩ hS.1 hA hAB hl.1 rfl rfl (Nat.le_of_ble_eq_true rfl) dX3_apart_89 (fun v_40 H hv hz hq hS => ?_)
              have hS : mS b s.heap H _ := ⟨hS, hL9⟩
              have hV := hV.up hq
              have hP_35 := hP_35.up (fun x h9 _ => hq x h9)
              have hP_34 := hP_34.up (fun x h9 _ => hq x h9)
              have hv : v_40 = some (.int x_40) := hv
              subst hv
              refine lv_goto (tgt := 123) hx hb dX3_apart_92 (by decide) ?_
              exact m_iret hx hb hr hlocks (Option.some.inj hm) hV hS ⟨Nat.le_of_ble_eq_true rfl, Nat.le_of_ble_eq_true rfl⟩ dX3_apart_123
          · have hm := (if_neg h_33).symm.trans hm
            refine lv_iconst (v := 0) hx hb dX3_apart_78 (by decide) ?_
            exact m_iret hx hb hr hlocks (Option.some.inj hm) hV hS ⟨Nat.le_of_ble_eq_true rfl, Nat.le_of_ble_eq_true rfl⟩ dX3_apart_79
        · have hm := (if_neg h_30).symm.trans hm
          refine lv_iconst (v := 0) hx hb dX3_apart_44 (by decide) ?_
          exact m_iret hx hb hr hlocks (Option.some.inj hm) hV hS ⟨Nat.le_of_ble_eq_true rfl, Nat.le_of_ble_eq_true rfl⟩ dX3_apart_45
      · have hm := (if_pos h_29).symm.trans hm
        refine lv_iconst (v := 1) hx hb dX3_apart_32 (by decide) ?_
        refine lv_goto (tgt := 37) hx hb dX3_apart_33 (by decide) ?_
        refine lv_iconst (v := 0) hx hb dX3_apart_37 (by decide) ?_
        obtain ⟨x_41, hx_41, hm⟩ := Option.bind_eq_some_iff.mp hm
        refine mc_V hC hGx hD (k_X3_fails l k b L hD (1 : Int32) (1 : Int32) (0 : Int32)  z hx_41) (gV w_1056 w_1057 w_18 w_27 w_1058) kk_X3_fails rfl (List.forall_mem_nil _) hLb ⟨Nat.le_of_ble_eq_true rfl, Nat.le_of_ble_eq_true rfl⟩ ⟨Nat.le_of_ble_eq_true rfl, Nat.le_of_ble_eq_true rfl⟩ hV hS hl.1 rfl rfl (Nat.le_of_ble_eq_true rfl) dX3_apart_38 (fun q_41 H locs hV hS hz hq => ?_)
        refine lv_if_eq (tgt := 46) hx hb dX3_apart_41 (by decide) (fun h_36 => ?_) (fun h_36 => ?_)
        · have hm := (if_pos h_36).symm.trans hm
          refine lv_aload_n hx hb dX3_apart_46 rfl (lv_at hl 0 rfl) ?_
          refine va_get (D := kD k) (ci := 5) (v := .ref b.2.1) (C := RX3) (T := TX3) (N := 5) hx hb htg inG_X3 hown hGx.1 hV.1 0 rfl rfl 1 (by decide) (htg _ w_1012) (fun _ h9 => h9) rfl dX3_apart_47 ?_
          refine lv_iload_n hx hb dX3_apart_50 rfl (lv_at hl 1 rfl) ?_
          by_cases h_37 : p0 < 0 ∨ 6 ≤ p0.toNatClampNeg
          · have hm := (if_pos h_37).symm.trans hm
            cases hm
          have hm := (if_neg h_37).symm.trans hm
          refine m_ald hx hb hGx hV h_37 dX3_apart_51 (fun hP_42 => ?_)
          refine lv_astore (lv' := [(4, .ref (q_41 p0.toNatClampNeg)), (0, .ref b.1), (1, .int p0), (2, .int p1), (3, .int p2)]) hx hb dX3_apart_52 hl (by decide) rfl (fun ls hl => ?_)
          refine lv_aload_n hx hb dX3_apart_54 rfl (lv_at hl 1 rfl) ?_
          refine va_get (D := kD k) (ci := 5) (v := .ref b.2.1) (C := RX3) (T := TX3) (N := 5) hx hb htg inG_X3 hown hGx.1 hV.1 0 rfl rfl 1 (by decide) (htg _ w_1012) (fun _ h9 => h9) rfl dX3_apart_55 ?_
          refine lv_iload_n hx hb dX3_apart_58 rfl (lv_at hl 3 rfl) ?_
          by_cases h_38 : p1 < 0 ∨ 6 ≤ p1.toNatClampNeg
          · have hm := (if_pos h_38).symm.trans hm
            cases hm
          have hm := (if_neg h_38).symm.trans hm
          refine m_ald hx hb hGx hV h_38 dX3_apart_59 (fun hP_43 => ?_)
          refine lv_astore (lv' := [(5, .ref (q_41 p1.toNatClampNeg)), (4, .ref (q_41 p0.toNatClampNeg)), (0, .ref b.1), (1, .int p0), (2, .int p1), (3, .int p2)]) hx hb dX3_apart_60 hl (by decide) rfl (fun ls hl => ?_)
          refine lv_aload_n hx hb dX3_apart_62 rfl (lv_at hl 2 rfl) ?_
          refine lv_iconst (v := 0) hx hb dX3_apart_63 (by decide) ?_
          refine lv_iconst (v := 0) hx hb dX3_apart_64 (by decide) ?_
          refine lv_aload hx hb dX3_apart_65 (lv_at hl 0 rfl) ?_
          refine lv_aload hx hb dX3_apart_67 (lv_at hl 1 rfl) ?_
          obtain ⟨x_44, hx_44, hm⟩ := Option.bind_eq_some_iff.mp hm
          have hs_44 := hS.1.1
          have hLn_44 := m_hLn hLb hS
          have hL9 := hS.2
          refine qc_S hC hGx (k_X3_isAhead l k (x_41.2.2.1 p1.toNatClampNeg) (x_41.2.2.1 p0.toNatClampNeg) (q_41 p1.toNatClampNeg) (q_41 p0.toNatClampNeg) hx_44) (gS w_1212 w_1213 w_27 w_1214) kk_X3_isAhead (List.forall_mem_cons.mpr ⟨hP_43.1, (List.forall_mem_cons.mpr ⟨hP_42.1, (List.forall_mem_nil _)⟩)⟩) ⟨Nat.le_of_ble_eq_true rfl, Nat.le_of_ble_eq_true rfl⟩ ⟨Nat.le_of_ble_eq_true rfl, Nat.le_of_ble_eq_true rfl⟩ hS.1 hA hAB hl.1 rfl rfl (Nat.le_of_ble_eq_true rfl) dX3_apart_69 (fun v_44 H hv hz hq hS => ?_)
          have hS : mS b s.heap H _ := ⟨hS, hL9⟩
          have hV := hV.up hq
          have hP_43 := hP_43.up (fun x h9 _ => hq x h9)
          have hP_42 := hP_42.up (fun x h9 _ => hq x h9)
          have hv : v_44 = some (.int x_44) := hv
          subst hv
          obtain ⟨x_45, hx_45, hm⟩ := Option.bind_eq_some_iff.mp hm
          refine mc_V hC hGx hD (k_X3_fails l k b L hD (0 : Int32) (0 : Int32) x_44  x_41.2 hx_45) (gV w_1056 w_1057 w_18 w_27 w_1058) kk_X3_fails rfl (List.forall_mem_nil _) hLb ⟨Nat.le_of_ble_eq_true rfl, Nat.le_of_ble_eq_true rfl⟩ ⟨Nat.le_of_ble_eq_true rfl, Nat.le_of_ble_eq_true rfl⟩ hV hS hl.1 rfl rfl (Nat.le_of_ble_eq_true rfl) dX3_apart_72 (fun q_45 H locs hV hS hz hq => ?_)
          have hP_43 := hP_43.up hq
          have hP_42 := hP_42.up hq
          refine lv_if_eq (tgt := 80) hx hb dX3_apart_75 (by decide) (fun h_39 => ?_) (fun h_39 => ?_)
          · have hm := (if_pos h_39).symm.trans hm
            refine lv_iload_n hx hb dX3_apart_80 rfl (lv_at hl 5 rfl) ?_
            refine lv_iconst (v := 2) hx hb dX3_apart_81 (by decide) ?_
            refine lv_icmp_ne (tgt := 95) hx hb dX3_apart_82 (by decide) (fun h_40 => ?_) (fun h_40 => ?_)
            · have hm := (if_neg h_40).symm.trans hm
              refine lv_iload_n hx hb dX3_apart_95 rfl (lv_at hl 5 rfl) ?_
              refine lv_iconst (v := 1) hx hb dX3_apart_96 (by decide) ?_
              refine lv_icmp_ne (tgt := 113) hx hb dX3_apart_97 (by decide) (fun h_41 => ?_) (fun h_41 => ?_)
              · have hm := (if_neg h_41).symm.trans hm
                refine lv_aload hx hb dX3_apart_113 (lv_at hl 1 rfl) ?_
                refine lv_aload hx hb dX3_apart_115 (lv_at hl 0 rfl) ?_
                obtain ⟨x_46, hx_46, hm⟩ := Option.bind_eq_some_iff.mp hm
                have hs_46 := hS.1.1
                have hLn_46 := m_hLn hLb hS
                have hL9 := hS.2
                refine qc_S hC hGx (k_X3_monthsOf l k (x_41.2.2.1 p0.toNatClampNeg) (x_41.2.2.1 p1.toNatClampNeg) (q_41 p0.toNatClampNeg) (q_41 p1.toNatClampNeg) hx_46) (gS w_1215 w_1216 w_27 w_1217) kk_X3_monthsOf (List.forall_mem_cons.mpr ⟨hP_42.1, (List.forall_mem_cons.mpr ⟨hP_43.1, (List.forall_mem_nil _)⟩)⟩) ⟨Nat.le_of_ble_eq_true rfl, Nat.le_of_ble_eq_true rfl⟩ ⟨Nat.le_of_ble_eq_true rfl, Nat.le_of_ble_eq_true rfl⟩ hS.1 hA hAB hl.1 rfl rfl (Nat.le_of_ble_eq_true rfl) dX3_apart_117 (fun v_46 H hv hz hq hS => ?_)
                have hS : mS b s.heap H _ := ⟨hS, hL9⟩
                have hV := hV.up hq
                have hP_43 := hP_43.up (fun x h9 _ => hq x h9)
                have hP_42 := hP_42.up (fun x h9 _ => hq x h9)
                have hv : v_46 = some (.int x_46) := hv
                subst hv
                refine lv_bipush (v := 12) hx hb dX3_apart_120 (by decide) ?_
                refine lv_idiv hx hb dX3_apart_122 (by decide) ?_
                exact m_iret hx hb hr hlocks (Option.some.inj hm) hV hS ⟨Nat.le_of_ble_eq_true rfl, Nat.le_of_ble_eq_true rfl⟩ dX3_apart_123
              · have hm := (if_pos h_41).symm.trans hm
                refine lv_aload hx hb dX3_apart_100 (lv_at hl 1 rfl) ?_
                refine lv_aload hx hb dX3_apart_102 (lv_at hl 0 rfl) ?_
                obtain ⟨x_47, hx_47, hm⟩ := Option.bind_eq_some_iff.mp hm
                have hs_47 := hS.1.1
                have hLn_47 := m_hLn hLb hS
                have hL9 := hS.2
                refine qc_S hC hGx (k_X3_monthsOf l k (x_41.2.2.1 p0.toNatClampNeg) (x_41.2.2.1 p1.toNatClampNeg) (q_41 p0.toNatClampNeg) (q_41 p1.toNatClampNeg) hx_47) (gS w_1215 w_1216 w_27 w_1217) kk_X3_monthsOf (List.forall_mem_cons.mpr ⟨hP_42.1, (List.forall_mem_cons.mpr ⟨hP_43.1, (List.forall_mem_nil _)⟩)⟩) ⟨Nat.le_of_ble_eq_true rfl, Nat.le_of_ble_eq_true rfl⟩ ⟨Nat.le_of_ble_eq_true rfl, Nat.le_of_ble_eq_true rfl⟩ hS.1 hA hAB hl.1 rfl rfl (Nat.le_of_ble_eq_true rfl) dX3_apart_104 (fun v_47 H hv hz hq hS => ?_)
                have hS : mS b s.heap H _ := ⟨hS, hL9⟩
                have hV := hV.up hq
                have hP_43 := hP_43.up (fun x h9 _ => hq x h9)
                have hP_42 := hP_42.up (fun x h9 _ => hq x h9)
                have hv : v_47 = some (.int x_47) := hv
                subst hv
                refine lv_bipush (v := 12) hx hb dX3_apart_107 (by decide) ?_
                refine lv_irem hx hb dX3_apart_109 (by decide) ?_
                refine lv_goto (tgt := 123) hx hb dX3_apart_110 (by decide) ?_
                exact m_iret hx hb hr hlocks (Option.some.inj hm) hV hS ⟨Nat.le_of_ble_eq_true rfl, Nat.le_of_ble_eq_true rfl⟩ dX3_apart_123
            · have hm := (if_pos h_40).symm.trans hm
              refine lv_aload hx hb dX3_apart_85 (lv_at hl 1 rfl) ?_
              refine lv_aload hx hb dX3_apart_87 (lv_at hl 0 rfl) ?_
              obtain ⟨x_48, hx_48, hm⟩ := Option.bind_eq_some_iff.mp hm
              have hs_48 := hS.1.1
              have hLn_48 := m_hLn hLb hS
              have hL9 := hS.2
              refine qc_S hC hGx (k_X3_daysOf l k (x_41.2.2.1 p0.toNatClampNeg) (x_41.2.2.1 p1.toNatClampNeg) (q_41 p0.toNatClampNeg) (q_41 p1.toNatClampNeg) hx_48) (gS w_1221 w_1222 w_27 w_1223) kk_X3_daysOf (List.forall_mem_cons.mpr ⟨hP_42.1, (List.forall_mem_cons.mpr ⟨hP_43.1, (List.forall_mem_nil _)⟩)⟩) ⟨Nat.le_of_ble_eq_true rfl, Nat.le_of_ble_eq_true rfl⟩ ⟨Nat.le_of_ble_eq_true rfl, Nat.le_of_ble_eq_true rfl⟩ hS.1 hA hAB hl.1 rfl rfl (Nat.le_of_ble_eq_true rfl) dX3_apart_89 (fun v_48 H hv hz hq hS => ?_)
              have hS : mS b s.heap H _ := ⟨hS, hL9⟩
              have hV := hV.up hq
              have hP_43 := hP_43.up (fun x h9 _ => hq x h9)
              have hP_42 := hP_42.up (fun x h9 _ => hq x h9)
              have hv : v_48 = some (.int x_48) := hv
              subst hv
              refine lv_goto (tgt := 123) hx hb dX3_apart_92 (by decide) ?_
              exact m_iret hx hb hr hlocks (Option.some.inj hm) hV hS ⟨Nat.le_of_ble_eq_true rfl, Nat.le_of_ble_eq_true rfl⟩ dX3_apart_123
          · have hm := (if_neg h_39).symm.trans hm
            refine lv_iconst (v := 0) hx hb dX3_apart_78 (by decide) ?_
            exact m_iret hx hb hr hlocks (Option.some.inj hm) hV hS ⟨Nat.le_of_ble_eq_true rfl, Nat.le_of_ble_eq_true rfl⟩ dX3_apart_79
        · have hm := (if_neg h_36).symm.trans hm
          refine lv_iconst (v := 0) hx hb dX3_apart_44 (by decide) ?_
          exact m_iret hx hb hr hlocks (Option.some.inj hm) hV hS ⟨Nat.le_of_ble_eq_true rfl, Nat.le_of_ble_eq_true rfl⟩ dX3_apart_45
def o_X3_daysToYearEnd (p0 : Int32) (z : MS) : Option (Int32 × MS) := ((o_X3_fails (m_X3_isNo p0) (0 : Int32) (0 : Int32) z).bind fun x_1 => (if x_1.1 = 0 then (if p0 < 0 ∨ 6 ≤ p0.toNatClampNeg then none else (if p0 < 0 ∨ 6 ≤ p0.toNatClampNeg then none else ((o_X2_inYear (x_1.2.2.1 p0.toNatClampNeg)).bind fun x_4 => some ((m_X3_lengthOf ((x_1.2.2.1 p0.toNatClampNeg).1)) - x_4, x_1.2)))) else some ((0 : Int32), x_1.2)))
theorem kk_X3_daysToYearEnd : pK yX3_daysToYearEnd wsX3_daysToYearEnd cX3_daysToYearEnd 2 (some .int) 1 := ⟨⟨_, rfl⟩, by decide +kernel, by decide +kernel, by decide +kernel⟩
set_option maxRecDepth 100000 in
set_option maxHeartbeats 4000000 in
theorem k_X3_daysToYearEnd (l : Launch) (k : Kx) (b : CA) (L : List Nat) (hD : mD k b L) (p0 : Int32) (z : MS) {r : (Int32 × MS)} (hm : o_X3_daysToYearEnd p0 z = some r) : mM l k b L yX3_daysToYearEnd wsX3_daysToYearEnd 3 63 0 0 [.int p0] [] z (some (.int r.1)) r.2 := by
  intro sz q
  refine Met.ofW (cc := cX3_daysToYearEnd) (maxL := 2) (ret := (some .int)) (by decide) rfl ?_
  intro p e s m args below meth c s₁ B hml hv
  obtain ⟨rfl, rfl, hGx, hV, hLb, hds⟩ := hv
  have hx := B.exec
  have hb := B.bytes
  have hr := B.returns
  have hts := atoms_spec (ws := wsX3_daysToYearEnd) B.pre
  have hown : s.vm.findClass RX3 = some m.cls := findClass_of_methodNamed B.named
  have hlocks := B.notSynchronized
  have htg : ∀ w ∈ GL, w.before _ s = true := fun w h => hts w (List.mem_cons_of_mem _ h)
  have hC : CallFix p m c cX3_daysToYearEnd 2 s _ wsX3_daysToYearEnd RX3 := ⟨hx, hb, hml, hown, hts⟩
  have hA : ∀ q, s.heap.size ≤ q → cA b s.heap.size q := fun q h => cA.new q h
  have hAB : ∀ q, cA b s.heap.size q → kB k ≤ q := hD.high hGx.2.1
  have hS : mS b s.heap s.heap [] := mS.rf
  have hl := lv_entry ([.ref b.1, .int p0]) (n := 2) (Nat.le_of_ble_eq_true rfl)
  rw [lg_entry_eq]
  generalize (lg_sl ([.ref b.1, .int p0]) ++ List.replicate (2 - (lg_sl ([.ref b.1, .int p0])).length) Slot.unset).toArray = ls at hl ⊢
  have hl : lv_has ls 2 [(0, .ref b.1), (1, .int p0)] := hl
  refine lv_aload_n hx hb dX3_daysToYearEnd_0 rfl (lv_at hl 0 rfl) ?_
  refine lv_iload_n hx hb dX3_daysToYearEnd_1 rfl (lv_at hl 1 rfl) ?_
  refine pc_S hC (c_X3_isNo l p0) (gS w_1045 w_1046 w_27 w_1047) kk_X3_isNo ⟨Nat.le_of_ble_eq_true rfl, Nat.le_of_ble_eq_true rfl⟩ ⟨Nat.le_of_ble_eq_true rfl, Nat.le_of_ble_eq_true rfl⟩ hl.1 rfl rfl (Nat.le_of_ble_eq_true rfl) dX3_daysToYearEnd_2 ?_
  refine lv_iconst (v := 0) hx hb dX3_daysToYearEnd_5 (by decide) ?_
  refine lv_iconst (v := 0) hx hb dX3_daysToYearEnd_6 (by decide) ?_
  obtain ⟨x_1, hx_1, hm⟩ := Option.bind_eq_some_iff.mp hm
  refine mc_V hC hGx hD (k_X3_fails l k b L hD (m_X3_isNo p0) (0 : Int32) (0 : Int32)  z hx_1) (gV w_1056 w_1057 w_18 w_27 w_1058) kk_X3_fails rfl (List.forall_mem_nil _) hLb ⟨Nat.le_of_ble_eq_true rfl, Nat.le_of_ble_eq_true rfl⟩ ⟨Nat.le_of_ble_eq_true rfl, Nat.le_of_ble_eq_true rfl⟩ hV hS hl.1 rfl rfl (Nat.le_of_ble_eq_true rfl) dX3_daysToYearEnd_7 (fun q_1 H locs hV hS hz hq => ?_)
  refine lv_if_eq (tgt := 17) hx hb dX3_daysToYearEnd_10 (by decide) (fun h_1 => ?_) (fun h_1 => ?_)
  · have hm := (if_pos h_1).symm.trans hm
    refine lv_aload_n hx hb dX3_daysToYearEnd_17 rfl (lv_at hl 0 rfl) ?_
    refine va_get (D := kD k) (ci := 5) (v := .ref b.2.1) (C := RX3) (T := TX3) (N := 5) hx hb htg inG_X3 hown hGx.1 hV.1 0 rfl rfl 1 (by decide) (htg _ w_1012) (fun _ h9 => h9) rfl dX3_daysToYearEnd_18 ?_
    refine lv_iload_n hx hb dX3_daysToYearEnd_21 rfl (lv_at hl 1 rfl) ?_
    by_cases h_2 : p0 < 0 ∨ 6 ≤ p0.toNatClampNeg
    · have hm := (if_pos h_2).symm.trans hm
      cases hm
    have hm := (if_neg h_2).symm.trans hm
    refine m_ald hx hb hGx hV h_2 dX3_daysToYearEnd_22 (fun hP_2 => ?_)
    refine va_get (D := kD k) (ci := 4) (v := .int ((x_1.2.2.1 p0.toNatClampNeg).1)) (C := RX2) (T := TX2) (N := 3) hx hb htg inG_X2 hown hGx.1 hP_2.1 0 rfl rfl 0 (by decide) (htg _ w_999) (fun _ h9 => h9) rfl dX3_daysToYearEnd_23 ?_
    refine pc_S hC (c_X3_lengthOf l ((x_1.2.2.1 p0.toNatClampNeg).1)) (gS w_1095 w_1071 w_27 w_1072) kk_X3_lengthOf ⟨Nat.le_of_ble_eq_true rfl, Nat.le_of_ble_eq_true rfl⟩ ⟨Nat.le_of_ble_eq_true rfl, Nat.le_of_ble_eq_true rfl⟩ hl.1 rfl rfl (Nat.le_of_ble_eq_true rfl) dX3_daysToYearEnd_26 ?_
    refine lv_aload_n hx hb dX3_daysToYearEnd_29 rfl (lv_at hl 0 rfl) ?_
    refine va_get (D := kD k) (ci := 5) (v := .ref b.2.1) (C := RX3) (T := TX3) (N := 5) hx hb htg inG_X3 hown hGx.1 hV.1 0 rfl rfl 1 (by decide) (htg _ w_1012) (fun _ h9 => h9) rfl dX3_daysToYearEnd_30 ?_
    refine lv_iload_n hx hb dX3_daysToYearEnd_33 rfl (lv_at hl 1 rfl) ?_
    by_cases h_3 : p0 < 0 ∨ 6 ≤ p0.toNatClampNeg
    · have hm := (if_pos h_3).symm.trans hm
      cases hm
    have hm := (if_neg h_3).symm.trans hm
    refine m_ald hx hb hGx hV h_3 dX3_daysToYearEnd_34 (fun hP_3 => ?_)
    obtain ⟨x_4, hx_4, hm⟩ := Option.bind_eq_some_iff.mp hm
    have hs_4 := hS.1.1
    have hLn_4 := m_hLn hLb hS
    have hL9 := hS.2
    refine qc_V hC hGx (k_X2_inYear l k (x_1.2.2.1 p0.toNatClampNeg) (q_1 p0.toNatClampNeg) hx_4) (gV w_1260 w_1074 w_1075 w_28 w_1076) kk_X2_inYear rfl hP_3.1 (List.forall_mem_cons.mpr ⟨hP_3.1, (List.forall_mem_nil _)⟩) ⟨Nat.le_of_ble_eq_true rfl, Nat.le_of_ble_eq_true rfl⟩ ⟨Nat.le_of_ble_eq_true rfl, Nat.le_of_ble_eq_true rfl⟩ hS.1 hA hAB hl.1 rfl rfl (Nat.le_of_ble_eq_true rfl) dX3_daysToYearEnd_35 (fun v_4 H hv hz hq hS => ?_)
    have hS : mS b s.heap H _ := ⟨hS, hL9⟩
    have hV := hV.up hq
    have hv : v_4 = some (.int x_4) := hv
    subst hv
    refine lv_isub hx hb dX3_daysToYearEnd_38 ?_
    exact m_iret hx hb hr hlocks (Option.some.inj hm) hV hS ⟨Nat.le_of_ble_eq_true rfl, Nat.le_of_ble_eq_true rfl⟩ dX3_daysToYearEnd_39
  · have hm := (if_neg h_1).symm.trans hm
    refine lv_iconst (v := 0) hx hb dX3_daysToYearEnd_13 (by decide) ?_
    refine lv_goto (tgt := 39) hx hb dX3_daysToYearEnd_14 (by decide) ?_
    exact m_iret hx hb hr hlocks (Option.some.inj hm) hV hS ⟨Nat.le_of_ble_eq_true rfl, Nat.le_of_ble_eq_true rfl⟩ dX3_daysToYearEnd_39
def o_X3_sameDay (p0 : Int32) (p1 : Int32) (z : MS) : Option (Int32 × MS) := ((o_X3_fails (m_X3_isNo p0) (m_X3_isNoYear p1) (0 : Int32) z).bind fun x_1 => (if x_1.1 = 0 then (if p0 < 0 ∨ 6 ≤ p0.toNatClampNeg then none else (if p0 < 0 ∨ 6 ≤ p0.toNatClampNeg then none else ((o_X3_near p1 ((x_1.2.2.1 p0.toNatClampNeg).2.1) ((x_1.2.2.1 p0.toNatClampNeg).2.2)).bind fun x_4 => ((o_X2_number x_4).bind fun x_5 => some (x_5, x_1.2))))) else some ((0 : Int32), x_1.2)))
theorem kk_X3_sameDay : pK yX3_sameDay wsX3_sameDay cX3_sameDay 3 (some .int) 2 := ⟨⟨_, rfl⟩, by decide +kernel, by decide +kernel, by decide +kernel⟩
set_option maxRecDepth 100000 in
set_option maxHeartbeats 4000000 in
theorem k_X3_sameDay (l : Launch) (k : Kx) (b : CA) (L : List Nat) (hD : mD k b L) (p0 : Int32) (p1 : Int32) (z : MS) {r : (Int32 × MS)} (hm : o_X3_sameDay p0 p1 z = some r) : mM l k b L yX3_sameDay wsX3_sameDay 4 86 1 3 [.int p0, .int p1] [] z (some (.int r.1)) r.2 := by
  intro sz q
  refine Met.ofW (cc := cX3_sameDay) (maxL := 3) (ret := (some .int)) (by decide) rfl ?_
  intro p e s m args below meth c s₁ B hml hv
  obtain ⟨rfl, rfl, hGx, hV, hLb, hds⟩ := hv
  have hx := B.exec
  have hb := B.bytes
  have hr := B.returns
  have hts := atoms_spec (ws := wsX3_sameDay) B.pre
  have hown : s.vm.findClass RX3 = some m.cls := findClass_of_methodNamed B.named
  have hlocks := B.notSynchronized
  have htg : ∀ w ∈ GL, w.before _ s = true := fun w h => hts w (List.mem_cons_of_mem _ h)
  have hC : CallFix p m c cX3_sameDay 3 s _ wsX3_sameDay RX3 := ⟨hx, hb, hml, hown, hts⟩
  have hA : ∀ q, s.heap.size ≤ q → cA b s.heap.size q := fun q h => cA.new q h
  have hAB : ∀ q, cA b s.heap.size q → kB k ≤ q := hD.high hGx.2.1
  have hS : mS b s.heap s.heap [] := mS.rf
  have hl := lv_entry ([.ref b.1, .int p0, .int p1]) (n := 3) (Nat.le_of_ble_eq_true rfl)
  rw [lg_entry_eq]
  generalize (lg_sl ([.ref b.1, .int p0, .int p1]) ++ List.replicate (3 - (lg_sl ([.ref b.1, .int p0, .int p1])).length) Slot.unset).toArray = ls at hl ⊢
  have hl : lv_has ls 3 [(0, .ref b.1), (1, .int p0), (2, .int p1)] := hl
  refine lv_aload_n hx hb dX3_sameDay_0 rfl (lv_at hl 0 rfl) ?_
  refine lv_iload_n hx hb dX3_sameDay_1 rfl (lv_at hl 1 rfl) ?_
  refine pc_S hC (c_X3_isNo l p0) (gS w_1045 w_1046 w_27 w_1047) kk_X3_isNo ⟨Nat.le_of_ble_eq_true rfl, Nat.le_of_ble_eq_true rfl⟩ ⟨Nat.le_of_ble_eq_true rfl, Nat.le_of_ble_eq_true rfl⟩ hl.1 rfl rfl (Nat.le_of_ble_eq_true rfl) dX3_sameDay_2 ?_
  refine lv_iload_n hx hb dX3_sameDay_5 rfl (lv_at hl 2 rfl) ?_
  refine pc_S hC (c_X3_isNoYear l p1) (gS w_1035 w_1036 w_27 w_1037) kk_X3_isNoYear ⟨Nat.le_of_ble_eq_true rfl, Nat.le_of_ble_eq_true rfl⟩ ⟨Nat.le_of_ble_eq_true rfl, Nat.le_of_ble_eq_true rfl⟩ hl.1 rfl rfl (Nat.le_of_ble_eq_true rfl) dX3_sameDay_6 ?_
  refine lv_iconst (v := 0) hx hb dX3_sameDay_9 (by decide) ?_
  obtain ⟨x_1, hx_1, hm⟩ := Option.bind_eq_some_iff.mp hm
  refine mc_V hC hGx hD (k_X3_fails l k b L hD (m_X3_isNo p0) (m_X3_isNoYear p1) (0 : Int32)  z hx_1) (gV w_1056 w_1057 w_18 w_27 w_1058) kk_X3_fails rfl (List.forall_mem_nil _) hLb ⟨Nat.le_of_ble_eq_true rfl, Nat.le_of_ble_eq_true rfl⟩ ⟨Nat.le_of_ble_eq_true rfl, Nat.le_of_ble_eq_true rfl⟩ hV hS hl.1 rfl rfl (Nat.le_of_ble_eq_true rfl) dX3_sameDay_10 (fun q_1 H locs hV hS hz hq => ?_)
  refine lv_if_eq (tgt := 20) hx hb dX3_sameDay_13 (by decide) (fun h_1 => ?_) (fun h_1 => ?_)
  · have hm := (if_pos h_1).symm.trans hm
    refine lv_iload_n hx hb dX3_sameDay_20 rfl (lv_at hl 2 rfl) ?_
    refine lv_aload_n hx hb dX3_sameDay_21 rfl (lv_at hl 0 rfl) ?_
    refine va_get (D := kD k) (ci := 5) (v := .ref b.2.1) (C := RX3) (T := TX3) (N := 5) hx hb htg inG_X3 hown hGx.1 hV.1 0 rfl rfl 1 (by decide) (htg _ w_1012) (fun _ h9 => h9) rfl dX3_sameDay_22 ?_
    refine lv_iload_n hx hb dX3_sameDay_25 rfl (lv_at hl 1 rfl) ?_
    by_cases h_2 : p0 < 0 ∨ 6 ≤ p0.toNatClampNeg
    · have hm := (if_pos h_2).symm.trans hm
      cases hm
    have hm := (if_neg h_2).symm.trans hm
    refine m_ald hx hb hGx hV h_2 dX3_sameDay_26 (fun hP_2 => ?_)
    refine va_get (D := kD k) (ci := 4) (v := .int ((x_1.2.2.1 p0.toNatClampNeg).2.1)) (C := RX2) (T := TX2) (N := 3) hx hb htg inG_X2 hown hGx.1 hP_2.1 0 rfl rfl 1 (by decide) (htg _ w_1001) (fun _ h9 => h9) rfl dX3_sameDay_27 ?_
    refine lv_aload_n hx hb dX3_sameDay_30 rfl (lv_at hl 0 rfl) ?_
    refine va_get (D := kD k) (ci := 5) (v := .ref b.2.1) (C := RX3) (T := TX3) (N := 5) hx hb htg inG_X3 hown hGx.1 hV.1 0 rfl rfl 1 (by decide) (htg _ w_1012) (fun _ h9 => h9) rfl dX3_sameDay_31 ?_
    refine lv_iload_n hx hb dX3_sameDay_34 rfl (lv_at hl 1 rfl) ?_
    by_cases h_3 : p0 < 0 ∨ 6 ≤ p0.toNatClampNeg
    · have hm := (if_pos h_3).symm.trans hm
      cases hm
    have hm := (if_neg h_3).symm.trans hm
    refine m_ald hx hb hGx hV h_3 dX3_sameDay_35 (fun hP_3 => ?_)
    refine va_get (D := kD k) (ci := 4) (v := .int ((x_1.2.2.1 p0.toNatClampNeg).2.2)) (C := RX2) (T := TX2) (N := 3) hx hb htg inG_X2 hown hGx.1 hP_3.1 0 rfl rfl 2 (by decide) (htg _ w_1003) (fun _ h9 => h9) rfl dX3_sameDay_36 ?_
    obtain ⟨x_4, hx_4, hm⟩ := Option.bind_eq_some_iff.mp hm
    have hs_4 := hS.1.1
    have hLn_4 := m_hLn hLb hS
    have hL9 := hS.2
    refine qc_S hC hGx (k_X3_near l k p1 ((x_1.2.2.1 p0.toNatClampNeg).2.1) ((x_1.2.2.1 p0.toNatClampNeg).2.2)  hx_4) (gS w_1117 w_1118 w_27 w_1119) kk_X3_near (List.forall_mem_nil _) ⟨Nat.le_of_ble_eq_true rfl, Nat.le_of_ble_eq_true rfl⟩ ⟨Nat.le_of_ble_eq_true rfl, Nat.le_of_ble_eq_true rfl⟩ hS.1 hA hAB hl.1 rfl rfl (Nat.le_of_ble_eq_true rfl) dX3_sameDay_39 (fun v_4 H hv hz hq hS => ?_)
    have hS : mS b s.heap H _ := ⟨hS, hL9⟩
    have hV := hV.up hq
    obtain ⟨a_4, rfl, hn_4, hP_4⟩ := hv
    have hP_4 := dF.made hLn_4 hn_4 hP_4
    have hn_4 := Nat.le_trans hs_4 hn_4
    obtain ⟨x_5, hx_5, hm⟩ := Option.bind_eq_some_iff.mp hm
    have hs_5 := hS.1.1
    have hLn_5 := m_hLn hLb hS
    have hL9 := hS.2
    refine qc_V hC hGx (k_X2_number l k x_4 a_4 hx_5) (gV w_1062 w_1063 w_1064 w_28 w_1065) kk_X2_number rfl hP_4.1 (List.forall_mem_cons.mpr ⟨hP_4.1, (List.forall_mem_nil _)⟩) ⟨Nat.le_of_ble_eq_true rfl, Nat.le_of_ble_eq_true rfl⟩ ⟨Nat.le_of_ble_eq_true rfl, Nat.le_of_ble_eq_true rfl⟩ hS.1 hA hAB hl.1 rfl rfl (Nat.le_of_ble_eq_true rfl) dX3_sameDay_42 (fun v_5 H hv hz hq hS => ?_)
    have hS : mS b s.heap H _ := ⟨hS, hL9⟩
    have hV := hV.up hq
    have hv : v_5 = some (.int x_5) := hv
    subst hv
    exact m_iret hx hb hr hlocks (Option.some.inj hm) hV hS ⟨Nat.le_of_ble_eq_true rfl, Nat.le_of_ble_eq_true rfl⟩ dX3_sameDay_45
  · have hm := (if_neg h_1).symm.trans hm
    refine lv_iconst (v := 0) hx hb dX3_sameDay_16 (by decide) ?_
    refine lv_goto (tgt := 45) hx hb dX3_sameDay_17 (by decide) ?_
    exact m_iret hx hb hr hlocks (Option.some.inj hm) hV hS ⟨Nat.le_of_ble_eq_true rfl, Nat.le_of_ble_eq_true rfl⟩ dX3_sameDay_45
def o_X3_houseNow (p0 : Int32) (z : MS) : Option (Int32 × MS) := ((o_X2_number (z.2.1 (0 : Int32).toNatClampNeg)).bind fun x_2 => ((o_X2_number (z.2.1 (1 : Int32).toNatClampNeg)).bind fun x_4 => ((o_X2_number (z.2.1 (2 : Int32).toNatClampNeg)).bind fun x_6 => ((o_X2_number (z.2.1 (3 : Int32).toNatClampNeg)).bind fun x_8 => ((o_X2_number (z.2.1 (4 : Int32).toNatClampNeg)).bind fun x_10 => ((o_X2_number (z.2.1 (5 : Int32).toNatClampNeg)).bind fun x_12 => (if p0 = 0 then some (z.2.2.2.2.1, z) else (if p0 = (1 : Int32) then some (z.2.2.2.2.2, z) else some (((((((0 : Int32) + x_2) + x_4) + x_6) + x_8) + x_10) + x_12, z)))))))))
theorem kk_X3_houseNow : pK yX3_houseNow wsX3_houseNow cX3_houseNow 7 (some .int) 1 := ⟨⟨_, rfl⟩, by decide +kernel, by decide +kernel, by decide +kernel⟩
set_option maxRecDepth 100000 in
set_option maxHeartbeats 4000000 in
theorem k_X3_houseNow (l : Launch) (k : Kx) (b : CA) (L : List Nat) (hD : mD k b L) (p0 : Int32) (z : MS) {r : (Int32 × MS)} (hm : o_X3_houseNow p0 z = some r) : mM l k b L yX3_houseNow wsX3_houseNow 4 86 0 0 [.int p0] [] z (some (.int r.1)) r.2 := by
  intro sz q
  refine Met.ofW (cc := cX3_houseNow) (maxL := 7) (ret := (some .int)) (by decide) rfl ?_
  intro p e s m args below meth c s₁ B hml hv
  obtain ⟨rfl, rfl, hGx, hV, hLb, hds⟩ := hv
  have hx := B.exec
  have hb := B.bytes
  have hr := B.returns
  have hts := atoms_spec (ws := wsX3_houseNow) B.pre
  have hown : s.vm.findClass RX3 = some m.cls := findClass_of_methodNamed B.named
  have hlocks := B.notSynchronized
  have htg : ∀ w ∈ GL, w.before _ s = true := fun w h => hts w (List.mem_cons_of_mem _ h)
  have hC : CallFix p m c cX3_houseNow 7 s _ wsX3_houseNow RX3 := ⟨hx, hb, hml, hown, hts⟩
  have hA : ∀ q, s.heap.size ≤ q → cA b s.heap.size q := fun q h => cA.new q h
  have hAB : ∀ q, cA b s.heap.size q → kB k ≤ q := hD.high hGx.2.1
  have hS : mS b s.heap s.heap [] := mS.rf
  have hl := lv_entry ([.ref b.1, .int p0]) (n := 7) (Nat.le_of_ble_eq_true rfl)
  rw [lg_entry_eq]
  generalize (lg_sl ([.ref b.1, .int p0]) ++ List.replicate (7 - (lg_sl ([.ref b.1, .int p0])).length) Slot.unset).toArray = ls at hl ⊢
  have hl : lv_has ls 7 [(0, .ref b.1), (1, .int p0)] := hl
  refine lv_iconst (v := 0) hx hb dX3_houseNow_0 (by decide) ?_
  refine lv_istore_n (lv' := [(2, .int (0 : Int32)), (0, .ref b.1), (1, .int p0)]) hx hb dX3_houseNow_1 rfl hl (by decide) rfl (fun ls hl => ?_)
  refine lv_aload_n hx hb dX3_houseNow_2 rfl (lv_at hl 1 rfl) ?_
  refine va_get (D := kD k) (ci := 5) (v := .ref b.2.1) (C := RX3) (T := TX3) (N := 5) hx hb htg inG_X3 hown hGx.1 hV.1 0 rfl rfl 1 (by decide) (htg _ w_1012) (fun _ h9 => h9) rfl dX3_houseNow_3 ?_
  refine lv_astore_n (lv' := [(3, .ref b.2.1), (2, .int (0 : Int32)), (0, .ref b.1), (1, .int p0)]) hx hb dX3_houseNow_6 rfl hl (by decide) rfl (fun ls hl => ?_)
  refine lv_aload_n hx hb dX3_houseNow_7 rfl (lv_at hl 0 rfl) ?_
  refine va_alen (D := kD k) (v := 6) hx hb hGx.1 hV.1 1 3 rfl rfl (show Int32.ofNat 6 = 6 by decide) dX3_houseNow_8 ?_
  refine lv_istore (lv' := [(4, .int (6 : Int32)), (3, .ref b.2.1), (2, .int (0 : Int32)), (0, .ref b.1), (1, .int p0)]) hx hb dX3_houseNow_9 hl (by decide) rfl (fun ls hl => ?_)
  refine lv_iconst (v := 0) hx hb dX3_houseNow_11 (by decide) ?_
  refine lv_istore (lv' := [(5, .int (0 : Int32)), (4, .int (6 : Int32)), (3, .ref b.2.1), (2, .int (0 : Int32)), (0, .ref b.1), (1, .int p0)]) hx hb dX3_houseNow_12 hl (by decide) rfl (fun ls hl => ?_)
  refine lv_iload hx hb dX3_houseNow_14 (lv_at hl 0 rfl) ?_
  refine lv_iload hx hb dX3_houseNow_16 (lv_at hl 1 rfl) ?_
  refine lv_icmp_ge (tgt := 41) hx hb dX3_houseNow_18 (by decide) (fun h => absurd h (by decide)) (fun _ => ?_)
  refine lv_aload_n hx hb dX3_houseNow_21 rfl (lv_at hl 2 rfl) ?_
  refine lv_iload hx hb dX3_houseNow_22 (lv_at hl 0 rfl) ?_
  refine m_ald hx hb hGx hV (show ¬ ((0 : Int32) < 0 ∨ 6 ≤ ((0 : Int32)).toNatClampNeg) by decide) dX3_houseNow_24 (fun hP_1 => ?_)
  refine lv_astore (lv' := [(6, .ref (q (0 : Int32).toNatClampNeg)), (5, .int (0 : Int32)), (4, .int (6 : Int32)), (3, .ref b.2.1), (2, .int (0 : Int32)), (0, .ref b.1), (1, .int p0)]) hx hb dX3_houseNow_25 hl (by decide) rfl (fun ls hl => ?_)
  refine lv_iload_n hx hb dX3_houseNow_27 rfl (lv_at hl 4 rfl) ?_
  refine lv_aload hx hb dX3_houseNow_28 (lv_at hl 0 rfl) ?_
  obtain ⟨x_2, hx_2, hm⟩ := Option.bind_eq_some_iff.mp hm
  have hs_2 := hS.1.1
  have hLn_2 := m_hLn hLb hS
  have hL9 := hS.2
  refine qc_V hC hGx (k_X2_number l k (z.2.1 (0 : Int32).toNatClampNeg) (q (0 : Int32).toNatClampNeg) hx_2) (gV w_1062 w_1063 w_1064 w_28 w_1065) kk_X2_number rfl hP_1.1 (List.forall_mem_cons.mpr ⟨hP_1.1, (List.forall_mem_nil _)⟩) ⟨Nat.le_of_ble_eq_true rfl, Nat.le_of_ble_eq_true rfl⟩ ⟨Nat.le_of_ble_eq_true rfl, Nat.le_of_ble_eq_true rfl⟩ hS.1 hA hAB hl.1 rfl rfl (Nat.le_of_ble_eq_true rfl) dX3_houseNow_30 (fun v_2 H hv hz hq hS => ?_)
  have hS : mS b s.heap H _ := ⟨hS, hL9⟩
  have hV := hV.up hq
  have hP_1 := hP_1.up (fun x h9 _ => hq x h9)
  have hv : v_2 = some (.int x_2) := hv
  subst hv
  refine lv_iadd hx hb dX3_houseNow_33 ?_
  refine lv_istore_n (lv' := [(2, .int ((0 : Int32) + x_2)), (6, .ref (q (0 : Int32).toNatClampNeg)), (5, .int (0 : Int32)), (4, .int (6 : Int32)), (3, .ref b.2.1), (0, .ref b.1), (1, .int p0)]) hx hb dX3_houseNow_34 rfl hl (by decide) rfl (fun ls hl => ?_)
  refine lv_iinc (v := (1 : Int32)) (lv' := [(5, .int (1 : Int32)), (2, .int ((0 : Int32) + x_2)), (6, .ref (q (0 : Int32).toNatClampNeg)), (4, .int (6 : Int32)), (3, .ref b.2.1), (0, .ref b.1), (1, .int p0)]) hx hb dX3_houseNow_35 hl (k := 2) rfl (by decide) (by decide) rfl (fun ls hl => ?_)
  refine lv_goto (tgt := 14) hx hb dX3_houseNow_38 (by decide) ?_
  refine lv_iload hx hb dX3_houseNow_14 (lv_at hl 0 rfl) ?_
  refine lv_iload hx hb dX3_houseNow_16 (lv_at hl 3 rfl) ?_
  refine lv_icmp_ge (tgt := 41) hx hb dX3_houseNow_18 (by decide) (fun h => absurd h (by decide)) (fun _ => ?_)
  refine lv_aload_n hx hb dX3_houseNow_21 rfl (lv_at hl 4 rfl) ?_
  refine lv_iload hx hb dX3_houseNow_22 (lv_at hl 0 rfl) ?_
  refine m_ald hx hb hGx hV (show ¬ ((1 : Int32) < 0 ∨ 6 ≤ ((1 : Int32)).toNatClampNeg) by decide) dX3_houseNow_24 (fun hP_3 => ?_)
  refine lv_astore (lv' := [(6, .ref (q (1 : Int32).toNatClampNeg)), (5, .int (1 : Int32)), (2, .int ((0 : Int32) + x_2)), (4, .int (6 : Int32)), (3, .ref b.2.1), (0, .ref b.1), (1, .int p0)]) hx hb dX3_houseNow_25 hl (by decide) rfl (fun ls hl => ?_)
  refine lv_iload_n hx hb dX3_houseNow_27 rfl (lv_at hl 2 rfl) ?_
  refine lv_aload hx hb dX3_houseNow_28 (lv_at hl 0 rfl) ?_
  obtain ⟨x_4, hx_4, hm⟩ := Option.bind_eq_some_iff.mp hm
  have hs_4 := hS.1.1
  have hLn_4 := m_hLn hLb hS
  have hL9 := hS.2
  refine qc_V hC hGx (k_X2_number l k (z.2.1 (1 : Int32).toNatClampNeg) (q (1 : Int32).toNatClampNeg) hx_4) (gV w_1062 w_1063 w_1064 w_28 w_1065) kk_X2_number rfl hP_3.1 (List.forall_mem_cons.mpr ⟨hP_3.1, (List.forall_mem_nil _)⟩) ⟨Nat.le_of_ble_eq_true rfl, Nat.le_of_ble_eq_true rfl⟩ ⟨Nat.le_of_ble_eq_true rfl, Nat.le_of_ble_eq_true rfl⟩ hS.1 hA hAB hl.1 rfl rfl (Nat.le_of_ble_eq_true rfl) dX3_houseNow_30 (fun v_4 H hv hz hq hS => ?_)
  have hS : mS b s.heap H _ := ⟨hS, hL9⟩
  have hV := hV.up hq
  have hP_3 := hP_3.up (fun x h9 _ => hq x h9)
  have hv : v_4 = some (.int x_4) := hv
  subst hv
  refine lv_iadd hx hb dX3_houseNow_33 ?_
  refine lv_istore_n (lv' := [(2, .int (((0 : Int32) + x_2) + x_4)), (6, .ref (q (1 : Int32).toNatClampNeg)), (5, .int (1 : Int32)), (4, .int (6 : Int32)), (3, .ref b.2.1), (0, .ref b.1), (1, .int p0)]) hx hb dX3_houseNow_34 rfl hl (by decide) rfl (fun ls hl => ?_)
  refine lv_iinc (v := (2 : Int32)) (lv' := [(5, .int (2 : Int32)), (2, .int (((0 : Int32) + x_2) + x_4)), (6, .ref (q (1 : Int32).toNatClampNeg)), (4, .int (6 : Int32)), (3, .ref b.2.1), (0, .ref b.1), (1, .int p0)]) hx hb dX3_houseNow_35 hl (k := 2) rfl (by decide) (by decide) rfl (fun ls hl => ?_)
  refine lv_goto (tgt := 14) hx hb dX3_houseNow_38 (by decide) ?_
  refine lv_iload hx hb dX3_houseNow_14 (lv_at hl 0 rfl) ?_
  refine lv_iload hx hb dX3_houseNow_16 (lv_at hl 3 rfl) ?_
  refine lv_icmp_ge (tgt := 41) hx hb dX3_houseNow_18 (by decide) (fun h => absurd h (by decide)) (fun _ => ?_)
  refine lv_aload_n hx hb dX3_houseNow_21 rfl (lv_at hl 4 rfl) ?_
  refine lv_iload hx hb dX3_houseNow_22 (lv_at hl 0 rfl) ?_
  refine m_ald hx hb hGx hV (show ¬ ((2 : Int32) < 0 ∨ 6 ≤ ((2 : Int32)).toNatClampNeg) by decide) dX3_houseNow_24 (fun hP_5 => ?_)
  refine lv_astore (lv' := [(6, .ref (q (2 : Int32).toNatClampNeg)), (5, .int (2 : Int32)), (2, .int (((0 : Int32) + x_2) + x_4)), (4, .int (6 : Int32)), (3, .ref b.2.1), (0, .ref b.1), (1, .int p0)]) hx hb dX3_houseNow_25 hl (by decide) rfl (fun ls hl => ?_)
  refine lv_iload_n hx hb dX3_houseNow_27 rfl (lv_at hl 2 rfl) ?_
  refine lv_aload hx hb dX3_houseNow_28 (lv_at hl 0 rfl) ?_
  obtain ⟨x_6, hx_6, hm⟩ := Option.bind_eq_some_iff.mp hm
  have hs_6 := hS.1.1
  have hLn_6 := m_hLn hLb hS
  have hL9 := hS.2
  refine qc_V hC hGx (k_X2_number l k (z.2.1 (2 : Int32).toNatClampNeg) (q (2 : Int32).toNatClampNeg) hx_6) (gV w_1062 w_1063 w_1064 w_28 w_1065) kk_X2_number rfl hP_5.1 (List.forall_mem_cons.mpr ⟨hP_5.1, (List.forall_mem_nil _)⟩) ⟨Nat.le_of_ble_eq_true rfl, Nat.le_of_ble_eq_true rfl⟩ ⟨Nat.le_of_ble_eq_true rfl, Nat.le_of_ble_eq_true rfl⟩ hS.1 hA hAB hl.1 rfl rfl (Nat.le_of_ble_eq_true rfl) dX3_houseNow_30 (fun v_6 H hv hz hq hS => ?_)
  have hS : mS b s.heap H _ := ⟨hS, hL9⟩
  have hV := hV.up hq
  have hP_5 := hP_5.up (fun x h9 _ => hq x h9)
  have hv : v_6 = some (.int x_6) := hv
  subst hv
  refine lv_iadd hx hb dX3_houseNow_33 ?_
  refine lv_istore_n (lv' := [(2, .int ((((0 : Int32) + x_2) + x_4) + x_6)), (6, .ref (q (2 : Int32).toNatClampNeg)), (5, .int (2 : Int32)), (4, .int (6 : Int32)), (3, .ref b.2.1), (0, .ref b.1), (1, .int p0)]) hx hb dX3_houseNow_34 rfl hl (by decide) rfl (fun ls hl => ?_)
  refine lv_iinc (v := (3 : Int32)) (lv' := [(5, .int (3 : Int32)), (2, .int ((((0 : Int32) + x_2) + x_4) + x_6)), (6, .ref (q (2 : Int32).toNatClampNeg)), (4, .int (6 : Int32)), (3, .ref b.2.1), (0, .ref b.1), (1, .int p0)]) hx hb dX3_houseNow_35 hl (k := 2) rfl (by decide) (by decide) rfl (fun ls hl => ?_)
  refine lv_goto (tgt := 14) hx hb dX3_houseNow_38 (by decide) ?_
  refine lv_iload hx hb dX3_houseNow_14 (lv_at hl 0 rfl) ?_
  refine lv_iload hx hb dX3_houseNow_16 (lv_at hl 3 rfl) ?_
  refine lv_icmp_ge (tgt := 41) hx hb dX3_houseNow_18 (by decide) (fun h => absurd h (by decide)) (fun _ => ?_)
  refine lv_aload_n hx hb dX3_houseNow_21 rfl (lv_at hl 4 rfl) ?_
  refine lv_iload hx hb dX3_houseNow_22 (lv_at hl 0 rfl) ?_
  refine m_ald hx hb hGx hV (show ¬ ((3 : Int32) < 0 ∨ 6 ≤ ((3 : Int32)).toNatClampNeg) by decide) dX3_houseNow_24 (fun hP_7 => ?_)
  refine lv_astore (lv' := [(6, .ref (q (3 : Int32).toNatClampNeg)), (5, .int (3 : Int32)), (2, .int ((((0 : Int32) + x_2) + x_4) + x_6)), (4, .int (6 : Int32)), (3, .ref b.2.1), (0, .ref b.1), (1, .int p0)]) hx hb dX3_houseNow_25 hl (by decide) rfl (fun ls hl => ?_)
  refine lv_iload_n hx hb dX3_houseNow_27 rfl (lv_at hl 2 rfl) ?_
  refine lv_aload hx hb dX3_houseNow_28 (lv_at hl 0 rfl) ?_
  obtain ⟨x_8, hx_8, hm⟩ := Option.bind_eq_some_iff.mp hm
  have hs_8 := hS.1.1
  have hLn_8 := m_hLn hLb hS
  have hL9 := hS.2
  refine qc_V hC hGx (k_X2_number l k (z.2.1 (3 : Int32).toNatClampNeg) (q (3 : Int32).toNatClampNeg) hx_8) (gV w_1062 w_1063 w_1064 w_28 w_1065) kk_X2_number rfl hP_7.1 (List.forall_mem_cons.mpr ⟨hP_7.1, (List.forall_mem_nil _)⟩) ⟨Nat.le_of_ble_eq_true rfl, Nat.le_of_ble_eq_true rfl⟩ ⟨Nat.le_of_ble_eq_true rfl, Nat.le_of_ble_eq_true rfl⟩ hS.1 hA hAB hl.1 rfl rfl (Nat.le_of_ble_eq_true rfl) dX3_houseNow_30 (fun v_8 H hv hz hq hS => ?_)
  have hS : mS b s.heap H _ := ⟨hS, hL9⟩
  have hV := hV.up hq
  have hP_7 := hP_7.up (fun x h9 _ => hq x h9)
  have hv : v_8 = some (.int x_8) := hv
  subst hv
  refine lv_iadd hx hb dX3_houseNow_33 ?_
  refine lv_istore_n (lv' := [(2, .int (((((0 : Int32) + x_2) + x_4) + x_6) + x_8)), (6, .ref (q (3 : Int32).toNatClampNeg)), (5, .int (3 : Int32)), (4, .int (6 : Int32)), (3, .ref b.2.1), (0, .ref b.1), (1, .int p0)]) hx hb dX3_houseNow_34 rfl hl (by decide) rfl (fun ls hl => ?_)
  refine lv_iinc (v := (4 : Int32)) (lv' := [(5, .int (4 : Int32)), (2, .int (((((0 : Int32) + x_2) + x_4) + x_6) + x_8)), (6, .ref (q (3 : Int32).toNatClampNeg)), (4, .int (6 : Int32)), (3, .ref b.2.1), (0, .ref b.1), (1, .int p0)]) hx hb dX3_houseNow_35 hl (k := 2) rfl (by decide) (by decide) rfl (fun ls hl => ?_)
  refine lv_goto (tgt := 14) hx hb dX3_houseNow_38 (by decide) ?_
  refine lv_iload hx hb dX3_houseNow_14 (lv_at hl 0 rfl) ?_
  refine lv_iload hx hb dX3_houseNow_16 (lv_at hl 3 rfl) ?_
  refine lv_icmp_ge (tgt := 41) hx hb dX3_houseNow_18 (by decide) (fun h => absurd h (by decide)) (fun _ => ?_)
  refine lv_aload_n hx hb dX3_houseNow_21 rfl (lv_at hl 4 rfl) ?_
  refine lv_iload hx hb dX3_houseNow_22 (lv_at hl 0 rfl) ?_
  refine m_ald hx hb hGx hV (show ¬ ((4 : Int32) < 0 ∨ 6 ≤ ((4 : Int32)).toNatClampNeg) by decide) dX3_houseNow_24 (fun hP_9 => ?_)
  refine lv_astore (lv' := [(6, .ref (q (4 : Int32).toNatClampNeg)), (5, .int (4 : Int32)), (2, .int (((((0 : Int32) + x_2) + x_4) + x_6) + x_8)), (4, .int (6 : Int32)), (3, .ref b.2.1), (0, .ref b.1), (1, .int p0)]) hx hb dX3_houseNow_25 hl (by decide) rfl (fun ls hl => ?_)
  refine lv_iload_n hx hb dX3_houseNow_27 rfl (lv_at hl 2 rfl) ?_
  refine lv_aload hx hb dX3_houseNow_28 (lv_at hl 0 rfl) ?_
  obtain ⟨x_10, hx_10, hm⟩ := Option.bind_eq_some_iff.mp hm
  have hs_10 := hS.1.1
  have hLn_10 := m_hLn hLb hS
  have hL9 := hS.2
  refine qc_V hC hGx (k_X2_number l k (z.2.1 (4 : Int32).toNatClampNeg) (q (4 : Int32).toNatClampNeg) hx_10) (gV w_1062 w_1063 w_1064 w_28 w_1065) kk_X2_number rfl hP_9.1 (List.forall_mem_cons.mpr ⟨hP_9.1, (List.forall_mem_nil _)⟩) ⟨Nat.le_of_ble_eq_true rfl, Nat.le_of_ble_eq_true rfl⟩ ⟨Nat.le_of_ble_eq_true rfl, Nat.le_of_ble_eq_true rfl⟩ hS.1 hA hAB hl.1 rfl rfl (Nat.le_of_ble_eq_true rfl) dX3_houseNow_30 (fun v_10 H hv hz hq hS => ?_)
  have hS : mS b s.heap H _ := ⟨hS, hL9⟩
  have hV := hV.up hq
  have hP_9 := hP_9.up (fun x h9 _ => hq x h9)
  have hv : v_10 = some (.int x_10) := hv
  subst hv
  refine lv_iadd hx hb dX3_houseNow_33 ?_
  refine lv_istore_n (lv' := [(2, .int ((((((0 : Int32) + x_2) + x_4) + x_6) + x_8) + x_10)), (6, .ref (q (4 : Int32).toNatClampNeg)), (5, .int (4 : Int32)), (4, .int (6 : Int32)), (3, .ref b.2.1), (0, .ref b.1), (1, .int p0)]) hx hb dX3_houseNow_34 rfl hl (by decide) rfl (fun ls hl => ?_)
  refine lv_iinc (v := (5 : Int32)) (lv' := [(5, .int (5 : Int32)), (2, .int ((((((0 : Int32) + x_2) + x_4) + x_6) + x_8) + x_10)), (6, .ref (q (4 : Int32).toNatClampNeg)), (4, .int (6 : Int32)), (3, .ref b.2.1), (0, .ref b.1), (1, .int p0)]) hx hb dX3_houseNow_35 hl (k := 2) rfl (by decide) (by decide) rfl (fun ls hl => ?_)
  refine lv_goto (tgt := 14) hx hb dX3_houseNow_38 (by decide) ?_
  refine lv_iload hx hb dX3_houseNow_14 (lv_at hl 0 rfl) ?_
  refine lv_iload hx hb dX3_houseNow_16 (lv_at hl 3 rfl) ?_
  refine lv_icmp_ge (tgt := 41) hx hb dX3_houseNow_18 (by decide) (fun h => absurd h (by decide)) (fun _ => ?_)
  refine lv_aload_n hx hb dX3_houseNow_21 rfl (lv_at hl 4 rfl) ?_
  refine lv_iload hx hb dX3_houseNow_22 (lv_at hl 0 rfl) ?_
  refine m_ald hx hb hGx hV (show ¬ ((5 : Int32) < 0 ∨ 6 ≤ ((5 : Int32)).toNatClampNeg) by decide) dX3_houseNow_24 (fun hP_11 => ?_)
  refine lv_astore (lv' := [(6, .ref (q (5 : Int32).toNatClampNeg)), (5, .int (5 : Int32)), (2, .int ((((((0 : Int32) + x_2) + x_4) + x_6) + x_8) + x_10)), (4, .int (6 : Int32)), (3, .ref b.2.1), (0, .ref b.1), (1, .int p0)]) hx hb dX3_houseNow_25 hl (by decide) rfl (fun ls hl => ?_)
  refine lv_iload_n hx hb dX3_houseNow_27 rfl (lv_at hl 2 rfl) ?_
  refine lv_aload hx hb dX3_houseNow_28 (lv_at hl 0 rfl) ?_
  obtain ⟨x_12, hx_12, hm⟩ := Option.bind_eq_some_iff.mp hm
  have hs_12 := hS.1.1
  have hLn_12 := m_hLn hLb hS
  have hL9 := hS.2
  refine qc_V hC hGx (k_X2_number l k (z.2.1 (5 : Int32).toNatClampNeg) (q (5 : Int32).toNatClampNeg) hx_12) (gV w_1062 w_1063 w_1064 w_28 w_1065) kk_X2_number rfl hP_11.1 (List.forall_mem_cons.mpr ⟨hP_11.1, (List.forall_mem_nil _)⟩) ⟨Nat.le_of_ble_eq_true rfl, Nat.le_of_ble_eq_true rfl⟩ ⟨Nat.le_of_ble_eq_true rfl, Nat.le_of_ble_eq_true rfl⟩ hS.1 hA hAB hl.1 rfl rfl (Nat.le_of_ble_eq_true rfl) dX3_houseNow_30 (fun v_12 H hv hz hq hS => ?_)
  have hS : mS b s.heap H _ := ⟨hS, hL9⟩
  have hV := hV.up hq
  have hP_11 := hP_11.up (fun x h9 _ => hq x h9)
  have hv : v_12 = some (.int x_12) := hv
  subst hv
  refine lv_iadd hx hb dX3_houseNow_33 ?_
  refine lv_istore_n (lv' := [(2, .int (((((((0 : Int32) + x_2) + x_4) + x_6) + x_8) + x_10) + x_12)), (6, .ref (q (5 : Int32).toNatClampNeg)), (5, .int (5 : Int32)), (4, .int (6 : Int32)), (3, .ref b.2.1), (0, .ref b.1), (1, .int p0)]) hx hb dX3_houseNow_34 rfl hl (by decide) rfl (fun ls hl => ?_)
  refine lv_iinc (v := (6 : Int32)) (lv' := [(5, .int (6 : Int32)), (2, .int (((((((0 : Int32) + x_2) + x_4) + x_6) + x_8) + x_10) + x_12)), (6, .ref (q (5 : Int32).toNatClampNeg)), (4, .int (6 : Int32)), (3, .ref b.2.1), (0, .ref b.1), (1, .int p0)]) hx hb dX3_houseNow_35 hl (k := 2) rfl (by decide) (by decide) rfl (fun ls hl => ?_)
  refine lv_goto (tgt := 14) hx hb dX3_houseNow_38 (by decide) ?_
  refine lv_iload hx hb dX3_houseNow_14 (lv_at hl 0 rfl) ?_
  refine lv_iload hx hb dX3_houseNow_16 (lv_at hl 3 rfl) ?_
  refine lv_icmp_ge (tgt := 41) hx hb dX3_houseNow_18 (by decide) (fun _ => ?_) (fun h => absurd h (by decide))
  refine lv_iload_n hx hb dX3_houseNow_41 rfl (lv_at hl 6 rfl) ?_
  refine lv_if_ne (tgt := 52) hx hb dX3_houseNow_42 (by decide) (fun h_1 => ?_) (fun h_1 => ?_)
  · have hm := (if_neg h_1).symm.trans hm
    refine lv_iload_n hx hb dX3_houseNow_52 rfl (lv_at hl 6 rfl) ?_
    refine lv_iconst (v := 1) hx hb dX3_houseNow_53 (by decide) ?_
    refine lv_icmp_ne (tgt := 64) hx hb dX3_houseNow_54 (by decide) (fun h_2 => ?_) (fun h_2 => ?_)
    · have hm := (if_neg h_2).symm.trans hm
      refine lv_iload_n hx hb dX3_houseNow_64 rfl (lv_at hl 1 rfl) ?_
      exact m_iret hx hb hr hlocks (Option.some.inj hm) hV hS ⟨Nat.le_of_ble_eq_true rfl, Nat.le_of_ble_eq_true rfl⟩ dX3_houseNow_65
    · have hm := (if_pos h_2).symm.trans hm
      refine lv_aload_n hx hb dX3_houseNow_57 rfl (lv_at hl 5 rfl) ?_
      refine va_get (D := kD k) (ci := 5) (v := .int z.2.2.2.2.2) (C := RX3) (T := TX3) (N := 5) hx hb htg inG_X3 hown hGx.1 hV.1 0 rfl rfl 4 (by decide) (htg _ w_1015) (fun _ h9 => h9) rfl dX3_houseNow_58 ?_
      refine lv_goto (tgt := 65) hx hb dX3_houseNow_61 (by decide) ?_
      exact m_iret hx hb hr hlocks (Option.some.inj hm) hV hS ⟨Nat.le_of_ble_eq_true rfl, Nat.le_of_ble_eq_true rfl⟩ dX3_houseNow_65
  · have hm := (if_pos h_1).symm.trans hm
    refine lv_aload_n hx hb dX3_houseNow_45 rfl (lv_at hl 5 rfl) ?_
    refine va_get (D := kD k) (ci := 5) (v := .int z.2.2.2.2.1) (C := RX3) (T := TX3) (N := 5) hx hb htg inG_X3 hown hGx.1 hV.1 0 rfl rfl 3 (by decide) (htg _ w_1014) (fun _ h9 => h9) rfl dX3_houseNow_46 ?_
    refine lv_goto (tgt := 65) hx hb dX3_houseNow_49 (by decide) ?_
    exact m_iret hx hb hr hlocks (Option.some.inj hm) hV hS ⟨Nat.le_of_ble_eq_true rfl, Nat.le_of_ble_eq_true rfl⟩ dX3_houseNow_65
def o_X3_house (p0 : Int32) (z : MS) : Option (Int32 × MS) := (if m_X3_isIn p0.toInt64 (0 : Int64) (2 : Int64) = 0 then ((o_X3_fails (1 : Int32) (0 : Int32) (0 : Int32) z).bind fun x_3 => (if x_3.1 = 0 then ((o_X3_houseNow p0 x_3.2).bind fun x_4 => some (x_4.1, x_4.2)) else some ((0 : Int32), x_3.2))) else ((o_X3_fails (0 : Int32) (0 : Int32) (0 : Int32) z).bind fun x_1 => (if x_1.1 = 0 then ((o_X3_houseNow p0 x_1.2).bind fun x_2 => some (x_2.1, x_2.2)) else some ((0 : Int32), x_1.2))))
theorem kk_X3_house : pK yX3_house wsX3_house cX3_house 2 (some .int) 1 := ⟨⟨_, rfl⟩, by decide +kernel, by decide +kernel, by decide +kernel⟩
set_option maxRecDepth 100000 in
set_option maxHeartbeats 4000000 in
theorem k_X3_house (l : Launch) (k : Kx) (b : CA) (L : List Nat) (hD : mD k b L) (p0 : Int32) (z : MS) {r : (Int32 × MS)} (hm : o_X3_house p0 z = some r) : mM l k b L yX3_house wsX3_house 5 112 0 0 [.int p0] [] z (some (.int r.1)) r.2 := by
  intro sz q
  refine Met.ofW (cc := cX3_house) (maxL := 2) (ret := (some .int)) (by decide) rfl ?_
  intro p e s m args below meth c s₁ B hml hv
  obtain ⟨rfl, rfl, hGx, hV, hLb, hds⟩ := hv
  have hx := B.exec
  have hb := B.bytes
  have hr := B.returns
  have hts := atoms_spec (ws := wsX3_house) B.pre
  have hown : s.vm.findClass RX3 = some m.cls := findClass_of_methodNamed B.named
  have hlocks := B.notSynchronized
  have htg : ∀ w ∈ GL, w.before _ s = true := fun w h => hts w (List.mem_cons_of_mem _ h)
  have hC : CallFix p m c cX3_house 2 s _ wsX3_house RX3 := ⟨hx, hb, hml, hown, hts⟩
  have hA : ∀ q, s.heap.size ≤ q → cA b s.heap.size q := fun q h => cA.new q h
  have hAB : ∀ q, cA b s.heap.size q → kB k ≤ q := hD.high hGx.2.1
  have hS : mS b s.heap s.heap [] := mS.rf
  have hl := lv_entry ([.ref b.1, .int p0]) (n := 2) (Nat.le_of_ble_eq_true rfl)
  rw [lg_entry_eq]
  generalize (lg_sl ([.ref b.1, .int p0]) ++ List.replicate (2 - (lg_sl ([.ref b.1, .int p0])).length) Slot.unset).toArray = ls at hl ⊢
  have hl : lv_has ls 2 [(0, .ref b.1), (1, .int p0)] := hl
  refine lv_aload_n hx hb dX3_house_0 rfl (lv_at hl 0 rfl) ?_
  refine lv_iload_n hx hb dX3_house_1 rfl (lv_at hl 1 rfl) ?_
  refine lv_i2l hx hb dX3_house_2 rfl ?_
  refine lv_lconst (v := 0) hx hb dX3_house_3 (by decide) ?_
  refine lv_ldc2 hx hb hown (htg _ w_1232) dX3_house_4 ?_
  refine pc_S hC (c_X3_isIn l p0.toInt64 (0 : Int64) (2 : Int64)) (gS w_1040 w_1041 w_27 w_1042) kk_X3_isIn ⟨Nat.le_of_ble_eq_true rfl, Nat.le_of_ble_eq_true rfl⟩ ⟨Nat.le_of_ble_eq_true rfl, Nat.le_of_ble_eq_true rfl⟩ hl.1 rfl rfl (Nat.le_of_ble_eq_true rfl) dX3_house_7 ?_
  refine lv_if_ne (tgt := 17) hx hb dX3_house_10 (by decide) (fun h_1 => ?_) (fun h_1 => ?_)
  · have hm := (if_neg h_1).symm.trans hm
    refine lv_iconst (v := 0) hx hb dX3_house_17 (by decide) ?_
    refine lv_iconst (v := 0) hx hb dX3_house_18 (by decide) ?_
    refine lv_iconst (v := 0) hx hb dX3_house_19 (by decide) ?_
    obtain ⟨x_1, hx_1, hm⟩ := Option.bind_eq_some_iff.mp hm
    refine mc_V hC hGx hD (k_X3_fails l k b L hD (0 : Int32) (0 : Int32) (0 : Int32)  z hx_1) (gV w_1056 w_1057 w_18 w_27 w_1058) kk_X3_fails rfl (List.forall_mem_nil _) hLb ⟨Nat.le_of_ble_eq_true rfl, Nat.le_of_ble_eq_true rfl⟩ ⟨Nat.le_of_ble_eq_true rfl, Nat.le_of_ble_eq_true rfl⟩ hV hS hl.1 rfl rfl (Nat.le_of_ble_eq_true rfl) dX3_house_20 (fun q_1 H locs hV hS hz hq => ?_)
    refine lv_if_eq (tgt := 30) hx hb dX3_house_23 (by decide) (fun h_2 => ?_) (fun h_2 => ?_)
    · have hm := (if_pos h_2).symm.trans hm
      refine lv_aload_n hx hb dX3_house_30 rfl (lv_at hl 0 rfl) ?_
      refine lv_iload_n hx hb dX3_house_31 rfl (lv_at hl 1 rfl) ?_
      obtain ⟨x_2, hx_2, hm⟩ := Option.bind_eq_some_iff.mp hm
      refine mc_V hC hGx hD (k_X3_houseNow l k b L hD p0  x_1.2 hx_2) (gV w_1374 w_1375 w_24 w_27 w_1376) kk_X3_houseNow rfl (List.forall_mem_nil _) hLb ⟨Nat.le_of_ble_eq_true rfl, Nat.le_of_ble_eq_true rfl⟩ ⟨Nat.le_of_ble_eq_true rfl, Nat.le_of_ble_eq_true rfl⟩ hV hS hl.1 rfl rfl (Nat.le_of_ble_eq_true rfl) dX3_house_32 (fun q_2 H locs hV hS hz hq => ?_)
      exact m_iret hx hb hr hlocks (Option.some.inj hm) hV hS ⟨Nat.le_of_ble_eq_true rfl, Nat.le_of_ble_eq_true rfl⟩ dX3_house_35
    · have hm := (if_neg h_2).symm.trans hm
      refine lv_iconst (v := 0) hx hb dX3_house_26 (by decide) ?_
      refine lv_goto (tgt := 35) hx hb dX3_house_27 (by decide) ?_
      exact m_iret hx hb hr hlocks (Option.some.inj hm) hV hS ⟨Nat.le_of_ble_eq_true rfl, Nat.le_of_ble_eq_true rfl⟩ dX3_house_35
  · have hm := (if_pos h_1).symm.trans hm
    refine lv_iconst (v := 1) hx hb dX3_house_13 (by decide) ?_
    refine lv_goto (tgt := 18) hx hb dX3_house_14 (by decide) ?_
    refine lv_iconst (v := 0) hx hb dX3_house_18 (by decide) ?_
    refine lv_iconst (v := 0) hx hb dX3_house_19 (by decide) ?_
    obtain ⟨x_3, hx_3, hm⟩ := Option.bind_eq_some_iff.mp hm
    refine mc_V hC hGx hD (k_X3_fails l k b L hD (1 : Int32) (0 : Int32) (0 : Int32)  z hx_3) (gV w_1056 w_1057 w_18 w_27 w_1058) kk_X3_fails rfl (List.forall_mem_nil _) hLb ⟨Nat.le_of_ble_eq_true rfl, Nat.le_of_ble_eq_true rfl⟩ ⟨Nat.le_of_ble_eq_true rfl, Nat.le_of_ble_eq_true rfl⟩ hV hS hl.1 rfl rfl (Nat.le_of_ble_eq_true rfl) dX3_house_20 (fun q_3 H locs hV hS hz hq => ?_)
    refine lv_if_eq (tgt := 30) hx hb dX3_house_23 (by decide) (fun h_3 => ?_) (fun h_3 => ?_)
    · have hm := (if_pos h_3).symm.trans hm
      refine lv_aload_n hx hb dX3_house_30 rfl (lv_at hl 0 rfl) ?_
      refine lv_iload_n hx hb dX3_house_31 rfl (lv_at hl 1 rfl) ?_
      obtain ⟨x_4, hx_4, hm⟩ := Option.bind_eq_some_iff.mp hm
      refine mc_V hC hGx hD (k_X3_houseNow l k b L hD p0  x_3.2 hx_4) (gV w_1374 w_1375 w_24 w_27 w_1376) kk_X3_houseNow rfl (List.forall_mem_nil _) hLb ⟨Nat.le_of_ble_eq_true rfl, Nat.le_of_ble_eq_true rfl⟩ ⟨Nat.le_of_ble_eq_true rfl, Nat.le_of_ble_eq_true rfl⟩ hV hS hl.1 rfl rfl (Nat.le_of_ble_eq_true rfl) dX3_house_32 (fun q_4 H locs hV hS hz hq => ?_)
      exact m_iret hx hb hr hlocks (Option.some.inj hm) hV hS ⟨Nat.le_of_ble_eq_true rfl, Nat.le_of_ble_eq_true rfl⟩ dX3_house_35
    · have hm := (if_neg h_3).symm.trans hm
      refine lv_iconst (v := 0) hx hb dX3_house_26 (by decide) ?_
      refine lv_goto (tgt := 35) hx hb dX3_house_27 (by decide) ?_
      exact m_iret hx hb hr hlocks (Option.some.inj hm) hV hS ⟨Nat.le_of_ble_eq_true rfl, Nat.le_of_ble_eq_true rfl⟩ dX3_house_35
def o_X3_knock  (z : MS) : Option (Int32 × MS) := some ((z.2.2.2.2.2 + (1 : Int32)), ((0 : Int32), z.2.1, z.2.2.1, z.2.2.2.1, z.2.2.2.2.1, z.2.2.2.2.2 + (1 : Int32)))
theorem kk_X3_knock : pK yX3_knock wsX3_knock cX3_knock 1 (some .int) 0 := ⟨⟨_, rfl⟩, by decide +kernel, by decide +kernel, by decide +kernel⟩
set_option maxRecDepth 100000 in
set_option maxHeartbeats 4000000 in
theorem k_X3_knock (l : Launch) (k : Kx) (b : CA) (L : List Nat) (hD : mD k b L)  (z : MS) {r : (Int32 × MS)} (hm : o_X3_knock z = some r) : mM l k b L yX3_knock wsX3_knock 0 0 0 0 [] [] z (some (.int r.1)) r.2 := by
  intro sz q
  refine Met.ofW (cc := cX3_knock) (maxL := 1) (ret := (some .int)) (by decide) rfl ?_
  intro p e s m args below meth c s₁ B hml hv
  obtain ⟨rfl, rfl, hGx, hV, hLb, hds⟩ := hv
  have hx := B.exec
  have hb := B.bytes
  have hr := B.returns
  have hts := atoms_spec (ws := wsX3_knock) B.pre
  have hown : s.vm.findClass RX3 = some m.cls := findClass_of_methodNamed B.named
  have hlocks := B.notSynchronized
  have htg : ∀ w ∈ GL, w.before _ s = true := fun w h => hts w (List.mem_cons_of_mem _ h)
  have hC : CallFix p m c cX3_knock 1 s _ wsX3_knock RX3 := ⟨hx, hb, hml, hown, hts⟩
  have hA : ∀ q, s.heap.size ≤ q → cA b s.heap.size q := fun q h => cA.new q h
  have hAB : ∀ q, cA b s.heap.size q → kB k ≤ q := hD.high hGx.2.1
  have hS : mS b s.heap s.heap [] := mS.rf
  have hl := lv_entry ([.ref b.1]) (n := 1) (Nat.le_of_ble_eq_true rfl)
  rw [lg_entry_eq]
  generalize (lg_sl ([.ref b.1]) ++ List.replicate (1 - (lg_sl ([.ref b.1])).length) Slot.unset).toArray = ls at hl ⊢
  have hl : lv_has ls 1 [(0, .ref b.1)] := hl
  refine lv_aload_n hx hb dX3_knock_0 rfl (lv_at hl 0 rfl) ?_
  refine lv_iconst (v := 0) hx hb dX3_knock_1 (by decide) ?_
  have hs9 := hS.1.1
  refine m_put (z1 := ((0 : Int32), z.2.1, z.2.2.1, z.2.2.2.1, z.2.2.2.2.1, z.2.2.2.2.2)) 0 hx hb htg hown hGx hD hV hS (by decide) (htg _ w_1011) (by decide +kernel) rfl rfl dX3_knock_2 (fun H locs hV hS hz hq => ?_)
  refine lv_aload_n hx hb dX3_knock_5 rfl (lv_at hl 0 rfl) ?_
  refine lv_dup hx hb dX3_knock_6 rfl ?_
  refine va_get (D := kD k) (ci := 5) (v := .int z.2.2.2.2.2) (C := RX3) (T := TX3) (N := 5) hx hb htg inG_X3 hown hGx.1 hV.1 0 rfl rfl 4 (by decide) (htg _ w_1015) (fun _ h9 => h9) rfl dX3_knock_7 ?_
  refine lv_iconst (v := 1) hx hb dX3_knock_10 (by decide) ?_
  refine lv_iadd hx hb dX3_knock_11 ?_
  have hs9 := hS.1.1
  refine m_put (z1 := ((0 : Int32), z.2.1, z.2.2.1, z.2.2.2.1, z.2.2.2.2.1, z.2.2.2.2.2 + (1 : Int32))) 4 hx hb htg hown hGx hD hV hS (by decide) (htg _ w_1015) (by decide +kernel) rfl rfl dX3_knock_12 (fun H locs hV hS hz hq => ?_)
  refine lv_aload_n hx hb dX3_knock_15 rfl (lv_at hl 0 rfl) ?_
  refine va_get (D := kD k) (ci := 5) (v := .int (z.2.2.2.2.2 + (1 : Int32))) (C := RX3) (T := TX3) (N := 5) hx hb htg inG_X3 hown hGx.1 hV.1 0 rfl rfl 4 (by decide) (htg _ w_1015) (fun _ h9 => h9) rfl dX3_knock_16 ?_
  exact m_iret hx hb hr hlocks (Option.some.inj hm) hV hS ⟨Nat.le_of_ble_eq_true rfl, Nat.le_of_ble_eq_true rfl⟩ dX3_knock_19
def o_X3_isSound  (z : MS) : Option (Int32 × MS) := some ((1 : Int32), ((0 : Int32), z.2.1, z.2.2.1, z.2.2.2.1, z.2.2.2.2.1, z.2.2.2.2.2))
theorem kk_X3_isSound : pK yX3_isSound wsX3_isSound cX3_isSound 1 (some .boolean) 0 := ⟨⟨_, rfl⟩, by decide +kernel, by decide +kernel, by decide +kernel⟩
set_option maxRecDepth 100000 in
set_option maxHeartbeats 4000000 in
theorem k_X3_isSound (l : Launch) (k : Kx) (b : CA) (L : List Nat) (hD : mD k b L)  (z : MS) {r : (Int32 × MS)} (hm : o_X3_isSound z = some r) : mM l k b L yX3_isSound wsX3_isSound 0 0 0 0 [] [] z (some (.int r.1)) r.2 := by
  intro sz q
  refine Met.ofW (cc := cX3_isSound) (maxL := 1) (ret := (some .boolean)) (by decide) rfl ?_
  intro p e s m args below meth c s₁ B hml hv
  obtain ⟨rfl, rfl, hGx, hV, hLb, hds⟩ := hv
  have hx := B.exec
  have hb := B.bytes
  have hr := B.returns
  have hts := atoms_spec (ws := wsX3_isSound) B.pre
  have hown : s.vm.findClass RX3 = some m.cls := findClass_of_methodNamed B.named
  have hlocks := B.notSynchronized
  have htg : ∀ w ∈ GL, w.before _ s = true := fun w h => hts w (List.mem_cons_of_mem _ h)
  have hC : CallFix p m c cX3_isSound 1 s _ wsX3_isSound RX3 := ⟨hx, hb, hml, hown, hts⟩
  have hA : ∀ q, s.heap.size ≤ q → cA b s.heap.size q := fun q h => cA.new q h
  have hAB : ∀ q, cA b s.heap.size q → kB k ≤ q := hD.high hGx.2.1
  have hS : mS b s.heap s.heap [] := mS.rf
  have hl := lv_entry ([.ref b.1]) (n := 1) (Nat.le_of_ble_eq_true rfl)
  rw [lg_entry_eq]
  generalize (lg_sl ([.ref b.1]) ++ List.replicate (1 - (lg_sl ([.ref b.1])).length) Slot.unset).toArray = ls at hl ⊢
  have hl : lv_has ls 1 [(0, .ref b.1)] := hl
  refine lv_aload_n hx hb dX3_isSound_0 rfl (lv_at hl 0 rfl) ?_
  refine lv_iconst (v := 0) hx hb dX3_isSound_1 (by decide) ?_
  have hs9 := hS.1.1
  refine m_put (z1 := ((0 : Int32), z.2.1, z.2.2.1, z.2.2.2.1, z.2.2.2.2.1, z.2.2.2.2.2)) 0 hx hb htg hown hGx hD hV hS (by decide) (htg _ w_1011) (by decide +kernel) rfl rfl dX3_isSound_2 (fun H locs hV hS hz hq => ?_)
  refine lv_iconst (v := 1) hx hb dX3_isSound_5 (by decide) ?_
  exact m_zret hx hb hr hlocks rfl (Option.some.inj hm) hV hS ⟨Nat.le_of_ble_eq_true rfl, Nat.le_of_ble_eq_true rfl⟩ dX3_isSound_6
def o_X3_thrown  (z : MS) : Option (Int32 × MS) := some (z.1, z)
theorem kk_X3_thrown : pK yX3_thrown wsX3_thrown cX3_thrown 1 (some .int) 0 := ⟨⟨_, rfl⟩, by decide +kernel, by decide +kernel, by decide +kernel⟩
set_option maxRecDepth 100000 in
set_option maxHeartbeats 4000000 in
theorem k_X3_thrown (l : Launch) (k : Kx) (b : CA) (L : List Nat) (hD : mD k b L)  (z : MS) {r : (Int32 × MS)} (hm : o_X3_thrown z = some r) : mM l k b L yX3_thrown wsX3_thrown 0 0 0 0 [] [] z (some (.int r.1)) r.2 := by
  intro sz q
  refine Met.ofW (cc := cX3_thrown) (maxL := 1) (ret := (some .int)) (by decide) rfl ?_
  intro p e s m args below meth c s₁ B hml hv
  obtain ⟨rfl, rfl, hGx, hV, hLb, hds⟩ := hv
  have hx := B.exec
  have hb := B.bytes
  have hr := B.returns
  have hts := atoms_spec (ws := wsX3_thrown) B.pre
  have hown : s.vm.findClass RX3 = some m.cls := findClass_of_methodNamed B.named
  have hlocks := B.notSynchronized
  have htg : ∀ w ∈ GL, w.before _ s = true := fun w h => hts w (List.mem_cons_of_mem _ h)
  have hC : CallFix p m c cX3_thrown 1 s _ wsX3_thrown RX3 := ⟨hx, hb, hml, hown, hts⟩
  have hA : ∀ q, s.heap.size ≤ q → cA b s.heap.size q := fun q h => cA.new q h
  have hAB : ∀ q, cA b s.heap.size q → kB k ≤ q := hD.high hGx.2.1
  have hS : mS b s.heap s.heap [] := mS.rf
  have hl := lv_entry ([.ref b.1]) (n := 1) (Nat.le_of_ble_eq_true rfl)
  rw [lg_entry_eq]
  generalize (lg_sl ([.ref b.1]) ++ List.replicate (1 - (lg_sl ([.ref b.1])).length) Slot.unset).toArray = ls at hl ⊢
  have hl : lv_has ls 1 [(0, .ref b.1)] := hl
  refine lv_aload_n hx hb dX3_thrown_0 rfl (lv_at hl 0 rfl) ?_
  refine va_get (D := kD k) (ci := 5) (v := .int z.1) (C := RX3) (T := TX3) (N := 5) hx hb htg inG_X3 hown hGx.1 hV.1 0 rfl rfl 0 (by decide) (htg _ w_1011) (fun _ h9 => h9) rfl dX3_thrown_1 ?_
  exact m_iret hx hb hr hlocks (Option.some.inj hm) hV hS ⟨Nat.le_of_ble_eq_true rfl, Nat.le_of_ble_eq_true rfl⟩ dX3_thrown_4
