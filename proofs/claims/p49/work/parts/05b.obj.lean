def m_X0_until (p0 : Int32) (p1 : Int32) (p2 : Int32) (z : CS) : Nat × Int32 × CS := (if m_X0_requireSpan p0 = 0 then (if (m_X0_dateAt p1 z).1 = 0 then (if (m_X0_dateAt p2 z).1 = 0 then (if m_X0_requireNotAhead ((m_X0_dateAt p2 z).2) ((m_X0_dateAt p1 z).2) = 0 then (if (m_X0_giveSpan p0 ((m_X0_monthsUpTo ((m_X0_dateAt p1 z).2) ((m_X0_dateAt p2 z).2)) / (12 : Int32)) ((m_X0_monthsUpTo ((m_X0_dateAt p1 z).2) ((m_X0_dateAt p2 z).2)) - (m_X0_monthsUpTo ((m_X0_dateAt p1 z).2) ((m_X0_dateAt p2 z).2)) / (12 : Int32) * (12 : Int32)) (m_X0_daysBehindMonths ((m_X0_dateAt p1 z).2) ((m_X0_dateAt p2 z).2)) z).1 = 0 then (0, m_X0_daysBehindMonths ((m_X0_dateAt p1 z).2) ((m_X0_dateAt p2 z).2), (m_X0_giveSpan p0 ((m_X0_monthsUpTo ((m_X0_dateAt p1 z).2) ((m_X0_dateAt p2 z).2)) / (12 : Int32)) ((m_X0_monthsUpTo ((m_X0_dateAt p1 z).2) ((m_X0_dateAt p2 z).2)) - (m_X0_monthsUpTo ((m_X0_dateAt p1 z).2) ((m_X0_dateAt p2 z).2)) / (12 : Int32) * (12 : Int32)) (m_X0_daysBehindMonths ((m_X0_dateAt p1 z).2) ((m_X0_dateAt p2 z).2)) z).2) else ((m_X0_giveSpan p0 ((m_X0_monthsUpTo ((m_X0_dateAt p1 z).2) ((m_X0_dateAt p2 z).2)) / (12 : Int32)) ((m_X0_monthsUpTo ((m_X0_dateAt p1 z).2) ((m_X0_dateAt p2 z).2)) - (m_X0_monthsUpTo ((m_X0_dateAt p1 z).2) ((m_X0_dateAt p2 z).2)) / (12 : Int32) * (12 : Int32)) (m_X0_daysBehindMonths ((m_X0_dateAt p1 z).2) ((m_X0_dateAt p2 z).2)) z).1, 0, (m_X0_giveSpan p0 ((m_X0_monthsUpTo ((m_X0_dateAt p1 z).2) ((m_X0_dateAt p2 z).2)) / (12 : Int32)) ((m_X0_monthsUpTo ((m_X0_dateAt p1 z).2) ((m_X0_dateAt p2 z).2)) - (m_X0_monthsUpTo ((m_X0_dateAt p1 z).2) ((m_X0_dateAt p2 z).2)) / (12 : Int32) * (12 : Int32)) (m_X0_daysBehindMonths ((m_X0_dateAt p1 z).2) ((m_X0_dateAt p2 z).2)) z).2)) else ((m_X0_requireNotAhead ((m_X0_dateAt p2 z).2) ((m_X0_dateAt p1 z).2)), 0, z)) else ((m_X0_dateAt p2 z).1, 0, z)) else ((m_X0_dateAt p1 z).1, 0, z)) else ((m_X0_requireSpan p0), 0, z))
theorem kk_X0_until : pK yX0_until wsX0_until cX0_until 10 (some .int) 3 := ⟨⟨_, rfl⟩, by decide +kernel, by decide +kernel, by decide +kernel⟩
set_option maxRecDepth 100000 in
set_option maxHeartbeats 4000000 in
theorem c_X0_until (l : Launch) (hl9 : l.stackTraces = false) (k : Kx) (a : CA) (hD : cD k a) (p0 : Int32) (p1 : Int32) (p2 : Int32) (z : CS) : cM l k a yX0_until wsX0_until 9 188 5 30 [.int p0, .int p1, .int p2] z (some (.int (m_X0_until p0 p1 p2 z).2.1)) (m_X0_until p0 p1 p2 z).1 (m_X0_until p0 p1 p2 z).2.2 := by
  intro sz
  refine vx_ofW (cc := cX0_until) (maxL := 10) (ret := (some .int)) (by decide) rfl ?_
  intro p e s m args below meth c s₁ B hml hEx hv
  obtain ⟨rfl, rfl, hGx, hP⟩ := hv
  have hx := B.exec
  have hb := B.bytes
  have hr := B.returns
  have hts := atoms_spec (ws := wsX0_until) B.pre
  have hown : s.vm.findClass RX0 = some m.cls := findClass_of_methodNamed B.named
  have hlocks := B.notSynchronized
  have htg : ∀ w ∈ GL, w.before _ s = true := fun w h => hts w (List.mem_cons_of_mem _ h)
  have hC : CallFix p m c cX0_until 10 s _ wsX0_until RX0 := ⟨hx, hb, hml, hown, hts⟩
  have hS : va_S (cA a s.heap.size) s.heap s.heap [] := va_S.rf
  have hl := lv_entry ([.ref a.1, .int p0, .int p1, .int p2]) (n := 10) (Nat.le_of_ble_eq_true rfl)
  rw [lg_entry_eq]
  generalize (lg_sl ([.ref a.1, .int p0, .int p1, .int p2]) ++ List.replicate (10 - (lg_sl ([.ref a.1, .int p0, .int p1, .int p2])).length) Slot.unset).toArray = ls at hl ⊢
  have hl : lv_has ls 10 [(0, .ref a.1), (1, .int p0), (2, .int p1), (3, .int p2)] := hl
  have hm : m_X0_until p0 p1 p2 z = m_X0_until p0 p1 p2 z := rfl
  refine lv_iload_n hx hb dX0_until_0 rfl (lv_at hl 1 rfl) ?_
  refine ct_S hC hGx hD hEx hlocks (t_X0_requireSpan l hl9 k p0) (gS w_85 w_86 w_26 w_87) kk_X0_requireSpan ⟨Nat.le_of_ble_eq_true rfl, Nat.le_of_ble_eq_true rfl⟩ ⟨Nat.le_of_ble_eq_true rfl, Nat.le_of_ble_eq_true rfl⟩ ⟨Nat.le_of_ble_eq_true rfl, Nat.le_of_ble_eq_true rfl⟩ hP hS hl.1 rfl rfl (Nat.le_of_ble_eq_true rfl) dX0_until_1 (fun h_1 => by have hm : m_X0_until p0 p1 p2 z = ((m_X0_requireSpan p0), 0, z) := hm.trans (if_neg h_1); exact ⟨by rw [hm], by rw [hm]⟩) (fun h_1 => ?_)
  have hm := hm.trans (if_pos h_1)
  refine lv_aload_n hx hb dX0_until_4 rfl (lv_at hl 0 rfl) ?_
  refine lv_iload_n hx hb dX0_until_5 rfl (lv_at hl 2 rfl) ?_
  refine cc_V hC hGx hD hEx hlocks (c_X0_dateAt l hl9 k a hD p1 z) (gV w_153 w_154 w_8 w_26 w_155) kk_X0_dateAt rfl ⟨Nat.le_of_ble_eq_true rfl, Nat.le_of_ble_eq_true rfl⟩ ⟨Nat.le_of_ble_eq_true rfl, Nat.le_of_ble_eq_true rfl⟩ ⟨Nat.le_of_ble_eq_true rfl, Nat.le_of_ble_eq_true rfl⟩ hP hS hl.1 rfl rfl (Nat.le_of_ble_eq_true rfl) dX0_until_6 (fun h_2 => ?_) (fun h_2 H locs hP hS => ?_)
  · have hm : m_X0_until p0 p1 p2 z = ((m_X0_dateAt p1 z).1, 0, z) := hm.trans (if_neg h_2)
    exact ⟨by rw [hm], by rw [hm]⟩
  · have hm := hm.trans (if_pos h_2)
    refine lv_lstore (lv' := [(4, .long ((m_X0_dateAt p1 z).2)), (0, .ref a.1), (1, .int p0), (2, .int p1), (3, .int p2)]) hx hb dX0_until_9 hl (by decide) rfl (fun ls hl => ?_)
    refine lv_aload_n hx hb dX0_until_11 rfl (lv_at hl 1 rfl) ?_
    refine lv_iload_n hx hb dX0_until_12 rfl (lv_at hl 4 rfl) ?_
    refine cc_V hC hGx hD hEx hlocks (c_X0_dateAt l hl9 k a hD p2 z) (gV w_153 w_154 w_8 w_26 w_155) kk_X0_dateAt rfl ⟨Nat.le_of_ble_eq_true rfl, Nat.le_of_ble_eq_true rfl⟩ ⟨Nat.le_of_ble_eq_true rfl, Nat.le_of_ble_eq_true rfl⟩ ⟨Nat.le_of_ble_eq_true rfl, Nat.le_of_ble_eq_true rfl⟩ hP hS hl.1 rfl rfl (Nat.le_of_ble_eq_true rfl) dX0_until_13 (fun h_3 => ?_) (fun h_3 H locs hP hS => ?_)
    · have hm : m_X0_until p0 p1 p2 z = ((m_X0_dateAt p2 z).1, 0, z) := hm.trans (if_neg h_3)
      exact ⟨by rw [hm], by rw [hm]⟩
    · have hm := hm.trans (if_pos h_3)
      refine lv_lstore (lv' := [(6, .long ((m_X0_dateAt p2 z).2)), (4, .long ((m_X0_dateAt p1 z).2)), (0, .ref a.1), (1, .int p0), (2, .int p1), (3, .int p2)]) hx hb dX0_until_16 hl (by decide) rfl (fun ls hl => ?_)
      refine lv_lload hx hb dX0_until_18 (lv_at hl 0 rfl) ?_
      refine lv_lload hx hb dX0_until_20 (lv_at hl 1 rfl) ?_
      refine ct_S hC hGx hD hEx hlocks (t_X0_requireNotAhead l hl9 k ((m_X0_dateAt p2 z).2) ((m_X0_dateAt p1 z).2)) (gS w_835 w_836 w_26 w_837) kk_X0_requireNotAhead ⟨Nat.le_of_ble_eq_true rfl, Nat.le_of_ble_eq_true rfl⟩ ⟨Nat.le_of_ble_eq_true rfl, Nat.le_of_ble_eq_true rfl⟩ ⟨Nat.le_of_ble_eq_true rfl, Nat.le_of_ble_eq_true rfl⟩ hP hS hl.1 rfl rfl (Nat.le_of_ble_eq_true rfl) dX0_until_22 (fun h_4 => by have hm : m_X0_until p0 p1 p2 z = ((m_X0_requireNotAhead ((m_X0_dateAt p2 z).2) ((m_X0_dateAt p1 z).2)), 0, z) := hm.trans (if_neg h_4); exact ⟨by rw [hm], by rw [hm]⟩) (fun h_4 => ?_)
      have hm := hm.trans (if_pos h_4)
      refine lv_lload hx hb dX0_until_25 (lv_at hl 1 rfl) ?_
      refine lv_lload hx hb dX0_until_27 (lv_at hl 0 rfl) ?_
      refine pc_S hC (c_X0_monthsUpTo l ((m_X0_dateAt p1 z).2) ((m_X0_dateAt p2 z).2)) (gS w_221 w_222 w_26 w_223) kk_X0_monthsUpTo ⟨Nat.le_of_ble_eq_true rfl, Nat.le_of_ble_eq_true rfl⟩ ⟨Nat.le_of_ble_eq_true rfl, Nat.le_of_ble_eq_true rfl⟩ hl.1 rfl rfl (Nat.le_of_ble_eq_true rfl) dX0_until_29 ?_
      refine lv_istore (lv' := [(8, .int (m_X0_monthsUpTo ((m_X0_dateAt p1 z).2) ((m_X0_dateAt p2 z).2))), (6, .long ((m_X0_dateAt p2 z).2)), (4, .long ((m_X0_dateAt p1 z).2)), (0, .ref a.1), (1, .int p0), (2, .int p1), (3, .int p2)]) hx hb dX0_until_32 hl (by decide) rfl (fun ls hl => ?_)
      refine lv_lload hx hb dX0_until_34 (lv_at hl 2 rfl) ?_
      refine lv_lload hx hb dX0_until_36 (lv_at hl 1 rfl) ?_
      refine pc_S hC (c_X0_daysBehindMonths l ((m_X0_dateAt p1 z).2) ((m_X0_dateAt p2 z).2)) (gS w_231 w_232 w_26 w_233) kk_X0_daysBehindMonths ⟨Nat.le_of_ble_eq_true rfl, Nat.le_of_ble_eq_true rfl⟩ ⟨Nat.le_of_ble_eq_true rfl, Nat.le_of_ble_eq_true rfl⟩ hl.1 rfl rfl (Nat.le_of_ble_eq_true rfl) dX0_until_38 ?_
      refine lv_istore (lv' := [(9, .int (m_X0_daysBehindMonths ((m_X0_dateAt p1 z).2) ((m_X0_dateAt p2 z).2))), (8, .int (m_X0_monthsUpTo ((m_X0_dateAt p1 z).2) ((m_X0_dateAt p2 z).2))), (6, .long ((m_X0_dateAt p2 z).2)), (4, .long ((m_X0_dateAt p1 z).2)), (0, .ref a.1), (1, .int p0), (2, .int p1), (3, .int p2)]) hx hb dX0_until_41 hl (by decide) rfl (fun ls hl => ?_)
      refine lv_aload_n hx hb dX0_until_43 rfl (lv_at hl 4 rfl) ?_
      refine lv_iload_n hx hb dX0_until_44 rfl (lv_at hl 5 rfl) ?_
      refine lv_iload hx hb dX0_until_45 (lv_at hl 1 rfl) ?_
      refine lv_bipush (v := 12) hx hb dX0_until_47 (by decide) ?_
      refine lv_idiv hx hb dX0_until_49 (by decide) ?_
      refine lv_iload hx hb dX0_until_50 (lv_at hl 1 rfl) ?_
      refine lv_bipush (v := 12) hx hb dX0_until_52 (by decide) ?_
      refine lv_irem hx hb dX0_until_54 (by decide) ?_
      refine lv_iload hx hb dX0_until_55 (lv_at hl 0 rfl) ?_
      refine cc_V hC hGx hD hEx hlocks (c_X0_giveSpan l hl9 k a hD p0 ((m_X0_monthsUpTo ((m_X0_dateAt p1 z).2) ((m_X0_dateAt p2 z).2)) / (12 : Int32)) ((m_X0_monthsUpTo ((m_X0_dateAt p1 z).2) ((m_X0_dateAt p2 z).2)) - (m_X0_monthsUpTo ((m_X0_dateAt p1 z).2) ((m_X0_dateAt p2 z).2)) / (12 : Int32) * (12 : Int32)) (m_X0_daysBehindMonths ((m_X0_dateAt p1 z).2) ((m_X0_dateAt p2 z).2)) z) (gV w_822 w_823 w_16 w_26 w_824) kk_X0_giveSpan rfl ⟨Nat.le_of_ble_eq_true rfl, Nat.le_of_ble_eq_true rfl⟩ ⟨Nat.le_of_ble_eq_true rfl, Nat.le_of_ble_eq_true rfl⟩ ⟨Nat.le_of_ble_eq_true rfl, Nat.le_of_ble_eq_true rfl⟩ hP hS hl.1 rfl rfl (Nat.le_of_ble_eq_true rfl) dX0_until_57 (fun h_5 => ?_) (fun h_5 H locs hP hS => ?_)
      · have hm : m_X0_until p0 p1 p2 z = ((m_X0_giveSpan p0 ((m_X0_monthsUpTo ((m_X0_dateAt p1 z).2) ((m_X0_dateAt p2 z).2)) / (12 : Int32)) ((m_X0_monthsUpTo ((m_X0_dateAt p1 z).2) ((m_X0_dateAt p2 z).2)) - (m_X0_monthsUpTo ((m_X0_dateAt p1 z).2) ((m_X0_dateAt p2 z).2)) / (12 : Int32) * (12 : Int32)) (m_X0_daysBehindMonths ((m_X0_dateAt p1 z).2) ((m_X0_dateAt p2 z).2)) z).1, 0, (m_X0_giveSpan p0 ((m_X0_monthsUpTo ((m_X0_dateAt p1 z).2) ((m_X0_dateAt p2 z).2)) / (12 : Int32)) ((m_X0_monthsUpTo ((m_X0_dateAt p1 z).2) ((m_X0_dateAt p2 z).2)) - (m_X0_monthsUpTo ((m_X0_dateAt p1 z).2) ((m_X0_dateAt p2 z).2)) / (12 : Int32) * (12 : Int32)) (m_X0_daysBehindMonths ((m_X0_dateAt p1 z).2) ((m_X0_dateAt p2 z).2)) z).2) := hm.trans (if_neg h_5)
        exact ⟨by rw [hm], by rw [hm]⟩
      · have hm := hm.trans (if_pos h_5)
        refine lv_iload hx hb dX0_until_60 (lv_at hl 0 rfl) ?_
        have hm : m_X0_until p0 p1 p2 z = (0, m_X0_daysBehindMonths ((m_X0_dateAt p1 z).2) ((m_X0_dateAt p2 z).2), (m_X0_giveSpan p0 ((m_X0_monthsUpTo ((m_X0_dateAt p1 z).2) ((m_X0_dateAt p2 z).2)) / (12 : Int32)) ((m_X0_monthsUpTo ((m_X0_dateAt p1 z).2) ((m_X0_dateAt p2 z).2)) - (m_X0_monthsUpTo ((m_X0_dateAt p1 z).2) ((m_X0_dateAt p2 z).2)) / (12 : Int32) * (12 : Int32)) (m_X0_daysBehindMonths ((m_X0_dateAt p1 z).2) ((m_X0_dateAt p2 z).2)) z).2) := hm
        exact c_iret (E := m_X0_daysBehindMonths ((m_X0_dateAt p1 z).2) ((m_X0_dateAt p2 z).2)) hx hb hr hlocks (by rw [hm]) (by rw [hm]) (by rw [hm]) hP hS ⟨Nat.le_of_ble_eq_true rfl, Nat.le_of_ble_eq_true rfl⟩ dX0_until_62
def m_X0_addSpan (p0 : Int32) (p1 : Int32) (z : CS) : Nat × Int32 × CS := (if m_X0_requireSpan p0 = 0 then (if m_X0_requireSpan p1 = 0 then (if m_X0_requireSpanHolds ((z.2.1 p0.toNatClampNeg) + (z.2.1 p1.toNatClampNeg)) = 0 then (if m_X0_requireSpanHolds ((z.2.2.1 p0.toNatClampNeg) + (z.2.2.1 p1.toNatClampNeg)) = 0 then (if m_X0_requireSpanHolds ((z.2.2.2.1 p0.toNatClampNeg) + (z.2.2.2.1 p1.toNatClampNeg)) = 0 then (if (m_X0_giveSpan p0 ((z.2.1 p0.toNatClampNeg) + (z.2.1 p1.toNatClampNeg)) ((z.2.2.1 p0.toNatClampNeg) + (z.2.2.1 p1.toNatClampNeg)) ((z.2.2.2.1 p0.toNatClampNeg) + (z.2.2.2.1 p1.toNatClampNeg)) z).1 = 0 then (0, (z.2.2.2.1 p0.toNatClampNeg) + (z.2.2.2.1 p1.toNatClampNeg), (m_X0_giveSpan p0 ((z.2.1 p0.toNatClampNeg) + (z.2.1 p1.toNatClampNeg)) ((z.2.2.1 p0.toNatClampNeg) + (z.2.2.1 p1.toNatClampNeg)) ((z.2.2.2.1 p0.toNatClampNeg) + (z.2.2.2.1 p1.toNatClampNeg)) z).2) else ((m_X0_giveSpan p0 ((z.2.1 p0.toNatClampNeg) + (z.2.1 p1.toNatClampNeg)) ((z.2.2.1 p0.toNatClampNeg) + (z.2.2.1 p1.toNatClampNeg)) ((z.2.2.2.1 p0.toNatClampNeg) + (z.2.2.2.1 p1.toNatClampNeg)) z).1, 0, (m_X0_giveSpan p0 ((z.2.1 p0.toNatClampNeg) + (z.2.1 p1.toNatClampNeg)) ((z.2.2.1 p0.toNatClampNeg) + (z.2.2.1 p1.toNatClampNeg)) ((z.2.2.2.1 p0.toNatClampNeg) + (z.2.2.2.1 p1.toNatClampNeg)) z).2)) else ((m_X0_requireSpanHolds ((z.2.2.2.1 p0.toNatClampNeg) + (z.2.2.2.1 p1.toNatClampNeg))), 0, z)) else ((m_X0_requireSpanHolds ((z.2.2.1 p0.toNatClampNeg) + (z.2.2.1 p1.toNatClampNeg))), 0, z)) else ((m_X0_requireSpanHolds ((z.2.1 p0.toNatClampNeg) + (z.2.1 p1.toNatClampNeg))), 0, z)) else ((m_X0_requireSpan p1), 0, z)) else ((m_X0_requireSpan p0), 0, z))
theorem kk_X0_addSpan : pK yX0_addSpan wsX0_addSpan cX0_addSpan 6 (some .int) 2 := ⟨⟨_, rfl⟩, by decide +kernel, by decide +kernel, by decide +kernel⟩
set_option maxRecDepth 100000 in
set_option maxHeartbeats 4000000 in
theorem c_X0_addSpan (l : Launch) (hl9 : l.stackTraces = false) (k : Kx) (a : CA) (hD : cD k a) (p0 : Int32) (p1 : Int32) (z : CS) : cM l k a yX0_addSpan wsX0_addSpan 9 188 6 36 [.int p0, .int p1] z (some (.int (m_X0_addSpan p0 p1 z).2.1)) (m_X0_addSpan p0 p1 z).1 (m_X0_addSpan p0 p1 z).2.2 := by
  intro sz
  refine vx_ofW (cc := cX0_addSpan) (maxL := 6) (ret := (some .int)) (by decide) rfl ?_
  intro p e s m args below meth c s₁ B hml hEx hv
  obtain ⟨rfl, rfl, hGx, hP⟩ := hv
  have hx := B.exec
  have hb := B.bytes
  have hr := B.returns
  have hts := atoms_spec (ws := wsX0_addSpan) B.pre
  have hown : s.vm.findClass RX0 = some m.cls := findClass_of_methodNamed B.named
  have hlocks := B.notSynchronized
  have htg : ∀ w ∈ GL, w.before _ s = true := fun w h => hts w (List.mem_cons_of_mem _ h)
  have hC : CallFix p m c cX0_addSpan 6 s _ wsX0_addSpan RX0 := ⟨hx, hb, hml, hown, hts⟩
  have hS : va_S (cA a s.heap.size) s.heap s.heap [] := va_S.rf
  have hl := lv_entry ([.ref a.1, .int p0, .int p1]) (n := 6) (Nat.le_of_ble_eq_true rfl)
  rw [lg_entry_eq]
  generalize (lg_sl ([.ref a.1, .int p0, .int p1]) ++ List.replicate (6 - (lg_sl ([.ref a.1, .int p0, .int p1])).length) Slot.unset).toArray = ls at hl ⊢
  have hl : lv_has ls 6 [(0, .ref a.1), (1, .int p0), (2, .int p1)] := hl
  have hm : m_X0_addSpan p0 p1 z = m_X0_addSpan p0 p1 z := rfl
  refine lv_iload_n hx hb dX0_addSpan_0 rfl (lv_at hl 1 rfl) ?_
  refine ct_S hC hGx hD hEx hlocks (t_X0_requireSpan l hl9 k p0) (gS w_85 w_86 w_26 w_87) kk_X0_requireSpan ⟨Nat.le_of_ble_eq_true rfl, Nat.le_of_ble_eq_true rfl⟩ ⟨Nat.le_of_ble_eq_true rfl, Nat.le_of_ble_eq_true rfl⟩ ⟨Nat.le_of_ble_eq_true rfl, Nat.le_of_ble_eq_true rfl⟩ hP hS hl.1 rfl rfl (Nat.le_of_ble_eq_true rfl) dX0_addSpan_1 (fun h_1 => by have hm : m_X0_addSpan p0 p1 z = ((m_X0_requireSpan p0), 0, z) := hm.trans (if_neg h_1); exact ⟨by rw [hm], by rw [hm]⟩) (fun h_1 => ?_)
  have hm := hm.trans (if_pos h_1)
  refine lv_iload_n hx hb dX0_addSpan_4 rfl (lv_at hl 2 rfl) ?_
  refine ct_S hC hGx hD hEx hlocks (t_X0_requireSpan l hl9 k p1) (gS w_85 w_86 w_26 w_87) kk_X0_requireSpan ⟨Nat.le_of_ble_eq_true rfl, Nat.le_of_ble_eq_true rfl⟩ ⟨Nat.le_of_ble_eq_true rfl, Nat.le_of_ble_eq_true rfl⟩ ⟨Nat.le_of_ble_eq_true rfl, Nat.le_of_ble_eq_true rfl⟩ hP hS hl.1 rfl rfl (Nat.le_of_ble_eq_true rfl) dX0_addSpan_5 (fun h_2 => by have hm : m_X0_addSpan p0 p1 z = ((m_X0_requireSpan p1), 0, z) := hm.trans (if_neg h_2); exact ⟨by rw [hm], by rw [hm]⟩) (fun h_2 => ?_)
  have hm := hm.trans (if_pos h_2)
  refine lv_aload_n hx hb dX0_addSpan_8 rfl (lv_at hl 0 rfl) ?_
  refine va_get (D := kD k) (ci := 2) (v := .ref a.2.2.1) (C := RX0) (T := TX0) (N := 6) hx hb htg inG_X0 hown hGx.1 hP 0 rfl rfl 1 (by decide) (htg _ w_58) (fun _ h9 => h9) rfl dX0_addSpan_9 ?_
  refine lv_iload_n hx hb dX0_addSpan_12 rfl (lv_at hl 1 rfl) ?_
  refine va_iald (D := kD k) hx hb hGx.1 hP 2 1 rfl rfl (span_in h_1) dX0_addSpan_13 ?_
  refine lv_aload_n hx hb dX0_addSpan_14 rfl (lv_at hl 0 rfl) ?_
  refine va_get (D := kD k) (ci := 2) (v := .ref a.2.2.1) (C := RX0) (T := TX0) (N := 6) hx hb htg inG_X0 hown hGx.1 hP 0 rfl rfl 1 (by decide) (htg _ w_58) (fun _ h9 => h9) rfl dX0_addSpan_15 ?_
  refine lv_iload_n hx hb dX0_addSpan_18 rfl (lv_at hl 2 rfl) ?_
  refine va_iald (D := kD k) hx hb hGx.1 hP 2 1 rfl rfl (span_in h_2) dX0_addSpan_19 ?_
  refine lv_iadd hx hb dX0_addSpan_20 ?_
  refine lv_istore_n (lv' := [(3, .int ((z.2.1 p0.toNatClampNeg) + (z.2.1 p1.toNatClampNeg))), (0, .ref a.1), (1, .int p0), (2, .int p1)]) hx hb dX0_addSpan_21 rfl hl (by decide) rfl (fun ls hl => ?_)
  refine lv_aload_n hx hb dX0_addSpan_22 rfl (lv_at hl 1 rfl) ?_
  refine va_get (D := kD k) (ci := 2) (v := .ref a.2.2.2.1) (C := RX0) (T := TX0) (N := 6) hx hb htg inG_X0 hown hGx.1 hP 0 rfl rfl 2 (by decide) (htg _ w_59) (fun _ h9 => h9) rfl dX0_addSpan_23 ?_
  refine lv_iload_n hx hb dX0_addSpan_26 rfl (lv_at hl 2 rfl) ?_
  refine va_iald (D := kD k) hx hb hGx.1 hP 3 1 rfl rfl (span_in h_1) dX0_addSpan_27 ?_
  refine lv_aload_n hx hb dX0_addSpan_28 rfl (lv_at hl 1 rfl) ?_
  refine va_get (D := kD k) (ci := 2) (v := .ref a.2.2.2.1) (C := RX0) (T := TX0) (N := 6) hx hb htg inG_X0 hown hGx.1 hP 0 rfl rfl 2 (by decide) (htg _ w_59) (fun _ h9 => h9) rfl dX0_addSpan_29 ?_
  refine lv_iload_n hx hb dX0_addSpan_32 rfl (lv_at hl 3 rfl) ?_
  refine va_iald (D := kD k) hx hb hGx.1 hP 3 1 rfl rfl (span_in h_2) dX0_addSpan_33 ?_
  refine lv_iadd hx hb dX0_addSpan_34 ?_
  refine lv_istore (lv' := [(4, .int ((z.2.2.1 p0.toNatClampNeg) + (z.2.2.1 p1.toNatClampNeg))), (3, .int ((z.2.1 p0.toNatClampNeg) + (z.2.1 p1.toNatClampNeg))), (0, .ref a.1), (1, .int p0), (2, .int p1)]) hx hb dX0_addSpan_35 hl (by decide) rfl (fun ls hl => ?_)
  refine lv_aload_n hx hb dX0_addSpan_37 rfl (lv_at hl 2 rfl) ?_
  refine va_get (D := kD k) (ci := 2) (v := .ref a.2.2.2.2) (C := RX0) (T := TX0) (N := 6) hx hb htg inG_X0 hown hGx.1 hP 0 rfl rfl 3 (by decide) (htg _ w_60) (fun _ h9 => h9) rfl dX0_addSpan_38 ?_
  refine lv_iload_n hx hb dX0_addSpan_41 rfl (lv_at hl 3 rfl) ?_
  refine va_iald (D := kD k) hx hb hGx.1 hP 4 1 rfl rfl (span_in h_1) dX0_addSpan_42 ?_
  refine lv_aload_n hx hb dX0_addSpan_43 rfl (lv_at hl 2 rfl) ?_
  refine va_get (D := kD k) (ci := 2) (v := .ref a.2.2.2.2) (C := RX0) (T := TX0) (N := 6) hx hb htg inG_X0 hown hGx.1 hP 0 rfl rfl 3 (by decide) (htg _ w_60) (fun _ h9 => h9) rfl dX0_addSpan_44 ?_
  refine lv_iload_n hx hb dX0_addSpan_47 rfl (lv_at hl 4 rfl) ?_
  refine va_iald (D := kD k) hx hb hGx.1 hP 4 1 rfl rfl (span_in h_2) dX0_addSpan_48 ?_
  refine lv_iadd hx hb dX0_addSpan_49 ?_
  refine lv_istore (lv' := [(5, .int ((z.2.2.2.1 p0.toNatClampNeg) + (z.2.2.2.1 p1.toNatClampNeg))), (4, .int ((z.2.2.1 p0.toNatClampNeg) + (z.2.2.1 p1.toNatClampNeg))), (3, .int ((z.2.1 p0.toNatClampNeg) + (z.2.1 p1.toNatClampNeg))), (0, .ref a.1), (1, .int p0), (2, .int p1)]) hx hb dX0_addSpan_50 hl (by decide) rfl (fun ls hl => ?_)
  refine lv_iload_n hx hb dX0_addSpan_52 rfl (lv_at hl 2 rfl) ?_
  refine ct_S hC hGx hD hEx hlocks (t_X0_requireSpanHolds l hl9 k ((z.2.1 p0.toNatClampNeg) + (z.2.1 p1.toNatClampNeg))) (gS w_845 w_846 w_26 w_847) kk_X0_requireSpanHolds ⟨Nat.le_of_ble_eq_true rfl, Nat.le_of_ble_eq_true rfl⟩ ⟨Nat.le_of_ble_eq_true rfl, Nat.le_of_ble_eq_true rfl⟩ ⟨Nat.le_of_ble_eq_true rfl, Nat.le_of_ble_eq_true rfl⟩ hP hS hl.1 rfl rfl (Nat.le_of_ble_eq_true rfl) dX0_addSpan_53 (fun h_3 => by have hm : m_X0_addSpan p0 p1 z = ((m_X0_requireSpanHolds ((z.2.1 p0.toNatClampNeg) + (z.2.1 p1.toNatClampNeg))), 0, z) := hm.trans (if_neg h_3); exact ⟨by rw [hm], by rw [hm]⟩) (fun h_3 => ?_)
  have hm := hm.trans (if_pos h_3)
  refine lv_iload hx hb dX0_addSpan_56 (lv_at hl 1 rfl) ?_
  refine ct_S hC hGx hD hEx hlocks (t_X0_requireSpanHolds l hl9 k ((z.2.2.1 p0.toNatClampNeg) + (z.2.2.1 p1.toNatClampNeg))) (gS w_845 w_846 w_26 w_847) kk_X0_requireSpanHolds ⟨Nat.le_of_ble_eq_true rfl, Nat.le_of_ble_eq_true rfl⟩ ⟨Nat.le_of_ble_eq_true rfl, Nat.le_of_ble_eq_true rfl⟩ ⟨Nat.le_of_ble_eq_true rfl, Nat.le_of_ble_eq_true rfl⟩ hP hS hl.1 rfl rfl (Nat.le_of_ble_eq_true rfl) dX0_addSpan_58 (fun h_4 => by have hm : m_X0_addSpan p0 p1 z = ((m_X0_requireSpanHolds ((z.2.2.1 p0.toNatClampNeg) + (z.2.2.1 p1.toNatClampNeg))), 0, z) := hm.trans (if_neg h_4); exact ⟨by rw [hm], by rw [hm]⟩) (fun h_4 => ?_)
  have hm := hm.trans (if_pos h_4)
  refine lv_iload hx hb dX0_addSpan_61 (lv_at hl 0 rfl) ?_
  refine ct_S hC hGx hD hEx hlocks (t_X0_requireSpanHolds l hl9 k ((z.2.2.2.1 p0.toNatClampNeg) + (z.2.2.2.1 p1.toNatClampNeg))) (gS w_845 w_846 w_26 w_847) kk_X0_requireSpanHolds ⟨Nat.le_of_ble_eq_true rfl, Nat.le_of_ble_eq_true rfl⟩ ⟨Nat.le_of_ble_eq_true rfl, Nat.le_of_ble_eq_true rfl⟩ ⟨Nat.le_of_ble_eq_true rfl, Nat.le_of_ble_eq_true rfl⟩ hP hS hl.1 rfl rfl (Nat.le_of_ble_eq_true rfl) dX0_addSpan_63 (fun h_5 => by have hm : m_X0_addSpan p0 p1 z = ((m_X0_requireSpanHolds ((z.2.2.2.1 p0.toNatClampNeg) + (z.2.2.2.1 p1.toNatClampNeg))), 0, z) := hm.trans (if_neg h_5); exact ⟨by rw [hm], by rw [hm]⟩) (fun h_5 => ?_)
  have hm := hm.trans (if_pos h_5)
  refine lv_aload_n hx hb dX0_addSpan_66 rfl (lv_at hl 3 rfl) ?_
  refine lv_iload_n hx hb dX0_addSpan_67 rfl (lv_at hl 4 rfl) ?_
  refine lv_iload_n hx hb dX0_addSpan_68 rfl (lv_at hl 2 rfl) ?_
  refine lv_iload hx hb dX0_addSpan_69 (lv_at hl 1 rfl) ?_
  refine lv_iload hx hb dX0_addSpan_71 (lv_at hl 0 rfl) ?_
  refine cc_V hC hGx hD hEx hlocks (c_X0_giveSpan l hl9 k a hD p0 ((z.2.1 p0.toNatClampNeg) + (z.2.1 p1.toNatClampNeg)) ((z.2.2.1 p0.toNatClampNeg) + (z.2.2.1 p1.toNatClampNeg)) ((z.2.2.2.1 p0.toNatClampNeg) + (z.2.2.2.1 p1.toNatClampNeg)) z) (gV w_822 w_823 w_16 w_26 w_824) kk_X0_giveSpan rfl ⟨Nat.le_of_ble_eq_true rfl, Nat.le_of_ble_eq_true rfl⟩ ⟨Nat.le_of_ble_eq_true rfl, Nat.le_of_ble_eq_true rfl⟩ ⟨Nat.le_of_ble_eq_true rfl, Nat.le_of_ble_eq_true rfl⟩ hP hS hl.1 rfl rfl (Nat.le_of_ble_eq_true rfl) dX0_addSpan_73 (fun h_6 => ?_) (fun h_6 H locs hP hS => ?_)
  · have hm : m_X0_addSpan p0 p1 z = ((m_X0_giveSpan p0 ((z.2.1 p0.toNatClampNeg) + (z.2.1 p1.toNatClampNeg)) ((z.2.2.1 p0.toNatClampNeg) + (z.2.2.1 p1.toNatClampNeg)) ((z.2.2.2.1 p0.toNatClampNeg) + (z.2.2.2.1 p1.toNatClampNeg)) z).1, 0, (m_X0_giveSpan p0 ((z.2.1 p0.toNatClampNeg) + (z.2.1 p1.toNatClampNeg)) ((z.2.2.1 p0.toNatClampNeg) + (z.2.2.1 p1.toNatClampNeg)) ((z.2.2.2.1 p0.toNatClampNeg) + (z.2.2.2.1 p1.toNatClampNeg)) z).2) := hm.trans (if_neg h_6)
    exact ⟨by rw [hm], by rw [hm]⟩
  · have hm := hm.trans (if_pos h_6)
    refine lv_iload hx hb dX0_addSpan_76 (lv_at hl 0 rfl) ?_
    have hm : m_X0_addSpan p0 p1 z = (0, (z.2.2.2.1 p0.toNatClampNeg) + (z.2.2.2.1 p1.toNatClampNeg), (m_X0_giveSpan p0 ((z.2.1 p0.toNatClampNeg) + (z.2.1 p1.toNatClampNeg)) ((z.2.2.1 p0.toNatClampNeg) + (z.2.2.1 p1.toNatClampNeg)) ((z.2.2.2.1 p0.toNatClampNeg) + (z.2.2.2.1 p1.toNatClampNeg)) z).2) := hm
    exact c_iret (E := (z.2.2.2.1 p0.toNatClampNeg) + (z.2.2.2.1 p1.toNatClampNeg)) hx hb hr hlocks (by rw [hm]) (by rw [hm]) (by rw [hm]) hP hS ⟨Nat.le_of_ble_eq_true rfl, Nat.le_of_ble_eq_true rfl⟩ dX0_addSpan_78
def m_X0_ofSpan (p0 : Int32) (p1 : Int32) (z : CS) : Nat × Int32 := (if m_X0_requireSpan p0 = 0 then (if m_X0_requireWithin p1 (0 : Int32) (2 : Int32) = 0 then (if p1 = 0 then (0, z.2.1 p0.toNatClampNeg) else (if p1 = 1 then (0, z.2.2.1 p0.toNatClampNeg) else (0, z.2.2.2.1 p0.toNatClampNeg))) else ((m_X0_requireWithin p1 (0 : Int32) (2 : Int32)), 0)) else ((m_X0_requireSpan p0), 0))
theorem kk_X0_ofSpan : pK yX0_ofSpan wsX0_ofSpan cX0_ofSpan 3 (some .int) 2 := ⟨⟨_, rfl⟩, by decide +kernel, by decide +kernel, by decide +kernel⟩
set_option maxRecDepth 100000 in
set_option maxHeartbeats 4000000 in
theorem c_X0_ofSpan (l : Launch) (hl9 : l.stackTraces = false) (k : Kx) (a : CA) (hD : cD k a) (p0 : Int32) (p1 : Int32) (z : CS) : cM l k a yX0_ofSpan wsX0_ofSpan 7 142 2 12 [.int p0, .int p1] z (some (.int (m_X0_ofSpan p0 p1 z).2)) (m_X0_ofSpan p0 p1 z).1 z := by
  intro sz
  refine vx_ofW (cc := cX0_ofSpan) (maxL := 3) (ret := (some .int)) (by decide) rfl ?_
  intro p e s m args below meth c s₁ B hml hEx hv
  obtain ⟨rfl, rfl, hGx, hP⟩ := hv
  have hx := B.exec
  have hb := B.bytes
  have hr := B.returns
  have hts := atoms_spec (ws := wsX0_ofSpan) B.pre
  have hown : s.vm.findClass RX0 = some m.cls := findClass_of_methodNamed B.named
  have hlocks := B.notSynchronized
  have htg : ∀ w ∈ GL, w.before _ s = true := fun w h => hts w (List.mem_cons_of_mem _ h)
  have hC : CallFix p m c cX0_ofSpan 3 s _ wsX0_ofSpan RX0 := ⟨hx, hb, hml, hown, hts⟩
  have hS : va_S (cA a s.heap.size) s.heap s.heap [] := va_S.rf
  have hl := lv_entry ([.ref a.1, .int p0, .int p1]) (n := 3) (Nat.le_of_ble_eq_true rfl)
  rw [lg_entry_eq]
  generalize (lg_sl ([.ref a.1, .int p0, .int p1]) ++ List.replicate (3 - (lg_sl ([.ref a.1, .int p0, .int p1])).length) Slot.unset).toArray = ls at hl ⊢
  have hl : lv_has ls 3 [(0, .ref a.1), (1, .int p0), (2, .int p1)] := hl
  have hm : m_X0_ofSpan p0 p1 z = m_X0_ofSpan p0 p1 z := rfl
  refine lv_iload_n hx hb dX0_ofSpan_0 rfl (lv_at hl 1 rfl) ?_
  refine ct_S hC hGx hD hEx hlocks (t_X0_requireSpan l hl9 k p0) (gS w_85 w_86 w_26 w_87) kk_X0_requireSpan ⟨Nat.le_of_ble_eq_true rfl, Nat.le_of_ble_eq_true rfl⟩ ⟨Nat.le_of_ble_eq_true rfl, Nat.le_of_ble_eq_true rfl⟩ ⟨Nat.le_of_ble_eq_true rfl, Nat.le_of_ble_eq_true rfl⟩ hP hS hl.1 rfl rfl (Nat.le_of_ble_eq_true rfl) dX0_ofSpan_1 (fun h_1 => by have hm : m_X0_ofSpan p0 p1 z = ((m_X0_requireSpan p0), 0) := hm.trans (if_neg h_1); exact ⟨by rw [hm], rfl⟩) (fun h_1 => ?_)
  have hm := hm.trans (if_pos h_1)
  refine lv_iload_n hx hb dX0_ofSpan_4 rfl (lv_at hl 2 rfl) ?_
  refine lv_iconst (v := 0) hx hb dX0_ofSpan_5 (by decide) ?_
  refine lv_iconst (v := 2) hx hb dX0_ofSpan_6 (by decide) ?_
  refine ct_S hC hGx hD hEx hlocks (t_X0_requireWithin l hl9 k p1 (0 : Int32) (2 : Int32)) (gS w_295 w_296 w_26 w_297) kk_X0_requireWithin ⟨Nat.le_of_ble_eq_true rfl, Nat.le_of_ble_eq_true rfl⟩ ⟨Nat.le_of_ble_eq_true rfl, Nat.le_of_ble_eq_true rfl⟩ ⟨Nat.le_of_ble_eq_true rfl, Nat.le_of_ble_eq_true rfl⟩ hP hS hl.1 rfl rfl (Nat.le_of_ble_eq_true rfl) dX0_ofSpan_7 (fun h_2 => by have hm : m_X0_ofSpan p0 p1 z = ((m_X0_requireWithin p1 (0 : Int32) (2 : Int32)), 0) := hm.trans (if_neg h_2); exact ⟨by rw [hm], rfl⟩) (fun h_2 => ?_)
  have hm := hm.trans (if_pos h_2)
  refine lv_iload_n hx hb dX0_ofSpan_10 rfl (lv_at hl 2 rfl) ?_
  by_cases h_3 : p1 = 0
  · have hm := hm.trans (if_pos h_3)
    refine lv_lookup (off := 25) (tgt := 36) hx hb dX0_ofSpan_11 (by decide) (by rw [h_3]; rfl) (by decide) ?_
    refine lv_aload_n hx hb dX0_ofSpan_36 rfl (lv_at hl 0 rfl) ?_
    refine va_get (D := kD k) (ci := 2) (v := .ref a.2.2.1) (C := RX0) (T := TX0) (N := 6) hx hb htg inG_X0 hown hGx.1 hP 0 rfl rfl 1 (by decide) (htg _ w_58) (fun _ h9 => h9) rfl dX0_ofSpan_37 ?_
    refine lv_iload_n hx hb dX0_ofSpan_40 rfl (lv_at hl 1 rfl) ?_
    refine va_iald (D := kD k) hx hb hGx.1 hP 2 1 rfl rfl (span_in h_1) dX0_ofSpan_41 ?_
    have hm : m_X0_ofSpan p0 p1 z = (0, z.2.1 p0.toNatClampNeg) := hm
    exact c_iret (E := z.2.1 p0.toNatClampNeg) hx hb hr hlocks (by rw [hm]) (by rw [hm]) rfl hP hS ⟨Nat.le_of_ble_eq_true rfl, Nat.le_of_ble_eq_true rfl⟩ dX0_ofSpan_42
  · have hm := hm.trans (if_neg h_3)
    by_cases h_4 : p1 = 1
    · have hm := hm.trans (if_pos h_4)
      refine lv_lookup (off := 32) (tgt := 43) hx hb dX0_ofSpan_11 (by decide) (by rw [h_4]; rfl) (by decide) ?_
      refine lv_aload_n hx hb dX0_ofSpan_43 rfl (lv_at hl 0 rfl) ?_
      refine va_get (D := kD k) (ci := 2) (v := .ref a.2.2.2.1) (C := RX0) (T := TX0) (N := 6) hx hb htg inG_X0 hown hGx.1 hP 0 rfl rfl 2 (by decide) (htg _ w_59) (fun _ h9 => h9) rfl dX0_ofSpan_44 ?_
      refine lv_iload_n hx hb dX0_ofSpan_47 rfl (lv_at hl 1 rfl) ?_
      refine va_iald (D := kD k) hx hb hGx.1 hP 3 1 rfl rfl (span_in h_1) dX0_ofSpan_48 ?_
      have hm : m_X0_ofSpan p0 p1 z = (0, z.2.2.1 p0.toNatClampNeg) := hm
      exact c_iret (E := z.2.2.1 p0.toNatClampNeg) hx hb hr hlocks (by rw [hm]) (by rw [hm]) rfl hP hS ⟨Nat.le_of_ble_eq_true rfl, Nat.le_of_ble_eq_true rfl⟩ dX0_ofSpan_49
    · have hm := hm.trans (if_neg h_4)
      refine lv_lookup (off := 39) (tgt := 50) hx hb dX0_ofSpan_11 (by decide) (by show (if (0 : Int) = (p1).toInt then _ else if (1 : Int) = (p1).toInt then _ else _) = _; exact (if_neg (fun q => h_3 (Int32.toInt_inj.mp (q.symm.trans (by decide))))).trans (if_neg (fun q => h_4 (Int32.toInt_inj.mp (q.symm.trans (by decide)))))) (by decide) ?_
      refine lv_aload_n hx hb dX0_ofSpan_50 rfl (lv_at hl 0 rfl) ?_
      refine va_get (D := kD k) (ci := 2) (v := .ref a.2.2.2.2) (C := RX0) (T := TX0) (N := 6) hx hb htg inG_X0 hown hGx.1 hP 0 rfl rfl 3 (by decide) (htg _ w_60) (fun _ h9 => h9) rfl dX0_ofSpan_51 ?_
      refine lv_iload_n hx hb dX0_ofSpan_54 rfl (lv_at hl 1 rfl) ?_
      refine va_iald (D := kD k) hx hb hGx.1 hP 4 1 rfl rfl (span_in h_1) dX0_ofSpan_55 ?_
      have hm : m_X0_ofSpan p0 p1 z = (0, z.2.2.2.1 p0.toNatClampNeg) := hm
      exact c_iret (E := z.2.2.2.1 p0.toNatClampNeg) hx hb hr hlocks (by rw [hm]) (by rw [hm]) rfl hP hS ⟨Nat.le_of_ble_eq_true rfl, Nat.le_of_ble_eq_true rfl⟩ dX0_ofSpan_56
def m_X0_plusSpan (p0 : Int32) (p1 : Int32) (z : CS) : Nat × Int32 × CS := (if (m_X0_dateAt p0 z).1 = 0 then (if m_X0_requireSpan p1 = 0 then (if (m_X0_monthsOfSpan p1 z).1 = 0 then (if (m_X0_give p0 (m_X0_daysLater (m_X0_monthsLater ((m_X0_dateAt p0 z).2) (((m_X0_monthsOfSpan p1 z).2).toInt64)) ((z.2.2.2.1 p1.toNatClampNeg).toInt64)) z).1 = 0 then (0, (m_X0_give p0 (m_X0_daysLater (m_X0_monthsLater ((m_X0_dateAt p0 z).2) (((m_X0_monthsOfSpan p1 z).2).toInt64)) ((z.2.2.2.1 p1.toNatClampNeg).toInt64)) z).2.1, (m_X0_give p0 (m_X0_daysLater (m_X0_monthsLater ((m_X0_dateAt p0 z).2) (((m_X0_monthsOfSpan p1 z).2).toInt64)) ((z.2.2.2.1 p1.toNatClampNeg).toInt64)) z).2.2) else ((m_X0_give p0 (m_X0_daysLater (m_X0_monthsLater ((m_X0_dateAt p0 z).2) (((m_X0_monthsOfSpan p1 z).2).toInt64)) ((z.2.2.2.1 p1.toNatClampNeg).toInt64)) z).1, 0, (m_X0_give p0 (m_X0_daysLater (m_X0_monthsLater ((m_X0_dateAt p0 z).2) (((m_X0_monthsOfSpan p1 z).2).toInt64)) ((z.2.2.2.1 p1.toNatClampNeg).toInt64)) z).2.2)) else ((m_X0_monthsOfSpan p1 z).1, 0, z)) else ((m_X0_requireSpan p1), 0, z)) else ((m_X0_dateAt p0 z).1, 0, z))
theorem kk_X0_plusSpan : pK yX0_plusSpan wsX0_plusSpan cX0_plusSpan 5 (some .int) 2 := ⟨⟨_, rfl⟩, by decide +kernel, by decide +kernel, by decide +kernel⟩
set_option maxRecDepth 100000 in
set_option maxHeartbeats 4000000 in
theorem c_X0_plusSpan (l : Launch) (hl9 : l.stackTraces = false) (k : Kx) (a : CA) (hD : cD k a) (p0 : Int32) (p1 : Int32) (z : CS) : cM l k a yX0_plusSpan wsX0_plusSpan 9 186 5 30 [.int p0, .int p1] z (some (.int (m_X0_plusSpan p0 p1 z).2.1)) (m_X0_plusSpan p0 p1 z).1 (m_X0_plusSpan p0 p1 z).2.2 := by
  intro sz
  refine vx_ofW (cc := cX0_plusSpan) (maxL := 5) (ret := (some .int)) (by decide) rfl ?_
  intro p e s m args below meth c s₁ B hml hEx hv
  obtain ⟨rfl, rfl, hGx, hP⟩ := hv
  have hx := B.exec
  have hb := B.bytes
  have hr := B.returns
  have hts := atoms_spec (ws := wsX0_plusSpan) B.pre
  have hown : s.vm.findClass RX0 = some m.cls := findClass_of_methodNamed B.named
  have hlocks := B.notSynchronized
  have htg : ∀ w ∈ GL, w.before _ s = true := fun w h => hts w (List.mem_cons_of_mem _ h)
  have hC : CallFix p m c cX0_plusSpan 5 s _ wsX0_plusSpan RX0 := ⟨hx, hb, hml, hown, hts⟩
  have hS : va_S (cA a s.heap.size) s.heap s.heap [] := va_S.rf
  have hl := lv_entry ([.ref a.1, .int p0, .int p1]) (n := 5) (Nat.le_of_ble_eq_true rfl)
  rw [lg_entry_eq]
  generalize (lg_sl ([.ref a.1, .int p0, .int p1]) ++ List.replicate (5 - (lg_sl ([.ref a.1, .int p0, .int p1])).length) Slot.unset).toArray = ls at hl ⊢
  have hl : lv_has ls 5 [(0, .ref a.1), (1, .int p0), (2, .int p1)] := hl
  have hm : m_X0_plusSpan p0 p1 z = m_X0_plusSpan p0 p1 z := rfl
  refine lv_aload_n hx hb dX0_plusSpan_0 rfl (lv_at hl 0 rfl) ?_
  refine lv_iload_n hx hb dX0_plusSpan_1 rfl (lv_at hl 1 rfl) ?_
  refine cc_V hC hGx hD hEx hlocks (c_X0_dateAt l hl9 k a hD p0 z) (gV w_153 w_154 w_8 w_26 w_155) kk_X0_dateAt rfl ⟨Nat.le_of_ble_eq_true rfl, Nat.le_of_ble_eq_true rfl⟩ ⟨Nat.le_of_ble_eq_true rfl, Nat.le_of_ble_eq_true rfl⟩ ⟨Nat.le_of_ble_eq_true rfl, Nat.le_of_ble_eq_true rfl⟩ hP hS hl.1 rfl rfl (Nat.le_of_ble_eq_true rfl) dX0_plusSpan_2 (fun h_1 => ?_) (fun h_1 H locs hP hS => ?_)
  · have hm : m_X0_plusSpan p0 p1 z = ((m_X0_dateAt p0 z).1, 0, z) := hm.trans (if_neg h_1)
    exact ⟨by rw [hm], by rw [hm]⟩
  · have hm := hm.trans (if_pos h_1)
    refine lv_lstore_n (lv' := [(3, .long ((m_X0_dateAt p0 z).2)), (0, .ref a.1), (1, .int p0), (2, .int p1)]) hx hb dX0_plusSpan_5 rfl hl (by decide) rfl (fun ls hl => ?_)
    refine lv_iload_n hx hb dX0_plusSpan_6 rfl (lv_at hl 3 rfl) ?_
    refine ct_S hC hGx hD hEx hlocks (t_X0_requireSpan l hl9 k p1) (gS w_85 w_86 w_26 w_87) kk_X0_requireSpan ⟨Nat.le_of_ble_eq_true rfl, Nat.le_of_ble_eq_true rfl⟩ ⟨Nat.le_of_ble_eq_true rfl, Nat.le_of_ble_eq_true rfl⟩ ⟨Nat.le_of_ble_eq_true rfl, Nat.le_of_ble_eq_true rfl⟩ hP hS hl.1 rfl rfl (Nat.le_of_ble_eq_true rfl) dX0_plusSpan_7 (fun h_2 => by have hm : m_X0_plusSpan p0 p1 z = ((m_X0_requireSpan p1), 0, z) := hm.trans (if_neg h_2); exact ⟨by rw [hm], by rw [hm]⟩) (fun h_2 => ?_)
    have hm := hm.trans (if_pos h_2)
    refine lv_aload_n hx hb dX0_plusSpan_10 rfl (lv_at hl 1 rfl) ?_
    refine lv_iload_n hx hb dX0_plusSpan_11 rfl (lv_at hl 2 rfl) ?_
    refine lv_lload_n hx hb dX0_plusSpan_12 rfl (lv_at hl 0 rfl) ?_
    refine lv_aload_n hx hb dX0_plusSpan_13 rfl (lv_at hl 1 rfl) ?_
    refine lv_iload_n hx hb dX0_plusSpan_14 rfl (lv_at hl 3 rfl) ?_
    refine cc_V hC hGx hD hEx hlocks (c_X0_monthsOfSpan l hl9 k a hD p1 z) (gV w_825 w_826 w_17 w_26 w_827) kk_X0_monthsOfSpan rfl ⟨Nat.le_of_ble_eq_true rfl, Nat.le_of_ble_eq_true rfl⟩ ⟨Nat.le_of_ble_eq_true rfl, Nat.le_of_ble_eq_true rfl⟩ ⟨Nat.le_of_ble_eq_true rfl, Nat.le_of_ble_eq_true rfl⟩ hP hS hl.1 rfl rfl (Nat.le_of_ble_eq_true rfl) dX0_plusSpan_15 (fun h_3 => ?_) (fun h_3 H locs hP hS => ?_)
    · have hm : m_X0_plusSpan p0 p1 z = ((m_X0_monthsOfSpan p1 z).1, 0, z) := hm.trans (if_neg h_3)
      exact ⟨by rw [hm], by rw [hm]⟩
    · have hm := hm.trans (if_pos h_3)
      refine lv_i2l hx hb dX0_plusSpan_18 rfl ?_
      refine pc_S hC (c_X0_monthsLater l ((m_X0_dateAt p0 z).2) (((m_X0_monthsOfSpan p1 z).2).toInt64)) (gS w_224 w_225 w_26 w_226) kk_X0_monthsLater ⟨Nat.le_of_ble_eq_true rfl, Nat.le_of_ble_eq_true rfl⟩ ⟨Nat.le_of_ble_eq_true rfl, Nat.le_of_ble_eq_true rfl⟩ hl.1 rfl rfl (Nat.le_of_ble_eq_true rfl) dX0_plusSpan_19 ?_
      refine lv_aload_n hx hb dX0_plusSpan_22 rfl (lv_at hl 1 rfl) ?_
      refine va_get (D := kD k) (ci := 2) (v := .ref a.2.2.2.2) (C := RX0) (T := TX0) (N := 6) hx hb htg inG_X0 hown hGx.1 hP 0 rfl rfl 3 (by decide) (htg _ w_60) (fun _ h9 => h9) rfl dX0_plusSpan_23 ?_
      refine lv_iload_n hx hb dX0_plusSpan_26 rfl (lv_at hl 3 rfl) ?_
      refine va_iald (D := kD k) hx hb hGx.1 hP 4 1 rfl rfl (span_in h_2) dX0_plusSpan_27 ?_
      refine lv_i2l hx hb dX0_plusSpan_28 rfl ?_
      refine pc_S hC (c_X0_daysLater l (m_X0_monthsLater ((m_X0_dateAt p0 z).2) (((m_X0_monthsOfSpan p1 z).2).toInt64)) ((z.2.2.2.1 p1.toNatClampNeg).toInt64)) (gS w_162 w_163 w_26 w_164) kk_X0_daysLater ⟨Nat.le_of_ble_eq_true rfl, Nat.le_of_ble_eq_true rfl⟩ ⟨Nat.le_of_ble_eq_true rfl, Nat.le_of_ble_eq_true rfl⟩ hl.1 rfl rfl (Nat.le_of_ble_eq_true rfl) dX0_plusSpan_29 ?_
      refine cc_V hC hGx hD hEx hlocks (c_X0_give l hl9 k a hD p0 (m_X0_daysLater (m_X0_monthsLater ((m_X0_dateAt p0 z).2) (((m_X0_monthsOfSpan p1 z).2).toInt64)) ((z.2.2.2.1 p1.toNatClampNeg).toInt64)) z) (gV w_649 w_650 w_12 w_26 w_651) kk_X0_give rfl ⟨Nat.le_of_ble_eq_true rfl, Nat.le_of_ble_eq_true rfl⟩ ⟨Nat.le_of_ble_eq_true rfl, Nat.le_of_ble_eq_true rfl⟩ ⟨Nat.le_of_ble_eq_true rfl, Nat.le_of_ble_eq_true rfl⟩ hP hS hl.1 rfl rfl (Nat.le_of_ble_eq_true rfl) dX0_plusSpan_32 (fun h_4 => ?_) (fun h_4 H locs hP hS => ?_)
      · have hm : m_X0_plusSpan p0 p1 z = ((m_X0_give p0 (m_X0_daysLater (m_X0_monthsLater ((m_X0_dateAt p0 z).2) (((m_X0_monthsOfSpan p1 z).2).toInt64)) ((z.2.2.2.1 p1.toNatClampNeg).toInt64)) z).1, 0, (m_X0_give p0 (m_X0_daysLater (m_X0_monthsLater ((m_X0_dateAt p0 z).2) (((m_X0_monthsOfSpan p1 z).2).toInt64)) ((z.2.2.2.1 p1.toNatClampNeg).toInt64)) z).2.2) := hm.trans (if_neg h_4)
        exact ⟨by rw [hm], by rw [hm]⟩
      · have hm := hm.trans (if_pos h_4)
        have hm : m_X0_plusSpan p0 p1 z = (0, (m_X0_give p0 (m_X0_daysLater (m_X0_monthsLater ((m_X0_dateAt p0 z).2) (((m_X0_monthsOfSpan p1 z).2).toInt64)) ((z.2.2.2.1 p1.toNatClampNeg).toInt64)) z).2.1, (m_X0_give p0 (m_X0_daysLater (m_X0_monthsLater ((m_X0_dateAt p0 z).2) (((m_X0_monthsOfSpan p1 z).2).toInt64)) ((z.2.2.2.1 p1.toNatClampNeg).toInt64)) z).2.2) := hm
        exact c_iret (E := (m_X0_give p0 (m_X0_daysLater (m_X0_monthsLater ((m_X0_dateAt p0 z).2) (((m_X0_monthsOfSpan p1 z).2).toInt64)) ((z.2.2.2.1 p1.toNatClampNeg).toInt64)) z).2.1) hx hb hr hlocks (by rw [hm]) (by rw [hm]) (by rw [hm]) hP hS ⟨Nat.le_of_ble_eq_true rfl, Nat.le_of_ble_eq_true rfl⟩ dX0_plusSpan_35
def m_X0_minusSpan (p0 : Int32) (p1 : Int32) (z : CS) : Nat × Int32 × CS := (if (m_X0_dateAt p0 z).1 = 0 then (if m_X0_requireSpan p1 = 0 then (if (m_X0_monthsOfSpan p1 z).1 = 0 then (if (m_X0_give p0 (m_X0_daysLater (m_X0_monthsLater ((m_X0_dateAt p0 z).2) ((-((m_X0_monthsOfSpan p1 z).2)).toInt64)) ((-(z.2.2.2.1 p1.toNatClampNeg)).toInt64)) z).1 = 0 then (0, (m_X0_give p0 (m_X0_daysLater (m_X0_monthsLater ((m_X0_dateAt p0 z).2) ((-((m_X0_monthsOfSpan p1 z).2)).toInt64)) ((-(z.2.2.2.1 p1.toNatClampNeg)).toInt64)) z).2.1, (m_X0_give p0 (m_X0_daysLater (m_X0_monthsLater ((m_X0_dateAt p0 z).2) ((-((m_X0_monthsOfSpan p1 z).2)).toInt64)) ((-(z.2.2.2.1 p1.toNatClampNeg)).toInt64)) z).2.2) else ((m_X0_give p0 (m_X0_daysLater (m_X0_monthsLater ((m_X0_dateAt p0 z).2) ((-((m_X0_monthsOfSpan p1 z).2)).toInt64)) ((-(z.2.2.2.1 p1.toNatClampNeg)).toInt64)) z).1, 0, (m_X0_give p0 (m_X0_daysLater (m_X0_monthsLater ((m_X0_dateAt p0 z).2) ((-((m_X0_monthsOfSpan p1 z).2)).toInt64)) ((-(z.2.2.2.1 p1.toNatClampNeg)).toInt64)) z).2.2)) else ((m_X0_monthsOfSpan p1 z).1, 0, z)) else ((m_X0_requireSpan p1), 0, z)) else ((m_X0_dateAt p0 z).1, 0, z))
theorem kk_X0_minusSpan : pK yX0_minusSpan wsX0_minusSpan cX0_minusSpan 5 (some .int) 2 := ⟨⟨_, rfl⟩, by decide +kernel, by decide +kernel, by decide +kernel⟩
set_option maxRecDepth 100000 in
set_option maxHeartbeats 4000000 in
theorem c_X0_minusSpan (l : Launch) (hl9 : l.stackTraces = false) (k : Kx) (a : CA) (hD : cD k a) (p0 : Int32) (p1 : Int32) (z : CS) : cM l k a yX0_minusSpan wsX0_minusSpan 9 186 5 30 [.int p0, .int p1] z (some (.int (m_X0_minusSpan p0 p1 z).2.1)) (m_X0_minusSpan p0 p1 z).1 (m_X0_minusSpan p0 p1 z).2.2 := by
  intro sz
  refine vx_ofW (cc := cX0_minusSpan) (maxL := 5) (ret := (some .int)) (by decide) rfl ?_
  intro p e s m args below meth c s₁ B hml hEx hv
  obtain ⟨rfl, rfl, hGx, hP⟩ := hv
  have hx := B.exec
  have hb := B.bytes
  have hr := B.returns
  have hts := atoms_spec (ws := wsX0_minusSpan) B.pre
  have hown : s.vm.findClass RX0 = some m.cls := findClass_of_methodNamed B.named
  have hlocks := B.notSynchronized
  have htg : ∀ w ∈ GL, w.before _ s = true := fun w h => hts w (List.mem_cons_of_mem _ h)
  have hC : CallFix p m c cX0_minusSpan 5 s _ wsX0_minusSpan RX0 := ⟨hx, hb, hml, hown, hts⟩
  have hS : va_S (cA a s.heap.size) s.heap s.heap [] := va_S.rf
  have hl := lv_entry ([.ref a.1, .int p0, .int p1]) (n := 5) (Nat.le_of_ble_eq_true rfl)
  rw [lg_entry_eq]
  generalize (lg_sl ([.ref a.1, .int p0, .int p1]) ++ List.replicate (5 - (lg_sl ([.ref a.1, .int p0, .int p1])).length) Slot.unset).toArray = ls at hl ⊢
  have hl : lv_has ls 5 [(0, .ref a.1), (1, .int p0), (2, .int p1)] := hl
  have hm : m_X0_minusSpan p0 p1 z = m_X0_minusSpan p0 p1 z := rfl
  refine lv_aload_n hx hb dX0_minusSpan_0 rfl (lv_at hl 0 rfl) ?_
  refine lv_iload_n hx hb dX0_minusSpan_1 rfl (lv_at hl 1 rfl) ?_
  refine cc_V hC hGx hD hEx hlocks (c_X0_dateAt l hl9 k a hD p0 z) (gV w_153 w_154 w_8 w_26 w_155) kk_X0_dateAt rfl ⟨Nat.le_of_ble_eq_true rfl, Nat.le_of_ble_eq_true rfl⟩ ⟨Nat.le_of_ble_eq_true rfl, Nat.le_of_ble_eq_true rfl⟩ ⟨Nat.le_of_ble_eq_true rfl, Nat.le_of_ble_eq_true rfl⟩ hP hS hl.1 rfl rfl (Nat.le_of_ble_eq_true rfl) dX0_minusSpan_2 (fun h_1 => ?_) (fun h_1 H locs hP hS => ?_)
  · have hm : m_X0_minusSpan p0 p1 z = ((m_X0_dateAt p0 z).1, 0, z) := hm.trans (if_neg h_1)
    exact ⟨by rw [hm], by rw [hm]⟩
  · have hm := hm.trans (if_pos h_1)
    refine lv_lstore_n (lv' := [(3, .long ((m_X0_dateAt p0 z).2)), (0, .ref a.1), (1, .int p0), (2, .int p1)]) hx hb dX0_minusSpan_5 rfl hl (by decide) rfl (fun ls hl => ?_)
    refine lv_iload_n hx hb dX0_minusSpan_6 rfl (lv_at hl 3 rfl) ?_
    refine ct_S hC hGx hD hEx hlocks (t_X0_requireSpan l hl9 k p1) (gS w_85 w_86 w_26 w_87) kk_X0_requireSpan ⟨Nat.le_of_ble_eq_true rfl, Nat.le_of_ble_eq_true rfl⟩ ⟨Nat.le_of_ble_eq_true rfl, Nat.le_of_ble_eq_true rfl⟩ ⟨Nat.le_of_ble_eq_true rfl, Nat.le_of_ble_eq_true rfl⟩ hP hS hl.1 rfl rfl (Nat.le_of_ble_eq_true rfl) dX0_minusSpan_7 (fun h_2 => by have hm : m_X0_minusSpan p0 p1 z = ((m_X0_requireSpan p1), 0, z) := hm.trans (if_neg h_2); exact ⟨by rw [hm], by rw [hm]⟩) (fun h_2 => ?_)
    have hm := hm.trans (if_pos h_2)
    refine lv_aload_n hx hb dX0_minusSpan_10 rfl (lv_at hl 1 rfl) ?_
    refine lv_iload_n hx hb dX0_minusSpan_11 rfl (lv_at hl 2 rfl) ?_
    refine lv_lload_n hx hb dX0_minusSpan_12 rfl (lv_at hl 0 rfl) ?_
    refine lv_aload_n hx hb dX0_minusSpan_13 rfl (lv_at hl 1 rfl) ?_
    refine lv_iload_n hx hb dX0_minusSpan_14 rfl (lv_at hl 3 rfl) ?_
    refine cc_V hC hGx hD hEx hlocks (c_X0_monthsOfSpan l hl9 k a hD p1 z) (gV w_825 w_826 w_17 w_26 w_827) kk_X0_monthsOfSpan rfl ⟨Nat.le_of_ble_eq_true rfl, Nat.le_of_ble_eq_true rfl⟩ ⟨Nat.le_of_ble_eq_true rfl, Nat.le_of_ble_eq_true rfl⟩ ⟨Nat.le_of_ble_eq_true rfl, Nat.le_of_ble_eq_true rfl⟩ hP hS hl.1 rfl rfl (Nat.le_of_ble_eq_true rfl) dX0_minusSpan_15 (fun h_3 => ?_) (fun h_3 H locs hP hS => ?_)
    · have hm : m_X0_minusSpan p0 p1 z = ((m_X0_monthsOfSpan p1 z).1, 0, z) := hm.trans (if_neg h_3)
      exact ⟨by rw [hm], by rw [hm]⟩
    · have hm := hm.trans (if_pos h_3)
      refine lv_ineg hx hb dX0_minusSpan_18 ?_
      refine lv_i2l hx hb dX0_minusSpan_19 rfl ?_
      refine pc_S hC (c_X0_monthsLater l ((m_X0_dateAt p0 z).2) ((-((m_X0_monthsOfSpan p1 z).2)).toInt64)) (gS w_224 w_225 w_26 w_226) kk_X0_monthsLater ⟨Nat.le_of_ble_eq_true rfl, Nat.le_of_ble_eq_true rfl⟩ ⟨Nat.le_of_ble_eq_true rfl, Nat.le_of_ble_eq_true rfl⟩ hl.1 rfl rfl (Nat.le_of_ble_eq_true rfl) dX0_minusSpan_20 ?_
      refine lv_aload_n hx hb dX0_minusSpan_23 rfl (lv_at hl 1 rfl) ?_
      refine va_get (D := kD k) (ci := 2) (v := .ref a.2.2.2.2) (C := RX0) (T := TX0) (N := 6) hx hb htg inG_X0 hown hGx.1 hP 0 rfl rfl 3 (by decide) (htg _ w_60) (fun _ h9 => h9) rfl dX0_minusSpan_24 ?_
      refine lv_iload_n hx hb dX0_minusSpan_27 rfl (lv_at hl 3 rfl) ?_
      refine va_iald (D := kD k) hx hb hGx.1 hP 4 1 rfl rfl (span_in h_2) dX0_minusSpan_28 ?_
      refine lv_ineg hx hb dX0_minusSpan_29 ?_
      refine lv_i2l hx hb dX0_minusSpan_30 rfl ?_
      refine pc_S hC (c_X0_daysLater l (m_X0_monthsLater ((m_X0_dateAt p0 z).2) ((-((m_X0_monthsOfSpan p1 z).2)).toInt64)) ((-(z.2.2.2.1 p1.toNatClampNeg)).toInt64)) (gS w_162 w_163 w_26 w_164) kk_X0_daysLater ⟨Nat.le_of_ble_eq_true rfl, Nat.le_of_ble_eq_true rfl⟩ ⟨Nat.le_of_ble_eq_true rfl, Nat.le_of_ble_eq_true rfl⟩ hl.1 rfl rfl (Nat.le_of_ble_eq_true rfl) dX0_minusSpan_31 ?_
      refine cc_V hC hGx hD hEx hlocks (c_X0_give l hl9 k a hD p0 (m_X0_daysLater (m_X0_monthsLater ((m_X0_dateAt p0 z).2) ((-((m_X0_monthsOfSpan p1 z).2)).toInt64)) ((-(z.2.2.2.1 p1.toNatClampNeg)).toInt64)) z) (gV w_649 w_650 w_12 w_26 w_651) kk_X0_give rfl ⟨Nat.le_of_ble_eq_true rfl, Nat.le_of_ble_eq_true rfl⟩ ⟨Nat.le_of_ble_eq_true rfl, Nat.le_of_ble_eq_true rfl⟩ ⟨Nat.le_of_ble_eq_true rfl, Nat.le_of_ble_eq_true rfl⟩ hP hS hl.1 rfl rfl (Nat.le_of_ble_eq_true rfl) dX0_minusSpan_34 (fun h_4 => ?_) (fun h_4 H locs hP hS => ?_)
      · have hm : m_X0_minusSpan p0 p1 z = ((m_X0_give p0 (m_X0_daysLater (m_X0_monthsLater ((m_X0_dateAt p0 z).2) ((-((m_X0_monthsOfSpan p1 z).2)).toInt64)) ((-(z.2.2.2.1 p1.toNatClampNeg)).toInt64)) z).1, 0, (m_X0_give p0 (m_X0_daysLater (m_X0_monthsLater ((m_X0_dateAt p0 z).2) ((-((m_X0_monthsOfSpan p1 z).2)).toInt64)) ((-(z.2.2.2.1 p1.toNatClampNeg)).toInt64)) z).2.2) := hm.trans (if_neg h_4)
        exact ⟨by rw [hm], by rw [hm]⟩
      · have hm := hm.trans (if_pos h_4)
        have hm : m_X0_minusSpan p0 p1 z = (0, (m_X0_give p0 (m_X0_daysLater (m_X0_monthsLater ((m_X0_dateAt p0 z).2) ((-((m_X0_monthsOfSpan p1 z).2)).toInt64)) ((-(z.2.2.2.1 p1.toNatClampNeg)).toInt64)) z).2.1, (m_X0_give p0 (m_X0_daysLater (m_X0_monthsLater ((m_X0_dateAt p0 z).2) ((-((m_X0_monthsOfSpan p1 z).2)).toInt64)) ((-(z.2.2.2.1 p1.toNatClampNeg)).toInt64)) z).2.2) := hm
        exact c_iret (E := (m_X0_give p0 (m_X0_daysLater (m_X0_monthsLater ((m_X0_dateAt p0 z).2) ((-((m_X0_monthsOfSpan p1 z).2)).toInt64)) ((-(z.2.2.2.1 p1.toNatClampNeg)).toInt64)) z).2.1) hx hb hr hlocks (by rw [hm]) (by rw [hm]) (by rw [hm]) hP hS ⟨Nat.le_of_ble_eq_true rfl, Nat.le_of_ble_eq_true rfl⟩ dX0_minusSpan_37
def m_X0_year (p0 : Int32) (z : CS) : Nat × Int32 := (if (m_X0_dateAt p0 z).1 = 0 then (0, (m_X0_yearIn ((m_X0_dateAt p0 z).2)).toInt32) else ((m_X0_dateAt p0 z).1, 0))
theorem kk_X0_year : pK yX0_year wsX0_year cX0_year 2 (some .int) 1 := ⟨⟨_, rfl⟩, by decide +kernel, by decide +kernel, by decide +kernel⟩
set_option maxRecDepth 100000 in
set_option maxHeartbeats 4000000 in
theorem c_X0_year (l : Launch) (hl9 : l.stackTraces = false) (k : Kx) (a : CA) (hD : cD k a) (p0 : Int32) (z : CS) : cM l k a yX0_year wsX0_year 8 161 1 6 [.int p0] z (some (.int (m_X0_year p0 z).2)) (m_X0_year p0 z).1 z := by
  intro sz
  refine vx_ofW (cc := cX0_year) (maxL := 2) (ret := (some .int)) (by decide) rfl ?_
  intro p e s m args below meth c s₁ B hml hEx hv
  obtain ⟨rfl, rfl, hGx, hP⟩ := hv
  have hx := B.exec
  have hb := B.bytes
  have hr := B.returns
  have hts := atoms_spec (ws := wsX0_year) B.pre
  have hown : s.vm.findClass RX0 = some m.cls := findClass_of_methodNamed B.named
  have hlocks := B.notSynchronized
  have htg : ∀ w ∈ GL, w.before _ s = true := fun w h => hts w (List.mem_cons_of_mem _ h)
  have hC : CallFix p m c cX0_year 2 s _ wsX0_year RX0 := ⟨hx, hb, hml, hown, hts⟩
  have hS : va_S (cA a s.heap.size) s.heap s.heap [] := va_S.rf
  have hl := lv_entry ([.ref a.1, .int p0]) (n := 2) (Nat.le_of_ble_eq_true rfl)
  rw [lg_entry_eq]
  generalize (lg_sl ([.ref a.1, .int p0]) ++ List.replicate (2 - (lg_sl ([.ref a.1, .int p0])).length) Slot.unset).toArray = ls at hl ⊢
  have hl : lv_has ls 2 [(0, .ref a.1), (1, .int p0)] := hl
  have hm : m_X0_year p0 z = m_X0_year p0 z := rfl
  refine lv_aload_n hx hb dX0_year_0 rfl (lv_at hl 0 rfl) ?_
  refine lv_iload_n hx hb dX0_year_1 rfl (lv_at hl 1 rfl) ?_
  refine cc_V hC hGx hD hEx hlocks (c_X0_dateAt l hl9 k a hD p0 z) (gV w_153 w_154 w_8 w_26 w_155) kk_X0_dateAt rfl ⟨Nat.le_of_ble_eq_true rfl, Nat.le_of_ble_eq_true rfl⟩ ⟨Nat.le_of_ble_eq_true rfl, Nat.le_of_ble_eq_true rfl⟩ ⟨Nat.le_of_ble_eq_true rfl, Nat.le_of_ble_eq_true rfl⟩ hP hS hl.1 rfl rfl (Nat.le_of_ble_eq_true rfl) dX0_year_2 (fun h_1 => ?_) (fun h_1 H locs hP hS => ?_)
  · have hm : m_X0_year p0 z = ((m_X0_dateAt p0 z).1, 0) := hm.trans (if_neg h_1)
    exact ⟨by rw [hm], rfl⟩
  · have hm := hm.trans (if_pos h_1)
    refine pc_S hC (c_X0_yearIn l ((m_X0_dateAt p0 z).2)) (gS w_168 w_169 w_26 w_170) kk_X0_yearIn ⟨Nat.le_of_ble_eq_true rfl, Nat.le_of_ble_eq_true rfl⟩ ⟨Nat.le_of_ble_eq_true rfl, Nat.le_of_ble_eq_true rfl⟩ hl.1 rfl rfl (Nat.le_of_ble_eq_true rfl) dX0_year_5 ?_
    refine lv_l2i hx hb dX0_year_8 rfl ?_
    have hm : m_X0_year p0 z = (0, (m_X0_yearIn ((m_X0_dateAt p0 z).2)).toInt32) := hm
    exact c_iret (E := (m_X0_yearIn ((m_X0_dateAt p0 z).2)).toInt32) hx hb hr hlocks (by rw [hm]) (by rw [hm]) rfl hP hS ⟨Nat.le_of_ble_eq_true rfl, Nat.le_of_ble_eq_true rfl⟩ dX0_year_9
def m_X0_month (p0 : Int32) (z : CS) : Nat × Int32 := (if (m_X0_dateAt p0 z).1 = 0 then (0, m_X0_monthIn ((m_X0_dateAt p0 z).2)) else ((m_X0_dateAt p0 z).1, 0))
theorem kk_X0_month : pK yX0_month wsX0_month cX0_month 2 (some .int) 1 := ⟨⟨_, rfl⟩, by decide +kernel, by decide +kernel, by decide +kernel⟩
set_option maxRecDepth 100000 in
set_option maxHeartbeats 4000000 in
theorem c_X0_month (l : Launch) (hl9 : l.stackTraces = false) (k : Kx) (a : CA) (hD : cD k a) (p0 : Int32) (z : CS) : cM l k a yX0_month wsX0_month 8 161 1 6 [.int p0] z (some (.int (m_X0_month p0 z).2)) (m_X0_month p0 z).1 z := by
  intro sz
  refine vx_ofW (cc := cX0_month) (maxL := 2) (ret := (some .int)) (by decide) rfl ?_
  intro p e s m args below meth c s₁ B hml hEx hv
  obtain ⟨rfl, rfl, hGx, hP⟩ := hv
  have hx := B.exec
  have hb := B.bytes
  have hr := B.returns
  have hts := atoms_spec (ws := wsX0_month) B.pre
  have hown : s.vm.findClass RX0 = some m.cls := findClass_of_methodNamed B.named
  have hlocks := B.notSynchronized
  have htg : ∀ w ∈ GL, w.before _ s = true := fun w h => hts w (List.mem_cons_of_mem _ h)
  have hC : CallFix p m c cX0_month 2 s _ wsX0_month RX0 := ⟨hx, hb, hml, hown, hts⟩
  have hS : va_S (cA a s.heap.size) s.heap s.heap [] := va_S.rf
  have hl := lv_entry ([.ref a.1, .int p0]) (n := 2) (Nat.le_of_ble_eq_true rfl)
  rw [lg_entry_eq]
  generalize (lg_sl ([.ref a.1, .int p0]) ++ List.replicate (2 - (lg_sl ([.ref a.1, .int p0])).length) Slot.unset).toArray = ls at hl ⊢
  have hl : lv_has ls 2 [(0, .ref a.1), (1, .int p0)] := hl
  have hm : m_X0_month p0 z = m_X0_month p0 z := rfl
  refine lv_aload_n hx hb dX0_month_0 rfl (lv_at hl 0 rfl) ?_
  refine lv_iload_n hx hb dX0_month_1 rfl (lv_at hl 1 rfl) ?_
  refine cc_V hC hGx hD hEx hlocks (c_X0_dateAt l hl9 k a hD p0 z) (gV w_153 w_154 w_8 w_26 w_155) kk_X0_dateAt rfl ⟨Nat.le_of_ble_eq_true rfl, Nat.le_of_ble_eq_true rfl⟩ ⟨Nat.le_of_ble_eq_true rfl, Nat.le_of_ble_eq_true rfl⟩ ⟨Nat.le_of_ble_eq_true rfl, Nat.le_of_ble_eq_true rfl⟩ hP hS hl.1 rfl rfl (Nat.le_of_ble_eq_true rfl) dX0_month_2 (fun h_1 => ?_) (fun h_1 H locs hP hS => ?_)
  · have hm : m_X0_month p0 z = ((m_X0_dateAt p0 z).1, 0) := hm.trans (if_neg h_1)
    exact ⟨by rw [hm], rfl⟩
  · have hm := hm.trans (if_pos h_1)
    refine pc_S hC (c_X0_monthIn l ((m_X0_dateAt p0 z).2)) (gS w_192 w_193 w_26 w_194) kk_X0_monthIn ⟨Nat.le_of_ble_eq_true rfl, Nat.le_of_ble_eq_true rfl⟩ ⟨Nat.le_of_ble_eq_true rfl, Nat.le_of_ble_eq_true rfl⟩ hl.1 rfl rfl (Nat.le_of_ble_eq_true rfl) dX0_month_5 ?_
    have hm : m_X0_month p0 z = (0, m_X0_monthIn ((m_X0_dateAt p0 z).2)) := hm
    exact c_iret (E := m_X0_monthIn ((m_X0_dateAt p0 z).2)) hx hb hr hlocks (by rw [hm]) (by rw [hm]) rfl hP hS ⟨Nat.le_of_ble_eq_true rfl, Nat.le_of_ble_eq_true rfl⟩ dX0_month_8
def m_X0_day (p0 : Int32) (z : CS) : Nat × Int32 := (if (m_X0_dateAt p0 z).1 = 0 then (0, m_X0_dayIn ((m_X0_dateAt p0 z).2)) else ((m_X0_dateAt p0 z).1, 0))
theorem kk_X0_day : pK yX0_day wsX0_day cX0_day 2 (some .int) 1 := ⟨⟨_, rfl⟩, by decide +kernel, by decide +kernel, by decide +kernel⟩
set_option maxRecDepth 100000 in
set_option maxHeartbeats 4000000 in
theorem c_X0_day (l : Launch) (hl9 : l.stackTraces = false) (k : Kx) (a : CA) (hD : cD k a) (p0 : Int32) (z : CS) : cM l k a yX0_day wsX0_day 8 161 1 6 [.int p0] z (some (.int (m_X0_day p0 z).2)) (m_X0_day p0 z).1 z := by
  intro sz
  refine vx_ofW (cc := cX0_day) (maxL := 2) (ret := (some .int)) (by decide) rfl ?_
  intro p e s m args below meth c s₁ B hml hEx hv
  obtain ⟨rfl, rfl, hGx, hP⟩ := hv
  have hx := B.exec
  have hb := B.bytes
  have hr := B.returns
  have hts := atoms_spec (ws := wsX0_day) B.pre
  have hown : s.vm.findClass RX0 = some m.cls := findClass_of_methodNamed B.named
  have hlocks := B.notSynchronized
  have htg : ∀ w ∈ GL, w.before _ s = true := fun w h => hts w (List.mem_cons_of_mem _ h)
  have hC : CallFix p m c cX0_day 2 s _ wsX0_day RX0 := ⟨hx, hb, hml, hown, hts⟩
  have hS : va_S (cA a s.heap.size) s.heap s.heap [] := va_S.rf
  have hl := lv_entry ([.ref a.1, .int p0]) (n := 2) (Nat.le_of_ble_eq_true rfl)
  rw [lg_entry_eq]
  generalize (lg_sl ([.ref a.1, .int p0]) ++ List.replicate (2 - (lg_sl ([.ref a.1, .int p0])).length) Slot.unset).toArray = ls at hl ⊢
  have hl : lv_has ls 2 [(0, .ref a.1), (1, .int p0)] := hl
  have hm : m_X0_day p0 z = m_X0_day p0 z := rfl
  refine lv_aload_n hx hb dX0_day_0 rfl (lv_at hl 0 rfl) ?_
  refine lv_iload_n hx hb dX0_day_1 rfl (lv_at hl 1 rfl) ?_
  refine cc_V hC hGx hD hEx hlocks (c_X0_dateAt l hl9 k a hD p0 z) (gV w_153 w_154 w_8 w_26 w_155) kk_X0_dateAt rfl ⟨Nat.le_of_ble_eq_true rfl, Nat.le_of_ble_eq_true rfl⟩ ⟨Nat.le_of_ble_eq_true rfl, Nat.le_of_ble_eq_true rfl⟩ ⟨Nat.le_of_ble_eq_true rfl, Nat.le_of_ble_eq_true rfl⟩ hP hS hl.1 rfl rfl (Nat.le_of_ble_eq_true rfl) dX0_day_2 (fun h_1 => ?_) (fun h_1 H locs hP hS => ?_)
  · have hm : m_X0_day p0 z = ((m_X0_dateAt p0 z).1, 0) := hm.trans (if_neg h_1)
    exact ⟨by rw [hm], rfl⟩
  · have hm := hm.trans (if_pos h_1)
    refine pc_S hC (c_X0_dayIn l ((m_X0_dateAt p0 z).2)) (gS w_189 w_190 w_26 w_191) kk_X0_dayIn ⟨Nat.le_of_ble_eq_true rfl, Nat.le_of_ble_eq_true rfl⟩ ⟨Nat.le_of_ble_eq_true rfl, Nat.le_of_ble_eq_true rfl⟩ hl.1 rfl rfl (Nat.le_of_ble_eq_true rfl) dX0_day_5 ?_
    have hm : m_X0_day p0 z = (0, m_X0_dayIn ((m_X0_dateAt p0 z).2)) := hm
    exact c_iret (E := m_X0_dayIn ((m_X0_dateAt p0 z).2)) hx hb hr hlocks (by rw [hm]) (by rw [hm]) rfl hP hS ⟨Nat.le_of_ble_eq_true rfl, Nat.le_of_ble_eq_true rfl⟩ dX0_day_8
def m_X0_dayOfYear (p0 : Int32) (z : CS) : Nat × Int32 := (if (m_X0_dateAt p0 z).1 = 0 then (0, m_X0_dayInYear ((m_X0_dateAt p0 z).2)) else ((m_X0_dateAt p0 z).1, 0))
theorem kk_X0_dayOfYear : pK yX0_dayOfYear wsX0_dayOfYear cX0_dayOfYear 2 (some .int) 1 := ⟨⟨_, rfl⟩, by decide +kernel, by decide +kernel, by decide +kernel⟩
set_option maxRecDepth 100000 in
set_option maxHeartbeats 4000000 in
theorem c_X0_dayOfYear (l : Launch) (hl9 : l.stackTraces = false) (k : Kx) (a : CA) (hD : cD k a) (p0 : Int32) (z : CS) : cM l k a yX0_dayOfYear wsX0_dayOfYear 8 161 1 6 [.int p0] z (some (.int (m_X0_dayOfYear p0 z).2)) (m_X0_dayOfYear p0 z).1 z := by
  intro sz
  refine vx_ofW (cc := cX0_dayOfYear) (maxL := 2) (ret := (some .int)) (by decide) rfl ?_
  intro p e s m args below meth c s₁ B hml hEx hv
  obtain ⟨rfl, rfl, hGx, hP⟩ := hv
  have hx := B.exec
  have hb := B.bytes
  have hr := B.returns
  have hts := atoms_spec (ws := wsX0_dayOfYear) B.pre
  have hown : s.vm.findClass RX0 = some m.cls := findClass_of_methodNamed B.named
  have hlocks := B.notSynchronized
  have htg : ∀ w ∈ GL, w.before _ s = true := fun w h => hts w (List.mem_cons_of_mem _ h)
  have hC : CallFix p m c cX0_dayOfYear 2 s _ wsX0_dayOfYear RX0 := ⟨hx, hb, hml, hown, hts⟩
  have hS : va_S (cA a s.heap.size) s.heap s.heap [] := va_S.rf
  have hl := lv_entry ([.ref a.1, .int p0]) (n := 2) (Nat.le_of_ble_eq_true rfl)
  rw [lg_entry_eq]
  generalize (lg_sl ([.ref a.1, .int p0]) ++ List.replicate (2 - (lg_sl ([.ref a.1, .int p0])).length) Slot.unset).toArray = ls at hl ⊢
  have hl : lv_has ls 2 [(0, .ref a.1), (1, .int p0)] := hl
  have hm : m_X0_dayOfYear p0 z = m_X0_dayOfYear p0 z := rfl
  refine lv_aload_n hx hb dX0_dayOfYear_0 rfl (lv_at hl 0 rfl) ?_
  refine lv_iload_n hx hb dX0_dayOfYear_1 rfl (lv_at hl 1 rfl) ?_
  refine cc_V hC hGx hD hEx hlocks (c_X0_dateAt l hl9 k a hD p0 z) (gV w_153 w_154 w_8 w_26 w_155) kk_X0_dateAt rfl ⟨Nat.le_of_ble_eq_true rfl, Nat.le_of_ble_eq_true rfl⟩ ⟨Nat.le_of_ble_eq_true rfl, Nat.le_of_ble_eq_true rfl⟩ ⟨Nat.le_of_ble_eq_true rfl, Nat.le_of_ble_eq_true rfl⟩ hP hS hl.1 rfl rfl (Nat.le_of_ble_eq_true rfl) dX0_dayOfYear_2 (fun h_1 => ?_) (fun h_1 H locs hP hS => ?_)
  · have hm : m_X0_dayOfYear p0 z = ((m_X0_dateAt p0 z).1, 0) := hm.trans (if_neg h_1)
    exact ⟨by rw [hm], rfl⟩
  · have hm := hm.trans (if_pos h_1)
    refine pc_S hC (c_X0_dayInYear l ((m_X0_dateAt p0 z).2)) (gS w_183 w_184 w_26 w_185) kk_X0_dayInYear ⟨Nat.le_of_ble_eq_true rfl, Nat.le_of_ble_eq_true rfl⟩ ⟨Nat.le_of_ble_eq_true rfl, Nat.le_of_ble_eq_true rfl⟩ hl.1 rfl rfl (Nat.le_of_ble_eq_true rfl) dX0_dayOfYear_5 ?_
    have hm : m_X0_dayOfYear p0 z = (0, m_X0_dayInYear ((m_X0_dateAt p0 z).2)) := hm
    exact c_iret (E := m_X0_dayInYear ((m_X0_dateAt p0 z).2)) hx hb hr hlocks (by rw [hm]) (by rw [hm]) rfl hP hS ⟨Nat.le_of_ble_eq_true rfl, Nat.le_of_ble_eq_true rfl⟩ dX0_dayOfYear_8
def m_X0_dayOfWeek (p0 : Int32) (z : CS) : Nat × Int32 := (if (m_X0_toDay p0 z).1 = 0 then (0, m_X0_dayInWeek ((m_X0_toDay p0 z).2)) else ((m_X0_toDay p0 z).1, 0))
theorem kk_X0_dayOfWeek : pK yX0_dayOfWeek wsX0_dayOfWeek cX0_dayOfWeek 2 (some .int) 1 := ⟨⟨_, rfl⟩, by decide +kernel, by decide +kernel, by decide +kernel⟩
set_option maxRecDepth 100000 in
set_option maxHeartbeats 4000000 in
theorem c_X0_dayOfWeek (l : Launch) (hl9 : l.stackTraces = false) (k : Kx) (a : CA) (hD : cD k a) (p0 : Int32) (z : CS) : cM l k a yX0_dayOfWeek wsX0_dayOfWeek 9 182 1 6 [.int p0] z (some (.int (m_X0_dayOfWeek p0 z).2)) (m_X0_dayOfWeek p0 z).1 z := by
  intro sz
  refine vx_ofW (cc := cX0_dayOfWeek) (maxL := 2) (ret := (some .int)) (by decide) rfl ?_
  intro p e s m args below meth c s₁ B hml hEx hv
  obtain ⟨rfl, rfl, hGx, hP⟩ := hv
  have hx := B.exec
  have hb := B.bytes
  have hr := B.returns
  have hts := atoms_spec (ws := wsX0_dayOfWeek) B.pre
  have hown : s.vm.findClass RX0 = some m.cls := findClass_of_methodNamed B.named
  have hlocks := B.notSynchronized
  have htg : ∀ w ∈ GL, w.before _ s = true := fun w h => hts w (List.mem_cons_of_mem _ h)
  have hC : CallFix p m c cX0_dayOfWeek 2 s _ wsX0_dayOfWeek RX0 := ⟨hx, hb, hml, hown, hts⟩
  have hS : va_S (cA a s.heap.size) s.heap s.heap [] := va_S.rf
  have hl := lv_entry ([.ref a.1, .int p0]) (n := 2) (Nat.le_of_ble_eq_true rfl)
  rw [lg_entry_eq]
  generalize (lg_sl ([.ref a.1, .int p0]) ++ List.replicate (2 - (lg_sl ([.ref a.1, .int p0])).length) Slot.unset).toArray = ls at hl ⊢
  have hl : lv_has ls 2 [(0, .ref a.1), (1, .int p0)] := hl
  have hm : m_X0_dayOfWeek p0 z = m_X0_dayOfWeek p0 z := rfl
  refine lv_aload_n hx hb dX0_dayOfWeek_0 rfl (lv_at hl 0 rfl) ?_
  refine lv_iload_n hx hb dX0_dayOfWeek_1 rfl (lv_at hl 1 rfl) ?_
  refine cc_V hC hGx hD hEx hlocks (c_X0_toDay l hl9 k a hD p0 z) (gV w_242 w_243 w_244 w_26 w_245) kk_X0_toDay rfl ⟨Nat.le_of_ble_eq_true rfl, Nat.le_of_ble_eq_true rfl⟩ ⟨Nat.le_of_ble_eq_true rfl, Nat.le_of_ble_eq_true rfl⟩ ⟨Nat.le_of_ble_eq_true rfl, Nat.le_of_ble_eq_true rfl⟩ hP hS hl.1 rfl rfl (Nat.le_of_ble_eq_true rfl) dX0_dayOfWeek_2 (fun h_1 => ?_) (fun h_1 H locs hP hS => ?_)
  · have hm : m_X0_dayOfWeek p0 z = ((m_X0_toDay p0 z).1, 0) := hm.trans (if_neg h_1)
    exact ⟨by rw [hm], rfl⟩
  · have hm := hm.trans (if_pos h_1)
    refine pc_S hC (c_X0_dayInWeek l ((m_X0_toDay p0 z).2)) (gS w_270 w_271 w_26 w_272) kk_X0_dayInWeek ⟨Nat.le_of_ble_eq_true rfl, Nat.le_of_ble_eq_true rfl⟩ ⟨Nat.le_of_ble_eq_true rfl, Nat.le_of_ble_eq_true rfl⟩ hl.1 rfl rfl (Nat.le_of_ble_eq_true rfl) dX0_dayOfWeek_5 ?_
    have hm : m_X0_dayOfWeek p0 z = (0, m_X0_dayInWeek ((m_X0_toDay p0 z).2)) := hm
    exact c_iret (E := m_X0_dayInWeek ((m_X0_toDay p0 z).2)) hx hb hr hlocks (by rw [hm]) (by rw [hm]) rfl hP hS ⟨Nat.le_of_ble_eq_true rfl, Nat.le_of_ble_eq_true rfl⟩ dX0_dayOfWeek_8
def m_X0_laterDayOfWeek (p0 : Int32) (p1 : Int32) (z : CS) : Nat × Int32 := (if m_X0_requirePlace p0 = 0 then (if m_X0_requireAmount p1 = 0 then (if (m_X0_toDay p0 z).1 = 0 then (0, m_X0_dayInWeek (((m_X0_toDay p0 z).2) + p1)) else ((m_X0_toDay p0 z).1, 0)) else ((m_X0_requireAmount p1), 0)) else ((m_X0_requirePlace p0), 0))
theorem kk_X0_laterDayOfWeek : pK yX0_laterDayOfWeek wsX0_laterDayOfWeek cX0_laterDayOfWeek 3 (some .int) 2 := ⟨⟨_, rfl⟩, by decide +kernel, by decide +kernel, by decide +kernel⟩
set_option maxRecDepth 100000 in
set_option maxHeartbeats 4000000 in
theorem c_X0_laterDayOfWeek (l : Launch) (hl9 : l.stackTraces = false) (k : Kx) (a : CA) (hD : cD k a) (p0 : Int32) (p1 : Int32) (z : CS) : cM l k a yX0_laterDayOfWeek wsX0_laterDayOfWeek 9 182 3 18 [.int p0, .int p1] z (some (.int (m_X0_laterDayOfWeek p0 p1 z).2)) (m_X0_laterDayOfWeek p0 p1 z).1 z := by
  intro sz
  refine vx_ofW (cc := cX0_laterDayOfWeek) (maxL := 3) (ret := (some .int)) (by decide) rfl ?_
  intro p e s m args below meth c s₁ B hml hEx hv
  obtain ⟨rfl, rfl, hGx, hP⟩ := hv
  have hx := B.exec
  have hb := B.bytes
  have hr := B.returns
  have hts := atoms_spec (ws := wsX0_laterDayOfWeek) B.pre
  have hown : s.vm.findClass RX0 = some m.cls := findClass_of_methodNamed B.named
  have hlocks := B.notSynchronized
  have htg : ∀ w ∈ GL, w.before _ s = true := fun w h => hts w (List.mem_cons_of_mem _ h)
  have hC : CallFix p m c cX0_laterDayOfWeek 3 s _ wsX0_laterDayOfWeek RX0 := ⟨hx, hb, hml, hown, hts⟩
  have hS : va_S (cA a s.heap.size) s.heap s.heap [] := va_S.rf
  have hl := lv_entry ([.ref a.1, .int p0, .int p1]) (n := 3) (Nat.le_of_ble_eq_true rfl)
  rw [lg_entry_eq]
  generalize (lg_sl ([.ref a.1, .int p0, .int p1]) ++ List.replicate (3 - (lg_sl ([.ref a.1, .int p0, .int p1])).length) Slot.unset).toArray = ls at hl ⊢
  have hl : lv_has ls 3 [(0, .ref a.1), (1, .int p0), (2, .int p1)] := hl
  have hm : m_X0_laterDayOfWeek p0 p1 z = m_X0_laterDayOfWeek p0 p1 z := rfl
  refine lv_iload_n hx hb dX0_laterDayOfWeek_0 rfl (lv_at hl 1 rfl) ?_
  refine ct_S hC hGx hD hEx hlocks (t_X0_requirePlace l hl9 k p0) (gS w_156 w_157 w_26 w_158) kk_X0_requirePlace ⟨Nat.le_of_ble_eq_true rfl, Nat.le_of_ble_eq_true rfl⟩ ⟨Nat.le_of_ble_eq_true rfl, Nat.le_of_ble_eq_true rfl⟩ ⟨Nat.le_of_ble_eq_true rfl, Nat.le_of_ble_eq_true rfl⟩ hP hS hl.1 rfl rfl (Nat.le_of_ble_eq_true rfl) dX0_laterDayOfWeek_1 (fun h_1 => by have hm : m_X0_laterDayOfWeek p0 p1 z = ((m_X0_requirePlace p0), 0) := hm.trans (if_neg h_1); exact ⟨by rw [hm], rfl⟩) (fun h_1 => ?_)
  have hm := hm.trans (if_pos h_1)
  refine lv_iload_n hx hb dX0_laterDayOfWeek_4 rfl (lv_at hl 2 rfl) ?_
  refine ct_S hC hGx hD hEx hlocks (t_X0_requireAmount l hl9 k p1) (gS w_752 w_753 w_26 w_754) kk_X0_requireAmount ⟨Nat.le_of_ble_eq_true rfl, Nat.le_of_ble_eq_true rfl⟩ ⟨Nat.le_of_ble_eq_true rfl, Nat.le_of_ble_eq_true rfl⟩ ⟨Nat.le_of_ble_eq_true rfl, Nat.le_of_ble_eq_true rfl⟩ hP hS hl.1 rfl rfl (Nat.le_of_ble_eq_true rfl) dX0_laterDayOfWeek_5 (fun h_2 => by have hm : m_X0_laterDayOfWeek p0 p1 z = ((m_X0_requireAmount p1), 0) := hm.trans (if_neg h_2); exact ⟨by rw [hm], rfl⟩) (fun h_2 => ?_)
  have hm := hm.trans (if_pos h_2)
  refine lv_aload_n hx hb dX0_laterDayOfWeek_8 rfl (lv_at hl 0 rfl) ?_
  refine lv_iload_n hx hb dX0_laterDayOfWeek_9 rfl (lv_at hl 1 rfl) ?_
  refine cc_V hC hGx hD hEx hlocks (c_X0_toDay l hl9 k a hD p0 z) (gV w_242 w_243 w_244 w_26 w_245) kk_X0_toDay rfl ⟨Nat.le_of_ble_eq_true rfl, Nat.le_of_ble_eq_true rfl⟩ ⟨Nat.le_of_ble_eq_true rfl, Nat.le_of_ble_eq_true rfl⟩ ⟨Nat.le_of_ble_eq_true rfl, Nat.le_of_ble_eq_true rfl⟩ hP hS hl.1 rfl rfl (Nat.le_of_ble_eq_true rfl) dX0_laterDayOfWeek_10 (fun h_3 => ?_) (fun h_3 H locs hP hS => ?_)
  · have hm : m_X0_laterDayOfWeek p0 p1 z = ((m_X0_toDay p0 z).1, 0) := hm.trans (if_neg h_3)
    exact ⟨by rw [hm], rfl⟩
  · have hm := hm.trans (if_pos h_3)
    refine lv_iload_n hx hb dX0_laterDayOfWeek_13 rfl (lv_at hl 2 rfl) ?_
    refine lv_iadd hx hb dX0_laterDayOfWeek_14 ?_
    refine pc_S hC (c_X0_dayInWeek l (((m_X0_toDay p0 z).2) + p1)) (gS w_270 w_271 w_26 w_272) kk_X0_dayInWeek ⟨Nat.le_of_ble_eq_true rfl, Nat.le_of_ble_eq_true rfl⟩ ⟨Nat.le_of_ble_eq_true rfl, Nat.le_of_ble_eq_true rfl⟩ hl.1 rfl rfl (Nat.le_of_ble_eq_true rfl) dX0_laterDayOfWeek_15 ?_
    have hm : m_X0_laterDayOfWeek p0 p1 z = (0, m_X0_dayInWeek (((m_X0_toDay p0 z).2) + p1)) := hm
    exact c_iret (E := m_X0_dayInWeek (((m_X0_toDay p0 z).2) + p1)) hx hb hr hlocks (by rw [hm]) (by rw [hm]) rfl hP hS ⟨Nat.le_of_ble_eq_true rfl, Nat.le_of_ble_eq_true rfl⟩ dX0_laterDayOfWeek_18
def m_X0_lengthOfMonth (p0 : Int32) (z : CS) : Nat × Int32 := (if (m_X0_dateAt p0 z).1 = 0 then (0, m_X0_monthLength (m_X0_monthIn ((m_X0_dateAt p0 z).2)) (m_X0_isLeap (m_X0_yearIn ((m_X0_dateAt p0 z).2)))) else ((m_X0_dateAt p0 z).1, 0))
theorem kk_X0_lengthOfMonth : pK yX0_lengthOfMonth wsX0_lengthOfMonth cX0_lengthOfMonth 4 (some .int) 1 := ⟨⟨_, rfl⟩, by decide +kernel, by decide +kernel, by decide +kernel⟩
set_option maxRecDepth 100000 in
set_option maxHeartbeats 4000000 in
theorem c_X0_lengthOfMonth (l : Launch) (hl9 : l.stackTraces = false) (k : Kx) (a : CA) (hD : cD k a) (p0 : Int32) (z : CS) : cM l k a yX0_lengthOfMonth wsX0_lengthOfMonth 8 161 1 6 [.int p0] z (some (.int (m_X0_lengthOfMonth p0 z).2)) (m_X0_lengthOfMonth p0 z).1 z := by
  intro sz
  refine vx_ofW (cc := cX0_lengthOfMonth) (maxL := 4) (ret := (some .int)) (by decide) rfl ?_
  intro p e s m args below meth c s₁ B hml hEx hv
  obtain ⟨rfl, rfl, hGx, hP⟩ := hv
  have hx := B.exec
  have hb := B.bytes
  have hr := B.returns
  have hts := atoms_spec (ws := wsX0_lengthOfMonth) B.pre
  have hown : s.vm.findClass RX0 = some m.cls := findClass_of_methodNamed B.named
  have hlocks := B.notSynchronized
  have htg : ∀ w ∈ GL, w.before _ s = true := fun w h => hts w (List.mem_cons_of_mem _ h)
  have hC : CallFix p m c cX0_lengthOfMonth 4 s _ wsX0_lengthOfMonth RX0 := ⟨hx, hb, hml, hown, hts⟩
  have hS : va_S (cA a s.heap.size) s.heap s.heap [] := va_S.rf
  have hl := lv_entry ([.ref a.1, .int p0]) (n := 4) (Nat.le_of_ble_eq_true rfl)
  rw [lg_entry_eq]
  generalize (lg_sl ([.ref a.1, .int p0]) ++ List.replicate (4 - (lg_sl ([.ref a.1, .int p0])).length) Slot.unset).toArray = ls at hl ⊢
  have hl : lv_has ls 4 [(0, .ref a.1), (1, .int p0)] := hl
  have hm : m_X0_lengthOfMonth p0 z = m_X0_lengthOfMonth p0 z := rfl
  refine lv_aload_n hx hb dX0_lengthOfMonth_0 rfl (lv_at hl 0 rfl) ?_
  refine lv_iload_n hx hb dX0_lengthOfMonth_1 rfl (lv_at hl 1 rfl) ?_
  refine cc_V hC hGx hD hEx hlocks (c_X0_dateAt l hl9 k a hD p0 z) (gV w_153 w_154 w_8 w_26 w_155) kk_X0_dateAt rfl ⟨Nat.le_of_ble_eq_true rfl, Nat.le_of_ble_eq_true rfl⟩ ⟨Nat.le_of_ble_eq_true rfl, Nat.le_of_ble_eq_true rfl⟩ ⟨Nat.le_of_ble_eq_true rfl, Nat.le_of_ble_eq_true rfl⟩ hP hS hl.1 rfl rfl (Nat.le_of_ble_eq_true rfl) dX0_lengthOfMonth_2 (fun h_1 => ?_) (fun h_1 H locs hP hS => ?_)
  · have hm : m_X0_lengthOfMonth p0 z = ((m_X0_dateAt p0 z).1, 0) := hm.trans (if_neg h_1)
    exact ⟨by rw [hm], rfl⟩
  · have hm := hm.trans (if_pos h_1)
    refine lv_lstore_n (lv' := [(2, .long ((m_X0_dateAt p0 z).2)), (0, .ref a.1), (1, .int p0)]) hx hb dX0_lengthOfMonth_5 rfl hl (by decide) rfl (fun ls hl => ?_)
    refine lv_lload_n hx hb dX0_lengthOfMonth_6 rfl (lv_at hl 0 rfl) ?_
    refine pc_S hC (c_X0_monthIn l ((m_X0_dateAt p0 z).2)) (gS w_192 w_193 w_26 w_194) kk_X0_monthIn ⟨Nat.le_of_ble_eq_true rfl, Nat.le_of_ble_eq_true rfl⟩ ⟨Nat.le_of_ble_eq_true rfl, Nat.le_of_ble_eq_true rfl⟩ hl.1 rfl rfl (Nat.le_of_ble_eq_true rfl) dX0_lengthOfMonth_7 ?_
    refine lv_lload_n hx hb dX0_lengthOfMonth_10 rfl (lv_at hl 0 rfl) ?_
    refine pc_S hC (c_X0_yearIn l ((m_X0_dateAt p0 z).2)) (gS w_168 w_169 w_26 w_170) kk_X0_yearIn ⟨Nat.le_of_ble_eq_true rfl, Nat.le_of_ble_eq_true rfl⟩ ⟨Nat.le_of_ble_eq_true rfl, Nat.le_of_ble_eq_true rfl⟩ hl.1 rfl rfl (Nat.le_of_ble_eq_true rfl) dX0_lengthOfMonth_11 ?_
    refine pc_S hC (c_X0_isLeap l (m_X0_yearIn ((m_X0_dateAt p0 z).2))) (gS w_186 w_187 w_26 w_188) kk_X0_isLeap ⟨Nat.le_of_ble_eq_true rfl, Nat.le_of_ble_eq_true rfl⟩ ⟨Nat.le_of_ble_eq_true rfl, Nat.le_of_ble_eq_true rfl⟩ hl.1 rfl rfl (Nat.le_of_ble_eq_true rfl) dX0_lengthOfMonth_14 ?_
    refine pc_S hC (c_X0_monthLength l (m_X0_monthIn ((m_X0_dateAt p0 z).2)) (m_X0_isLeap (m_X0_yearIn ((m_X0_dateAt p0 z).2)))) (gS w_195 w_196 w_26 w_197) kk_X0_monthLength ⟨Nat.le_of_ble_eq_true rfl, Nat.le_of_ble_eq_true rfl⟩ ⟨Nat.le_of_ble_eq_true rfl, Nat.le_of_ble_eq_true rfl⟩ hl.1 rfl rfl (Nat.le_of_ble_eq_true rfl) dX0_lengthOfMonth_17 ?_
    have hm : m_X0_lengthOfMonth p0 z = (0, m_X0_monthLength (m_X0_monthIn ((m_X0_dateAt p0 z).2)) (m_X0_isLeap (m_X0_yearIn ((m_X0_dateAt p0 z).2)))) := hm
    exact c_iret (E := m_X0_monthLength (m_X0_monthIn ((m_X0_dateAt p0 z).2)) (m_X0_isLeap (m_X0_yearIn ((m_X0_dateAt p0 z).2)))) hx hb hr hlocks (by rw [hm]) (by rw [hm]) rfl hP hS ⟨Nat.le_of_ble_eq_true rfl, Nat.le_of_ble_eq_true rfl⟩ dX0_lengthOfMonth_20
def m_X0_lengthOfYear (p0 : Int32) (z : CS) : Nat × Int32 := (if (m_X0_dateAt p0 z).1 = 0 then (0, m_X0_yearLength (m_X0_yearIn ((m_X0_dateAt p0 z).2))) else ((m_X0_dateAt p0 z).1, 0))
theorem kk_X0_lengthOfYear : pK yX0_lengthOfYear wsX0_lengthOfYear cX0_lengthOfYear 2 (some .int) 1 := ⟨⟨_, rfl⟩, by decide +kernel, by decide +kernel, by decide +kernel⟩
set_option maxRecDepth 100000 in
set_option maxHeartbeats 4000000 in
theorem c_X0_lengthOfYear (l : Launch) (hl9 : l.stackTraces = false) (k : Kx) (a : CA) (hD : cD k a) (p0 : Int32) (z : CS) : cM l k a yX0_lengthOfYear wsX0_lengthOfYear 8 161 1 6 [.int p0] z (some (.int (m_X0_lengthOfYear p0 z).2)) (m_X0_lengthOfYear p0 z).1 z := by
  intro sz
  refine vx_ofW (cc := cX0_lengthOfYear) (maxL := 2) (ret := (some .int)) (by decide) rfl ?_
  intro p e s m args below meth c s₁ B hml hEx hv
  obtain ⟨rfl, rfl, hGx, hP⟩ := hv
  have hx := B.exec
  have hb := B.bytes
  have hr := B.returns
  have hts := atoms_spec (ws := wsX0_lengthOfYear) B.pre
  have hown : s.vm.findClass RX0 = some m.cls := findClass_of_methodNamed B.named
  have hlocks := B.notSynchronized
  have htg : ∀ w ∈ GL, w.before _ s = true := fun w h => hts w (List.mem_cons_of_mem _ h)
  have hC : CallFix p m c cX0_lengthOfYear 2 s _ wsX0_lengthOfYear RX0 := ⟨hx, hb, hml, hown, hts⟩
  have hS : va_S (cA a s.heap.size) s.heap s.heap [] := va_S.rf
  have hl := lv_entry ([.ref a.1, .int p0]) (n := 2) (Nat.le_of_ble_eq_true rfl)
  rw [lg_entry_eq]
  generalize (lg_sl ([.ref a.1, .int p0]) ++ List.replicate (2 - (lg_sl ([.ref a.1, .int p0])).length) Slot.unset).toArray = ls at hl ⊢
  have hl : lv_has ls 2 [(0, .ref a.1), (1, .int p0)] := hl
  have hm : m_X0_lengthOfYear p0 z = m_X0_lengthOfYear p0 z := rfl
  refine lv_aload_n hx hb dX0_lengthOfYear_0 rfl (lv_at hl 0 rfl) ?_
  refine lv_iload_n hx hb dX0_lengthOfYear_1 rfl (lv_at hl 1 rfl) ?_
  refine cc_V hC hGx hD hEx hlocks (c_X0_dateAt l hl9 k a hD p0 z) (gV w_153 w_154 w_8 w_26 w_155) kk_X0_dateAt rfl ⟨Nat.le_of_ble_eq_true rfl, Nat.le_of_ble_eq_true rfl⟩ ⟨Nat.le_of_ble_eq_true rfl, Nat.le_of_ble_eq_true rfl⟩ ⟨Nat.le_of_ble_eq_true rfl, Nat.le_of_ble_eq_true rfl⟩ hP hS hl.1 rfl rfl (Nat.le_of_ble_eq_true rfl) dX0_lengthOfYear_2 (fun h_1 => ?_) (fun h_1 H locs hP hS => ?_)
  · have hm : m_X0_lengthOfYear p0 z = ((m_X0_dateAt p0 z).1, 0) := hm.trans (if_neg h_1)
    exact ⟨by rw [hm], rfl⟩
  · have hm := hm.trans (if_pos h_1)
    refine pc_S hC (c_X0_yearIn l ((m_X0_dateAt p0 z).2)) (gS w_168 w_169 w_26 w_170) kk_X0_yearIn ⟨Nat.le_of_ble_eq_true rfl, Nat.le_of_ble_eq_true rfl⟩ ⟨Nat.le_of_ble_eq_true rfl, Nat.le_of_ble_eq_true rfl⟩ hl.1 rfl rfl (Nat.le_of_ble_eq_true rfl) dX0_lengthOfYear_5 ?_
    refine pc_S hC (c_X0_yearLength l (m_X0_yearIn ((m_X0_dateAt p0 z).2))) (gS w_284 w_285 w_26 w_286) kk_X0_yearLength ⟨Nat.le_of_ble_eq_true rfl, Nat.le_of_ble_eq_true rfl⟩ ⟨Nat.le_of_ble_eq_true rfl, Nat.le_of_ble_eq_true rfl⟩ hl.1 rfl rfl (Nat.le_of_ble_eq_true rfl) dX0_lengthOfYear_8 ?_
    have hm : m_X0_lengthOfYear p0 z = (0, m_X0_yearLength (m_X0_yearIn ((m_X0_dateAt p0 z).2))) := hm
    exact c_iret (E := m_X0_yearLength (m_X0_yearIn ((m_X0_dateAt p0 z).2))) hx hb hr hlocks (by rw [hm]) (by rw [hm]) rfl hP hS ⟨Nat.le_of_ble_eq_true rfl, Nat.le_of_ble_eq_true rfl⟩ dX0_lengthOfYear_11
def m_X0_isLeapYear (p0 : Int32) (z : CS) : Nat × Int32 := (if (m_X0_dateAt p0 z).1 = 0 then (0, m_X0_isLeap (m_X0_yearIn ((m_X0_dateAt p0 z).2))) else ((m_X0_dateAt p0 z).1, 0))
theorem kk_X0_isLeapYear : pK yX0_isLeapYear wsX0_isLeapYear cX0_isLeapYear 2 (some .boolean) 1 := ⟨⟨_, rfl⟩, by decide +kernel, by decide +kernel, by decide +kernel⟩
set_option maxRecDepth 100000 in
set_option maxHeartbeats 4000000 in
theorem c_X0_isLeapYear (l : Launch) (hl9 : l.stackTraces = false) (k : Kx) (a : CA) (hD : cD k a) (p0 : Int32) (z : CS) : cM l k a yX0_isLeapYear wsX0_isLeapYear 8 161 1 6 [.int p0] z (some (.int (m_X0_isLeapYear p0 z).2)) (m_X0_isLeapYear p0 z).1 z := by
  intro sz
  refine vx_ofW (cc := cX0_isLeapYear) (maxL := 2) (ret := (some .boolean)) (by decide) rfl ?_
  intro p e s m args below meth c s₁ B hml hEx hv
  obtain ⟨rfl, rfl, hGx, hP⟩ := hv
  have hx := B.exec
  have hb := B.bytes
  have hr := B.returns
  have hts := atoms_spec (ws := wsX0_isLeapYear) B.pre
  have hown : s.vm.findClass RX0 = some m.cls := findClass_of_methodNamed B.named
  have hlocks := B.notSynchronized
  have htg : ∀ w ∈ GL, w.before _ s = true := fun w h => hts w (List.mem_cons_of_mem _ h)
  have hC : CallFix p m c cX0_isLeapYear 2 s _ wsX0_isLeapYear RX0 := ⟨hx, hb, hml, hown, hts⟩
  have hS : va_S (cA a s.heap.size) s.heap s.heap [] := va_S.rf
  have hl := lv_entry ([.ref a.1, .int p0]) (n := 2) (Nat.le_of_ble_eq_true rfl)
  rw [lg_entry_eq]
  generalize (lg_sl ([.ref a.1, .int p0]) ++ List.replicate (2 - (lg_sl ([.ref a.1, .int p0])).length) Slot.unset).toArray = ls at hl ⊢
  have hl : lv_has ls 2 [(0, .ref a.1), (1, .int p0)] := hl
  have hm : m_X0_isLeapYear p0 z = m_X0_isLeapYear p0 z := rfl
  refine lv_aload_n hx hb dX0_isLeapYear_0 rfl (lv_at hl 0 rfl) ?_
  refine lv_iload_n hx hb dX0_isLeapYear_1 rfl (lv_at hl 1 rfl) ?_
  refine cc_V hC hGx hD hEx hlocks (c_X0_dateAt l hl9 k a hD p0 z) (gV w_153 w_154 w_8 w_26 w_155) kk_X0_dateAt rfl ⟨Nat.le_of_ble_eq_true rfl, Nat.le_of_ble_eq_true rfl⟩ ⟨Nat.le_of_ble_eq_true rfl, Nat.le_of_ble_eq_true rfl⟩ ⟨Nat.le_of_ble_eq_true rfl, Nat.le_of_ble_eq_true rfl⟩ hP hS hl.1 rfl rfl (Nat.le_of_ble_eq_true rfl) dX0_isLeapYear_2 (fun h_1 => ?_) (fun h_1 H locs hP hS => ?_)
  · have hm : m_X0_isLeapYear p0 z = ((m_X0_dateAt p0 z).1, 0) := hm.trans (if_neg h_1)
    exact ⟨by rw [hm], rfl⟩
  · have hm := hm.trans (if_pos h_1)
    refine pc_S hC (c_X0_yearIn l ((m_X0_dateAt p0 z).2)) (gS w_168 w_169 w_26 w_170) kk_X0_yearIn ⟨Nat.le_of_ble_eq_true rfl, Nat.le_of_ble_eq_true rfl⟩ ⟨Nat.le_of_ble_eq_true rfl, Nat.le_of_ble_eq_true rfl⟩ hl.1 rfl rfl (Nat.le_of_ble_eq_true rfl) dX0_isLeapYear_5 ?_
    refine pc_S hC (c_X0_isLeap l (m_X0_yearIn ((m_X0_dateAt p0 z).2))) (gS w_186 w_187 w_26 w_188) kk_X0_isLeap ⟨Nat.le_of_ble_eq_true rfl, Nat.le_of_ble_eq_true rfl⟩ ⟨Nat.le_of_ble_eq_true rfl, Nat.le_of_ble_eq_true rfl⟩ hl.1 rfl rfl (Nat.le_of_ble_eq_true rfl) dX0_isLeapYear_8 ?_
    have hm : m_X0_isLeapYear p0 z = (0, m_X0_isLeap (m_X0_yearIn ((m_X0_dateAt p0 z).2))) := hm
    exact c_zret (E := m_X0_isLeap (m_X0_yearIn ((m_X0_dateAt p0 z).2))) hx hb hr hlocks (nb_X0_isLeap _ ) (by rw [hm]) (by rw [hm]) rfl hP hS ⟨Nat.le_of_ble_eq_true rfl, Nat.le_of_ble_eq_true rfl⟩ dX0_isLeapYear_11
def m_X0_field (p0 : Int32) (p1 : Int32) (z : CS) : Nat × Int32 := (if (m_X0_dateAt p0 z).1 = 0 then (if m_X0_requireWithin p1 (0 : Int32) (5 : Int32) = 0 then (if p1 = 0 then (0, m_X0_placeInRound (m_X0_dayIn ((m_X0_dateAt p0 z).2))) else (if p1 = 1 then (0, m_X0_roundOf (m_X0_dayIn ((m_X0_dateAt p0 z).2))) else (if p1 = 2 then (0, m_X0_placeInRound (m_X0_dayInYear ((m_X0_dateAt p0 z).2))) else (if p1 = 3 then (0, m_X0_roundOf (m_X0_dayInYear ((m_X0_dateAt p0 z).2))) else (if p1 = 4 then (0, m_X0_yearOfEra ((m_X0_yearIn ((m_X0_dateAt p0 z).2)).toInt32)) else (if lg_cmp (m_X0_yearIn ((m_X0_dateAt p0 z).2)) (1 : Int64) < 0 then (0, (0 : Int32)) else (0, (1 : Int32)))))))) else ((m_X0_requireWithin p1 (0 : Int32) (5 : Int32)), 0)) else ((m_X0_dateAt p0 z).1, 0))
theorem kk_X0_field : pK yX0_field wsX0_field cX0_field 5 (some .int) 2 := ⟨⟨_, rfl⟩, by decide +kernel, by decide +kernel, by decide +kernel⟩
set_option maxRecDepth 100000 in
set_option maxHeartbeats 4000000 in
theorem c_X0_field (l : Launch) (hl9 : l.stackTraces = false) (k : Kx) (a : CA) (hD : cD k a) (p0 : Int32) (p1 : Int32) (z : CS) : cM l k a yX0_field wsX0_field 8 161 2 12 [.int p0, .int p1] z (some (.int (m_X0_field p0 p1 z).2)) (m_X0_field p0 p1 z).1 z := by
  intro sz
  refine vx_ofW (cc := cX0_field) (maxL := 5) (ret := (some .int)) (by decide) rfl ?_
  intro p e s m args below meth c s₁ B hml hEx hv
  obtain ⟨rfl, rfl, hGx, hP⟩ := hv
  have hx := B.exec
  have hb := B.bytes
  have hr := B.returns
  have hts := atoms_spec (ws := wsX0_field) B.pre
  have hown : s.vm.findClass RX0 = some m.cls := findClass_of_methodNamed B.named
  have hlocks := B.notSynchronized
  have htg : ∀ w ∈ GL, w.before _ s = true := fun w h => hts w (List.mem_cons_of_mem _ h)
  have hC : CallFix p m c cX0_field 5 s _ wsX0_field RX0 := ⟨hx, hb, hml, hown, hts⟩
  have hS : va_S (cA a s.heap.size) s.heap s.heap [] := va_S.rf
  have hl := lv_entry ([.ref a.1, .int p0, .int p1]) (n := 5) (Nat.le_of_ble_eq_true rfl)
  rw [lg_entry_eq]
  generalize (lg_sl ([.ref a.1, .int p0, .int p1]) ++ List.replicate (5 - (lg_sl ([.ref a.1, .int p0, .int p1])).length) Slot.unset).toArray = ls at hl ⊢
  have hl : lv_has ls 5 [(0, .ref a.1), (1, .int p0), (2, .int p1)] := hl
  have hm : m_X0_field p0 p1 z = m_X0_field p0 p1 z := rfl
  refine lv_aload_n hx hb dX0_field_0 rfl (lv_at hl 0 rfl) ?_
  refine lv_iload_n hx hb dX0_field_1 rfl (lv_at hl 1 rfl) ?_
  refine cc_V hC hGx hD hEx hlocks (c_X0_dateAt l hl9 k a hD p0 z) (gV w_153 w_154 w_8 w_26 w_155) kk_X0_dateAt rfl ⟨Nat.le_of_ble_eq_true rfl, Nat.le_of_ble_eq_true rfl⟩ ⟨Nat.le_of_ble_eq_true rfl, Nat.le_of_ble_eq_true rfl⟩ ⟨Nat.le_of_ble_eq_true rfl, Nat.le_of_ble_eq_true rfl⟩ hP hS hl.1 rfl rfl (Nat.le_of_ble_eq_true rfl) dX0_field_2 (fun h_1 => ?_) (fun h_1 H locs hP hS => ?_)
  · have hm : m_X0_field p0 p1 z = ((m_X0_dateAt p0 z).1, 0) := hm.trans (if_neg h_1)
    exact ⟨by rw [hm], rfl⟩
  · have hm := hm.trans (if_pos h_1)
    refine lv_lstore_n (lv' := [(3, .long ((m_X0_dateAt p0 z).2)), (0, .ref a.1), (1, .int p0), (2, .int p1)]) hx hb dX0_field_5 rfl hl (by decide) rfl (fun ls hl => ?_)
    refine lv_iload_n hx hb dX0_field_6 rfl (lv_at hl 3 rfl) ?_
    refine lv_iconst (v := 0) hx hb dX0_field_7 (by decide) ?_
    refine lv_iconst (v := 5) hx hb dX0_field_8 (by decide) ?_
    refine ct_S hC hGx hD hEx hlocks (t_X0_requireWithin l hl9 k p1 (0 : Int32) (5 : Int32)) (gS w_295 w_296 w_26 w_297) kk_X0_requireWithin ⟨Nat.le_of_ble_eq_true rfl, Nat.le_of_ble_eq_true rfl⟩ ⟨Nat.le_of_ble_eq_true rfl, Nat.le_of_ble_eq_true rfl⟩ ⟨Nat.le_of_ble_eq_true rfl, Nat.le_of_ble_eq_true rfl⟩ hP hS hl.1 rfl rfl (Nat.le_of_ble_eq_true rfl) dX0_field_9 (fun h_2 => by have hm : m_X0_field p0 p1 z = ((m_X0_requireWithin p1 (0 : Int32) (5 : Int32)), 0) := hm.trans (if_neg h_2); exact ⟨by rw [hm], rfl⟩) (fun h_2 => ?_)
    have hm := hm.trans (if_pos h_2)
    refine lv_iload_n hx hb dX0_field_12 rfl (lv_at hl 3 rfl) ?_
    by_cases h_3 : p1 = 0
    · have hm := hm.trans (if_pos h_3)
      refine lv_tableIn (off := 35) (tgt := 48) hx hb dX0_field_13 (by rw [h_3]; decide) (by rw [h_3]; decide) (by rw [h_3]; rfl) (by decide) ?_
      refine lv_lload_n hx hb dX0_field_48 rfl (lv_at hl 0 rfl) ?_
      refine pc_S hC (c_X0_dayIn l ((m_X0_dateAt p0 z).2)) (gS w_189 w_190 w_26 w_191) kk_X0_dayIn ⟨Nat.le_of_ble_eq_true rfl, Nat.le_of_ble_eq_true rfl⟩ ⟨Nat.le_of_ble_eq_true rfl, Nat.le_of_ble_eq_true rfl⟩ hl.1 rfl rfl (Nat.le_of_ble_eq_true rfl) dX0_field_49 ?_
      refine pc_S hC (c_X0_placeInRound l (m_X0_dayIn ((m_X0_dateAt p0 z).2))) (gS w_312 w_313 w_26 w_314) kk_X0_placeInRound ⟨Nat.le_of_ble_eq_true rfl, Nat.le_of_ble_eq_true rfl⟩ ⟨Nat.le_of_ble_eq_true rfl, Nat.le_of_ble_eq_true rfl⟩ hl.1 rfl rfl (Nat.le_of_ble_eq_true rfl) dX0_field_52 ?_
      have hm : m_X0_field p0 p1 z = (0, m_X0_placeInRound (m_X0_dayIn ((m_X0_dateAt p0 z).2))) := hm
      exact c_iret (E := m_X0_placeInRound (m_X0_dayIn ((m_X0_dateAt p0 z).2))) hx hb hr hlocks (by rw [hm]) (by rw [hm]) rfl hP hS ⟨Nat.le_of_ble_eq_true rfl, Nat.le_of_ble_eq_true rfl⟩ dX0_field_55
    · have hm := hm.trans (if_neg h_3)
      by_cases h_4 : p1 = 1
      · have hm := hm.trans (if_pos h_4)
        refine lv_tableIn (off := 43) (tgt := 56) hx hb dX0_field_13 (by rw [h_4]; decide) (by rw [h_4]; decide) (by rw [h_4]; rfl) (by decide) ?_
        refine lv_lload_n hx hb dX0_field_56 rfl (lv_at hl 0 rfl) ?_
        refine pc_S hC (c_X0_dayIn l ((m_X0_dateAt p0 z).2)) (gS w_189 w_190 w_26 w_191) kk_X0_dayIn ⟨Nat.le_of_ble_eq_true rfl, Nat.le_of_ble_eq_true rfl⟩ ⟨Nat.le_of_ble_eq_true rfl, Nat.le_of_ble_eq_true rfl⟩ hl.1 rfl rfl (Nat.le_of_ble_eq_true rfl) dX0_field_57 ?_
        refine pc_S hC (c_X0_roundOf l (m_X0_dayIn ((m_X0_dateAt p0 z).2))) (gS w_315 w_316 w_26 w_317) kk_X0_roundOf ⟨Nat.le_of_ble_eq_true rfl, Nat.le_of_ble_eq_true rfl⟩ ⟨Nat.le_of_ble_eq_true rfl, Nat.le_of_ble_eq_true rfl⟩ hl.1 rfl rfl (Nat.le_of_ble_eq_true rfl) dX0_field_60 ?_
        have hm : m_X0_field p0 p1 z = (0, m_X0_roundOf (m_X0_dayIn ((m_X0_dateAt p0 z).2))) := hm
        exact c_iret (E := m_X0_roundOf (m_X0_dayIn ((m_X0_dateAt p0 z).2))) hx hb hr hlocks (by rw [hm]) (by rw [hm]) rfl hP hS ⟨Nat.le_of_ble_eq_true rfl, Nat.le_of_ble_eq_true rfl⟩ dX0_field_63
      · have hm := hm.trans (if_neg h_4)
        by_cases h_5 : p1 = 2
        · have hm := hm.trans (if_pos h_5)
          refine lv_tableIn (off := 51) (tgt := 64) hx hb dX0_field_13 (by rw [h_5]; decide) (by rw [h_5]; decide) (by rw [h_5]; rfl) (by decide) ?_
          refine lv_lload_n hx hb dX0_field_64 rfl (lv_at hl 0 rfl) ?_
          refine pc_S hC (c_X0_dayInYear l ((m_X0_dateAt p0 z).2)) (gS w_183 w_184 w_26 w_185) kk_X0_dayInYear ⟨Nat.le_of_ble_eq_true rfl, Nat.le_of_ble_eq_true rfl⟩ ⟨Nat.le_of_ble_eq_true rfl, Nat.le_of_ble_eq_true rfl⟩ hl.1 rfl rfl (Nat.le_of_ble_eq_true rfl) dX0_field_65 ?_
          refine pc_S hC (c_X0_placeInRound l (m_X0_dayInYear ((m_X0_dateAt p0 z).2))) (gS w_312 w_313 w_26 w_314) kk_X0_placeInRound ⟨Nat.le_of_ble_eq_true rfl, Nat.le_of_ble_eq_true rfl⟩ ⟨Nat.le_of_ble_eq_true rfl, Nat.le_of_ble_eq_true rfl⟩ hl.1 rfl rfl (Nat.le_of_ble_eq_true rfl) dX0_field_68 ?_
          have hm : m_X0_field p0 p1 z = (0, m_X0_placeInRound (m_X0_dayInYear ((m_X0_dateAt p0 z).2))) := hm
          exact c_iret (E := m_X0_placeInRound (m_X0_dayInYear ((m_X0_dateAt p0 z).2))) hx hb hr hlocks (by rw [hm]) (by rw [hm]) rfl hP hS ⟨Nat.le_of_ble_eq_true rfl, Nat.le_of_ble_eq_true rfl⟩ dX0_field_71
        · have hm := hm.trans (if_neg h_5)
          by_cases h_6 : p1 = 3
          · have hm := hm.trans (if_pos h_6)
            refine lv_tableIn (off := 59) (tgt := 72) hx hb dX0_field_13 (by rw [h_6]; decide) (by rw [h_6]; decide) (by rw [h_6]; rfl) (by decide) ?_
            refine lv_lload_n hx hb dX0_field_72 rfl (lv_at hl 0 rfl) ?_
            refine pc_S hC (c_X0_dayInYear l ((m_X0_dateAt p0 z).2)) (gS w_183 w_184 w_26 w_185) kk_X0_dayInYear ⟨Nat.le_of_ble_eq_true rfl, Nat.le_of_ble_eq_true rfl⟩ ⟨Nat.le_of_ble_eq_true rfl, Nat.le_of_ble_eq_true rfl⟩ hl.1 rfl rfl (Nat.le_of_ble_eq_true rfl) dX0_field_73 ?_
            refine pc_S hC (c_X0_roundOf l (m_X0_dayInYear ((m_X0_dateAt p0 z).2))) (gS w_315 w_316 w_26 w_317) kk_X0_roundOf ⟨Nat.le_of_ble_eq_true rfl, Nat.le_of_ble_eq_true rfl⟩ ⟨Nat.le_of_ble_eq_true rfl, Nat.le_of_ble_eq_true rfl⟩ hl.1 rfl rfl (Nat.le_of_ble_eq_true rfl) dX0_field_76 ?_
            have hm : m_X0_field p0 p1 z = (0, m_X0_roundOf (m_X0_dayInYear ((m_X0_dateAt p0 z).2))) := hm
            exact c_iret (E := m_X0_roundOf (m_X0_dayInYear ((m_X0_dateAt p0 z).2))) hx hb hr hlocks (by rw [hm]) (by rw [hm]) rfl hP hS ⟨Nat.le_of_ble_eq_true rfl, Nat.le_of_ble_eq_true rfl⟩ dX0_field_79
          · have hm := hm.trans (if_neg h_6)
            by_cases h_7 : p1 = 4
            · have hm := hm.trans (if_pos h_7)
              refine lv_tableIn (off := 67) (tgt := 80) hx hb dX0_field_13 (by rw [h_7]; decide) (by rw [h_7]; decide) (by rw [h_7]; rfl) (by decide) ?_
              refine lv_lload_n hx hb dX0_field_80 rfl (lv_at hl 0 rfl) ?_
              refine pc_S hC (c_X0_yearIn l ((m_X0_dateAt p0 z).2)) (gS w_168 w_169 w_26 w_170) kk_X0_yearIn ⟨Nat.le_of_ble_eq_true rfl, Nat.le_of_ble_eq_true rfl⟩ ⟨Nat.le_of_ble_eq_true rfl, Nat.le_of_ble_eq_true rfl⟩ hl.1 rfl rfl (Nat.le_of_ble_eq_true rfl) dX0_field_81 ?_
              refine lv_l2i hx hb dX0_field_84 rfl ?_
              refine pc_S hC (c_X0_yearOfEra l ((m_X0_yearIn ((m_X0_dateAt p0 z).2)).toInt32)) (gS w_318 w_319 w_26 w_320) kk_X0_yearOfEra ⟨Nat.le_of_ble_eq_true rfl, Nat.le_of_ble_eq_true rfl⟩ ⟨Nat.le_of_ble_eq_true rfl, Nat.le_of_ble_eq_true rfl⟩ hl.1 rfl rfl (Nat.le_of_ble_eq_true rfl) dX0_field_85 ?_
              have hm : m_X0_field p0 p1 z = (0, m_X0_yearOfEra ((m_X0_yearIn ((m_X0_dateAt p0 z).2)).toInt32)) := hm
              exact c_iret (E := m_X0_yearOfEra ((m_X0_yearIn ((m_X0_dateAt p0 z).2)).toInt32)) hx hb hr hlocks (by rw [hm]) (by rw [hm]) rfl hP hS ⟨Nat.le_of_ble_eq_true rfl, Nat.le_of_ble_eq_true rfl⟩ dX0_field_88
            · have hm := hm.trans (if_neg h_7)
              refine lv_tableOut (tgt := 89) hx hb dX0_field_13 (by have hh : (p1).toInt ≠ 0 ∧ (p1).toInt ≠ 1 ∧ (p1).toInt ≠ 2 ∧ (p1).toInt ≠ 3 ∧ (p1).toInt ≠ 4 := ⟨fun q => h_3 (Int32.toInt_inj.mp (q.trans (by decide))), fun q => h_4 (Int32.toInt_inj.mp (q.trans (by decide))), fun q => h_5 (Int32.toInt_inj.mp (q.trans (by decide))), fun q => h_6 (Int32.toInt_inj.mp (q.trans (by decide))), fun q => h_7 (Int32.toInt_inj.mp (q.trans (by decide)))⟩; omega) (by decide) ?_
              refine lv_lload_n hx hb dX0_field_89 rfl (lv_at hl 0 rfl) ?_
              refine pc_S hC (c_X0_yearIn l ((m_X0_dateAt p0 z).2)) (gS w_168 w_169 w_26 w_170) kk_X0_yearIn ⟨Nat.le_of_ble_eq_true rfl, Nat.le_of_ble_eq_true rfl⟩ ⟨Nat.le_of_ble_eq_true rfl, Nat.le_of_ble_eq_true rfl⟩ hl.1 rfl rfl (Nat.le_of_ble_eq_true rfl) dX0_field_90 ?_
              refine lv_lconst (v := 1) hx hb dX0_field_93 (by decide) ?_
              refine W.lcmp hx hb dX0_field_94 ?_
              refine lv_if_lt (tgt := 102) hx hb dX0_field_95 (by decide) (fun h_8 => ?_) (fun h_8 => ?_)
              · have hm := hm.trans (if_pos h_8)
                refine lv_iconst (v := 0) hx hb dX0_field_102 (by decide) ?_
                have hm : m_X0_field p0 p1 z = (0, (0 : Int32)) := hm
                exact c_iret (E := (0 : Int32)) hx hb hr hlocks (by rw [hm]) (by rw [hm]) rfl hP hS ⟨Nat.le_of_ble_eq_true rfl, Nat.le_of_ble_eq_true rfl⟩ dX0_field_103
              · have hm := hm.trans (if_neg h_8)
                refine lv_iconst (v := 1) hx hb dX0_field_98 (by decide) ?_
                refine lv_goto (tgt := 103) hx hb dX0_field_99 (by decide) ?_
                have hm : m_X0_field p0 p1 z = (0, (1 : Int32)) := hm
                exact c_iret (E := (1 : Int32)) hx hb hr hlocks (by rw [hm]) (by rw [hm]) rfl hP hS ⟨Nat.le_of_ble_eq_true rfl, Nat.le_of_ble_eq_true rfl⟩ dX0_field_103
def m_X0_isDate (p0 : Int32) (p1 : Int32) (p2 : Int32) (z : CS) : Nat × Int32 := (if m_X0_requireYearMonthDay p0 p1 p2 = 0 then (if m_X0_monthLength p1 (m_X0_isLeap p0.toInt64) < p2 then (0, (0 : Int32)) else (0, (1 : Int32))) else ((m_X0_requireYearMonthDay p0 p1 p2), 0))
theorem kk_X0_isDate : pK yX0_isDate wsX0_isDate cX0_isDate 4 (some .boolean) 3 := ⟨⟨_, rfl⟩, by decide +kernel, by decide +kernel, by decide +kernel⟩
set_option maxRecDepth 100000 in
set_option maxHeartbeats 4000000 in
theorem c_X0_isDate (l : Launch) (hl9 : l.stackTraces = false) (k : Kx) (a : CA) (hD : cD k a) (p0 : Int32) (p1 : Int32) (p2 : Int32) (z : CS) : cM l k a yX0_isDate wsX0_isDate 8 164 3 18 [.int p0, .int p1, .int p2] z (some (.int (m_X0_isDate p0 p1 p2 z).2)) (m_X0_isDate p0 p1 p2 z).1 z := by
  intro sz
  refine vx_ofW (cc := cX0_isDate) (maxL := 4) (ret := (some .boolean)) (by decide) rfl ?_
  intro p e s m args below meth c s₁ B hml hEx hv
  obtain ⟨rfl, rfl, hGx, hP⟩ := hv
  have hx := B.exec
  have hb := B.bytes
  have hr := B.returns
  have hts := atoms_spec (ws := wsX0_isDate) B.pre
  have hown : s.vm.findClass RX0 = some m.cls := findClass_of_methodNamed B.named
  have hlocks := B.notSynchronized
  have htg : ∀ w ∈ GL, w.before _ s = true := fun w h => hts w (List.mem_cons_of_mem _ h)
  have hC : CallFix p m c cX0_isDate 4 s _ wsX0_isDate RX0 := ⟨hx, hb, hml, hown, hts⟩
  have hS : va_S (cA a s.heap.size) s.heap s.heap [] := va_S.rf
  have hl := lv_entry ([.ref a.1, .int p0, .int p1, .int p2]) (n := 4) (Nat.le_of_ble_eq_true rfl)
  rw [lg_entry_eq]
  generalize (lg_sl ([.ref a.1, .int p0, .int p1, .int p2]) ++ List.replicate (4 - (lg_sl ([.ref a.1, .int p0, .int p1, .int p2])).length) Slot.unset).toArray = ls at hl ⊢
  have hl : lv_has ls 4 [(0, .ref a.1), (1, .int p0), (2, .int p1), (3, .int p2)] := hl
  have hm : m_X0_isDate p0 p1 p2 z = m_X0_isDate p0 p1 p2 z := rfl
  refine lv_iload_n hx hb dX0_isDate_0 rfl (lv_at hl 1 rfl) ?_
  refine lv_iload_n hx hb dX0_isDate_1 rfl (lv_at hl 2 rfl) ?_
  refine lv_iload_n hx hb dX0_isDate_2 rfl (lv_at hl 3 rfl) ?_
  refine ct_S hC hGx hD hEx hlocks (t_X0_requireYearMonthDay l hl9 k p0 p1 p2) (gS w_629 w_630 w_26 w_631) kk_X0_requireYearMonthDay ⟨Nat.le_of_ble_eq_true rfl, Nat.le_of_ble_eq_true rfl⟩ ⟨Nat.le_of_ble_eq_true rfl, Nat.le_of_ble_eq_true rfl⟩ ⟨Nat.le_of_ble_eq_true rfl, Nat.le_of_ble_eq_true rfl⟩ hP hS hl.1 rfl rfl (Nat.le_of_ble_eq_true rfl) dX0_isDate_3 (fun h_1 => by have hm : m_X0_isDate p0 p1 p2 z = ((m_X0_requireYearMonthDay p0 p1 p2), 0) := hm.trans (if_neg h_1); exact ⟨by rw [hm], rfl⟩) (fun h_1 => ?_)
  have hm := hm.trans (if_pos h_1)
  refine lv_iload_n hx hb dX0_isDate_6 rfl (lv_at hl 3 rfl) ?_
  refine lv_iload_n hx hb dX0_isDate_7 rfl (lv_at hl 2 rfl) ?_
  refine lv_iload_n hx hb dX0_isDate_8 rfl (lv_at hl 1 rfl) ?_
  refine lv_i2l hx hb dX0_isDate_9 rfl ?_
  refine pc_S hC (c_X0_isLeap l p0.toInt64) (gS w_186 w_187 w_26 w_188) kk_X0_isLeap ⟨Nat.le_of_ble_eq_true rfl, Nat.le_of_ble_eq_true rfl⟩ ⟨Nat.le_of_ble_eq_true rfl, Nat.le_of_ble_eq_true rfl⟩ hl.1 rfl rfl (Nat.le_of_ble_eq_true rfl) dX0_isDate_10 ?_
  refine pc_S hC (c_X0_monthLength l p1 (m_X0_isLeap p0.toInt64)) (gS w_195 w_196 w_26 w_197) kk_X0_monthLength ⟨Nat.le_of_ble_eq_true rfl, Nat.le_of_ble_eq_true rfl⟩ ⟨Nat.le_of_ble_eq_true rfl, Nat.le_of_ble_eq_true rfl⟩ hl.1 rfl rfl (Nat.le_of_ble_eq_true rfl) dX0_isDate_13 ?_
  refine lv_icmp_gt (tgt := 23) hx hb dX0_isDate_16 (by decide) (fun h_2 => ?_) (fun h_2 => ?_)
  · have hm := hm.trans (if_pos h_2)
    refine lv_iconst (v := 0) hx hb dX0_isDate_23 (by decide) ?_
    have hm : m_X0_isDate p0 p1 p2 z = (0, (0 : Int32)) := hm
    exact c_zret (E := (0 : Int32)) hx hb hr hlocks (rfl) (by rw [hm]) (by rw [hm]) rfl hP hS ⟨Nat.le_of_ble_eq_true rfl, Nat.le_of_ble_eq_true rfl⟩ dX0_isDate_24
  · have hm := hm.trans (if_neg h_2)
    refine lv_iconst (v := 1) hx hb dX0_isDate_19 (by decide) ?_
    refine lv_goto (tgt := 24) hx hb dX0_isDate_20 (by decide) ?_
    have hm : m_X0_isDate p0 p1 p2 z = (0, (1 : Int32)) := hm
    exact c_zret (E := (1 : Int32)) hx hb hr hlocks (rfl) (by rw [hm]) (by rw [hm]) rfl hP hS ⟨Nat.le_of_ble_eq_true rfl, Nat.le_of_ble_eq_true rfl⟩ dX0_isDate_24
def m_X0_wouldBe (p0 : Int32) (p1 : Int32) (p2 : Int32) (z : CS) : Nat × Int32 := (if (m_X0_dateAt p0 z).1 = 0 then (if m_X0_requireUnit p1 = 0 then (if m_X0_requireAmount p2 = 0 then (if m_X0_requireDate (m_X0_unitsLater ((m_X0_dateAt p0 z).2) p1 p2) = 0 then (0, (m_X0_numberOf (m_X0_unitsLater ((m_X0_dateAt p0 z).2) p1 p2)).toInt32) else ((m_X0_requireDate (m_X0_unitsLater ((m_X0_dateAt p0 z).2) p1 p2)), 0)) else ((m_X0_requireAmount p2), 0)) else ((m_X0_requireUnit p1), 0)) else ((m_X0_dateAt p0 z).1, 0))
theorem kk_X0_wouldBe : pK yX0_wouldBe wsX0_wouldBe cX0_wouldBe 8 (some .int) 3 := ⟨⟨_, rfl⟩, by decide +kernel, by decide +kernel, by decide +kernel⟩
set_option maxRecDepth 100000 in
set_option maxHeartbeats 4000000 in
theorem c_X0_wouldBe (l : Launch) (hl9 : l.stackTraces = false) (k : Kx) (a : CA) (hD : cD k a) (p0 : Int32) (p1 : Int32) (p2 : Int32) (z : CS) : cM l k a yX0_wouldBe wsX0_wouldBe 8 162 4 24 [.int p0, .int p1, .int p2] z (some (.int (m_X0_wouldBe p0 p1 p2 z).2)) (m_X0_wouldBe p0 p1 p2 z).1 z := by
  intro sz
  refine vx_ofW (cc := cX0_wouldBe) (maxL := 8) (ret := (some .int)) (by decide) rfl ?_
  intro p e s m args below meth c s₁ B hml hEx hv
  obtain ⟨rfl, rfl, hGx, hP⟩ := hv
  have hx := B.exec
  have hb := B.bytes
  have hr := B.returns
  have hts := atoms_spec (ws := wsX0_wouldBe) B.pre
  have hown : s.vm.findClass RX0 = some m.cls := findClass_of_methodNamed B.named
  have hlocks := B.notSynchronized
  have htg : ∀ w ∈ GL, w.before _ s = true := fun w h => hts w (List.mem_cons_of_mem _ h)
  have hC : CallFix p m c cX0_wouldBe 8 s _ wsX0_wouldBe RX0 := ⟨hx, hb, hml, hown, hts⟩
  have hS : va_S (cA a s.heap.size) s.heap s.heap [] := va_S.rf
  have hl := lv_entry ([.ref a.1, .int p0, .int p1, .int p2]) (n := 8) (Nat.le_of_ble_eq_true rfl)
  rw [lg_entry_eq]
  generalize (lg_sl ([.ref a.1, .int p0, .int p1, .int p2]) ++ List.replicate (8 - (lg_sl ([.ref a.1, .int p0, .int p1, .int p2])).length) Slot.unset).toArray = ls at hl ⊢
  have hl : lv_has ls 8 [(0, .ref a.1), (1, .int p0), (2, .int p1), (3, .int p2)] := hl
  have hm : m_X0_wouldBe p0 p1 p2 z = m_X0_wouldBe p0 p1 p2 z := rfl
  refine lv_aload_n hx hb dX0_wouldBe_0 rfl (lv_at hl 0 rfl) ?_
  refine lv_iload_n hx hb dX0_wouldBe_1 rfl (lv_at hl 1 rfl) ?_
  refine cc_V hC hGx hD hEx hlocks (c_X0_dateAt l hl9 k a hD p0 z) (gV w_153 w_154 w_8 w_26 w_155) kk_X0_dateAt rfl ⟨Nat.le_of_ble_eq_true rfl, Nat.le_of_ble_eq_true rfl⟩ ⟨Nat.le_of_ble_eq_true rfl, Nat.le_of_ble_eq_true rfl⟩ ⟨Nat.le_of_ble_eq_true rfl, Nat.le_of_ble_eq_true rfl⟩ hP hS hl.1 rfl rfl (Nat.le_of_ble_eq_true rfl) dX0_wouldBe_2 (fun h_1 => ?_) (fun h_1 H locs hP hS => ?_)
  · have hm : m_X0_wouldBe p0 p1 p2 z = ((m_X0_dateAt p0 z).1, 0) := hm.trans (if_neg h_1)
    exact ⟨by rw [hm], rfl⟩
  · have hm := hm.trans (if_pos h_1)
    refine lv_lstore (lv' := [(4, .long ((m_X0_dateAt p0 z).2)), (0, .ref a.1), (1, .int p0), (2, .int p1), (3, .int p2)]) hx hb dX0_wouldBe_5 hl (by decide) rfl (fun ls hl => ?_)
    refine lv_iload_n hx hb dX0_wouldBe_7 rfl (lv_at hl 3 rfl) ?_
    refine ct_S hC hGx hD hEx hlocks (t_X0_requireUnit l hl9 k p1) (gS w_595 w_596 w_26 w_597) kk_X0_requireUnit ⟨Nat.le_of_ble_eq_true rfl, Nat.le_of_ble_eq_true rfl⟩ ⟨Nat.le_of_ble_eq_true rfl, Nat.le_of_ble_eq_true rfl⟩ ⟨Nat.le_of_ble_eq_true rfl, Nat.le_of_ble_eq_true rfl⟩ hP hS hl.1 rfl rfl (Nat.le_of_ble_eq_true rfl) dX0_wouldBe_8 (fun h_2 => by have hm : m_X0_wouldBe p0 p1 p2 z = ((m_X0_requireUnit p1), 0) := hm.trans (if_neg h_2); exact ⟨by rw [hm], rfl⟩) (fun h_2 => ?_)
    have hm := hm.trans (if_pos h_2)
    refine lv_iload_n hx hb dX0_wouldBe_11 rfl (lv_at hl 4 rfl) ?_
    refine ct_S hC hGx hD hEx hlocks (t_X0_requireAmount l hl9 k p2) (gS w_752 w_753 w_26 w_754) kk_X0_requireAmount ⟨Nat.le_of_ble_eq_true rfl, Nat.le_of_ble_eq_true rfl⟩ ⟨Nat.le_of_ble_eq_true rfl, Nat.le_of_ble_eq_true rfl⟩ ⟨Nat.le_of_ble_eq_true rfl, Nat.le_of_ble_eq_true rfl⟩ hP hS hl.1 rfl rfl (Nat.le_of_ble_eq_true rfl) dX0_wouldBe_12 (fun h_3 => by have hm : m_X0_wouldBe p0 p1 p2 z = ((m_X0_requireAmount p2), 0) := hm.trans (if_neg h_3); exact ⟨by rw [hm], rfl⟩) (fun h_3 => ?_)
    have hm := hm.trans (if_pos h_3)
    refine lv_lload hx hb dX0_wouldBe_15 (lv_at hl 0 rfl) ?_
    refine lv_iload_n hx hb dX0_wouldBe_17 rfl (lv_at hl 3 rfl) ?_
    refine lv_iload_n hx hb dX0_wouldBe_18 rfl (lv_at hl 4 rfl) ?_
    refine pc_S hC (c_X0_unitsLater l ((m_X0_dateAt p0 z).2) p1 p2) (gS w_757 w_758 w_26 w_759) kk_X0_unitsLater ⟨Nat.le_of_ble_eq_true rfl, Nat.le_of_ble_eq_true rfl⟩ ⟨Nat.le_of_ble_eq_true rfl, Nat.le_of_ble_eq_true rfl⟩ hl.1 rfl rfl (Nat.le_of_ble_eq_true rfl) dX0_wouldBe_19 ?_
    refine lv_lstore (lv' := [(6, .long (m_X0_unitsLater ((m_X0_dateAt p0 z).2) p1 p2)), (4, .long ((m_X0_dateAt p0 z).2)), (0, .ref a.1), (1, .int p0), (2, .int p1), (3, .int p2)]) hx hb dX0_wouldBe_22 hl (by decide) rfl (fun ls hl => ?_)
    refine lv_lload hx hb dX0_wouldBe_24 (lv_at hl 0 rfl) ?_
    refine ct_S hC hGx hD hEx hlocks (t_X0_requireDate l hl9 k (m_X0_unitsLater ((m_X0_dateAt p0 z).2) p1 p2)) (gS w_652 w_653 w_26 w_654) kk_X0_requireDate ⟨Nat.le_of_ble_eq_true rfl, Nat.le_of_ble_eq_true rfl⟩ ⟨Nat.le_of_ble_eq_true rfl, Nat.le_of_ble_eq_true rfl⟩ ⟨Nat.le_of_ble_eq_true rfl, Nat.le_of_ble_eq_true rfl⟩ hP hS hl.1 rfl rfl (Nat.le_of_ble_eq_true rfl) dX0_wouldBe_26 (fun h_4 => by have hm : m_X0_wouldBe p0 p1 p2 z = ((m_X0_requireDate (m_X0_unitsLater ((m_X0_dateAt p0 z).2) p1 p2)), 0) := hm.trans (if_neg h_4); exact ⟨by rw [hm], rfl⟩) (fun h_4 => ?_)
    have hm := hm.trans (if_pos h_4)
    refine lv_lload hx hb dX0_wouldBe_29 (lv_at hl 0 rfl) ?_
    refine pc_S hC (c_X0_numberOf l (m_X0_unitsLater ((m_X0_dateAt p0 z).2) p1 p2)) (gS w_165 w_166 w_26 w_167) kk_X0_numberOf ⟨Nat.le_of_ble_eq_true rfl, Nat.le_of_ble_eq_true rfl⟩ ⟨Nat.le_of_ble_eq_true rfl, Nat.le_of_ble_eq_true rfl⟩ hl.1 rfl rfl (Nat.le_of_ble_eq_true rfl) dX0_wouldBe_31 ?_
    refine lv_l2i hx hb dX0_wouldBe_34 rfl ?_
    have hm : m_X0_wouldBe p0 p1 p2 z = (0, (m_X0_numberOf (m_X0_unitsLater ((m_X0_dateAt p0 z).2) p1 p2)).toInt32) := hm
    exact c_iret (E := (m_X0_numberOf (m_X0_unitsLater ((m_X0_dateAt p0 z).2) p1 p2)).toInt32) hx hb hr hlocks (by rw [hm]) (by rw [hm]) rfl hP hS ⟨Nat.le_of_ble_eq_true rfl, Nat.le_of_ble_eq_true rfl⟩ dX0_wouldBe_35
def m_X0_compare (p0 : Int32) (p1 : Int32) (z : CS) : Nat × Int32 := (if (m_X0_dateAt p0 z).1 = 0 then (if (m_X0_dateAt p1 z).1 = 0 then (0, m_J13_compare_74951 ((m_X0_dateAt p0 z).2) ((m_X0_dateAt p1 z).2)) else ((m_X0_dateAt p1 z).1, 0)) else ((m_X0_dateAt p0 z).1, 0))
theorem kk_X0_compare : pK yX0_compare wsX0_compare cX0_compare 3 (some .int) 2 := ⟨⟨_, rfl⟩, by decide +kernel, by decide +kernel, by decide +kernel⟩
set_option maxRecDepth 100000 in
set_option maxHeartbeats 4000000 in
theorem c_X0_compare (l : Launch) (hl9 : l.stackTraces = false) (k : Kx) (a : CA) (hD : cD k a) (p0 : Int32) (p1 : Int32) (z : CS) : cM l k a yX0_compare wsX0_compare 8 161 2 12 [.int p0, .int p1] z (some (.int (m_X0_compare p0 p1 z).2)) (m_X0_compare p0 p1 z).1 z := by
  intro sz
  refine vx_ofW (cc := cX0_compare) (maxL := 3) (ret := (some .int)) (by decide) rfl ?_
  intro p e s m args below meth c s₁ B hml hEx hv
  obtain ⟨rfl, rfl, hGx, hP⟩ := hv
  have hx := B.exec
  have hb := B.bytes
  have hr := B.returns
  have hts := atoms_spec (ws := wsX0_compare) B.pre
  have hown : s.vm.findClass RX0 = some m.cls := findClass_of_methodNamed B.named
  have hlocks := B.notSynchronized
  have htg : ∀ w ∈ GL, w.before _ s = true := fun w h => hts w (List.mem_cons_of_mem _ h)
  have hC : CallFix p m c cX0_compare 3 s _ wsX0_compare RX0 := ⟨hx, hb, hml, hown, hts⟩
  have hS : va_S (cA a s.heap.size) s.heap s.heap [] := va_S.rf
  have hl := lv_entry ([.ref a.1, .int p0, .int p1]) (n := 3) (Nat.le_of_ble_eq_true rfl)
  rw [lg_entry_eq]
  generalize (lg_sl ([.ref a.1, .int p0, .int p1]) ++ List.replicate (3 - (lg_sl ([.ref a.1, .int p0, .int p1])).length) Slot.unset).toArray = ls at hl ⊢
  have hl : lv_has ls 3 [(0, .ref a.1), (1, .int p0), (2, .int p1)] := hl
  have hm : m_X0_compare p0 p1 z = m_X0_compare p0 p1 z := rfl
  refine lv_aload_n hx hb dX0_compare_0 rfl (lv_at hl 0 rfl) ?_
  refine lv_iload_n hx hb dX0_compare_1 rfl (lv_at hl 1 rfl) ?_
  refine cc_V hC hGx hD hEx hlocks (c_X0_dateAt l hl9 k a hD p0 z) (gV w_153 w_154 w_8 w_26 w_155) kk_X0_dateAt rfl ⟨Nat.le_of_ble_eq_true rfl, Nat.le_of_ble_eq_true rfl⟩ ⟨Nat.le_of_ble_eq_true rfl, Nat.le_of_ble_eq_true rfl⟩ ⟨Nat.le_of_ble_eq_true rfl, Nat.le_of_ble_eq_true rfl⟩ hP hS hl.1 rfl rfl (Nat.le_of_ble_eq_true rfl) dX0_compare_2 (fun h_1 => ?_) (fun h_1 H locs hP hS => ?_)
  · have hm : m_X0_compare p0 p1 z = ((m_X0_dateAt p0 z).1, 0) := hm.trans (if_neg h_1)
    exact ⟨by rw [hm], rfl⟩
  · have hm := hm.trans (if_pos h_1)
    refine lv_aload_n hx hb dX0_compare_5 rfl (lv_at hl 0 rfl) ?_
    refine lv_iload_n hx hb dX0_compare_6 rfl (lv_at hl 2 rfl) ?_
    refine cc_V hC hGx hD hEx hlocks (c_X0_dateAt l hl9 k a hD p1 z) (gV w_153 w_154 w_8 w_26 w_155) kk_X0_dateAt rfl ⟨Nat.le_of_ble_eq_true rfl, Nat.le_of_ble_eq_true rfl⟩ ⟨Nat.le_of_ble_eq_true rfl, Nat.le_of_ble_eq_true rfl⟩ ⟨Nat.le_of_ble_eq_true rfl, Nat.le_of_ble_eq_true rfl⟩ hP hS hl.1 rfl rfl (Nat.le_of_ble_eq_true rfl) dX0_compare_7 (fun h_2 => ?_) (fun h_2 H locs hP hS => ?_)
    · have hm : m_X0_compare p0 p1 z = ((m_X0_dateAt p1 z).1, 0) := hm.trans (if_neg h_2)
      exact ⟨by rw [hm], rfl⟩
    · have hm := hm.trans (if_pos h_2)
      refine pc_S hC (c_J13_compare_74951 l ((m_X0_dateAt p0 z).2) ((m_X0_dateAt p1 z).2)) (gS w_588 w_589 w_47 w_590) kk_J13_compare_74951 ⟨Nat.le_of_ble_eq_true rfl, Nat.le_of_ble_eq_true rfl⟩ ⟨Nat.le_of_ble_eq_true rfl, Nat.le_of_ble_eq_true rfl⟩ hl.1 rfl rfl (Nat.le_of_ble_eq_true rfl) dX0_compare_10 ?_
      have hm : m_X0_compare p0 p1 z = (0, m_J13_compare_74951 ((m_X0_dateAt p0 z).2) ((m_X0_dateAt p1 z).2)) := hm
      exact c_iret (E := m_J13_compare_74951 ((m_X0_dateAt p0 z).2) ((m_X0_dateAt p1 z).2)) hx hb hr hlocks (by rw [hm]) (by rw [hm]) rfl hP hS ⟨Nat.le_of_ble_eq_true rfl, Nat.le_of_ble_eq_true rfl⟩ dX0_compare_13
def m_X0_isBefore (p0 : Int32) (p1 : Int32) (z : CS) : Nat × Int32 := (if (m_X0_dateAt p0 z).1 = 0 then (if (m_X0_dateAt p1 z).1 = 0 then (if 0 ≤ lg_cmp ((m_X0_dateAt p0 z).2) ((m_X0_dateAt p1 z).2) then (0, (0 : Int32)) else (0, (1 : Int32))) else ((m_X0_dateAt p1 z).1, 0)) else ((m_X0_dateAt p0 z).1, 0))
theorem kk_X0_isBefore : pK yX0_isBefore wsX0_isBefore cX0_isBefore 3 (some .boolean) 2 := ⟨⟨_, rfl⟩, by decide +kernel, by decide +kernel, by decide +kernel⟩
set_option maxRecDepth 100000 in
set_option maxHeartbeats 4000000 in
theorem c_X0_isBefore (l : Launch) (hl9 : l.stackTraces = false) (k : Kx) (a : CA) (hD : cD k a) (p0 : Int32) (p1 : Int32) (z : CS) : cM l k a yX0_isBefore wsX0_isBefore 8 161 2 12 [.int p0, .int p1] z (some (.int (m_X0_isBefore p0 p1 z).2)) (m_X0_isBefore p0 p1 z).1 z := by
  intro sz
  refine vx_ofW (cc := cX0_isBefore) (maxL := 3) (ret := (some .boolean)) (by decide) rfl ?_
  intro p e s m args below meth c s₁ B hml hEx hv
  obtain ⟨rfl, rfl, hGx, hP⟩ := hv
  have hx := B.exec
  have hb := B.bytes
  have hr := B.returns
  have hts := atoms_spec (ws := wsX0_isBefore) B.pre
  have hown : s.vm.findClass RX0 = some m.cls := findClass_of_methodNamed B.named
  have hlocks := B.notSynchronized
  have htg : ∀ w ∈ GL, w.before _ s = true := fun w h => hts w (List.mem_cons_of_mem _ h)
  have hC : CallFix p m c cX0_isBefore 3 s _ wsX0_isBefore RX0 := ⟨hx, hb, hml, hown, hts⟩
  have hS : va_S (cA a s.heap.size) s.heap s.heap [] := va_S.rf
  have hl := lv_entry ([.ref a.1, .int p0, .int p1]) (n := 3) (Nat.le_of_ble_eq_true rfl)
  rw [lg_entry_eq]
  generalize (lg_sl ([.ref a.1, .int p0, .int p1]) ++ List.replicate (3 - (lg_sl ([.ref a.1, .int p0, .int p1])).length) Slot.unset).toArray = ls at hl ⊢
  have hl : lv_has ls 3 [(0, .ref a.1), (1, .int p0), (2, .int p1)] := hl
  have hm : m_X0_isBefore p0 p1 z = m_X0_isBefore p0 p1 z := rfl
  refine lv_aload_n hx hb dX0_isBefore_0 rfl (lv_at hl 0 rfl) ?_
  refine lv_iload_n hx hb dX0_isBefore_1 rfl (lv_at hl 1 rfl) ?_
  refine cc_V hC hGx hD hEx hlocks (c_X0_dateAt l hl9 k a hD p0 z) (gV w_153 w_154 w_8 w_26 w_155) kk_X0_dateAt rfl ⟨Nat.le_of_ble_eq_true rfl, Nat.le_of_ble_eq_true rfl⟩ ⟨Nat.le_of_ble_eq_true rfl, Nat.le_of_ble_eq_true rfl⟩ ⟨Nat.le_of_ble_eq_true rfl, Nat.le_of_ble_eq_true rfl⟩ hP hS hl.1 rfl rfl (Nat.le_of_ble_eq_true rfl) dX0_isBefore_2 (fun h_1 => ?_) (fun h_1 H locs hP hS => ?_)
  · have hm : m_X0_isBefore p0 p1 z = ((m_X0_dateAt p0 z).1, 0) := hm.trans (if_neg h_1)
    exact ⟨by rw [hm], rfl⟩
  · have hm := hm.trans (if_pos h_1)
    refine lv_aload_n hx hb dX0_isBefore_5 rfl (lv_at hl 0 rfl) ?_
    refine lv_iload_n hx hb dX0_isBefore_6 rfl (lv_at hl 2 rfl) ?_
    refine cc_V hC hGx hD hEx hlocks (c_X0_dateAt l hl9 k a hD p1 z) (gV w_153 w_154 w_8 w_26 w_155) kk_X0_dateAt rfl ⟨Nat.le_of_ble_eq_true rfl, Nat.le_of_ble_eq_true rfl⟩ ⟨Nat.le_of_ble_eq_true rfl, Nat.le_of_ble_eq_true rfl⟩ ⟨Nat.le_of_ble_eq_true rfl, Nat.le_of_ble_eq_true rfl⟩ hP hS hl.1 rfl rfl (Nat.le_of_ble_eq_true rfl) dX0_isBefore_7 (fun h_2 => ?_) (fun h_2 H locs hP hS => ?_)
    · have hm : m_X0_isBefore p0 p1 z = ((m_X0_dateAt p1 z).1, 0) := hm.trans (if_neg h_2)
      exact ⟨by rw [hm], rfl⟩
    · have hm := hm.trans (if_pos h_2)
      refine W.lcmp hx hb dX0_isBefore_10 ?_
      refine lv_if_ge (tgt := 18) hx hb dX0_isBefore_11 (by decide) (fun h_3 => ?_) (fun h_3 => ?_)
      · have hm := hm.trans (if_pos h_3)
        refine lv_iconst (v := 0) hx hb dX0_isBefore_18 (by decide) ?_
        have hm : m_X0_isBefore p0 p1 z = (0, (0 : Int32)) := hm
        exact c_zret (E := (0 : Int32)) hx hb hr hlocks (rfl) (by rw [hm]) (by rw [hm]) rfl hP hS ⟨Nat.le_of_ble_eq_true rfl, Nat.le_of_ble_eq_true rfl⟩ dX0_isBefore_19
      · have hm := hm.trans (if_neg h_3)
        refine lv_iconst (v := 1) hx hb dX0_isBefore_14 (by decide) ?_
        refine lv_goto (tgt := 19) hx hb dX0_isBefore_15 (by decide) ?_
        have hm : m_X0_isBefore p0 p1 z = (0, (1 : Int32)) := hm
        exact c_zret (E := (1 : Int32)) hx hb hr hlocks (rfl) (by rw [hm]) (by rw [hm]) rfl hP hS ⟨Nat.le_of_ble_eq_true rfl, Nat.le_of_ble_eq_true rfl⟩ dX0_isBefore_19
def m_X0_isAfter (p0 : Int32) (p1 : Int32) (z : CS) : Nat × Int32 := (if (m_X0_dateAt p0 z).1 = 0 then (if (m_X0_dateAt p1 z).1 = 0 then (if lg_cmp ((m_X0_dateAt p0 z).2) ((m_X0_dateAt p1 z).2) ≤ 0 then (0, (0 : Int32)) else (0, (1 : Int32))) else ((m_X0_dateAt p1 z).1, 0)) else ((m_X0_dateAt p0 z).1, 0))
theorem kk_X0_isAfter : pK yX0_isAfter wsX0_isAfter cX0_isAfter 3 (some .boolean) 2 := ⟨⟨_, rfl⟩, by decide +kernel, by decide +kernel, by decide +kernel⟩
set_option maxRecDepth 100000 in
set_option maxHeartbeats 4000000 in
theorem c_X0_isAfter (l : Launch) (hl9 : l.stackTraces = false) (k : Kx) (a : CA) (hD : cD k a) (p0 : Int32) (p1 : Int32) (z : CS) : cM l k a yX0_isAfter wsX0_isAfter 8 161 2 12 [.int p0, .int p1] z (some (.int (m_X0_isAfter p0 p1 z).2)) (m_X0_isAfter p0 p1 z).1 z := by
  intro sz
  refine vx_ofW (cc := cX0_isAfter) (maxL := 3) (ret := (some .boolean)) (by decide) rfl ?_
  intro p e s m args below meth c s₁ B hml hEx hv
  obtain ⟨rfl, rfl, hGx, hP⟩ := hv
  have hx := B.exec
  have hb := B.bytes
  have hr := B.returns
  have hts := atoms_spec (ws := wsX0_isAfter) B.pre
  have hown : s.vm.findClass RX0 = some m.cls := findClass_of_methodNamed B.named
  have hlocks := B.notSynchronized
  have htg : ∀ w ∈ GL, w.before _ s = true := fun w h => hts w (List.mem_cons_of_mem _ h)
  have hC : CallFix p m c cX0_isAfter 3 s _ wsX0_isAfter RX0 := ⟨hx, hb, hml, hown, hts⟩
  have hS : va_S (cA a s.heap.size) s.heap s.heap [] := va_S.rf
  have hl := lv_entry ([.ref a.1, .int p0, .int p1]) (n := 3) (Nat.le_of_ble_eq_true rfl)
  rw [lg_entry_eq]
  generalize (lg_sl ([.ref a.1, .int p0, .int p1]) ++ List.replicate (3 - (lg_sl ([.ref a.1, .int p0, .int p1])).length) Slot.unset).toArray = ls at hl ⊢
  have hl : lv_has ls 3 [(0, .ref a.1), (1, .int p0), (2, .int p1)] := hl
  have hm : m_X0_isAfter p0 p1 z = m_X0_isAfter p0 p1 z := rfl
  refine lv_aload_n hx hb dX0_isAfter_0 rfl (lv_at hl 0 rfl) ?_
  refine lv_iload_n hx hb dX0_isAfter_1 rfl (lv_at hl 1 rfl) ?_
  refine cc_V hC hGx hD hEx hlocks (c_X0_dateAt l hl9 k a hD p0 z) (gV w_153 w_154 w_8 w_26 w_155) kk_X0_dateAt rfl ⟨Nat.le_of_ble_eq_true rfl, Nat.le_of_ble_eq_true rfl⟩ ⟨Nat.le_of_ble_eq_true rfl, Nat.le_of_ble_eq_true rfl⟩ ⟨Nat.le_of_ble_eq_true rfl, Nat.le_of_ble_eq_true rfl⟩ hP hS hl.1 rfl rfl (Nat.le_of_ble_eq_true rfl) dX0_isAfter_2 (fun h_1 => ?_) (fun h_1 H locs hP hS => ?_)
  · have hm : m_X0_isAfter p0 p1 z = ((m_X0_dateAt p0 z).1, 0) := hm.trans (if_neg h_1)
    exact ⟨by rw [hm], rfl⟩
  · have hm := hm.trans (if_pos h_1)
    refine lv_aload_n hx hb dX0_isAfter_5 rfl (lv_at hl 0 rfl) ?_
    refine lv_iload_n hx hb dX0_isAfter_6 rfl (lv_at hl 2 rfl) ?_
    refine cc_V hC hGx hD hEx hlocks (c_X0_dateAt l hl9 k a hD p1 z) (gV w_153 w_154 w_8 w_26 w_155) kk_X0_dateAt rfl ⟨Nat.le_of_ble_eq_true rfl, Nat.le_of_ble_eq_true rfl⟩ ⟨Nat.le_of_ble_eq_true rfl, Nat.le_of_ble_eq_true rfl⟩ ⟨Nat.le_of_ble_eq_true rfl, Nat.le_of_ble_eq_true rfl⟩ hP hS hl.1 rfl rfl (Nat.le_of_ble_eq_true rfl) dX0_isAfter_7 (fun h_2 => ?_) (fun h_2 H locs hP hS => ?_)
    · have hm : m_X0_isAfter p0 p1 z = ((m_X0_dateAt p1 z).1, 0) := hm.trans (if_neg h_2)
      exact ⟨by rw [hm], rfl⟩
    · have hm := hm.trans (if_pos h_2)
      refine W.lcmp hx hb dX0_isAfter_10 ?_
      refine lv_if_le (tgt := 18) hx hb dX0_isAfter_11 (by decide) (fun h_3 => ?_) (fun h_3 => ?_)
      · have hm := hm.trans (if_pos h_3)
        refine lv_iconst (v := 0) hx hb dX0_isAfter_18 (by decide) ?_
        have hm : m_X0_isAfter p0 p1 z = (0, (0 : Int32)) := hm
        exact c_zret (E := (0 : Int32)) hx hb hr hlocks (rfl) (by rw [hm]) (by rw [hm]) rfl hP hS ⟨Nat.le_of_ble_eq_true rfl, Nat.le_of_ble_eq_true rfl⟩ dX0_isAfter_19
      · have hm := hm.trans (if_neg h_3)
        refine lv_iconst (v := 1) hx hb dX0_isAfter_14 (by decide) ?_
        refine lv_goto (tgt := 19) hx hb dX0_isAfter_15 (by decide) ?_
        have hm : m_X0_isAfter p0 p1 z = (0, (1 : Int32)) := hm
        exact c_zret (E := (1 : Int32)) hx hb hr hlocks (rfl) (by rw [hm]) (by rw [hm]) rfl hP hS ⟨Nat.le_of_ble_eq_true rfl, Nat.le_of_ble_eq_true rfl⟩ dX0_isAfter_19
def m_X0_isSame (p0 : Int32) (p1 : Int32) (z : CS) : Nat × Int32 := (if (m_X0_dateAt p0 z).1 = 0 then (if (m_X0_dateAt p1 z).1 = 0 then (if lg_cmp ((m_X0_dateAt p0 z).2) ((m_X0_dateAt p1 z).2) = 0 then (0, (1 : Int32)) else (0, (0 : Int32))) else ((m_X0_dateAt p1 z).1, 0)) else ((m_X0_dateAt p0 z).1, 0))
theorem kk_X0_isSame : pK yX0_isSame wsX0_isSame cX0_isSame 3 (some .boolean) 2 := ⟨⟨_, rfl⟩, by decide +kernel, by decide +kernel, by decide +kernel⟩
set_option maxRecDepth 100000 in
set_option maxHeartbeats 4000000 in
theorem c_X0_isSame (l : Launch) (hl9 : l.stackTraces = false) (k : Kx) (a : CA) (hD : cD k a) (p0 : Int32) (p1 : Int32) (z : CS) : cM l k a yX0_isSame wsX0_isSame 8 161 2 12 [.int p0, .int p1] z (some (.int (m_X0_isSame p0 p1 z).2)) (m_X0_isSame p0 p1 z).1 z := by
  intro sz
  refine vx_ofW (cc := cX0_isSame) (maxL := 3) (ret := (some .boolean)) (by decide) rfl ?_
  intro p e s m args below meth c s₁ B hml hEx hv
  obtain ⟨rfl, rfl, hGx, hP⟩ := hv
  have hx := B.exec
  have hb := B.bytes
  have hr := B.returns
  have hts := atoms_spec (ws := wsX0_isSame) B.pre
  have hown : s.vm.findClass RX0 = some m.cls := findClass_of_methodNamed B.named
  have hlocks := B.notSynchronized
  have htg : ∀ w ∈ GL, w.before _ s = true := fun w h => hts w (List.mem_cons_of_mem _ h)
  have hC : CallFix p m c cX0_isSame 3 s _ wsX0_isSame RX0 := ⟨hx, hb, hml, hown, hts⟩
  have hS : va_S (cA a s.heap.size) s.heap s.heap [] := va_S.rf
  have hl := lv_entry ([.ref a.1, .int p0, .int p1]) (n := 3) (Nat.le_of_ble_eq_true rfl)
  rw [lg_entry_eq]
  generalize (lg_sl ([.ref a.1, .int p0, .int p1]) ++ List.replicate (3 - (lg_sl ([.ref a.1, .int p0, .int p1])).length) Slot.unset).toArray = ls at hl ⊢
  have hl : lv_has ls 3 [(0, .ref a.1), (1, .int p0), (2, .int p1)] := hl
  have hm : m_X0_isSame p0 p1 z = m_X0_isSame p0 p1 z := rfl
  refine lv_aload_n hx hb dX0_isSame_0 rfl (lv_at hl 0 rfl) ?_
  refine lv_iload_n hx hb dX0_isSame_1 rfl (lv_at hl 1 rfl) ?_
  refine cc_V hC hGx hD hEx hlocks (c_X0_dateAt l hl9 k a hD p0 z) (gV w_153 w_154 w_8 w_26 w_155) kk_X0_dateAt rfl ⟨Nat.le_of_ble_eq_true rfl, Nat.le_of_ble_eq_true rfl⟩ ⟨Nat.le_of_ble_eq_true rfl, Nat.le_of_ble_eq_true rfl⟩ ⟨Nat.le_of_ble_eq_true rfl, Nat.le_of_ble_eq_true rfl⟩ hP hS hl.1 rfl rfl (Nat.le_of_ble_eq_true rfl) dX0_isSame_2 (fun h_1 => ?_) (fun h_1 H locs hP hS => ?_)
  · have hm : m_X0_isSame p0 p1 z = ((m_X0_dateAt p0 z).1, 0) := hm.trans (if_neg h_1)
    exact ⟨by rw [hm], rfl⟩
  · have hm := hm.trans (if_pos h_1)
    refine lv_aload_n hx hb dX0_isSame_5 rfl (lv_at hl 0 rfl) ?_
    refine lv_iload_n hx hb dX0_isSame_6 rfl (lv_at hl 2 rfl) ?_
    refine cc_V hC hGx hD hEx hlocks (c_X0_dateAt l hl9 k a hD p1 z) (gV w_153 w_154 w_8 w_26 w_155) kk_X0_dateAt rfl ⟨Nat.le_of_ble_eq_true rfl, Nat.le_of_ble_eq_true rfl⟩ ⟨Nat.le_of_ble_eq_true rfl, Nat.le_of_ble_eq_true rfl⟩ ⟨Nat.le_of_ble_eq_true rfl, Nat.le_of_ble_eq_true rfl⟩ hP hS hl.1 rfl rfl (Nat.le_of_ble_eq_true rfl) dX0_isSame_7 (fun h_2 => ?_) (fun h_2 H locs hP hS => ?_)
    · have hm : m_X0_isSame p0 p1 z = ((m_X0_dateAt p1 z).1, 0) := hm.trans (if_neg h_2)
      exact ⟨by rw [hm], rfl⟩
    · have hm := hm.trans (if_pos h_2)
      refine W.lcmp hx hb dX0_isSame_10 ?_
      refine lv_if_ne (tgt := 18) hx hb dX0_isSame_11 (by decide) (fun h_3 => ?_) (fun h_3 => ?_)
      · have hm := hm.trans (if_neg h_3)
        refine lv_iconst (v := 0) hx hb dX0_isSame_18 (by decide) ?_
        have hm : m_X0_isSame p0 p1 z = (0, (0 : Int32)) := hm
        exact c_zret (E := (0 : Int32)) hx hb hr hlocks (rfl) (by rw [hm]) (by rw [hm]) rfl hP hS ⟨Nat.le_of_ble_eq_true rfl, Nat.le_of_ble_eq_true rfl⟩ dX0_isSame_19
      · have hm := hm.trans (if_pos h_3)
        refine lv_iconst (v := 1) hx hb dX0_isSame_14 (by decide) ?_
        refine lv_goto (tgt := 19) hx hb dX0_isSame_15 (by decide) ?_
        have hm : m_X0_isSame p0 p1 z = (0, (1 : Int32)) := hm
        exact c_zret (E := (1 : Int32)) hx hb hr hlocks (rfl) (by rw [hm]) (by rw [hm]) rfl hP hS ⟨Nat.le_of_ble_eq_true rfl, Nat.le_of_ble_eq_true rfl⟩ dX0_isSame_19
def m_X0_between (p0 : Int32) (p1 : Int32) (p2 : Int32) (z : CS) : Nat × Int32 := (if (m_X0_dateAt p0 z).1 = 0 then (if (m_X0_dateAt p1 z).1 = 0 then (if m_X0_requireUnit p2 = 0 then (if 0 ≤ lg_cmp ((m_X0_dateAt p1 z).2) ((m_X0_dateAt p0 z).2) then (0, m_X0_unitsUpTo ((m_X0_dateAt p0 z).2) ((m_X0_dateAt p1 z).2) p2) else (0, -(m_X0_unitsUpTo ((m_X0_dateAt p1 z).2) ((m_X0_dateAt p0 z).2) p2))) else ((m_X0_requireUnit p2), 0)) else ((m_X0_dateAt p1 z).1, 0)) else ((m_X0_dateAt p0 z).1, 0))
theorem kk_X0_between : pK yX0_between wsX0_between cX0_between 8 (some .int) 3 := ⟨⟨_, rfl⟩, by decide +kernel, by decide +kernel, by decide +kernel⟩
set_option maxRecDepth 100000 in
set_option maxHeartbeats 4000000 in
theorem c_X0_between (l : Launch) (hl9 : l.stackTraces = false) (k : Kx) (a : CA) (hD : cD k a) (p0 : Int32) (p1 : Int32) (p2 : Int32) (z : CS) : cM l k a yX0_between wsX0_between 8 162 3 18 [.int p0, .int p1, .int p2] z (some (.int (m_X0_between p0 p1 p2 z).2)) (m_X0_between p0 p1 p2 z).1 z := by
  intro sz
  refine vx_ofW (cc := cX0_between) (maxL := 8) (ret := (some .int)) (by decide) rfl ?_
  intro p e s m args below meth c s₁ B hml hEx hv
  obtain ⟨rfl, rfl, hGx, hP⟩ := hv
  have hx := B.exec
  have hb := B.bytes
  have hr := B.returns
  have hts := atoms_spec (ws := wsX0_between) B.pre
  have hown : s.vm.findClass RX0 = some m.cls := findClass_of_methodNamed B.named
  have hlocks := B.notSynchronized
  have htg : ∀ w ∈ GL, w.before _ s = true := fun w h => hts w (List.mem_cons_of_mem _ h)
  have hC : CallFix p m c cX0_between 8 s _ wsX0_between RX0 := ⟨hx, hb, hml, hown, hts⟩
  have hS : va_S (cA a s.heap.size) s.heap s.heap [] := va_S.rf
  have hl := lv_entry ([.ref a.1, .int p0, .int p1, .int p2]) (n := 8) (Nat.le_of_ble_eq_true rfl)
  rw [lg_entry_eq]
  generalize (lg_sl ([.ref a.1, .int p0, .int p1, .int p2]) ++ List.replicate (8 - (lg_sl ([.ref a.1, .int p0, .int p1, .int p2])).length) Slot.unset).toArray = ls at hl ⊢
  have hl : lv_has ls 8 [(0, .ref a.1), (1, .int p0), (2, .int p1), (3, .int p2)] := hl
  have hm : m_X0_between p0 p1 p2 z = m_X0_between p0 p1 p2 z := rfl
  refine lv_aload_n hx hb dX0_between_0 rfl (lv_at hl 0 rfl) ?_
  refine lv_iload_n hx hb dX0_between_1 rfl (lv_at hl 1 rfl) ?_
  refine cc_V hC hGx hD hEx hlocks (c_X0_dateAt l hl9 k a hD p0 z) (gV w_153 w_154 w_8 w_26 w_155) kk_X0_dateAt rfl ⟨Nat.le_of_ble_eq_true rfl, Nat.le_of_ble_eq_true rfl⟩ ⟨Nat.le_of_ble_eq_true rfl, Nat.le_of_ble_eq_true rfl⟩ ⟨Nat.le_of_ble_eq_true rfl, Nat.le_of_ble_eq_true rfl⟩ hP hS hl.1 rfl rfl (Nat.le_of_ble_eq_true rfl) dX0_between_2 (fun h_1 => ?_) (fun h_1 H locs hP hS => ?_)
  · have hm : m_X0_between p0 p1 p2 z = ((m_X0_dateAt p0 z).1, 0) := hm.trans (if_neg h_1)
    exact ⟨by rw [hm], rfl⟩
  · have hm := hm.trans (if_pos h_1)
    refine lv_lstore (lv' := [(4, .long ((m_X0_dateAt p0 z).2)), (0, .ref a.1), (1, .int p0), (2, .int p1), (3, .int p2)]) hx hb dX0_between_5 hl (by decide) rfl (fun ls hl => ?_)
    refine lv_aload_n hx hb dX0_between_7 rfl (lv_at hl 1 rfl) ?_
    refine lv_iload_n hx hb dX0_between_8 rfl (lv_at hl 3 rfl) ?_
    refine cc_V hC hGx hD hEx hlocks (c_X0_dateAt l hl9 k a hD p1 z) (gV w_153 w_154 w_8 w_26 w_155) kk_X0_dateAt rfl ⟨Nat.le_of_ble_eq_true rfl, Nat.le_of_ble_eq_true rfl⟩ ⟨Nat.le_of_ble_eq_true rfl, Nat.le_of_ble_eq_true rfl⟩ ⟨Nat.le_of_ble_eq_true rfl, Nat.le_of_ble_eq_true rfl⟩ hP hS hl.1 rfl rfl (Nat.le_of_ble_eq_true rfl) dX0_between_9 (fun h_2 => ?_) (fun h_2 H locs hP hS => ?_)
    · have hm : m_X0_between p0 p1 p2 z = ((m_X0_dateAt p1 z).1, 0) := hm.trans (if_neg h_2)
      exact ⟨by rw [hm], rfl⟩
    · have hm := hm.trans (if_pos h_2)
      refine lv_lstore (lv' := [(6, .long ((m_X0_dateAt p1 z).2)), (4, .long ((m_X0_dateAt p0 z).2)), (0, .ref a.1), (1, .int p0), (2, .int p1), (3, .int p2)]) hx hb dX0_between_12 hl (by decide) rfl (fun ls hl => ?_)
      refine lv_iload_n hx hb dX0_between_14 rfl (lv_at hl 5 rfl) ?_
      refine ct_S hC hGx hD hEx hlocks (t_X0_requireUnit l hl9 k p2) (gS w_595 w_596 w_26 w_597) kk_X0_requireUnit ⟨Nat.le_of_ble_eq_true rfl, Nat.le_of_ble_eq_true rfl⟩ ⟨Nat.le_of_ble_eq_true rfl, Nat.le_of_ble_eq_true rfl⟩ ⟨Nat.le_of_ble_eq_true rfl, Nat.le_of_ble_eq_true rfl⟩ hP hS hl.1 rfl rfl (Nat.le_of_ble_eq_true rfl) dX0_between_15 (fun h_3 => by have hm : m_X0_between p0 p1 p2 z = ((m_X0_requireUnit p2), 0) := hm.trans (if_neg h_3); exact ⟨by rw [hm], rfl⟩) (fun h_3 => ?_)
      have hm := hm.trans (if_pos h_3)
      refine lv_lload hx hb dX0_between_18 (lv_at hl 0 rfl) ?_
      refine lv_lload hx hb dX0_between_20 (lv_at hl 1 rfl) ?_
      refine W.lcmp hx hb dX0_between_22 ?_
      refine lv_if_ge (tgt := 38) hx hb dX0_between_23 (by decide) (fun h_4 => ?_) (fun h_4 => ?_)
      · have hm := hm.trans (if_pos h_4)
        refine lv_lload hx hb dX0_between_38 (lv_at hl 1 rfl) ?_
        refine lv_lload hx hb dX0_between_40 (lv_at hl 0 rfl) ?_
        refine lv_iload_n hx hb dX0_between_42 rfl (lv_at hl 5 rfl) ?_
        refine pc_S hC (c_X0_unitsUpTo l ((m_X0_dateAt p0 z).2) ((m_X0_dateAt p1 z).2) p2) (gS w_598 w_599 w_26 w_600) kk_X0_unitsUpTo ⟨Nat.le_of_ble_eq_true rfl, Nat.le_of_ble_eq_true rfl⟩ ⟨Nat.le_of_ble_eq_true rfl, Nat.le_of_ble_eq_true rfl⟩ hl.1 rfl rfl (Nat.le_of_ble_eq_true rfl) dX0_between_43 ?_
        have hm : m_X0_between p0 p1 p2 z = (0, m_X0_unitsUpTo ((m_X0_dateAt p0 z).2) ((m_X0_dateAt p1 z).2) p2) := hm
        exact c_iret (E := m_X0_unitsUpTo ((m_X0_dateAt p0 z).2) ((m_X0_dateAt p1 z).2) p2) hx hb hr hlocks (by rw [hm]) (by rw [hm]) rfl hP hS ⟨Nat.le_of_ble_eq_true rfl, Nat.le_of_ble_eq_true rfl⟩ dX0_between_46
      · have hm := hm.trans (if_neg h_4)
        refine lv_lload hx hb dX0_between_26 (lv_at hl 0 rfl) ?_
        refine lv_lload hx hb dX0_between_28 (lv_at hl 1 rfl) ?_
        refine lv_iload_n hx hb dX0_between_30 rfl (lv_at hl 5 rfl) ?_
        refine pc_S hC (c_X0_unitsUpTo l ((m_X0_dateAt p1 z).2) ((m_X0_dateAt p0 z).2) p2) (gS w_598 w_599 w_26 w_600) kk_X0_unitsUpTo ⟨Nat.le_of_ble_eq_true rfl, Nat.le_of_ble_eq_true rfl⟩ ⟨Nat.le_of_ble_eq_true rfl, Nat.le_of_ble_eq_true rfl⟩ hl.1 rfl rfl (Nat.le_of_ble_eq_true rfl) dX0_between_31 ?_
        refine lv_ineg hx hb dX0_between_34 ?_
        refine lv_goto (tgt := 46) hx hb dX0_between_35 (by decide) ?_
        have hm : m_X0_between p0 p1 p2 z = (0, -(m_X0_unitsUpTo ((m_X0_dateAt p1 z).2) ((m_X0_dateAt p0 z).2) p2)) := hm
        exact c_iret (E := -(m_X0_unitsUpTo ((m_X0_dateAt p1 z).2) ((m_X0_dateAt p0 z).2) p2)) hx hb hr hlocks (by rw [hm]) (by rw [hm]) rfl hP hS ⟨Nat.le_of_ble_eq_true rfl, Nat.le_of_ble_eq_true rfl⟩ dX0_between_46
def m_X0_apart (p0 : Int32) (p1 : Int32) (p2 : Int32) (z : CS) : Nat × Int32 := (if (m_X0_dateAt p0 z).1 = 0 then (if (m_X0_dateAt p1 z).1 = 0 then (if m_X0_requireWithin p2 (0 : Int32) (2 : Int32) = 0 then (if m_X0_requireNotAhead ((m_X0_dateAt p1 z).2) ((m_X0_dateAt p0 z).2) = 0 then (if p2 = 0 then (0, (m_X0_monthsUpTo ((m_X0_dateAt p0 z).2) ((m_X0_dateAt p1 z).2)) / (12 : Int32)) else (if p2 = 1 then (0, (m_X0_monthsUpTo ((m_X0_dateAt p0 z).2) ((m_X0_dateAt p1 z).2)) - (m_X0_monthsUpTo ((m_X0_dateAt p0 z).2) ((m_X0_dateAt p1 z).2)) / (12 : Int32) * (12 : Int32)) else (0, m_X0_daysBehindMonths ((m_X0_dateAt p0 z).2) ((m_X0_dateAt p1 z).2)))) else ((m_X0_requireNotAhead ((m_X0_dateAt p1 z).2) ((m_X0_dateAt p0 z).2)), 0)) else ((m_X0_requireWithin p2 (0 : Int32) (2 : Int32)), 0)) else ((m_X0_dateAt p1 z).1, 0)) else ((m_X0_dateAt p0 z).1, 0))
theorem kk_X0_apart : pK yX0_apart wsX0_apart cX0_apart 8 (some .int) 3 := ⟨⟨_, rfl⟩, by decide +kernel, by decide +kernel, by decide +kernel⟩
set_option maxRecDepth 100000 in
set_option maxHeartbeats 4000000 in
theorem c_X0_apart (l : Launch) (hl9 : l.stackTraces = false) (k : Kx) (a : CA) (hD : cD k a) (p0 : Int32) (p1 : Int32) (p2 : Int32) (z : CS) : cM l k a yX0_apart wsX0_apart 8 161 4 24 [.int p0, .int p1, .int p2] z (some (.int (m_X0_apart p0 p1 p2 z).2)) (m_X0_apart p0 p1 p2 z).1 z := by
  intro sz
  refine vx_ofW (cc := cX0_apart) (maxL := 8) (ret := (some .int)) (by decide) rfl ?_
  intro p e s m args below meth c s₁ B hml hEx hv
  obtain ⟨rfl, rfl, hGx, hP⟩ := hv
  have hx := B.exec
  have hb := B.bytes
  have hr := B.returns
  have hts := atoms_spec (ws := wsX0_apart) B.pre
  have hown : s.vm.findClass RX0 = some m.cls := findClass_of_methodNamed B.named
  have hlocks := B.notSynchronized
  have htg : ∀ w ∈ GL, w.before _ s = true := fun w h => hts w (List.mem_cons_of_mem _ h)
  have hC : CallFix p m c cX0_apart 8 s _ wsX0_apart RX0 := ⟨hx, hb, hml, hown, hts⟩
  have hS : va_S (cA a s.heap.size) s.heap s.heap [] := va_S.rf
  have hl := lv_entry ([.ref a.1, .int p0, .int p1, .int p2]) (n := 8) (Nat.le_of_ble_eq_true rfl)
  rw [lg_entry_eq]
  generalize (lg_sl ([.ref a.1, .int p0, .int p1, .int p2]) ++ List.replicate (8 - (lg_sl ([.ref a.1, .int p0, .int p1, .int p2])).length) Slot.unset).toArray = ls at hl ⊢
  have hl : lv_has ls 8 [(0, .ref a.1), (1, .int p0), (2, .int p1), (3, .int p2)] := hl
  have hm : m_X0_apart p0 p1 p2 z = m_X0_apart p0 p1 p2 z := rfl
  refine lv_aload_n hx hb dX0_apart_0 rfl (lv_at hl 0 rfl) ?_
  refine lv_iload_n hx hb dX0_apart_1 rfl (lv_at hl 1 rfl) ?_
  refine cc_V hC hGx hD hEx hlocks (c_X0_dateAt l hl9 k a hD p0 z) (gV w_153 w_154 w_8 w_26 w_155) kk_X0_dateAt rfl ⟨Nat.le_of_ble_eq_true rfl, Nat.le_of_ble_eq_true rfl⟩ ⟨Nat.le_of_ble_eq_true rfl, Nat.le_of_ble_eq_true rfl⟩ ⟨Nat.le_of_ble_eq_true rfl, Nat.le_of_ble_eq_true rfl⟩ hP hS hl.1 rfl rfl (Nat.le_of_ble_eq_true rfl) dX0_apart_2 (fun h_1 => ?_) (fun h_1 H locs hP hS => ?_)
  · have hm : m_X0_apart p0 p1 p2 z = ((m_X0_dateAt p0 z).1, 0) := hm.trans (if_neg h_1)
    exact ⟨by rw [hm], rfl⟩
  · have hm := hm.trans (if_pos h_1)
    refine lv_lstore (lv' := [(4, .long ((m_X0_dateAt p0 z).2)), (0, .ref a.1), (1, .int p0), (2, .int p1), (3, .int p2)]) hx hb dX0_apart_5 hl (by decide) rfl (fun ls hl => ?_)
    refine lv_aload_n hx hb dX0_apart_7 rfl (lv_at hl 1 rfl) ?_
    refine lv_iload_n hx hb dX0_apart_8 rfl (lv_at hl 3 rfl) ?_
    refine cc_V hC hGx hD hEx hlocks (c_X0_dateAt l hl9 k a hD p1 z) (gV w_153 w_154 w_8 w_26 w_155) kk_X0_dateAt rfl ⟨Nat.le_of_ble_eq_true rfl, Nat.le_of_ble_eq_true rfl⟩ ⟨Nat.le_of_ble_eq_true rfl, Nat.le_of_ble_eq_true rfl⟩ ⟨Nat.le_of_ble_eq_true rfl, Nat.le_of_ble_eq_true rfl⟩ hP hS hl.1 rfl rfl (Nat.le_of_ble_eq_true rfl) dX0_apart_9 (fun h_2 => ?_) (fun h_2 H locs hP hS => ?_)
    · have hm : m_X0_apart p0 p1 p2 z = ((m_X0_dateAt p1 z).1, 0) := hm.trans (if_neg h_2)
      exact ⟨by rw [hm], rfl⟩
    · have hm := hm.trans (if_pos h_2)
      refine lv_lstore (lv' := [(6, .long ((m_X0_dateAt p1 z).2)), (4, .long ((m_X0_dateAt p0 z).2)), (0, .ref a.1), (1, .int p0), (2, .int p1), (3, .int p2)]) hx hb dX0_apart_12 hl (by decide) rfl (fun ls hl => ?_)
      refine lv_iload_n hx hb dX0_apart_14 rfl (lv_at hl 5 rfl) ?_
      refine lv_iconst (v := 0) hx hb dX0_apart_15 (by decide) ?_
      refine lv_iconst (v := 2) hx hb dX0_apart_16 (by decide) ?_
      refine ct_S hC hGx hD hEx hlocks (t_X0_requireWithin l hl9 k p2 (0 : Int32) (2 : Int32)) (gS w_295 w_296 w_26 w_297) kk_X0_requireWithin ⟨Nat.le_of_ble_eq_true rfl, Nat.le_of_ble_eq_true rfl⟩ ⟨Nat.le_of_ble_eq_true rfl, Nat.le_of_ble_eq_true rfl⟩ ⟨Nat.le_of_ble_eq_true rfl, Nat.le_of_ble_eq_true rfl⟩ hP hS hl.1 rfl rfl (Nat.le_of_ble_eq_true rfl) dX0_apart_17 (fun h_3 => by have hm : m_X0_apart p0 p1 p2 z = ((m_X0_requireWithin p2 (0 : Int32) (2 : Int32)), 0) := hm.trans (if_neg h_3); exact ⟨by rw [hm], rfl⟩) (fun h_3 => ?_)
      have hm := hm.trans (if_pos h_3)
      refine lv_lload hx hb dX0_apart_20 (lv_at hl 0 rfl) ?_
      refine lv_lload hx hb dX0_apart_22 (lv_at hl 1 rfl) ?_
      refine ct_S hC hGx hD hEx hlocks (t_X0_requireNotAhead l hl9 k ((m_X0_dateAt p1 z).2) ((m_X0_dateAt p0 z).2)) (gS w_835 w_836 w_26 w_837) kk_X0_requireNotAhead ⟨Nat.le_of_ble_eq_true rfl, Nat.le_of_ble_eq_true rfl⟩ ⟨Nat.le_of_ble_eq_true rfl, Nat.le_of_ble_eq_true rfl⟩ ⟨Nat.le_of_ble_eq_true rfl, Nat.le_of_ble_eq_true rfl⟩ hP hS hl.1 rfl rfl (Nat.le_of_ble_eq_true rfl) dX0_apart_24 (fun h_4 => by have hm : m_X0_apart p0 p1 p2 z = ((m_X0_requireNotAhead ((m_X0_dateAt p1 z).2) ((m_X0_dateAt p0 z).2)), 0) := hm.trans (if_neg h_4); exact ⟨by rw [hm], rfl⟩) (fun h_4 => ?_)
      have hm := hm.trans (if_pos h_4)
      refine lv_iload_n hx hb dX0_apart_27 rfl (lv_at hl 5 rfl) ?_
      by_cases h_5 : p2 = 0
      · have hm := hm.trans (if_pos h_5)
        refine lv_lookup (off := 28) (tgt := 56) hx hb dX0_apart_28 (by decide) (by rw [h_5]; rfl) (by decide) ?_
        refine lv_lload hx hb dX0_apart_56 (lv_at hl 1 rfl) ?_
        refine lv_lload hx hb dX0_apart_58 (lv_at hl 0 rfl) ?_
        refine pc_S hC (c_X0_monthsUpTo l ((m_X0_dateAt p0 z).2) ((m_X0_dateAt p1 z).2)) (gS w_221 w_222 w_26 w_223) kk_X0_monthsUpTo ⟨Nat.le_of_ble_eq_true rfl, Nat.le_of_ble_eq_true rfl⟩ ⟨Nat.le_of_ble_eq_true rfl, Nat.le_of_ble_eq_true rfl⟩ hl.1 rfl rfl (Nat.le_of_ble_eq_true rfl) dX0_apart_60 ?_
        refine lv_bipush (v := 12) hx hb dX0_apart_63 (by decide) ?_
        refine lv_idiv hx hb dX0_apart_65 (by decide) ?_
        have hm : m_X0_apart p0 p1 p2 z = (0, (m_X0_monthsUpTo ((m_X0_dateAt p0 z).2) ((m_X0_dateAt p1 z).2)) / (12 : Int32)) := hm
        exact c_iret (E := (m_X0_monthsUpTo ((m_X0_dateAt p0 z).2) ((m_X0_dateAt p1 z).2)) / (12 : Int32)) hx hb hr hlocks (by rw [hm]) (by rw [hm]) rfl hP hS ⟨Nat.le_of_ble_eq_true rfl, Nat.le_of_ble_eq_true rfl⟩ dX0_apart_66
      · have hm := hm.trans (if_neg h_5)
        by_cases h_6 : p2 = 1
        · have hm := hm.trans (if_pos h_6)
          refine lv_lookup (off := 39) (tgt := 67) hx hb dX0_apart_28 (by decide) (by rw [h_6]; rfl) (by decide) ?_
          refine lv_lload hx hb dX0_apart_67 (lv_at hl 1 rfl) ?_
          refine lv_lload hx hb dX0_apart_69 (lv_at hl 0 rfl) ?_
          refine pc_S hC (c_X0_monthsUpTo l ((m_X0_dateAt p0 z).2) ((m_X0_dateAt p1 z).2)) (gS w_221 w_222 w_26 w_223) kk_X0_monthsUpTo ⟨Nat.le_of_ble_eq_true rfl, Nat.le_of_ble_eq_true rfl⟩ ⟨Nat.le_of_ble_eq_true rfl, Nat.le_of_ble_eq_true rfl⟩ hl.1 rfl rfl (Nat.le_of_ble_eq_true rfl) dX0_apart_71 ?_
          refine lv_bipush (v := 12) hx hb dX0_apart_74 (by decide) ?_
          refine lv_irem hx hb dX0_apart_76 (by decide) ?_
          have hm : m_X0_apart p0 p1 p2 z = (0, (m_X0_monthsUpTo ((m_X0_dateAt p0 z).2) ((m_X0_dateAt p1 z).2)) - (m_X0_monthsUpTo ((m_X0_dateAt p0 z).2) ((m_X0_dateAt p1 z).2)) / (12 : Int32) * (12 : Int32)) := hm
          exact c_iret (E := (m_X0_monthsUpTo ((m_X0_dateAt p0 z).2) ((m_X0_dateAt p1 z).2)) - (m_X0_monthsUpTo ((m_X0_dateAt p0 z).2) ((m_X0_dateAt p1 z).2)) / (12 : Int32) * (12 : Int32)) hx hb hr hlocks (by rw [hm]) (by rw [hm]) rfl hP hS ⟨Nat.le_of_ble_eq_true rfl, Nat.le_of_ble_eq_true rfl⟩ dX0_apart_77
        · have hm := hm.trans (if_neg h_6)
          refine lv_lookup (off := 50) (tgt := 78) hx hb dX0_apart_28 (by decide) (by show (if (0 : Int) = (p2).toInt then _ else if (1 : Int) = (p2).toInt then _ else _) = _; exact (if_neg (fun q => h_5 (Int32.toInt_inj.mp (q.symm.trans (by decide))))).trans (if_neg (fun q => h_6 (Int32.toInt_inj.mp (q.symm.trans (by decide)))))) (by decide) ?_
          refine lv_lload hx hb dX0_apart_78 (lv_at hl 1 rfl) ?_
          refine lv_lload hx hb dX0_apart_80 (lv_at hl 0 rfl) ?_
          refine pc_S hC (c_X0_daysBehindMonths l ((m_X0_dateAt p0 z).2) ((m_X0_dateAt p1 z).2)) (gS w_231 w_232 w_26 w_233) kk_X0_daysBehindMonths ⟨Nat.le_of_ble_eq_true rfl, Nat.le_of_ble_eq_true rfl⟩ ⟨Nat.le_of_ble_eq_true rfl, Nat.le_of_ble_eq_true rfl⟩ hl.1 rfl rfl (Nat.le_of_ble_eq_true rfl) dX0_apart_82 ?_
          have hm : m_X0_apart p0 p1 p2 z = (0, m_X0_daysBehindMonths ((m_X0_dateAt p0 z).2) ((m_X0_dateAt p1 z).2)) := hm
          exact c_iret (E := m_X0_daysBehindMonths ((m_X0_dateAt p0 z).2) ((m_X0_dateAt p1 z).2)) hx hb hr hlocks (by rw [hm]) (by rw [hm]) rfl hP hS ⟨Nat.le_of_ble_eq_true rfl, Nat.le_of_ble_eq_true rfl⟩ dX0_apart_85
def m_X0_daysToYearEnd (p0 : Int32) (z : CS) : Nat × Int32 := (if (m_X0_dateAt p0 z).1 = 0 then (0, (m_X0_yearLength (m_X0_yearIn ((m_X0_dateAt p0 z).2))) - (m_X0_dayInYear ((m_X0_dateAt p0 z).2))) else ((m_X0_dateAt p0 z).1, 0))
theorem kk_X0_daysToYearEnd : pK yX0_daysToYearEnd wsX0_daysToYearEnd cX0_daysToYearEnd 4 (some .int) 1 := ⟨⟨_, rfl⟩, by decide +kernel, by decide +kernel, by decide +kernel⟩
set_option maxRecDepth 100000 in
set_option maxHeartbeats 4000000 in
theorem c_X0_daysToYearEnd (l : Launch) (hl9 : l.stackTraces = false) (k : Kx) (a : CA) (hD : cD k a) (p0 : Int32) (z : CS) : cM l k a yX0_daysToYearEnd wsX0_daysToYearEnd 8 161 1 6 [.int p0] z (some (.int (m_X0_daysToYearEnd p0 z).2)) (m_X0_daysToYearEnd p0 z).1 z := by
  intro sz
  refine vx_ofW (cc := cX0_daysToYearEnd) (maxL := 4) (ret := (some .int)) (by decide) rfl ?_
  intro p e s m args below meth c s₁ B hml hEx hv
  obtain ⟨rfl, rfl, hGx, hP⟩ := hv
  have hx := B.exec
  have hb := B.bytes
  have hr := B.returns
  have hts := atoms_spec (ws := wsX0_daysToYearEnd) B.pre
  have hown : s.vm.findClass RX0 = some m.cls := findClass_of_methodNamed B.named
  have hlocks := B.notSynchronized
  have htg : ∀ w ∈ GL, w.before _ s = true := fun w h => hts w (List.mem_cons_of_mem _ h)
  have hC : CallFix p m c cX0_daysToYearEnd 4 s _ wsX0_daysToYearEnd RX0 := ⟨hx, hb, hml, hown, hts⟩
  have hS : va_S (cA a s.heap.size) s.heap s.heap [] := va_S.rf
  have hl := lv_entry ([.ref a.1, .int p0]) (n := 4) (Nat.le_of_ble_eq_true rfl)
  rw [lg_entry_eq]
  generalize (lg_sl ([.ref a.1, .int p0]) ++ List.replicate (4 - (lg_sl ([.ref a.1, .int p0])).length) Slot.unset).toArray = ls at hl ⊢
  have hl : lv_has ls 4 [(0, .ref a.1), (1, .int p0)] := hl
  have hm : m_X0_daysToYearEnd p0 z = m_X0_daysToYearEnd p0 z := rfl
  refine lv_aload_n hx hb dX0_daysToYearEnd_0 rfl (lv_at hl 0 rfl) ?_
  refine lv_iload_n hx hb dX0_daysToYearEnd_1 rfl (lv_at hl 1 rfl) ?_
  refine cc_V hC hGx hD hEx hlocks (c_X0_dateAt l hl9 k a hD p0 z) (gV w_153 w_154 w_8 w_26 w_155) kk_X0_dateAt rfl ⟨Nat.le_of_ble_eq_true rfl, Nat.le_of_ble_eq_true rfl⟩ ⟨Nat.le_of_ble_eq_true rfl, Nat.le_of_ble_eq_true rfl⟩ ⟨Nat.le_of_ble_eq_true rfl, Nat.le_of_ble_eq_true rfl⟩ hP hS hl.1 rfl rfl (Nat.le_of_ble_eq_true rfl) dX0_daysToYearEnd_2 (fun h_1 => ?_) (fun h_1 H locs hP hS => ?_)
  · have hm : m_X0_daysToYearEnd p0 z = ((m_X0_dateAt p0 z).1, 0) := hm.trans (if_neg h_1)
    exact ⟨by rw [hm], rfl⟩
  · have hm := hm.trans (if_pos h_1)
    refine lv_lstore_n (lv' := [(2, .long ((m_X0_dateAt p0 z).2)), (0, .ref a.1), (1, .int p0)]) hx hb dX0_daysToYearEnd_5 rfl hl (by decide) rfl (fun ls hl => ?_)
    refine lv_lload_n hx hb dX0_daysToYearEnd_6 rfl (lv_at hl 0 rfl) ?_
    refine pc_S hC (c_X0_yearIn l ((m_X0_dateAt p0 z).2)) (gS w_168 w_169 w_26 w_170) kk_X0_yearIn ⟨Nat.le_of_ble_eq_true rfl, Nat.le_of_ble_eq_true rfl⟩ ⟨Nat.le_of_ble_eq_true rfl, Nat.le_of_ble_eq_true rfl⟩ hl.1 rfl rfl (Nat.le_of_ble_eq_true rfl) dX0_daysToYearEnd_7 ?_
    refine pc_S hC (c_X0_yearLength l (m_X0_yearIn ((m_X0_dateAt p0 z).2))) (gS w_284 w_285 w_26 w_286) kk_X0_yearLength ⟨Nat.le_of_ble_eq_true rfl, Nat.le_of_ble_eq_true rfl⟩ ⟨Nat.le_of_ble_eq_true rfl, Nat.le_of_ble_eq_true rfl⟩ hl.1 rfl rfl (Nat.le_of_ble_eq_true rfl) dX0_daysToYearEnd_10 ?_
    refine lv_lload_n hx hb dX0_daysToYearEnd_13 rfl (lv_at hl 0 rfl) ?_
    refine pc_S hC (c_X0_dayInYear l ((m_X0_dateAt p0 z).2)) (gS w_183 w_184 w_26 w_185) kk_X0_dayInYear ⟨Nat.le_of_ble_eq_true rfl, Nat.le_of_ble_eq_true rfl⟩ ⟨Nat.le_of_ble_eq_true rfl, Nat.le_of_ble_eq_true rfl⟩ hl.1 rfl rfl (Nat.le_of_ble_eq_true rfl) dX0_daysToYearEnd_14 ?_
    refine lv_isub hx hb dX0_daysToYearEnd_17 ?_
    have hm : m_X0_daysToYearEnd p0 z = (0, (m_X0_yearLength (m_X0_yearIn ((m_X0_dateAt p0 z).2))) - (m_X0_dayInYear ((m_X0_dateAt p0 z).2))) := hm
    exact c_iret (E := (m_X0_yearLength (m_X0_yearIn ((m_X0_dateAt p0 z).2))) - (m_X0_dayInYear ((m_X0_dateAt p0 z).2))) hx hb hr hlocks (by rw [hm]) (by rw [hm]) rfl hP hS ⟨Nat.le_of_ble_eq_true rfl, Nat.le_of_ble_eq_true rfl⟩ dX0_daysToYearEnd_18
def m_X0_sameDay (p0 : Int32) (p1 : Int32) (z : CS) : Nat × Int32 := (if (m_X0_dateAt p0 z).1 = 0 then (if m_X0_requireWithin p1 (-9999 : Int32) (9999 : Int32) = 0 then (0, (m_X0_numberOf (m_X0_fittedDate p1.toInt64 (m_X0_monthIn ((m_X0_dateAt p0 z).2)) (m_X0_dayIn ((m_X0_dateAt p0 z).2)))).toInt32) else ((m_X0_requireWithin p1 (-9999 : Int32) (9999 : Int32)), 0)) else ((m_X0_dateAt p0 z).1, 0))
theorem kk_X0_sameDay : pK yX0_sameDay wsX0_sameDay cX0_sameDay 5 (some .int) 2 := ⟨⟨_, rfl⟩, by decide +kernel, by decide +kernel, by decide +kernel⟩
set_option maxRecDepth 100000 in
set_option maxHeartbeats 4000000 in
theorem c_X0_sameDay (l : Launch) (hl9 : l.stackTraces = false) (k : Kx) (a : CA) (hD : cD k a) (p0 : Int32) (p1 : Int32) (z : CS) : cM l k a yX0_sameDay wsX0_sameDay 8 161 2 12 [.int p0, .int p1] z (some (.int (m_X0_sameDay p0 p1 z).2)) (m_X0_sameDay p0 p1 z).1 z := by
  intro sz
  refine vx_ofW (cc := cX0_sameDay) (maxL := 5) (ret := (some .int)) (by decide) rfl ?_
  intro p e s m args below meth c s₁ B hml hEx hv
  obtain ⟨rfl, rfl, hGx, hP⟩ := hv
  have hx := B.exec
  have hb := B.bytes
  have hr := B.returns
  have hts := atoms_spec (ws := wsX0_sameDay) B.pre
  have hown : s.vm.findClass RX0 = some m.cls := findClass_of_methodNamed B.named
  have hlocks := B.notSynchronized
  have htg : ∀ w ∈ GL, w.before _ s = true := fun w h => hts w (List.mem_cons_of_mem _ h)
  have hC : CallFix p m c cX0_sameDay 5 s _ wsX0_sameDay RX0 := ⟨hx, hb, hml, hown, hts⟩
  have hS : va_S (cA a s.heap.size) s.heap s.heap [] := va_S.rf
  have hl := lv_entry ([.ref a.1, .int p0, .int p1]) (n := 5) (Nat.le_of_ble_eq_true rfl)
  rw [lg_entry_eq]
  generalize (lg_sl ([.ref a.1, .int p0, .int p1]) ++ List.replicate (5 - (lg_sl ([.ref a.1, .int p0, .int p1])).length) Slot.unset).toArray = ls at hl ⊢
  have hl : lv_has ls 5 [(0, .ref a.1), (1, .int p0), (2, .int p1)] := hl
  have hm : m_X0_sameDay p0 p1 z = m_X0_sameDay p0 p1 z := rfl
  refine lv_aload_n hx hb dX0_sameDay_0 rfl (lv_at hl 0 rfl) ?_
  refine lv_iload_n hx hb dX0_sameDay_1 rfl (lv_at hl 1 rfl) ?_
  refine cc_V hC hGx hD hEx hlocks (c_X0_dateAt l hl9 k a hD p0 z) (gV w_153 w_154 w_8 w_26 w_155) kk_X0_dateAt rfl ⟨Nat.le_of_ble_eq_true rfl, Nat.le_of_ble_eq_true rfl⟩ ⟨Nat.le_of_ble_eq_true rfl, Nat.le_of_ble_eq_true rfl⟩ ⟨Nat.le_of_ble_eq_true rfl, Nat.le_of_ble_eq_true rfl⟩ hP hS hl.1 rfl rfl (Nat.le_of_ble_eq_true rfl) dX0_sameDay_2 (fun h_1 => ?_) (fun h_1 H locs hP hS => ?_)
  · have hm : m_X0_sameDay p0 p1 z = ((m_X0_dateAt p0 z).1, 0) := hm.trans (if_neg h_1)
    exact ⟨by rw [hm], rfl⟩
  · have hm := hm.trans (if_pos h_1)
    refine lv_lstore_n (lv' := [(3, .long ((m_X0_dateAt p0 z).2)), (0, .ref a.1), (1, .int p0), (2, .int p1)]) hx hb dX0_sameDay_5 rfl hl (by decide) rfl (fun ls hl => ?_)
    refine lv_iload_n hx hb dX0_sameDay_6 rfl (lv_at hl 3 rfl) ?_
    refine lv_sipush (v := (-9999)) hx hb dX0_sameDay_7 (by decide) ?_
    refine lv_sipush (v := 9999) hx hb dX0_sameDay_10 (by decide) ?_
    refine ct_S hC hGx hD hEx hlocks (t_X0_requireWithin l hl9 k p1 (-9999 : Int32) (9999 : Int32)) (gS w_295 w_296 w_26 w_297) kk_X0_requireWithin ⟨Nat.le_of_ble_eq_true rfl, Nat.le_of_ble_eq_true rfl⟩ ⟨Nat.le_of_ble_eq_true rfl, Nat.le_of_ble_eq_true rfl⟩ ⟨Nat.le_of_ble_eq_true rfl, Nat.le_of_ble_eq_true rfl⟩ hP hS hl.1 rfl rfl (Nat.le_of_ble_eq_true rfl) dX0_sameDay_13 (fun h_2 => by have hm : m_X0_sameDay p0 p1 z = ((m_X0_requireWithin p1 (-9999 : Int32) (9999 : Int32)), 0) := hm.trans (if_neg h_2); exact ⟨by rw [hm], rfl⟩) (fun h_2 => ?_)
    have hm := hm.trans (if_pos h_2)
    refine lv_iload_n hx hb dX0_sameDay_16 rfl (lv_at hl 3 rfl) ?_
    refine lv_i2l hx hb dX0_sameDay_17 rfl ?_
    refine lv_lload_n hx hb dX0_sameDay_18 rfl (lv_at hl 0 rfl) ?_
    refine pc_S hC (c_X0_monthIn l ((m_X0_dateAt p0 z).2)) (gS w_192 w_193 w_26 w_194) kk_X0_monthIn ⟨Nat.le_of_ble_eq_true rfl, Nat.le_of_ble_eq_true rfl⟩ ⟨Nat.le_of_ble_eq_true rfl, Nat.le_of_ble_eq_true rfl⟩ hl.1 rfl rfl (Nat.le_of_ble_eq_true rfl) dX0_sameDay_19 ?_
    refine lv_lload_n hx hb dX0_sameDay_22 rfl (lv_at hl 0 rfl) ?_
    refine pc_S hC (c_X0_dayIn l ((m_X0_dateAt p0 z).2)) (gS w_189 w_190 w_26 w_191) kk_X0_dayIn ⟨Nat.le_of_ble_eq_true rfl, Nat.le_of_ble_eq_true rfl⟩ ⟨Nat.le_of_ble_eq_true rfl, Nat.le_of_ble_eq_true rfl⟩ hl.1 rfl rfl (Nat.le_of_ble_eq_true rfl) dX0_sameDay_23 ?_
    refine pc_S hC (c_X0_fittedDate l p1.toInt64 (m_X0_monthIn ((m_X0_dateAt p0 z).2)) (m_X0_dayIn ((m_X0_dateAt p0 z).2))) (gS w_211 w_212 w_26 w_213) kk_X0_fittedDate ⟨Nat.le_of_ble_eq_true rfl, Nat.le_of_ble_eq_true rfl⟩ ⟨Nat.le_of_ble_eq_true rfl, Nat.le_of_ble_eq_true rfl⟩ hl.1 rfl rfl (Nat.le_of_ble_eq_true rfl) dX0_sameDay_26 ?_
    refine pc_S hC (c_X0_numberOf l (m_X0_fittedDate p1.toInt64 (m_X0_monthIn ((m_X0_dateAt p0 z).2)) (m_X0_dayIn ((m_X0_dateAt p0 z).2)))) (gS w_165 w_166 w_26 w_167) kk_X0_numberOf ⟨Nat.le_of_ble_eq_true rfl, Nat.le_of_ble_eq_true rfl⟩ ⟨Nat.le_of_ble_eq_true rfl, Nat.le_of_ble_eq_true rfl⟩ hl.1 rfl rfl (Nat.le_of_ble_eq_true rfl) dX0_sameDay_29 ?_
    refine lv_l2i hx hb dX0_sameDay_32 rfl ?_
    have hm : m_X0_sameDay p0 p1 z = (0, (m_X0_numberOf (m_X0_fittedDate p1.toInt64 (m_X0_monthIn ((m_X0_dateAt p0 z).2)) (m_X0_dayIn ((m_X0_dateAt p0 z).2)))).toInt32) := hm
    exact c_iret (E := (m_X0_numberOf (m_X0_fittedDate p1.toInt64 (m_X0_monthIn ((m_X0_dateAt p0 z).2)) (m_X0_dayIn ((m_X0_dateAt p0 z).2)))).toInt32) hx hb hr hlocks (by rw [hm]) (by rw [hm]) rfl hP hS ⟨Nat.le_of_ble_eq_true rfl, Nat.le_of_ble_eq_true rfl⟩ dX0_sameDay_33
def m_X0_sumOfNumbers  (z : CS) : Nat × Int32 := (if (m_X0_toDay (0 : Int32) z).1 = 0 then (if (m_X0_toDay (1 : Int32) z).1 = 0 then (if (m_X0_toDay (2 : Int32) z).1 = 0 then (if (m_X0_toDay (3 : Int32) z).1 = 0 then (if (m_X0_toDay (4 : Int32) z).1 = 0 then (if (m_X0_toDay (5 : Int32) z).1 = 0 then (0, ((((((0 : Int32) + ((m_X0_toDay (0 : Int32) z).2)) + ((m_X0_toDay (1 : Int32) z).2)) + ((m_X0_toDay (2 : Int32) z).2)) + ((m_X0_toDay (3 : Int32) z).2)) + ((m_X0_toDay (4 : Int32) z).2)) + ((m_X0_toDay (5 : Int32) z).2)) else ((m_X0_toDay (5 : Int32) z).1, 0)) else ((m_X0_toDay (4 : Int32) z).1, 0)) else ((m_X0_toDay (3 : Int32) z).1, 0)) else ((m_X0_toDay (2 : Int32) z).1, 0)) else ((m_X0_toDay (1 : Int32) z).1, 0)) else ((m_X0_toDay (0 : Int32) z).1, 0))
theorem kk_X0_sumOfNumbers : pK yX0_sumOfNumbers wsX0_sumOfNumbers cX0_sumOfNumbers 3 (some .int) 0 := ⟨⟨_, rfl⟩, by decide +kernel, by decide +kernel, by decide +kernel⟩
set_option maxRecDepth 100000 in
set_option maxHeartbeats 4000000 in
theorem c_X0_sumOfNumbers (l : Launch) (hl9 : l.stackTraces = false) (k : Kx) (a : CA) (hD : cD k a)  (z : CS) : cM l k a yX0_sumOfNumbers wsX0_sumOfNumbers 9 182 6 36 [] z (some (.int (m_X0_sumOfNumbers z).2)) (m_X0_sumOfNumbers z).1 z := by
  intro sz
  refine vx_ofW (cc := cX0_sumOfNumbers) (maxL := 3) (ret := (some .int)) (by decide) rfl ?_
  intro p e s m args below meth c s₁ B hml hEx hv
  obtain ⟨rfl, rfl, hGx, hP⟩ := hv
  have hx := B.exec
  have hb := B.bytes
  have hr := B.returns
  have hts := atoms_spec (ws := wsX0_sumOfNumbers) B.pre
  have hown : s.vm.findClass RX0 = some m.cls := findClass_of_methodNamed B.named
  have hlocks := B.notSynchronized
  have htg : ∀ w ∈ GL, w.before _ s = true := fun w h => hts w (List.mem_cons_of_mem _ h)
  have hC : CallFix p m c cX0_sumOfNumbers 3 s _ wsX0_sumOfNumbers RX0 := ⟨hx, hb, hml, hown, hts⟩
  have hS : va_S (cA a s.heap.size) s.heap s.heap [] := va_S.rf
  have hl := lv_entry ([.ref a.1]) (n := 3) (Nat.le_of_ble_eq_true rfl)
  rw [lg_entry_eq]
  generalize (lg_sl ([.ref a.1]) ++ List.replicate (3 - (lg_sl ([.ref a.1])).length) Slot.unset).toArray = ls at hl ⊢
  have hl : lv_has ls 3 [(0, .ref a.1)] := hl
  have hm : m_X0_sumOfNumbers z = m_X0_sumOfNumbers z := rfl
  refine lv_iconst (v := 0) hx hb dX0_sumOfNumbers_0 (by decide) ?_
  refine lv_istore_n (lv' := [(1, .int (0 : Int32)), (0, .ref a.1)]) hx hb dX0_sumOfNumbers_1 rfl hl (by decide) rfl (fun ls hl => ?_)
  refine lv_iconst (v := 0) hx hb dX0_sumOfNumbers_2 (by decide) ?_
  refine lv_istore_n (lv' := [(2, .int (0 : Int32)), (1, .int (0 : Int32)), (0, .ref a.1)]) hx hb dX0_sumOfNumbers_3 rfl hl (by decide) rfl (fun ls hl => ?_)
  refine lv_iload_n hx hb dX0_sumOfNumbers_4 rfl (lv_at hl 0 rfl) ?_
  refine lv_bipush (v := 6) hx hb dX0_sumOfNumbers_5 (by decide) ?_
  refine lv_icmp_ge (tgt := 24) hx hb dX0_sumOfNumbers_7 (by decide) (fun h => absurd h (by decide)) (fun _ => ?_)
  refine lv_iload_n hx hb dX0_sumOfNumbers_10 rfl (lv_at hl 1 rfl) ?_
  refine lv_aload_n hx hb dX0_sumOfNumbers_11 rfl (lv_at hl 2 rfl) ?_
  refine lv_iload_n hx hb dX0_sumOfNumbers_12 rfl (lv_at hl 0 rfl) ?_
  refine cc_V hC hGx hD hEx hlocks (c_X0_toDay l hl9 k a hD (0 : Int32) z) (gV w_242 w_243 w_244 w_26 w_245) kk_X0_toDay rfl ⟨Nat.le_of_ble_eq_true rfl, Nat.le_of_ble_eq_true rfl⟩ ⟨Nat.le_of_ble_eq_true rfl, Nat.le_of_ble_eq_true rfl⟩ ⟨Nat.le_of_ble_eq_true rfl, Nat.le_of_ble_eq_true rfl⟩ hP hS hl.1 rfl rfl (Nat.le_of_ble_eq_true rfl) dX0_sumOfNumbers_13 (fun h_1 => ?_) (fun h_1 H locs hP hS => ?_)
  · have hm : m_X0_sumOfNumbers z = ((m_X0_toDay (0 : Int32) z).1, 0) := hm.trans (if_neg h_1)
    exact ⟨by rw [hm], rfl⟩
  · have hm := hm.trans (if_pos h_1)
    refine lv_iadd hx hb dX0_sumOfNumbers_16 ?_
    refine lv_istore_n (lv' := [(1, .int ((0 : Int32) + ((m_X0_toDay (0 : Int32) z).2))), (2, .int (0 : Int32)), (0, .ref a.1)]) hx hb dX0_sumOfNumbers_17 rfl hl (by decide) rfl (fun ls hl => ?_)
    refine lv_iinc (v := (1 : Int32)) (lv' := [(2, .int (1 : Int32)), (1, .int ((0 : Int32) + ((m_X0_toDay (0 : Int32) z).2))), (0, .ref a.1)]) hx hb dX0_sumOfNumbers_18 hl (k := 1) rfl (by decide) (by decide) rfl (fun ls hl => ?_)
    refine lv_goto (tgt := 4) hx hb dX0_sumOfNumbers_21 (by decide) ?_
    refine lv_iload_n hx hb dX0_sumOfNumbers_4 rfl (lv_at hl 0 rfl) ?_
    refine lv_bipush (v := 6) hx hb dX0_sumOfNumbers_5 (by decide) ?_
    refine lv_icmp_ge (tgt := 24) hx hb dX0_sumOfNumbers_7 (by decide) (fun h => absurd h (by decide)) (fun _ => ?_)
    refine lv_iload_n hx hb dX0_sumOfNumbers_10 rfl (lv_at hl 1 rfl) ?_
    refine lv_aload_n hx hb dX0_sumOfNumbers_11 rfl (lv_at hl 2 rfl) ?_
    refine lv_iload_n hx hb dX0_sumOfNumbers_12 rfl (lv_at hl 0 rfl) ?_
    refine cc_V hC hGx hD hEx hlocks (c_X0_toDay l hl9 k a hD (1 : Int32) z) (gV w_242 w_243 w_244 w_26 w_245) kk_X0_toDay rfl ⟨Nat.le_of_ble_eq_true rfl, Nat.le_of_ble_eq_true rfl⟩ ⟨Nat.le_of_ble_eq_true rfl, Nat.le_of_ble_eq_true rfl⟩ ⟨Nat.le_of_ble_eq_true rfl, Nat.le_of_ble_eq_true rfl⟩ hP hS hl.1 rfl rfl (Nat.le_of_ble_eq_true rfl) dX0_sumOfNumbers_13 (fun h_2 => ?_) (fun h_2 H locs hP hS => ?_)
    · have hm : m_X0_sumOfNumbers z = ((m_X0_toDay (1 : Int32) z).1, 0) := hm.trans (if_neg h_2)
      exact ⟨by rw [hm], rfl⟩
    · have hm := hm.trans (if_pos h_2)
      refine lv_iadd hx hb dX0_sumOfNumbers_16 ?_
      refine lv_istore_n (lv' := [(1, .int (((0 : Int32) + ((m_X0_toDay (0 : Int32) z).2)) + ((m_X0_toDay (1 : Int32) z).2))), (2, .int (1 : Int32)), (0, .ref a.1)]) hx hb dX0_sumOfNumbers_17 rfl hl (by decide) rfl (fun ls hl => ?_)
      refine lv_iinc (v := (2 : Int32)) (lv' := [(2, .int (2 : Int32)), (1, .int (((0 : Int32) + ((m_X0_toDay (0 : Int32) z).2)) + ((m_X0_toDay (1 : Int32) z).2))), (0, .ref a.1)]) hx hb dX0_sumOfNumbers_18 hl (k := 1) rfl (by decide) (by decide) rfl (fun ls hl => ?_)
      refine lv_goto (tgt := 4) hx hb dX0_sumOfNumbers_21 (by decide) ?_
      refine lv_iload_n hx hb dX0_sumOfNumbers_4 rfl (lv_at hl 0 rfl) ?_
      refine lv_bipush (v := 6) hx hb dX0_sumOfNumbers_5 (by decide) ?_
      refine lv_icmp_ge (tgt := 24) hx hb dX0_sumOfNumbers_7 (by decide) (fun h => absurd h (by decide)) (fun _ => ?_)
      refine lv_iload_n hx hb dX0_sumOfNumbers_10 rfl (lv_at hl 1 rfl) ?_
      refine lv_aload_n hx hb dX0_sumOfNumbers_11 rfl (lv_at hl 2 rfl) ?_
      refine lv_iload_n hx hb dX0_sumOfNumbers_12 rfl (lv_at hl 0 rfl) ?_
      refine cc_V hC hGx hD hEx hlocks (c_X0_toDay l hl9 k a hD (2 : Int32) z) (gV w_242 w_243 w_244 w_26 w_245) kk_X0_toDay rfl ⟨Nat.le_of_ble_eq_true rfl, Nat.le_of_ble_eq_true rfl⟩ ⟨Nat.le_of_ble_eq_true rfl, Nat.le_of_ble_eq_true rfl⟩ ⟨Nat.le_of_ble_eq_true rfl, Nat.le_of_ble_eq_true rfl⟩ hP hS hl.1 rfl rfl (Nat.le_of_ble_eq_true rfl) dX0_sumOfNumbers_13 (fun h_3 => ?_) (fun h_3 H locs hP hS => ?_)
      · have hm : m_X0_sumOfNumbers z = ((m_X0_toDay (2 : Int32) z).1, 0) := hm.trans (if_neg h_3)
        exact ⟨by rw [hm], rfl⟩
      · have hm := hm.trans (if_pos h_3)
        refine lv_iadd hx hb dX0_sumOfNumbers_16 ?_
        refine lv_istore_n (lv' := [(1, .int ((((0 : Int32) + ((m_X0_toDay (0 : Int32) z).2)) + ((m_X0_toDay (1 : Int32) z).2)) + ((m_X0_toDay (2 : Int32) z).2))), (2, .int (2 : Int32)), (0, .ref a.1)]) hx hb dX0_sumOfNumbers_17 rfl hl (by decide) rfl (fun ls hl => ?_)
        refine lv_iinc (v := (3 : Int32)) (lv' := [(2, .int (3 : Int32)), (1, .int ((((0 : Int32) + ((m_X0_toDay (0 : Int32) z).2)) + ((m_X0_toDay (1 : Int32) z).2)) + ((m_X0_toDay (2 : Int32) z).2))), (0, .ref a.1)]) hx hb dX0_sumOfNumbers_18 hl (k := 1) rfl (by decide) (by decide) rfl (fun ls hl => ?_)
        refine lv_goto (tgt := 4) hx hb dX0_sumOfNumbers_21 (by decide) ?_
        refine lv_iload_n hx hb dX0_sumOfNumbers_4 rfl (lv_at hl 0 rfl) ?_
        refine lv_bipush (v := 6) hx hb dX0_sumOfNumbers_5 (by decide) ?_
        refine lv_icmp_ge (tgt := 24) hx hb dX0_sumOfNumbers_7 (by decide) (fun h => absurd h (by decide)) (fun _ => ?_)
        refine lv_iload_n hx hb dX0_sumOfNumbers_10 rfl (lv_at hl 1 rfl) ?_
        refine lv_aload_n hx hb dX0_sumOfNumbers_11 rfl (lv_at hl 2 rfl) ?_
        refine lv_iload_n hx hb dX0_sumOfNumbers_12 rfl (lv_at hl 0 rfl) ?_
        refine cc_V hC hGx hD hEx hlocks (c_X0_toDay l hl9 k a hD (3 : Int32) z) (gV w_242 w_243 w_244 w_26 w_245) kk_X0_toDay rfl ⟨Nat.le_of_ble_eq_true rfl, Nat.le_of_ble_eq_true rfl⟩ ⟨Nat.le_of_ble_eq_true rfl, Nat.le_of_ble_eq_true rfl⟩ ⟨Nat.le_of_ble_eq_true rfl, Nat.le_of_ble_eq_true rfl⟩ hP hS hl.1 rfl rfl (Nat.le_of_ble_eq_true rfl) dX0_sumOfNumbers_13 (fun h_4 => ?_) (fun h_4 H locs hP hS => ?_)
        · have hm : m_X0_sumOfNumbers z = ((m_X0_toDay (3 : Int32) z).1, 0) := hm.trans (if_neg h_4)
          exact ⟨by rw [hm], rfl⟩
        · have hm := hm.trans (if_pos h_4)
          refine lv_iadd hx hb dX0_sumOfNumbers_16 ?_
          refine lv_istore_n (lv' := [(1, .int (((((0 : Int32) + ((m_X0_toDay (0 : Int32) z).2)) + ((m_X0_toDay (1 : Int32) z).2)) + ((m_X0_toDay (2 : Int32) z).2)) + ((m_X0_toDay (3 : Int32) z).2))), (2, .int (3 : Int32)), (0, .ref a.1)]) hx hb dX0_sumOfNumbers_17 rfl hl (by decide) rfl (fun ls hl => ?_)
          refine lv_iinc (v := (4 : Int32)) (lv' := [(2, .int (4 : Int32)), (1, .int (((((0 : Int32) + ((m_X0_toDay (0 : Int32) z).2)) + ((m_X0_toDay (1 : Int32) z).2)) + ((m_X0_toDay (2 : Int32) z).2)) + ((m_X0_toDay (3 : Int32) z).2))), (0, .ref a.1)]) hx hb dX0_sumOfNumbers_18 hl (k := 1) rfl (by decide) (by decide) rfl (fun ls hl => ?_)
          refine lv_goto (tgt := 4) hx hb dX0_sumOfNumbers_21 (by decide) ?_
          refine lv_iload_n hx hb dX0_sumOfNumbers_4 rfl (lv_at hl 0 rfl) ?_
          refine lv_bipush (v := 6) hx hb dX0_sumOfNumbers_5 (by decide) ?_
          refine lv_icmp_ge (tgt := 24) hx hb dX0_sumOfNumbers_7 (by decide) (fun h => absurd h (by decide)) (fun _ => ?_)
          refine lv_iload_n hx hb dX0_sumOfNumbers_10 rfl (lv_at hl 1 rfl) ?_
          refine lv_aload_n hx hb dX0_sumOfNumbers_11 rfl (lv_at hl 2 rfl) ?_
          refine lv_iload_n hx hb dX0_sumOfNumbers_12 rfl (lv_at hl 0 rfl) ?_
          refine cc_V hC hGx hD hEx hlocks (c_X0_toDay l hl9 k a hD (4 : Int32) z) (gV w_242 w_243 w_244 w_26 w_245) kk_X0_toDay rfl ⟨Nat.le_of_ble_eq_true rfl, Nat.le_of_ble_eq_true rfl⟩ ⟨Nat.le_of_ble_eq_true rfl, Nat.le_of_ble_eq_true rfl⟩ ⟨Nat.le_of_ble_eq_true rfl, Nat.le_of_ble_eq_true rfl⟩ hP hS hl.1 rfl rfl (Nat.le_of_ble_eq_true rfl) dX0_sumOfNumbers_13 (fun h_5 => ?_) (fun h_5 H locs hP hS => ?_)
          · have hm : m_X0_sumOfNumbers z = ((m_X0_toDay (4 : Int32) z).1, 0) := hm.trans (if_neg h_5)
            exact ⟨by rw [hm], rfl⟩
          · have hm := hm.trans (if_pos h_5)
            refine lv_iadd hx hb dX0_sumOfNumbers_16 ?_
            refine lv_istore_n (lv' := [(1, .int ((((((0 : Int32) + ((m_X0_toDay (0 : Int32) z).2)) + ((m_X0_toDay (1 : Int32) z).2)) + ((m_X0_toDay (2 : Int32) z).2)) + ((m_X0_toDay (3 : Int32) z).2)) + ((m_X0_toDay (4 : Int32) z).2))), (2, .int (4 : Int32)), (0, .ref a.1)]) hx hb dX0_sumOfNumbers_17 rfl hl (by decide) rfl (fun ls hl => ?_)
            refine lv_iinc (v := (5 : Int32)) (lv' := [(2, .int (5 : Int32)), (1, .int ((((((0 : Int32) + ((m_X0_toDay (0 : Int32) z).2)) + ((m_X0_toDay (1 : Int32) z).2)) + ((m_X0_toDay (2 : Int32) z).2)) + ((m_X0_toDay (3 : Int32) z).2)) + ((m_X0_toDay (4 : Int32) z).2))), (0, .ref a.1)]) hx hb dX0_sumOfNumbers_18 hl (k := 1) rfl (by decide) (by decide) rfl (fun ls hl => ?_)
            refine lv_goto (tgt := 4) hx hb dX0_sumOfNumbers_21 (by decide) ?_
            refine lv_iload_n hx hb dX0_sumOfNumbers_4 rfl (lv_at hl 0 rfl) ?_
            refine lv_bipush (v := 6) hx hb dX0_sumOfNumbers_5 (by decide) ?_
            refine lv_icmp_ge (tgt := 24) hx hb dX0_sumOfNumbers_7 (by decide) (fun h => absurd h (by decide)) (fun _ => ?_)
            refine lv_iload_n hx hb dX0_sumOfNumbers_10 rfl (lv_at hl 1 rfl) ?_
            refine lv_aload_n hx hb dX0_sumOfNumbers_11 rfl (lv_at hl 2 rfl) ?_
            refine lv_iload_n hx hb dX0_sumOfNumbers_12 rfl (lv_at hl 0 rfl) ?_
            refine cc_V hC hGx hD hEx hlocks (c_X0_toDay l hl9 k a hD (5 : Int32) z) (gV w_242 w_243 w_244 w_26 w_245) kk_X0_toDay rfl ⟨Nat.le_of_ble_eq_true rfl, Nat.le_of_ble_eq_true rfl⟩ ⟨Nat.le_of_ble_eq_true rfl, Nat.le_of_ble_eq_true rfl⟩ ⟨Nat.le_of_ble_eq_true rfl, Nat.le_of_ble_eq_true rfl⟩ hP hS hl.1 rfl rfl (Nat.le_of_ble_eq_true rfl) dX0_sumOfNumbers_13 (fun h_6 => ?_) (fun h_6 H locs hP hS => ?_)
            · have hm : m_X0_sumOfNumbers z = ((m_X0_toDay (5 : Int32) z).1, 0) := hm.trans (if_neg h_6)
              exact ⟨by rw [hm], rfl⟩
            · have hm := hm.trans (if_pos h_6)
              refine lv_iadd hx hb dX0_sumOfNumbers_16 ?_
              refine lv_istore_n (lv' := [(1, .int (((((((0 : Int32) + ((m_X0_toDay (0 : Int32) z).2)) + ((m_X0_toDay (1 : Int32) z).2)) + ((m_X0_toDay (2 : Int32) z).2)) + ((m_X0_toDay (3 : Int32) z).2)) + ((m_X0_toDay (4 : Int32) z).2)) + ((m_X0_toDay (5 : Int32) z).2))), (2, .int (5 : Int32)), (0, .ref a.1)]) hx hb dX0_sumOfNumbers_17 rfl hl (by decide) rfl (fun ls hl => ?_)
              refine lv_iinc (v := (6 : Int32)) (lv' := [(2, .int (6 : Int32)), (1, .int (((((((0 : Int32) + ((m_X0_toDay (0 : Int32) z).2)) + ((m_X0_toDay (1 : Int32) z).2)) + ((m_X0_toDay (2 : Int32) z).2)) + ((m_X0_toDay (3 : Int32) z).2)) + ((m_X0_toDay (4 : Int32) z).2)) + ((m_X0_toDay (5 : Int32) z).2))), (0, .ref a.1)]) hx hb dX0_sumOfNumbers_18 hl (k := 1) rfl (by decide) (by decide) rfl (fun ls hl => ?_)
              refine lv_goto (tgt := 4) hx hb dX0_sumOfNumbers_21 (by decide) ?_
              refine lv_iload_n hx hb dX0_sumOfNumbers_4 rfl (lv_at hl 0 rfl) ?_
              refine lv_bipush (v := 6) hx hb dX0_sumOfNumbers_5 (by decide) ?_
              refine lv_icmp_ge (tgt := 24) hx hb dX0_sumOfNumbers_7 (by decide) (fun _ => ?_) (fun h => absurd h (by decide))
              refine lv_iload_n hx hb dX0_sumOfNumbers_24 rfl (lv_at hl 1 rfl) ?_
              have hm : m_X0_sumOfNumbers z = (0, ((((((0 : Int32) + ((m_X0_toDay (0 : Int32) z).2)) + ((m_X0_toDay (1 : Int32) z).2)) + ((m_X0_toDay (2 : Int32) z).2)) + ((m_X0_toDay (3 : Int32) z).2)) + ((m_X0_toDay (4 : Int32) z).2)) + ((m_X0_toDay (5 : Int32) z).2)) := hm
              exact c_iret (E := ((((((0 : Int32) + ((m_X0_toDay (0 : Int32) z).2)) + ((m_X0_toDay (1 : Int32) z).2)) + ((m_X0_toDay (2 : Int32) z).2)) + ((m_X0_toDay (3 : Int32) z).2)) + ((m_X0_toDay (4 : Int32) z).2)) + ((m_X0_toDay (5 : Int32) z).2)) hx hb hr hlocks (by rw [hm]) (by rw [hm]) rfl hP hS ⟨Nat.le_of_ble_eq_true rfl, Nat.le_of_ble_eq_true rfl⟩ dX0_sumOfNumbers_25
def m_X0_house (p0 : Int32) (z : CS) : Nat × Int32 := (if m_X0_requireWithin p0 (0 : Int32) (2 : Int32) = 0 then (if p0 = 0 then (0, z.2.2.2.2.1) else (if p0 = 1 then (0, z.2.2.2.2.2) else (if (m_X0_sumOfNumbers z).1 = 0 then (0, (m_X0_sumOfNumbers z).2) else ((m_X0_sumOfNumbers z).1, 0)))) else ((m_X0_requireWithin p0 (0 : Int32) (2 : Int32)), 0))
theorem kk_X0_house : pK yX0_house wsX0_house cX0_house 2 (some .int) 1 := ⟨⟨_, rfl⟩, by decide +kernel, by decide +kernel, by decide +kernel⟩
set_option maxRecDepth 100000 in
set_option maxHeartbeats 4000000 in
theorem c_X0_house (l : Launch) (hl9 : l.stackTraces = false) (k : Kx) (a : CA) (hD : cD k a) (p0 : Int32) (z : CS) : cM l k a yX0_house wsX0_house 10 204 7 42 [.int p0] z (some (.int (m_X0_house p0 z).2)) (m_X0_house p0 z).1 z := by
  intro sz
  refine vx_ofW (cc := cX0_house) (maxL := 2) (ret := (some .int)) (by decide) rfl ?_
  intro p e s m args below meth c s₁ B hml hEx hv
  obtain ⟨rfl, rfl, hGx, hP⟩ := hv
  have hx := B.exec
  have hb := B.bytes
  have hr := B.returns
  have hts := atoms_spec (ws := wsX0_house) B.pre
  have hown : s.vm.findClass RX0 = some m.cls := findClass_of_methodNamed B.named
  have hlocks := B.notSynchronized
  have htg : ∀ w ∈ GL, w.before _ s = true := fun w h => hts w (List.mem_cons_of_mem _ h)
  have hC : CallFix p m c cX0_house 2 s _ wsX0_house RX0 := ⟨hx, hb, hml, hown, hts⟩
  have hS : va_S (cA a s.heap.size) s.heap s.heap [] := va_S.rf
  have hl := lv_entry ([.ref a.1, .int p0]) (n := 2) (Nat.le_of_ble_eq_true rfl)
  rw [lg_entry_eq]
  generalize (lg_sl ([.ref a.1, .int p0]) ++ List.replicate (2 - (lg_sl ([.ref a.1, .int p0])).length) Slot.unset).toArray = ls at hl ⊢
  have hl : lv_has ls 2 [(0, .ref a.1), (1, .int p0)] := hl
  have hm : m_X0_house p0 z = m_X0_house p0 z := rfl
  refine lv_iload_n hx hb dX0_house_0 rfl (lv_at hl 1 rfl) ?_
  refine lv_iconst (v := 0) hx hb dX0_house_1 (by decide) ?_
  refine lv_iconst (v := 2) hx hb dX0_house_2 (by decide) ?_
  refine ct_S hC hGx hD hEx hlocks (t_X0_requireWithin l hl9 k p0 (0 : Int32) (2 : Int32)) (gS w_295 w_296 w_26 w_297) kk_X0_requireWithin ⟨Nat.le_of_ble_eq_true rfl, Nat.le_of_ble_eq_true rfl⟩ ⟨Nat.le_of_ble_eq_true rfl, Nat.le_of_ble_eq_true rfl⟩ ⟨Nat.le_of_ble_eq_true rfl, Nat.le_of_ble_eq_true rfl⟩ hP hS hl.1 rfl rfl (Nat.le_of_ble_eq_true rfl) dX0_house_3 (fun h_1 => by have hm : m_X0_house p0 z = ((m_X0_requireWithin p0 (0 : Int32) (2 : Int32)), 0) := hm.trans (if_neg h_1); exact ⟨by rw [hm], rfl⟩) (fun h_1 => ?_)
  have hm := hm.trans (if_pos h_1)
  refine lv_iload_n hx hb dX0_house_6 rfl (lv_at hl 1 rfl) ?_
  by_cases h_2 : p0 = 0
  · have hm := hm.trans (if_pos h_2)
    refine lv_lookup (off := 25) (tgt := 32) hx hb dX0_house_7 (by decide) (by rw [h_2]; rfl) (by decide) ?_
    refine lv_aload_n hx hb dX0_house_32 rfl (lv_at hl 0 rfl) ?_
    refine va_get (D := kD k) (ci := 2) (v := .int z.2.2.2.2.1) (C := RX0) (T := TX0) (N := 6) hx hb htg inG_X0 hown hGx.1 hP 0 rfl rfl 4 (by decide) (htg _ w_61) (fun _ h9 => h9) rfl dX0_house_33 ?_
    have hm : m_X0_house p0 z = (0, z.2.2.2.2.1) := hm
    exact c_iret (E := z.2.2.2.2.1) hx hb hr hlocks (by rw [hm]) (by rw [hm]) rfl hP hS ⟨Nat.le_of_ble_eq_true rfl, Nat.le_of_ble_eq_true rfl⟩ dX0_house_36
  · have hm := hm.trans (if_neg h_2)
    by_cases h_3 : p0 = 1
    · have hm := hm.trans (if_pos h_3)
      refine lv_lookup (off := 30) (tgt := 37) hx hb dX0_house_7 (by decide) (by rw [h_3]; rfl) (by decide) ?_
      refine lv_aload_n hx hb dX0_house_37 rfl (lv_at hl 0 rfl) ?_
      refine va_get (D := kD k) (ci := 2) (v := .int z.2.2.2.2.2) (C := RX0) (T := TX0) (N := 6) hx hb htg inG_X0 hown hGx.1 hP 0 rfl rfl 5 (by decide) (htg _ w_62) (fun _ h9 => h9) rfl dX0_house_38 ?_
      have hm : m_X0_house p0 z = (0, z.2.2.2.2.2) := hm
      exact c_iret (E := z.2.2.2.2.2) hx hb hr hlocks (by rw [hm]) (by rw [hm]) rfl hP hS ⟨Nat.le_of_ble_eq_true rfl, Nat.le_of_ble_eq_true rfl⟩ dX0_house_41
    · have hm := hm.trans (if_neg h_3)
      refine lv_lookup (off := 35) (tgt := 42) hx hb dX0_house_7 (by decide) (by show (if (0 : Int) = (p0).toInt then _ else if (1 : Int) = (p0).toInt then _ else _) = _; exact (if_neg (fun q => h_2 (Int32.toInt_inj.mp (q.symm.trans (by decide))))).trans (if_neg (fun q => h_3 (Int32.toInt_inj.mp (q.symm.trans (by decide)))))) (by decide) ?_
      refine lv_aload_n hx hb dX0_house_42 rfl (lv_at hl 0 rfl) ?_
      refine cc_V hC hGx hD hEx hlocks (c_X0_sumOfNumbers l hl9 k a hD  z) (gV w_605 w_606 w_11 w_26 w_607) kk_X0_sumOfNumbers rfl ⟨Nat.le_of_ble_eq_true rfl, Nat.le_of_ble_eq_true rfl⟩ ⟨Nat.le_of_ble_eq_true rfl, Nat.le_of_ble_eq_true rfl⟩ ⟨Nat.le_of_ble_eq_true rfl, Nat.le_of_ble_eq_true rfl⟩ hP hS hl.1 rfl rfl (Nat.le_of_ble_eq_true rfl) dX0_house_43 (fun h_4 => ?_) (fun h_4 H locs hP hS => ?_)
      · have hm : m_X0_house p0 z = ((m_X0_sumOfNumbers z).1, 0) := hm.trans (if_neg h_4)
        exact ⟨by rw [hm], rfl⟩
      · have hm := hm.trans (if_pos h_4)
        have hm : m_X0_house p0 z = (0, (m_X0_sumOfNumbers z).2) := hm
        exact c_iret (E := (m_X0_sumOfNumbers z).2) hx hb hr hlocks (by rw [hm]) (by rw [hm]) rfl hP hS ⟨Nat.le_of_ble_eq_true rfl, Nat.le_of_ble_eq_true rfl⟩ dX0_house_46
def m_X0_knock  (z : CS) : Nat × Int32 × CS := (0, (z.2.2.2.2.2 + (1 : Int32)), (z.1, z.2.1, z.2.2.1, z.2.2.2.1, z.2.2.2.2.1, z.2.2.2.2.2 + (1 : Int32)))
theorem kk_X0_knock : pK yX0_knock wsX0_knock cX0_knock 1 (some .int) 0 := ⟨⟨_, rfl⟩, by decide +kernel, by decide +kernel, by decide +kernel⟩
set_option maxRecDepth 100000 in
set_option maxHeartbeats 4000000 in
theorem c_X0_knock (l : Launch) (hl9 : l.stackTraces = false) (k : Kx) (a : CA) (hD : cD k a)  (z : CS) : cM l k a yX0_knock wsX0_knock 0 0 0 0 [] z (some (.int (m_X0_knock z).2.1)) (m_X0_knock z).1 (m_X0_knock z).2.2 := by
  intro sz
  refine vx_ofW (cc := cX0_knock) (maxL := 1) (ret := (some .int)) (by decide) rfl ?_
  intro p e s m args below meth c s₁ B hml hEx hv
  obtain ⟨rfl, rfl, hGx, hP⟩ := hv
  have hx := B.exec
  have hb := B.bytes
  have hr := B.returns
  have hts := atoms_spec (ws := wsX0_knock) B.pre
  have hown : s.vm.findClass RX0 = some m.cls := findClass_of_methodNamed B.named
  have hlocks := B.notSynchronized
  have htg : ∀ w ∈ GL, w.before _ s = true := fun w h => hts w (List.mem_cons_of_mem _ h)
  have hC : CallFix p m c cX0_knock 1 s _ wsX0_knock RX0 := ⟨hx, hb, hml, hown, hts⟩
  have hS : va_S (cA a s.heap.size) s.heap s.heap [] := va_S.rf
  have hl := lv_entry ([.ref a.1]) (n := 1) (Nat.le_of_ble_eq_true rfl)
  rw [lg_entry_eq]
  generalize (lg_sl ([.ref a.1]) ++ List.replicate (1 - (lg_sl ([.ref a.1])).length) Slot.unset).toArray = ls at hl ⊢
  have hl : lv_has ls 1 [(0, .ref a.1)] := hl
  have hm : m_X0_knock z = m_X0_knock z := rfl
  refine lv_aload_n hx hb dX0_knock_0 rfl (lv_at hl 0 rfl) ?_
  refine lv_dup hx hb dX0_knock_1 rfl ?_
  refine va_get (D := kD k) (ci := 2) (v := .int z.2.2.2.2.2) (C := RX0) (T := TX0) (N := 6) hx hb htg inG_X0 hown hGx.1 hP 0 rfl rfl 5 (by decide) (htg _ w_62) (fun _ h9 => h9) rfl dX0_knock_2 ?_
  refine lv_iconst (v := 1) hx hb dX0_knock_5 (by decide) ?_
  refine lv_iadd hx hb dX0_knock_6 ?_
  refine va_put (D := kD k) (ci := 2) (v := .int (z.2.2.2.2.2 + (1 : Int32))) (ty := .int) (C := RX0) (T := TX0) (N := 6) hx hb htg inG_X0 tyX0 tyX0_ok nmX0 hown hGx.1 hP (hD.own _ _) hS 0 rfl rfl 5 (by decide) (htg _ w_62) (fun _ h9 => h9) rfl (by decide +kernel) rfl rfl (Nat.le_of_ble_eq_true rfl) dX0_knock_7 (fun H locs hP1 _ hS => ?_)
  have hP : va_P (kD k) vwCl (cW k a (z.1, z.2.1, z.2.2.1, z.2.2.2.1, z.2.2.2.2.1, z.2.2.2.2.2 + (1 : Int32))) H := hP1
  refine lv_aload_n hx hb dX0_knock_10 rfl (lv_at hl 0 rfl) ?_
  refine va_get (D := kD k) (ci := 2) (v := .int (z.2.2.2.2.2 + (1 : Int32))) (C := RX0) (T := TX0) (N := 6) hx hb htg inG_X0 hown hGx.1 hP 0 rfl rfl 5 (by decide) (htg _ w_62) (fun _ h9 => h9) rfl dX0_knock_11 ?_
  have hm : m_X0_knock z = (0, (z.2.2.2.2.2 + (1 : Int32)), (z.1, z.2.1, z.2.2.1, z.2.2.2.1, z.2.2.2.2.1, z.2.2.2.2.2 + (1 : Int32))) := hm
  exact c_iret (E := (z.2.2.2.2.2 + (1 : Int32))) hx hb hr hlocks (by rw [hm]) (by rw [hm]) (by rw [hm]) hP hS ⟨Nat.le_of_ble_eq_true rfl, Nat.le_of_ble_eq_true rfl⟩ dX0_knock_14
def m_X0_digestPair (p0 : Int64) (p1 : Int32) (p2 : Int32) (z : CS) : Nat × Int64 := (if (m_X0_compare p1 p2 z).1 = 0 then (if (m_X0_between p1 p2 (0 : Int32) z).1 = 0 then (if (m_X0_between p1 p2 (1 : Int32) z).1 = 0 then (if (m_X0_between p1 p2 (2 : Int32) z).1 = 0 then (if (m_X0_between p1 p2 (3 : Int32) z).1 = 0 then (if (m_X0_between p1 p2 (4 : Int32) z).1 = 0 then (if (m_X0_between p1 p2 (5 : Int32) z).1 = 0 then (if (m_X0_between p1 p2 (6 : Int32) z).1 = 0 then (0, m_X0_digestValue (m_X0_digestValue (m_X0_digestValue (m_X0_digestValue (m_X0_digestValue (m_X0_digestValue (m_X0_digestValue (m_X0_digestValue p0 (((m_X0_compare p1 p2 z).2).toInt64)) (((m_X0_between p1 p2 (0 : Int32) z).2).toInt64)) (((m_X0_between p1 p2 (1 : Int32) z).2).toInt64)) (((m_X0_between p1 p2 (2 : Int32) z).2).toInt64)) (((m_X0_between p1 p2 (3 : Int32) z).2).toInt64)) (((m_X0_between p1 p2 (4 : Int32) z).2).toInt64)) (((m_X0_between p1 p2 (5 : Int32) z).2).toInt64)) (((m_X0_between p1 p2 (6 : Int32) z).2).toInt64)) else ((m_X0_between p1 p2 (6 : Int32) z).1, 0)) else ((m_X0_between p1 p2 (5 : Int32) z).1, 0)) else ((m_X0_between p1 p2 (4 : Int32) z).1, 0)) else ((m_X0_between p1 p2 (3 : Int32) z).1, 0)) else ((m_X0_between p1 p2 (2 : Int32) z).1, 0)) else ((m_X0_between p1 p2 (1 : Int32) z).1, 0)) else ((m_X0_between p1 p2 (0 : Int32) z).1, 0)) else ((m_X0_compare p1 p2 z).1, 0))
theorem kk_X0_digestPair : pK yX0_digestPair wsX0_digestPair cX0_digestPair 8 (some .long) 3 := ⟨⟨_, rfl⟩, by decide +kernel, by decide +kernel, by decide +kernel⟩
set_option maxRecDepth 100000 in
set_option maxHeartbeats 4000000 in
theorem c_X0_digestPair (l : Launch) (hl9 : l.stackTraces = false) (k : Kx) (a : CA) (hD : cD k a) (p0 : Int64) (p1 : Int32) (p2 : Int32) (z : CS) : cM l k a yX0_digestPair wsX0_digestPair 9 189 23 138 [.long p0, .int p1, .int p2] z (some (.long (m_X0_digestPair p0 p1 p2 z).2)) (m_X0_digestPair p0 p1 p2 z).1 z := by
  intro sz
  refine vx_ofW (cc := cX0_digestPair) (maxL := 8) (ret := (some .long)) (by decide) rfl ?_
  intro p e s m args below meth c s₁ B hml hEx hv
  obtain ⟨rfl, rfl, hGx, hP⟩ := hv
  have hx := B.exec
  have hb := B.bytes
  have hr := B.returns
  have hts := atoms_spec (ws := wsX0_digestPair) B.pre
  have hown : s.vm.findClass RX0 = some m.cls := findClass_of_methodNamed B.named
  have hlocks := B.notSynchronized
  have htg : ∀ w ∈ GL, w.before _ s = true := fun w h => hts w (List.mem_cons_of_mem _ h)
  have hC : CallFix p m c cX0_digestPair 8 s _ wsX0_digestPair RX0 := ⟨hx, hb, hml, hown, hts⟩
  have hS : va_S (cA a s.heap.size) s.heap s.heap [] := va_S.rf
  have hl := lv_entry ([.ref a.1, .long p0, .int p1, .int p2]) (n := 8) (Nat.le_of_ble_eq_true rfl)
  rw [lg_entry_eq]
  generalize (lg_sl ([.ref a.1, .long p0, .int p1, .int p2]) ++ List.replicate (8 - (lg_sl ([.ref a.1, .long p0, .int p1, .int p2])).length) Slot.unset).toArray = ls at hl ⊢
  have hl : lv_has ls 8 [(0, .ref a.1), (1, .long p0), (3, .int p1), (4, .int p2)] := hl
  have hm : m_X0_digestPair p0 p1 p2 z = m_X0_digestPair p0 p1 p2 z := rfl
  refine lv_lload_n hx hb dX0_digestPair_0 rfl (lv_at hl 1 rfl) ?_
  refine lv_aload_n hx hb dX0_digestPair_1 rfl (lv_at hl 0 rfl) ?_
  refine lv_iload_n hx hb dX0_digestPair_2 rfl (lv_at hl 2 rfl) ?_
  refine lv_iload hx hb dX0_digestPair_3 (lv_at hl 3 rfl) ?_
  refine cc_V hC hGx hD hEx hlocks (c_X0_compare l hl9 k a hD p1 p2 z) (gV w_584 w_585 w_586 w_26 w_587) kk_X0_compare rfl ⟨Nat.le_of_ble_eq_true rfl, Nat.le_of_ble_eq_true rfl⟩ ⟨Nat.le_of_ble_eq_true rfl, Nat.le_of_ble_eq_true rfl⟩ ⟨Nat.le_of_ble_eq_true rfl, Nat.le_of_ble_eq_true rfl⟩ hP hS hl.1 rfl rfl (Nat.le_of_ble_eq_true rfl) dX0_digestPair_5 (fun h_1 => ?_) (fun h_1 H locs hP hS => ?_)
  · have hm : m_X0_digestPair p0 p1 p2 z = ((m_X0_compare p1 p2 z).1, 0) := hm.trans (if_neg h_1)
    exact ⟨by rw [hm], rfl⟩
  · have hm := hm.trans (if_pos h_1)
    refine lv_i2l hx hb dX0_digestPair_8 rfl ?_
    refine pc_S hC (c_X0_digestValue l p0 (((m_X0_compare p1 p2 z).2).toInt64)) (gS w_246 w_247 w_26 w_248) kk_X0_digestValue ⟨Nat.le_of_ble_eq_true rfl, Nat.le_of_ble_eq_true rfl⟩ ⟨Nat.le_of_ble_eq_true rfl, Nat.le_of_ble_eq_true rfl⟩ hl.1 rfl rfl (Nat.le_of_ble_eq_true rfl) dX0_digestPair_9 ?_
    refine lv_lstore (lv' := [(5, .long (m_X0_digestValue p0 (((m_X0_compare p1 p2 z).2).toInt64))), (0, .ref a.1), (1, .long p0), (3, .int p1), (4, .int p2)]) hx hb dX0_digestPair_12 hl (by decide) rfl (fun ls hl => ?_)
    refine lv_iconst (v := 0) hx hb dX0_digestPair_14 (by decide) ?_
    refine lv_istore (lv' := [(7, .int (0 : Int32)), (5, .long (m_X0_digestValue p0 (((m_X0_compare p1 p2 z).2).toInt64))), (0, .ref a.1), (1, .long p0), (3, .int p1), (4, .int p2)]) hx hb dX0_digestPair_15 hl (by decide) rfl (fun ls hl => ?_)
    refine lv_iload hx hb dX0_digestPair_17 (lv_at hl 0 rfl) ?_
    refine lv_bipush (v := 6) hx hb dX0_digestPair_19 (by decide) ?_
    refine lv_icmp_gt (tgt := 47) hx hb dX0_digestPair_21 (by decide) (fun h => absurd h (by decide)) (fun _ => ?_)
    refine lv_lload hx hb dX0_digestPair_24 (lv_at hl 1 rfl) ?_
    refine lv_aload_n hx hb dX0_digestPair_26 rfl (lv_at hl 2 rfl) ?_
    refine lv_iload_n hx hb dX0_digestPair_27 rfl (lv_at hl 4 rfl) ?_
    refine lv_iload hx hb dX0_digestPair_28 (lv_at hl 5 rfl) ?_
    refine lv_iload hx hb dX0_digestPair_30 (lv_at hl 0 rfl) ?_
    refine cc_V hC hGx hD hEx hlocks (c_X0_between l hl9 k a hD p1 p2 (0 : Int32) z) (gV w_591 w_592 w_593 w_26 w_594) kk_X0_between rfl ⟨Nat.le_of_ble_eq_true rfl, Nat.le_of_ble_eq_true rfl⟩ ⟨Nat.le_of_ble_eq_true rfl, Nat.le_of_ble_eq_true rfl⟩ ⟨Nat.le_of_ble_eq_true rfl, Nat.le_of_ble_eq_true rfl⟩ hP hS hl.1 rfl rfl (Nat.le_of_ble_eq_true rfl) dX0_digestPair_32 (fun h_2 => ?_) (fun h_2 H locs hP hS => ?_)
    · have hm : m_X0_digestPair p0 p1 p2 z = ((m_X0_between p1 p2 (0 : Int32) z).1, 0) := hm.trans (if_neg h_2)
      exact ⟨by rw [hm], rfl⟩
    · have hm := hm.trans (if_pos h_2)
      refine lv_i2l hx hb dX0_digestPair_35 rfl ?_
      refine pc_S hC (c_X0_digestValue l (m_X0_digestValue p0 (((m_X0_compare p1 p2 z).2).toInt64)) (((m_X0_between p1 p2 (0 : Int32) z).2).toInt64)) (gS w_246 w_247 w_26 w_248) kk_X0_digestValue ⟨Nat.le_of_ble_eq_true rfl, Nat.le_of_ble_eq_true rfl⟩ ⟨Nat.le_of_ble_eq_true rfl, Nat.le_of_ble_eq_true rfl⟩ hl.1 rfl rfl (Nat.le_of_ble_eq_true rfl) dX0_digestPair_36 ?_
      refine lv_lstore (lv' := [(5, .long (m_X0_digestValue (m_X0_digestValue p0 (((m_X0_compare p1 p2 z).2).toInt64)) (((m_X0_between p1 p2 (0 : Int32) z).2).toInt64))), (7, .int (0 : Int32)), (0, .ref a.1), (1, .long p0), (3, .int p1), (4, .int p2)]) hx hb dX0_digestPair_39 hl (by decide) rfl (fun ls hl => ?_)
      refine lv_iinc (v := (1 : Int32)) (lv' := [(7, .int (1 : Int32)), (5, .long (m_X0_digestValue (m_X0_digestValue p0 (((m_X0_compare p1 p2 z).2).toInt64)) (((m_X0_between p1 p2 (0 : Int32) z).2).toInt64))), (0, .ref a.1), (1, .long p0), (3, .int p1), (4, .int p2)]) hx hb dX0_digestPair_41 hl (k := 1) rfl (by decide) (by decide) rfl (fun ls hl => ?_)
      refine lv_goto (tgt := 17) hx hb dX0_digestPair_44 (by decide) ?_
      refine lv_iload hx hb dX0_digestPair_17 (lv_at hl 0 rfl) ?_
      refine lv_bipush (v := 6) hx hb dX0_digestPair_19 (by decide) ?_
      refine lv_icmp_gt (tgt := 47) hx hb dX0_digestPair_21 (by decide) (fun h => absurd h (by decide)) (fun _ => ?_)
      refine lv_lload hx hb dX0_digestPair_24 (lv_at hl 1 rfl) ?_
      refine lv_aload_n hx hb dX0_digestPair_26 rfl (lv_at hl 2 rfl) ?_
      refine lv_iload_n hx hb dX0_digestPair_27 rfl (lv_at hl 4 rfl) ?_
      refine lv_iload hx hb dX0_digestPair_28 (lv_at hl 5 rfl) ?_
      refine lv_iload hx hb dX0_digestPair_30 (lv_at hl 0 rfl) ?_
      refine cc_V hC hGx hD hEx hlocks (c_X0_between l hl9 k a hD p1 p2 (1 : Int32) z) (gV w_591 w_592 w_593 w_26 w_594) kk_X0_between rfl ⟨Nat.le_of_ble_eq_true rfl, Nat.le_of_ble_eq_true rfl⟩ ⟨Nat.le_of_ble_eq_true rfl, Nat.le_of_ble_eq_true rfl⟩ ⟨Nat.le_of_ble_eq_true rfl, Nat.le_of_ble_eq_true rfl⟩ hP hS hl.1 rfl rfl (Nat.le_of_ble_eq_true rfl) dX0_digestPair_32 (fun h_3 => ?_) (fun h_3 H locs hP hS => ?_)
      · have hm : m_X0_digestPair p0 p1 p2 z = ((m_X0_between p1 p2 (1 : Int32) z).1, 0) := hm.trans (if_neg h_3)
        exact ⟨by rw [hm], rfl⟩
      · have hm := hm.trans (if_pos h_3)
        refine lv_i2l hx hb dX0_digestPair_35 rfl ?_
        refine pc_S hC (c_X0_digestValue l (m_X0_digestValue (m_X0_digestValue p0 (((m_X0_compare p1 p2 z).2).toInt64)) (((m_X0_between p1 p2 (0 : Int32) z).2).toInt64)) (((m_X0_between p1 p2 (1 : Int32) z).2).toInt64)) (gS w_246 w_247 w_26 w_248) kk_X0_digestValue ⟨Nat.le_of_ble_eq_true rfl, Nat.le_of_ble_eq_true rfl⟩ ⟨Nat.le_of_ble_eq_true rfl, Nat.le_of_ble_eq_true rfl⟩ hl.1 rfl rfl (Nat.le_of_ble_eq_true rfl) dX0_digestPair_36 ?_
        refine lv_lstore (lv' := [(5, .long (m_X0_digestValue (m_X0_digestValue (m_X0_digestValue p0 (((m_X0_compare p1 p2 z).2).toInt64)) (((m_X0_between p1 p2 (0 : Int32) z).2).toInt64)) (((m_X0_between p1 p2 (1 : Int32) z).2).toInt64))), (7, .int (1 : Int32)), (0, .ref a.1), (1, .long p0), (3, .int p1), (4, .int p2)]) hx hb dX0_digestPair_39 hl (by decide) rfl (fun ls hl => ?_)
        refine lv_iinc (v := (2 : Int32)) (lv' := [(7, .int (2 : Int32)), (5, .long (m_X0_digestValue (m_X0_digestValue (m_X0_digestValue p0 (((m_X0_compare p1 p2 z).2).toInt64)) (((m_X0_between p1 p2 (0 : Int32) z).2).toInt64)) (((m_X0_between p1 p2 (1 : Int32) z).2).toInt64))), (0, .ref a.1), (1, .long p0), (3, .int p1), (4, .int p2)]) hx hb dX0_digestPair_41 hl (k := 1) rfl (by decide) (by decide) rfl (fun ls hl => ?_)
        refine lv_goto (tgt := 17) hx hb dX0_digestPair_44 (by decide) ?_
        refine lv_iload hx hb dX0_digestPair_17 (lv_at hl 0 rfl) ?_
        refine lv_bipush (v := 6) hx hb dX0_digestPair_19 (by decide) ?_
        refine lv_icmp_gt (tgt := 47) hx hb dX0_digestPair_21 (by decide) (fun h => absurd h (by decide)) (fun _ => ?_)
        refine lv_lload hx hb dX0_digestPair_24 (lv_at hl 1 rfl) ?_
        refine lv_aload_n hx hb dX0_digestPair_26 rfl (lv_at hl 2 rfl) ?_
        refine lv_iload_n hx hb dX0_digestPair_27 rfl (lv_at hl 4 rfl) ?_
        refine lv_iload hx hb dX0_digestPair_28 (lv_at hl 5 rfl) ?_
        refine lv_iload hx hb dX0_digestPair_30 (lv_at hl 0 rfl) ?_
        refine cc_V hC hGx hD hEx hlocks (c_X0_between l hl9 k a hD p1 p2 (2 : Int32) z) (gV w_591 w_592 w_593 w_26 w_594) kk_X0_between rfl ⟨Nat.le_of_ble_eq_true rfl, Nat.le_of_ble_eq_true rfl⟩ ⟨Nat.le_of_ble_eq_true rfl, Nat.le_of_ble_eq_true rfl⟩ ⟨Nat.le_of_ble_eq_true rfl, Nat.le_of_ble_eq_true rfl⟩ hP hS hl.1 rfl rfl (Nat.le_of_ble_eq_true rfl) dX0_digestPair_32 (fun h_4 => ?_) (fun h_4 H locs hP hS => ?_)
        · have hm : m_X0_digestPair p0 p1 p2 z = ((m_X0_between p1 p2 (2 : Int32) z).1, 0) := hm.trans (if_neg h_4)
          exact ⟨by rw [hm], rfl⟩
        · have hm := hm.trans (if_pos h_4)
          refine lv_i2l hx hb dX0_digestPair_35 rfl ?_
          refine pc_S hC (c_X0_digestValue l (m_X0_digestValue (m_X0_digestValue (m_X0_digestValue p0 (((m_X0_compare p1 p2 z).2).toInt64)) (((m_X0_between p1 p2 (0 : Int32) z).2).toInt64)) (((m_X0_between p1 p2 (1 : Int32) z).2).toInt64)) (((m_X0_between p1 p2 (2 : Int32) z).2).toInt64)) (gS w_246 w_247 w_26 w_248) kk_X0_digestValue ⟨Nat.le_of_ble_eq_true rfl, Nat.le_of_ble_eq_true rfl⟩ ⟨Nat.le_of_ble_eq_true rfl, Nat.le_of_ble_eq_true rfl⟩ hl.1 rfl rfl (Nat.le_of_ble_eq_true rfl) dX0_digestPair_36 ?_
          refine lv_lstore (lv' := [(5, .long (m_X0_digestValue (m_X0_digestValue (m_X0_digestValue (m_X0_digestValue p0 (((m_X0_compare p1 p2 z).2).toInt64)) (((m_X0_between p1 p2 (0 : Int32) z).2).toInt64)) (((m_X0_between p1 p2 (1 : Int32) z).2).toInt64)) (((m_X0_between p1 p2 (2 : Int32) z).2).toInt64))), (7, .int (2 : Int32)), (0, .ref a.1), (1, .long p0), (3, .int p1), (4, .int p2)]) hx hb dX0_digestPair_39 hl (by decide) rfl (fun ls hl => ?_)
          refine lv_iinc (v := (3 : Int32)) (lv' := [(7, .int (3 : Int32)), (5, .long (m_X0_digestValue (m_X0_digestValue (m_X0_digestValue (m_X0_digestValue p0 (((m_X0_compare p1 p2 z).2).toInt64)) (((m_X0_between p1 p2 (0 : Int32) z).2).toInt64)) (((m_X0_between p1 p2 (1 : Int32) z).2).toInt64)) (((m_X0_between p1 p2 (2 : Int32) z).2).toInt64))), (0, .ref a.1), (1, .long p0), (3, .int p1), (4, .int p2)]) hx hb dX0_digestPair_41 hl (k := 1) rfl (by decide) (by decide) rfl (fun ls hl => ?_)
          refine lv_goto (tgt := 17) hx hb dX0_digestPair_44 (by decide) ?_
          refine lv_iload hx hb dX0_digestPair_17 (lv_at hl 0 rfl) ?_
          refine lv_bipush (v := 6) hx hb dX0_digestPair_19 (by decide) ?_
          refine lv_icmp_gt (tgt := 47) hx hb dX0_digestPair_21 (by decide) (fun h => absurd h (by decide)) (fun _ => ?_)
          refine lv_lload hx hb dX0_digestPair_24 (lv_at hl 1 rfl) ?_
          refine lv_aload_n hx hb dX0_digestPair_26 rfl (lv_at hl 2 rfl) ?_
          refine lv_iload_n hx hb dX0_digestPair_27 rfl (lv_at hl 4 rfl) ?_
          refine lv_iload hx hb dX0_digestPair_28 (lv_at hl 5 rfl) ?_
          refine lv_iload hx hb dX0_digestPair_30 (lv_at hl 0 rfl) ?_
          refine cc_V hC hGx hD hEx hlocks (c_X0_between l hl9 k a hD p1 p2 (3 : Int32) z) (gV w_591 w_592 w_593 w_26 w_594) kk_X0_between rfl ⟨Nat.le_of_ble_eq_true rfl, Nat.le_of_ble_eq_true rfl⟩ ⟨Nat.le_of_ble_eq_true rfl, Nat.le_of_ble_eq_true rfl⟩ ⟨Nat.le_of_ble_eq_true rfl, Nat.le_of_ble_eq_true rfl⟩ hP hS hl.1 rfl rfl (Nat.le_of_ble_eq_true rfl) dX0_digestPair_32 (fun h_5 => ?_) (fun h_5 H locs hP hS => ?_)
          · have hm : m_X0_digestPair p0 p1 p2 z = ((m_X0_between p1 p2 (3 : Int32) z).1, 0) := hm.trans (if_neg h_5)
            exact ⟨by rw [hm], rfl⟩
          · have hm := hm.trans (if_pos h_5)
            refine lv_i2l hx hb dX0_digestPair_35 rfl ?_
            refine pc_S hC (c_X0_digestValue l (m_X0_digestValue (m_X0_digestValue (m_X0_digestValue (m_X0_digestValue p0 (((m_X0_compare p1 p2 z).2).toInt64)) (((m_X0_between p1 p2 (0 : Int32) z).2).toInt64)) (((m_X0_between p1 p2 (1 : Int32) z).2).toInt64)) (((m_X0_between p1 p2 (2 : Int32) z).2).toInt64)) (((m_X0_between p1 p2 (3 : Int32) z).2).toInt64)) (gS w_246 w_247 w_26 w_248) kk_X0_digestValue ⟨Nat.le_of_ble_eq_true rfl, Nat.le_of_ble_eq_true rfl⟩ ⟨Nat.le_of_ble_eq_true rfl, Nat.le_of_ble_eq_true rfl⟩ hl.1 rfl rfl (Nat.le_of_ble_eq_true rfl) dX0_digestPair_36 ?_
            refine lv_lstore (lv' := [(5, .long (m_X0_digestValue (m_X0_digestValue (m_X0_digestValue (m_X0_digestValue (m_X0_digestValue p0 (((m_X0_compare p1 p2 z).2).toInt64)) (((m_X0_between p1 p2 (0 : Int32) z).2).toInt64)) (((m_X0_between p1 p2 (1 : Int32) z).2).toInt64)) (((m_X0_between p1 p2 (2 : Int32) z).2).toInt64)) (((m_X0_between p1 p2 (3 : Int32) z).2).toInt64))), (7, .int (3 : Int32)), (0, .ref a.1), (1, .long p0), (3, .int p1), (4, .int p2)]) hx hb dX0_digestPair_39 hl (by decide) rfl (fun ls hl => ?_)
            refine lv_iinc (v := (4 : Int32)) (lv' := [(7, .int (4 : Int32)), (5, .long (m_X0_digestValue (m_X0_digestValue (m_X0_digestValue (m_X0_digestValue (m_X0_digestValue p0 (((m_X0_compare p1 p2 z).2).toInt64)) (((m_X0_between p1 p2 (0 : Int32) z).2).toInt64)) (((m_X0_between p1 p2 (1 : Int32) z).2).toInt64)) (((m_X0_between p1 p2 (2 : Int32) z).2).toInt64)) (((m_X0_between p1 p2 (3 : Int32) z).2).toInt64))), (0, .ref a.1), (1, .long p0), (3, .int p1), (4, .int p2)]) hx hb dX0_digestPair_41 hl (k := 1) rfl (by decide) (by decide) rfl (fun ls hl => ?_)
            refine lv_goto (tgt := 17) hx hb dX0_digestPair_44 (by decide) ?_
            refine lv_iload hx hb dX0_digestPair_17 (lv_at hl 0 rfl) ?_
            refine lv_bipush (v := 6) hx hb dX0_digestPair_19 (by decide) ?_
            refine lv_icmp_gt (tgt := 47) hx hb dX0_digestPair_21 (by decide) (fun h => absurd h (by decide)) (fun _ => ?_)
            refine lv_lload hx hb dX0_digestPair_24 (lv_at hl 1 rfl) ?_
            refine lv_aload_n hx hb dX0_digestPair_26 rfl (lv_at hl 2 rfl) ?_
            refine lv_iload_n hx hb dX0_digestPair_27 rfl (lv_at hl 4 rfl) ?_
            refine lv_iload hx hb dX0_digestPair_28 (lv_at hl 5 rfl) ?_
            refine lv_iload hx hb dX0_digestPair_30 (lv_at hl 0 rfl) ?_
            refine cc_V hC hGx hD hEx hlocks (c_X0_between l hl9 k a hD p1 p2 (4 : Int32) z) (gV w_591 w_592 w_593 w_26 w_594) kk_X0_between rfl ⟨Nat.le_of_ble_eq_true rfl, Nat.le_of_ble_eq_true rfl⟩ ⟨Nat.le_of_ble_eq_true rfl, Nat.le_of_ble_eq_true rfl⟩ ⟨Nat.le_of_ble_eq_true rfl, Nat.le_of_ble_eq_true rfl⟩ hP hS hl.1 rfl rfl (Nat.le_of_ble_eq_true rfl) dX0_digestPair_32 (fun h_6 => ?_) (fun h_6 H locs hP hS => ?_)
            · have hm : m_X0_digestPair p0 p1 p2 z = ((m_X0_between p1 p2 (4 : Int32) z).1, 0) := hm.trans (if_neg h_6)
              exact ⟨by rw [hm], rfl⟩
            · have hm := hm.trans (if_pos h_6)
              refine lv_i2l hx hb dX0_digestPair_35 rfl ?_
              refine pc_S hC (c_X0_digestValue l (m_X0_digestValue (m_X0_digestValue (m_X0_digestValue (m_X0_digestValue (m_X0_digestValue p0 (((m_X0_compare p1 p2 z).2).toInt64)) (((m_X0_between p1 p2 (0 : Int32) z).2).toInt64)) (((m_X0_between p1 p2 (1 : Int32) z).2).toInt64)) (((m_X0_between p1 p2 (2 : Int32) z).2).toInt64)) (((m_X0_between p1 p2 (3 : Int32) z).2).toInt64)) (((m_X0_between p1 p2 (4 : Int32) z).2).toInt64)) (gS w_246 w_247 w_26 w_248) kk_X0_digestValue ⟨Nat.le_of_ble_eq_true rfl, Nat.le_of_ble_eq_true rfl⟩ ⟨Nat.le_of_ble_eq_true rfl, Nat.le_of_ble_eq_true rfl⟩ hl.1 rfl rfl (Nat.le_of_ble_eq_true rfl) dX0_digestPair_36 ?_
              refine lv_lstore (lv' := [(5, .long (m_X0_digestValue (m_X0_digestValue (m_X0_digestValue (m_X0_digestValue (m_X0_digestValue (m_X0_digestValue p0 (((m_X0_compare p1 p2 z).2).toInt64)) (((m_X0_between p1 p2 (0 : Int32) z).2).toInt64)) (((m_X0_between p1 p2 (1 : Int32) z).2).toInt64)) (((m_X0_between p1 p2 (2 : Int32) z).2).toInt64)) (((m_X0_between p1 p2 (3 : Int32) z).2).toInt64)) (((m_X0_between p1 p2 (4 : Int32) z).2).toInt64))), (7, .int (4 : Int32)), (0, .ref a.1), (1, .long p0), (3, .int p1), (4, .int p2)]) hx hb dX0_digestPair_39 hl (by decide) rfl (fun ls hl => ?_)
              refine lv_iinc (v := (5 : Int32)) (lv' := [(7, .int (5 : Int32)), (5, .long (m_X0_digestValue (m_X0_digestValue (m_X0_digestValue (m_X0_digestValue (m_X0_digestValue (m_X0_digestValue p0 (((m_X0_compare p1 p2 z).2).toInt64)) (((m_X0_between p1 p2 (0 : Int32) z).2).toInt64)) (((m_X0_between p1 p2 (1 : Int32) z).2).toInt64)) (((m_X0_between p1 p2 (2 : Int32) z).2).toInt64)) (((m_X0_between p1 p2 (3 : Int32) z).2).toInt64)) (((m_X0_between p1 p2 (4 : Int32) z).2).toInt64))), (0, .ref a.1), (1, .long p0), (3, .int p1), (4, .int p2)]) hx hb dX0_digestPair_41 hl (k := 1) rfl (by decide) (by decide) rfl (fun ls hl => ?_)
              refine lv_goto (tgt := 17) hx hb dX0_digestPair_44 (by decide) ?_
              refine lv_iload hx hb dX0_digestPair_17 (lv_at hl 0 rfl) ?_
              refine lv_bipush (v := 6) hx hb dX0_digestPair_19 (by decide) ?_
              refine lv_icmp_gt (tgt := 47) hx hb dX0_digestPair_21 (by decide) (fun h => absurd h (by decide)) (fun _ => ?_)
              refine lv_lload hx hb dX0_digestPair_24 (lv_at hl 1 rfl) ?_
              refine lv_aload_n hx hb dX0_digestPair_26 rfl (lv_at hl 2 rfl) ?_
              refine lv_iload_n hx hb dX0_digestPair_27 rfl (lv_at hl 4 rfl) ?_
              refine lv_iload hx hb dX0_digestPair_28 (lv_at hl 5 rfl) ?_
              refine lv_iload hx hb dX0_digestPair_30 (lv_at hl 0 rfl) ?_
              refine cc_V hC hGx hD hEx hlocks (c_X0_between l hl9 k a hD p1 p2 (5 : Int32) z) (gV w_591 w_592 w_593 w_26 w_594) kk_X0_between rfl ⟨Nat.le_of_ble_eq_true rfl, Nat.le_of_ble_eq_true rfl⟩ ⟨Nat.le_of_ble_eq_true rfl, Nat.le_of_ble_eq_true rfl⟩ ⟨Nat.le_of_ble_eq_true rfl, Nat.le_of_ble_eq_true rfl⟩ hP hS hl.1 rfl rfl (Nat.le_of_ble_eq_true rfl) dX0_digestPair_32 (fun h_7 => ?_) (fun h_7 H locs hP hS => ?_)
              · have hm : m_X0_digestPair p0 p1 p2 z = ((m_X0_between p1 p2 (5 : Int32) z).1, 0) := hm.trans (if_neg h_7)
                exact ⟨by rw [hm], rfl⟩
              · have hm := hm.trans (if_pos h_7)
                refine lv_i2l hx hb dX0_digestPair_35 rfl ?_
                refine pc_S hC (c_X0_digestValue l (m_X0_digestValue (m_X0_digestValue (m_X0_digestValue (m_X0_digestValue (m_X0_digestValue (m_X0_digestValue p0 (((m_X0_compare p1 p2 z).2).toInt64)) (((m_X0_between p1 p2 (0 : Int32) z).2).toInt64)) (((m_X0_between p1 p2 (1 : Int32) z).2).toInt64)) (((m_X0_between p1 p2 (2 : Int32) z).2).toInt64)) (((m_X0_between p1 p2 (3 : Int32) z).2).toInt64)) (((m_X0_between p1 p2 (4 : Int32) z).2).toInt64)) (((m_X0_between p1 p2 (5 : Int32) z).2).toInt64)) (gS w_246 w_247 w_26 w_248) kk_X0_digestValue ⟨Nat.le_of_ble_eq_true rfl, Nat.le_of_ble_eq_true rfl⟩ ⟨Nat.le_of_ble_eq_true rfl, Nat.le_of_ble_eq_true rfl⟩ hl.1 rfl rfl (Nat.le_of_ble_eq_true rfl) dX0_digestPair_36 ?_
                refine lv_lstore (lv' := [(5, .long (m_X0_digestValue (m_X0_digestValue (m_X0_digestValue (m_X0_digestValue (m_X0_digestValue (m_X0_digestValue (m_X0_digestValue p0 (((m_X0_compare p1 p2 z).2).toInt64)) (((m_X0_between p1 p2 (0 : Int32) z).2).toInt64)) (((m_X0_between p1 p2 (1 : Int32) z).2).toInt64)) (((m_X0_between p1 p2 (2 : Int32) z).2).toInt64)) (((m_X0_between p1 p2 (3 : Int32) z).2).toInt64)) (((m_X0_between p1 p2 (4 : Int32) z).2).toInt64)) (((m_X0_between p1 p2 (5 : Int32) z).2).toInt64))), (7, .int (5 : Int32)), (0, .ref a.1), (1, .long p0), (3, .int p1), (4, .int p2)]) hx hb dX0_digestPair_39 hl (by decide) rfl (fun ls hl => ?_)
                refine lv_iinc (v := (6 : Int32)) (lv' := [(7, .int (6 : Int32)), (5, .long (m_X0_digestValue (m_X0_digestValue (m_X0_digestValue (m_X0_digestValue (m_X0_digestValue (m_X0_digestValue (m_X0_digestValue p0 (((m_X0_compare p1 p2 z).2).toInt64)) (((m_X0_between p1 p2 (0 : Int32) z).2).toInt64)) (((m_X0_between p1 p2 (1 : Int32) z).2).toInt64)) (((m_X0_between p1 p2 (2 : Int32) z).2).toInt64)) (((m_X0_between p1 p2 (3 : Int32) z).2).toInt64)) (((m_X0_between p1 p2 (4 : Int32) z).2).toInt64)) (((m_X0_between p1 p2 (5 : Int32) z).2).toInt64))), (0, .ref a.1), (1, .long p0), (3, .int p1), (4, .int p2)]) hx hb dX0_digestPair_41 hl (k := 1) rfl (by decide) (by decide) rfl (fun ls hl => ?_)
                refine lv_goto (tgt := 17) hx hb dX0_digestPair_44 (by decide) ?_
                refine lv_iload hx hb dX0_digestPair_17 (lv_at hl 0 rfl) ?_
                refine lv_bipush (v := 6) hx hb dX0_digestPair_19 (by decide) ?_
                refine lv_icmp_gt (tgt := 47) hx hb dX0_digestPair_21 (by decide) (fun h => absurd h (by decide)) (fun _ => ?_)
                refine lv_lload hx hb dX0_digestPair_24 (lv_at hl 1 rfl) ?_
                refine lv_aload_n hx hb dX0_digestPair_26 rfl (lv_at hl 2 rfl) ?_
                refine lv_iload_n hx hb dX0_digestPair_27 rfl (lv_at hl 4 rfl) ?_
                refine lv_iload hx hb dX0_digestPair_28 (lv_at hl 5 rfl) ?_
                refine lv_iload hx hb dX0_digestPair_30 (lv_at hl 0 rfl) ?_
                refine cc_V hC hGx hD hEx hlocks (c_X0_between l hl9 k a hD p1 p2 (6 : Int32) z) (gV w_591 w_592 w_593 w_26 w_594) kk_X0_between rfl ⟨Nat.le_of_ble_eq_true rfl, Nat.le_of_ble_eq_true rfl⟩ ⟨Nat.le_of_ble_eq_true rfl, Nat.le_of_ble_eq_true rfl⟩ ⟨Nat.le_of_ble_eq_true rfl, Nat.le_of_ble_eq_true rfl⟩ hP hS hl.1 rfl rfl (Nat.le_of_ble_eq_true rfl) dX0_digestPair_32 (fun h_8 => ?_) (fun h_8 H locs hP hS => ?_)
                · have hm : m_X0_digestPair p0 p1 p2 z = ((m_X0_between p1 p2 (6 : Int32) z).1, 0) := hm.trans (if_neg h_8)
                  exact ⟨by rw [hm], rfl⟩
                · have hm := hm.trans (if_pos h_8)
                  refine lv_i2l hx hb dX0_digestPair_35 rfl ?_
                  refine pc_S hC (c_X0_digestValue l (m_X0_digestValue (m_X0_digestValue (m_X0_digestValue (m_X0_digestValue (m_X0_digestValue (m_X0_digestValue (m_X0_digestValue p0 (((m_X0_compare p1 p2 z).2).toInt64)) (((m_X0_between p1 p2 (0 : Int32) z).2).toInt64)) (((m_X0_between p1 p2 (1 : Int32) z).2).toInt64)) (((m_X0_between p1 p2 (2 : Int32) z).2).toInt64)) (((m_X0_between p1 p2 (3 : Int32) z).2).toInt64)) (((m_X0_between p1 p2 (4 : Int32) z).2).toInt64)) (((m_X0_between p1 p2 (5 : Int32) z).2).toInt64)) (((m_X0_between p1 p2 (6 : Int32) z).2).toInt64)) (gS w_246 w_247 w_26 w_248) kk_X0_digestValue ⟨Nat.le_of_ble_eq_true rfl, Nat.le_of_ble_eq_true rfl⟩ ⟨Nat.le_of_ble_eq_true rfl, Nat.le_of_ble_eq_true rfl⟩ hl.1 rfl rfl (Nat.le_of_ble_eq_true rfl) dX0_digestPair_36 ?_
                  refine lv_lstore (lv' := [(5, .long (m_X0_digestValue (m_X0_digestValue (m_X0_digestValue (m_X0_digestValue (m_X0_digestValue (m_X0_digestValue (m_X0_digestValue (m_X0_digestValue p0 (((m_X0_compare p1 p2 z).2).toInt64)) (((m_X0_between p1 p2 (0 : Int32) z).2).toInt64)) (((m_X0_between p1 p2 (1 : Int32) z).2).toInt64)) (((m_X0_between p1 p2 (2 : Int32) z).2).toInt64)) (((m_X0_between p1 p2 (3 : Int32) z).2).toInt64)) (((m_X0_between p1 p2 (4 : Int32) z).2).toInt64)) (((m_X0_between p1 p2 (5 : Int32) z).2).toInt64)) (((m_X0_between p1 p2 (6 : Int32) z).2).toInt64))), (7, .int (6 : Int32)), (0, .ref a.1), (1, .long p0), (3, .int p1), (4, .int p2)]) hx hb dX0_digestPair_39 hl (by decide) rfl (fun ls hl => ?_)
                  refine lv_iinc (v := (7 : Int32)) (lv' := [(7, .int (7 : Int32)), (5, .long (m_X0_digestValue (m_X0_digestValue (m_X0_digestValue (m_X0_digestValue (m_X0_digestValue (m_X0_digestValue (m_X0_digestValue (m_X0_digestValue p0 (((m_X0_compare p1 p2 z).2).toInt64)) (((m_X0_between p1 p2 (0 : Int32) z).2).toInt64)) (((m_X0_between p1 p2 (1 : Int32) z).2).toInt64)) (((m_X0_between p1 p2 (2 : Int32) z).2).toInt64)) (((m_X0_between p1 p2 (3 : Int32) z).2).toInt64)) (((m_X0_between p1 p2 (4 : Int32) z).2).toInt64)) (((m_X0_between p1 p2 (5 : Int32) z).2).toInt64)) (((m_X0_between p1 p2 (6 : Int32) z).2).toInt64))), (0, .ref a.1), (1, .long p0), (3, .int p1), (4, .int p2)]) hx hb dX0_digestPair_41 hl (k := 1) rfl (by decide) (by decide) rfl (fun ls hl => ?_)
                  refine lv_goto (tgt := 17) hx hb dX0_digestPair_44 (by decide) ?_
                  refine lv_iload hx hb dX0_digestPair_17 (lv_at hl 0 rfl) ?_
                  refine lv_bipush (v := 6) hx hb dX0_digestPair_19 (by decide) ?_
                  refine lv_icmp_gt (tgt := 47) hx hb dX0_digestPair_21 (by decide) (fun _ => ?_) (fun h => absurd h (by decide))
                  refine lv_lload hx hb dX0_digestPair_47 (lv_at hl 1 rfl) ?_
                  have hm : m_X0_digestPair p0 p1 p2 z = (0, m_X0_digestValue (m_X0_digestValue (m_X0_digestValue (m_X0_digestValue (m_X0_digestValue (m_X0_digestValue (m_X0_digestValue (m_X0_digestValue p0 (((m_X0_compare p1 p2 z).2).toInt64)) (((m_X0_between p1 p2 (0 : Int32) z).2).toInt64)) (((m_X0_between p1 p2 (1 : Int32) z).2).toInt64)) (((m_X0_between p1 p2 (2 : Int32) z).2).toInt64)) (((m_X0_between p1 p2 (3 : Int32) z).2).toInt64)) (((m_X0_between p1 p2 (4 : Int32) z).2).toInt64)) (((m_X0_between p1 p2 (5 : Int32) z).2).toInt64)) (((m_X0_between p1 p2 (6 : Int32) z).2).toInt64)) := hm
                  exact c_lret (E := m_X0_digestValue (m_X0_digestValue (m_X0_digestValue (m_X0_digestValue (m_X0_digestValue (m_X0_digestValue (m_X0_digestValue (m_X0_digestValue p0 (((m_X0_compare p1 p2 z).2).toInt64)) (((m_X0_between p1 p2 (0 : Int32) z).2).toInt64)) (((m_X0_between p1 p2 (1 : Int32) z).2).toInt64)) (((m_X0_between p1 p2 (2 : Int32) z).2).toInt64)) (((m_X0_between p1 p2 (3 : Int32) z).2).toInt64)) (((m_X0_between p1 p2 (4 : Int32) z).2).toInt64)) (((m_X0_between p1 p2 (5 : Int32) z).2).toInt64)) (((m_X0_between p1 p2 (6 : Int32) z).2).toInt64)) hx hb hr hlocks (by rw [hm]) (by rw [hm]) rfl hP hS ⟨Nat.le_of_ble_eq_true rfl, Nat.le_of_ble_eq_true rfl⟩ dX0_digestPair_49
