def o_X3_lengthOf_ (p0 : Int32) (p1 : Int32) : Option Int32 := (if p1 = (2 : Int32) then (if m_X3_isLeap p0 = 0 then (if p1 - (1 : Int32) < 0 ∨ 12 ≤ (p1 - (1 : Int32)).toNatClampNeg then none else some (gLong.getD (p1 - (1 : Int32)).toNatClampNeg 0)) else some ((29 : Int32))) else (if p1 - (1 : Int32) < 0 ∨ 12 ≤ (p1 - (1 : Int32)).toNatClampNeg then none else some (gLong.getD (p1 - (1 : Int32)).toNatClampNeg 0)))
theorem kk_X3_lengthOf_ : pK yX3_lengthOf_ wsX3_lengthOf_ cX3_lengthOf_ 2 (some .int) 2 := ⟨⟨_, rfl⟩, by decide +kernel, by decide +kernel, by decide +kernel⟩
set_option maxRecDepth 100000 in
set_option maxHeartbeats 4000000 in
theorem k_X3_lengthOf_ (l : Launch) (k : Kx) (p0 : Int32) (p1 : Int32) {r : Int32} (hm : o_X3_lengthOf_ p0 p1 = some r) : qM l k yX3_lengthOf_ wsX3_lengthOf_ 1 20 0 0 [.int p0, .int p1] [] (rI r) := by
  refine Met.ofW (cc := cX3_lengthOf_) (maxL := 2) (ret := (some .int)) (by decide) rfl ?_
  intro p e s m args below meth c s₁ B hml hv
  obtain ⟨rfl, hGx, hds⟩ := hv
  have hx := B.exec
  have hb := B.bytes
  have hr := B.returns
  have hts := atoms_spec (ws := wsX3_lengthOf_) B.pre
  have hown : s.vm.findClass RX3 = some m.cls := findClass_of_methodNamed B.named
  have hlocks := B.notSynchronized
  have htg : ∀ w ∈ GL, w.before _ s = true := fun w h => hts w (List.mem_cons_of_mem _ h)
  have hC : CallFix p m c cX3_lengthOf_ 2 s _ wsX3_lengthOf_ RX3 := ⟨hx, hb, hml, hown, hts⟩
  have hA : ∀ q, s.heap.size ≤ q → nA s.heap.size q := fun _ h => h
  have hAB : ∀ q, nA s.heap.size q → kB k ≤ q := fun q h => Nat.le_trans hGx.2.1 h
  have hS : va_S (nA s.heap.size) s.heap s.heap [] := va_S.rf
  have hl := lv_entry ([.int p0, .int p1]) (n := 2) (Nat.le_of_ble_eq_true rfl)
  rw [lg_entry_eq]
  generalize (lg_sl ([.int p0, .int p1]) ++ List.replicate (2 - (lg_sl ([.int p0, .int p1])).length) Slot.unset).toArray = ls at hl ⊢
  have hl : lv_has ls 2 [(0, .int p0), (1, .int p1)] := hl
  refine lv_iload_n hx hb dX3_lengthOf__0 rfl (lv_at hl 1 rfl) ?_
  refine lv_iconst (v := 2) hx hb dX3_lengthOf__1 (by decide) ?_
  refine lv_icmp_ne (tgt := 17) hx hb dX3_lengthOf__2 (by decide) (fun h_1 => ?_) (fun h_1 => ?_)
  · have hm := (if_neg h_1).symm.trans hm
    obtain ⟨t_1, hZ_1, hT_1⟩ := gx_long hGx
    refine va_gets hx hb hZ_1 (vs_up hAB hS) hown (htg _ w_1055) (fun _ h9 => h9) dX3_lengthOf__17 ?_
    refine lv_iload_n hx hb dX3_lengthOf__20 rfl (lv_at hl 1 rfl) ?_
    refine lv_iconst (v := 1) hx hb dX3_lengthOf__21 (by decide) ?_
    refine lv_isub hx hb dX3_lengthOf__22 ?_
    by_cases h_2 : p1 - (1 : Int32) < 0 ∨ 12 ≤ (p1 - (1 : Int32)).toNatClampNeg
    · have hm := (if_pos h_2).symm.trans hm
      cases hm
    have hm := (if_neg h_2).symm.trans hm
    refine va_ti (v := .int (gLong.getD (p1 - (1 : Int32)).toNatClampNeg 0)) hx hb hT_1 (vs_up hAB hS) h_2 rfl dX3_lengthOf__23 ?_
    exact q_iret hx hb hr hlocks (Option.some.inj hm) hS ⟨Nat.le_of_ble_eq_true rfl, Nat.le_of_ble_eq_true rfl⟩ dX3_lengthOf__24
  · have hm := (if_pos h_1).symm.trans hm
    refine lv_iload_n hx hb dX3_lengthOf__5 rfl (lv_at hl 0 rfl) ?_
    refine pc_S hC (c_X3_isLeap l p0) (gS w_1052 w_1053 w_27 w_1054) kk_X3_isLeap ⟨Nat.le_of_ble_eq_true rfl, Nat.le_of_ble_eq_true rfl⟩ ⟨Nat.le_of_ble_eq_true rfl, Nat.le_of_ble_eq_true rfl⟩ hl.1 rfl rfl (Nat.le_of_ble_eq_true rfl) dX3_lengthOf__6 ?_
    refine lv_if_eq (tgt := 17) hx hb dX3_lengthOf__9 (by decide) (fun h_3 => ?_) (fun h_3 => ?_)
    · have hm := (if_pos h_3).symm.trans hm
      obtain ⟨t_2, hZ_2, hT_2⟩ := gx_long hGx
      refine va_gets hx hb hZ_2 (vs_up hAB hS) hown (htg _ w_1055) (fun _ h9 => h9) dX3_lengthOf__17 ?_
      refine lv_iload_n hx hb dX3_lengthOf__20 rfl (lv_at hl 1 rfl) ?_
      refine lv_iconst (v := 1) hx hb dX3_lengthOf__21 (by decide) ?_
      refine lv_isub hx hb dX3_lengthOf__22 ?_
      by_cases h_4 : p1 - (1 : Int32) < 0 ∨ 12 ≤ (p1 - (1 : Int32)).toNatClampNeg
      · have hm := (if_pos h_4).symm.trans hm
        cases hm
      have hm := (if_neg h_4).symm.trans hm
      refine va_ti (v := .int (gLong.getD (p1 - (1 : Int32)).toNatClampNeg 0)) hx hb hT_2 (vs_up hAB hS) h_4 rfl dX3_lengthOf__23 ?_
      exact q_iret hx hb hr hlocks (Option.some.inj hm) hS ⟨Nat.le_of_ble_eq_true rfl, Nat.le_of_ble_eq_true rfl⟩ dX3_lengthOf__24
    · have hm := (if_neg h_3).symm.trans hm
      refine lv_bipush (v := 29) hx hb dX3_lengthOf__12 (by decide) ?_
      refine lv_goto (tgt := 24) hx hb dX3_lengthOf__14 (by decide) ?_
      exact q_iret hx hb hr hlocks (Option.some.inj hm) hS ⟨Nat.le_of_ble_eq_true rfl, Nat.le_of_ble_eq_true rfl⟩ dX3_lengthOf__24
def l7_X2_inYear (p0 : DT) : Nat → Int32 → Int32 → Option Int32
  | 0, _, _ => none
  | n + 1, x7_1, x7_2 => (if p0.2.1 ≤ x7_2 then some (x7_1) else ((o_X3_lengthOf_ p0.1 x7_2).bind fun x_1 => l7_X2_inYear p0 n (x7_1 + x_1) (x7_2 + 1)))
def o_X2_inYear (p0 : DT) : Option Int32 := l7_X2_inYear p0 20 p0.2.2 (1 : Int32)
theorem kk_X2_inYear : pK yX2_inYear wsX2_inYear cX2_inYear 3 (some .int) 0 := ⟨⟨_, rfl⟩, by decide +kernel, by decide +kernel, by decide +kernel⟩
set_option maxRecDepth 100000 in
set_option maxHeartbeats 4000000 in
theorem k_X2_inYear (l : Launch) (k : Kx) (p0 : DT) (q0 : Nat) {r : Int32} (hm : o_X2_inYear p0 = some r) : qM l k yX2_inYear wsX2_inYear 2 41 0 0 [.ref q0] [(q0, p0)] (rI r) := by
  refine Met.ofW (cc := cX2_inYear) (maxL := 3) (ret := (some .int)) (by decide) rfl ?_
  intro p e s m args below meth c s₁ B hml hv
  obtain ⟨rfl, hGx, hds⟩ := hv
  have hx := B.exec
  have hb := B.bytes
  have hr := B.returns
  have hts := atoms_spec (ws := wsX2_inYear) B.pre
  have hown : s.vm.findClass RX2 = some m.cls := findClass_of_methodNamed B.named
  have hlocks := B.notSynchronized
  have htg : ∀ w ∈ GL, w.before _ s = true := fun w h => hts w (List.mem_cons_of_mem _ h)
  have hC : CallFix p m c cX2_inYear 3 s _ wsX2_inYear RX2 := ⟨hx, hb, hml, hown, hts⟩
  have hA : ∀ q, s.heap.size ≤ q → nA s.heap.size q := fun _ h => h
  have hAB : ∀ q, nA s.heap.size q → kB k ≤ q := fun q h => Nat.le_trans hGx.2.1 h
  have hS : va_S (nA s.heap.size) s.heap s.heap [] := va_S.rf
  have hP_q0 : dP k q0 p0 s.heap := hds (q0, p0) (List.mem_of_getElem? (i := 0) rfl)
  have hl := lv_entry ([.ref q0]) (n := 3) (Nat.le_of_ble_eq_true rfl)
  rw [lg_entry_eq]
  generalize (lg_sl ([.ref q0]) ++ List.replicate (3 - (lg_sl ([.ref q0])).length) Slot.unset).toArray = ls at hl ⊢
  have hl : lv_has ls 3 [(0, .ref q0)] := hl
  refine lv_aload_n hx hb dX2_inYear_0 rfl (lv_at hl 0 rfl) ?_
  refine va_get (D := kD k) (ci := 4) (v := .int p0.2.2) (C := RX2) (T := TX2) (N := 3) hx hb htg inG_X2 hown hGx.1 hP_q0 0 rfl rfl 2 (by decide) (htg _ w_1002) (fun _ h9 => h9) rfl dX2_inYear_1 ?_
  refine lv_istore_n (lv' := [(1, .int p0.2.2), (0, .ref q0)]) hx hb dX2_inYear_4 rfl hl (by decide) rfl (fun ls hl => ?_)
  refine lv_iconst (v := 1) hx hb dX2_inYear_5 (by decide) ?_
  refine lv_istore_n (lv' := [(2, .int (1 : Int32)), (1, .int p0.2.2), (0, .ref q0)]) hx hb dX2_inYear_6 rfl hl (by decide) rfl (fun ls hl => ?_)
  have J7 : ∀ (n : Nat) (x7_1 : Int32) (x7_2 : Int32) (ls : Array Slot) (H : Heap), lv_has ls 3 [(2, .int x7_2), (1, .int x7_1), (0, .ref q0)] → va_S (nA s.heap.size) s.heap H [] → dP k q0 p0 H → l7_X2_inYear p0 n x7_1 x7_2 = some r → W p l e (headSpec wsX2_inYear { frames := 2, cells := 0, slots := 0, locals := 41 }).room s m ([.ref q0] : List Value).toArray below meth c H [] 0 0 (MQ below (qQ (rI r)) ([.ref q0] : List Value).toArray s 0 0 (fun _ => False)) (F0 m 7 ls []) := by
    intro n
    induction n with
    | zero => intro x7_1 x7_2 ls H hl hS hP_q0 hm; cases hm
    | succ n ih =>
      intro x7_1 x7_2 ls H hl hS hP_q0 hm
      refine lv_iload_n hx hb dX2_inYear_7 rfl (lv_at hl 0 rfl) ?_
      refine lv_aload_n hx hb dX2_inYear_8 rfl (lv_at hl 2 rfl) ?_
      refine va_get (D := kD k) (ci := 4) (v := .int p0.2.1) (C := RX2) (T := TX2) (N := 3) hx hb htg inG_X2 hown hGx.1 hP_q0 0 rfl rfl 1 (by decide) (htg _ w_1000) (fun _ h9 => h9) rfl dX2_inYear_9 ?_
      refine lv_icmp_ge (tgt := 32) hx hb dX2_inYear_12 (by decide) (fun h_1 => ?_) (fun h_1 => ?_)
      · have hm := (if_pos h_1).symm.trans hm
        refine lv_iload_n hx hb dX2_inYear_32 rfl (lv_at hl 1 rfl) ?_
        exact q_iret hx hb hr hlocks (Option.some.inj hm) hS ⟨Nat.le_of_ble_eq_true rfl, Nat.le_of_ble_eq_true rfl⟩ dX2_inYear_33
      · have hm := (if_neg h_1).symm.trans hm
        refine lv_iload_n hx hb dX2_inYear_15 rfl (lv_at hl 1 rfl) ?_
        refine lv_aload_n hx hb dX2_inYear_16 rfl (lv_at hl 2 rfl) ?_
        refine va_get (D := kD k) (ci := 4) (v := .int p0.1) (C := RX2) (T := TX2) (N := 3) hx hb htg inG_X2 hown hGx.1 hP_q0 0 rfl rfl 0 (by decide) (htg _ w_998) (fun _ h9 => h9) rfl dX2_inYear_17 ?_
        refine lv_iload_n hx hb dX2_inYear_20 rfl (lv_at hl 0 rfl) ?_
        obtain ⟨x_1, hx_1, hm⟩ := Option.bind_eq_some_iff.mp hm
        have hs_1 := hS.1
        refine qc_SN hC hGx (k_X3_lengthOf_ l k p0.1 x7_2  hx_1) (gC w_1051) kk_X3_lengthOf_ (gx_nm hGx (q := (RX2, 21, yX3_lengthOf_, "DatesoloModel")) (by decide +kernel)) (htg _ w_27) (htg _ w_1050) (List.forall_mem_nil _) ⟨Nat.le_of_ble_eq_true rfl, Nat.le_of_ble_eq_true rfl⟩ ⟨Nat.le_of_ble_eq_true rfl, Nat.le_of_ble_eq_true rfl⟩ hS hA hAB hl.1 rfl rfl (Nat.le_of_ble_eq_true rfl) dX2_inYear_21 (fun v_1 H hv hz hq hS => ?_)
        have hP_q0 := hP_q0.up (hq _ hP_q0.lt)
        have hv : v_1 = some (.int x_1) := hv
        subst hv
        refine lv_iadd hx hb dX2_inYear_24 ?_
        refine lv_istore_n (lv' := [(1, .int (x7_1 + x_1)), (2, .int x7_2), (0, .ref q0)]) hx hb dX2_inYear_25 rfl hl (by decide) rfl (fun ls hl => ?_)
        refine lv_iinc (v := x7_2 + 1) (lv' := [(2, .int (x7_2 + 1)), (1, .int (x7_1 + x_1)), (0, .ref q0)]) hx hb dX2_inYear_26 hl (k := 1) rfl rfl (by decide) rfl (fun ls hl => ?_)
        refine lv_goto (tgt := 7) hx hb dX2_inYear_29 (by decide) ?_
        exact ih (x7_1 + x_1) (x7_2 + 1) ls _ (lv_sub hl [0, 1, 2] rfl) hS hP_q0 hm
  exact J7 20 p0.2.2 (1 : Int32) ls _ (lv_sub hl [0, 1, 2] rfl) hS hP_q0 hm
def l27_X2_number (p0 : DT) : Nat → Int32 → Int32 → Option Int32
  | 0, _, _ => none
  | n + 1, x27_2, x27_3 => (if p0.1 ≤ x27_3 then ((o_X2_inYear p0).bind fun x_1 => some ((x27_2 + x_1) - (1 : Int32))) else l27_X2_number p0 n (x27_2 + (m_X3_lengthOf x27_3)) (x27_3 + 1))
def o_X2_number (p0 : DT) : Option Int32 := l27_X2_number p0 402 ((((m_X3_share p0.1.toInt64 (400 : Int64)).toInt32) * (146097 : Int32)) - (719528 : Int32)) ((400 : Int32) * ((m_X3_share p0.1.toInt64 (400 : Int64)).toInt32))
theorem kk_X2_number : pK yX2_number wsX2_number cX2_number 4 (some .int) 0 := ⟨⟨_, rfl⟩, by decide +kernel, by decide +kernel, by decide +kernel⟩
set_option maxRecDepth 100000 in
set_option maxHeartbeats 4000000 in
theorem k_X2_number (l : Launch) (k : Kx) (p0 : DT) (q0 : Nat) {r : Int32} (hm : o_X2_number p0 = some r) : qM l k yX2_number wsX2_number 3 63 0 0 [.ref q0] [(q0, p0)] (rI r) := by
  refine Met.ofW (cc := cX2_number) (maxL := 4) (ret := (some .int)) (by decide) rfl ?_
  intro p e s m args below meth c s₁ B hml hv
  obtain ⟨rfl, hGx, hds⟩ := hv
  have hx := B.exec
  have hb := B.bytes
  have hr := B.returns
  have hts := atoms_spec (ws := wsX2_number) B.pre
  have hown : s.vm.findClass RX2 = some m.cls := findClass_of_methodNamed B.named
  have hlocks := B.notSynchronized
  have htg : ∀ w ∈ GL, w.before _ s = true := fun w h => hts w (List.mem_cons_of_mem _ h)
  have hC : CallFix p m c cX2_number 4 s _ wsX2_number RX2 := ⟨hx, hb, hml, hown, hts⟩
  have hA : ∀ q, s.heap.size ≤ q → nA s.heap.size q := fun _ h => h
  have hAB : ∀ q, nA s.heap.size q → kB k ≤ q := fun q h => Nat.le_trans hGx.2.1 h
  have hS : va_S (nA s.heap.size) s.heap s.heap [] := va_S.rf
  have hP_q0 : dP k q0 p0 s.heap := hds (q0, p0) (List.mem_of_getElem? (i := 0) rfl)
  have hl := lv_entry ([.ref q0]) (n := 4) (Nat.le_of_ble_eq_true rfl)
  rw [lg_entry_eq]
  generalize (lg_sl ([.ref q0]) ++ List.replicate (4 - (lg_sl ([.ref q0])).length) Slot.unset).toArray = ls at hl ⊢
  have hl : lv_has ls 4 [(0, .ref q0)] := hl
  refine lv_aload_n hx hb dX2_number_0 rfl (lv_at hl 0 rfl) ?_
  refine va_get (D := kD k) (ci := 4) (v := .int p0.1) (C := RX2) (T := TX2) (N := 3) hx hb htg inG_X2 hown hGx.1 hP_q0 0 rfl rfl 0 (by decide) (htg _ w_998) (fun _ h9 => h9) rfl dX2_number_1 ?_
  refine lv_i2l hx hb dX2_number_4 rfl ?_
  refine lv_ldc2 hx hb hown (htg _ w_1066) dX2_number_5 ?_
  refine pc_SN hC (c_X3_share l p0.1.toInt64 (400 : Int64) (by decide)) (gC w_1068) kk_X3_share (gx_nm hGx (q := (RX2, 27, yX3_share, "DatesoloModel")) (by decide +kernel)) (htg _ w_27) (htg _ w_1067) ⟨Nat.le_of_ble_eq_true rfl, Nat.le_of_ble_eq_true rfl⟩ ⟨Nat.le_of_ble_eq_true rfl, Nat.le_of_ble_eq_true rfl⟩ hl.1 rfl rfl (Nat.le_of_ble_eq_true rfl) dX2_number_8 ?_
  refine lv_l2i hx hb dX2_number_11 rfl ?_
  refine lv_istore_n (lv' := [(1, .int ((m_X3_share p0.1.toInt64 (400 : Int64)).toInt32)), (0, .ref q0)]) hx hb dX2_number_12 rfl hl (by decide) rfl (fun ls hl => ?_)
  refine lv_iload_n hx hb dX2_number_13 rfl (lv_at hl 0 rfl) ?_
  refine lv_ldc hx hb hown (htg _ w_1069) dX2_number_14 ?_
  refine lv_imul hx hb dX2_number_16 ?_
  refine lv_ldc hx hb hown (htg _ w_1070) dX2_number_17 ?_
  refine lv_isub hx hb dX2_number_19 ?_
  refine lv_istore_n (lv' := [(2, .int ((((m_X3_share p0.1.toInt64 (400 : Int64)).toInt32) * (146097 : Int32)) - (719528 : Int32))), (1, .int ((m_X3_share p0.1.toInt64 (400 : Int64)).toInt32)), (0, .ref q0)]) hx hb dX2_number_20 rfl hl (by decide) rfl (fun ls hl => ?_)
  refine lv_sipush (v := 400) hx hb dX2_number_21 (by decide) ?_
  refine lv_iload_n hx hb dX2_number_24 rfl (lv_at hl 1 rfl) ?_
  refine lv_imul hx hb dX2_number_25 ?_
  refine lv_istore_n (lv' := [(3, .int ((400 : Int32) * ((m_X3_share p0.1.toInt64 (400 : Int64)).toInt32))), (2, .int ((((m_X3_share p0.1.toInt64 (400 : Int64)).toInt32) * (146097 : Int32)) - (719528 : Int32))), (1, .int ((m_X3_share p0.1.toInt64 (400 : Int64)).toInt32)), (0, .ref q0)]) hx hb dX2_number_26 rfl hl (by decide) rfl (fun ls hl => ?_)
  have J27 : ∀ (n : Nat) (x27_2 : Int32) (x27_3 : Int32) (ls : Array Slot) (H : Heap), lv_has ls 4 [(3, .int x27_3), (2, .int x27_2), (1, .int ((m_X3_share p0.1.toInt64 (400 : Int64)).toInt32)), (0, .ref q0)] → va_S (nA s.heap.size) s.heap H [] → dP k q0 p0 H → l27_X2_number p0 n x27_2 x27_3 = some r → W p l e (headSpec wsX2_number { frames := 3, cells := 0, slots := 0, locals := 63 }).room s m ([.ref q0] : List Value).toArray below meth c H [] 0 0 (MQ below (qQ (rI r)) ([.ref q0] : List Value).toArray s 0 0 (fun _ => False)) (F0 m 27 ls []) := by
    intro n
    induction n with
    | zero => intro x27_2 x27_3 ls H hl hS hP_q0 hm; cases hm
    | succ n ih =>
      intro x27_2 x27_3 ls H hl hS hP_q0 hm
      refine lv_iload_n hx hb dX2_number_27 rfl (lv_at hl 0 rfl) ?_
      refine lv_aload_n hx hb dX2_number_28 rfl (lv_at hl 3 rfl) ?_
      refine va_get (D := kD k) (ci := 4) (v := .int p0.1) (C := RX2) (T := TX2) (N := 3) hx hb htg inG_X2 hown hGx.1 hP_q0 0 rfl rfl 0 (by decide) (htg _ w_998) (fun _ h9 => h9) rfl dX2_number_29 ?_
      refine lv_icmp_ge (tgt := 48) hx hb dX2_number_32 (by decide) (fun h_1 => ?_) (fun h_1 => ?_)
      · have hm := (if_pos h_1).symm.trans hm
        refine lv_iload_n hx hb dX2_number_48 rfl (lv_at hl 1 rfl) ?_
        refine lv_aload_n hx hb dX2_number_49 rfl (lv_at hl 3 rfl) ?_
        obtain ⟨x_1, hx_1, hm⟩ := Option.bind_eq_some_iff.mp hm
        have hs_1 := hS.1
        refine qc_V hC hGx (k_X2_inYear l k p0 q0 hx_1) (gV w_1073 w_1074 w_1075 w_28 w_1076) kk_X2_inYear rfl hP_q0 (List.forall_mem_cons.mpr ⟨hP_q0, (List.forall_mem_nil _)⟩) ⟨Nat.le_of_ble_eq_true rfl, Nat.le_of_ble_eq_true rfl⟩ ⟨Nat.le_of_ble_eq_true rfl, Nat.le_of_ble_eq_true rfl⟩ hS hA hAB hl.1 rfl rfl (Nat.le_of_ble_eq_true rfl) dX2_number_50 (fun v_1 H hv hz hq hS => ?_)
        have hP_q0 := hP_q0.up (hq _ hP_q0.lt)
        have hv : v_1 = some (.int x_1) := hv
        subst hv
        refine lv_iadd hx hb dX2_number_53 ?_
        refine lv_iconst (v := 1) hx hb dX2_number_54 (by decide) ?_
        refine lv_isub hx hb dX2_number_55 ?_
        exact q_iret hx hb hr hlocks (Option.some.inj hm) hS ⟨Nat.le_of_ble_eq_true rfl, Nat.le_of_ble_eq_true rfl⟩ dX2_number_56
      · have hm := (if_neg h_1).symm.trans hm
        refine lv_iload_n hx hb dX2_number_35 rfl (lv_at hl 1 rfl) ?_
        refine lv_iload_n hx hb dX2_number_36 rfl (lv_at hl 0 rfl) ?_
        refine pc_SN hC (c_X3_lengthOf l x27_3) (gC w_1072) kk_X3_lengthOf (gx_nm hGx (q := (RX2, 33, yX3_lengthOf, "DatesoloModel")) (by decide +kernel)) (htg _ w_27) (htg _ w_1071) ⟨Nat.le_of_ble_eq_true rfl, Nat.le_of_ble_eq_true rfl⟩ ⟨Nat.le_of_ble_eq_true rfl, Nat.le_of_ble_eq_true rfl⟩ hl.1 rfl rfl (Nat.le_of_ble_eq_true rfl) dX2_number_37 ?_
        refine lv_iadd hx hb dX2_number_40 ?_
        refine lv_istore_n (lv' := [(2, .int (x27_2 + (m_X3_lengthOf x27_3))), (3, .int x27_3), (1, .int ((m_X3_share p0.1.toInt64 (400 : Int64)).toInt32)), (0, .ref q0)]) hx hb dX2_number_41 rfl hl (by decide) rfl (fun ls hl => ?_)
        refine lv_iinc (v := x27_3 + 1) (lv' := [(3, .int (x27_3 + 1)), (2, .int (x27_2 + (m_X3_lengthOf x27_3))), (1, .int ((m_X3_share p0.1.toInt64 (400 : Int64)).toInt32)), (0, .ref q0)]) hx hb dX2_number_42 hl (k := 1) rfl rfl (by decide) rfl (fun ls hl => ?_)
        refine lv_goto (tgt := 27) hx hb dX2_number_45 (by decide) ?_
        exact ih (x27_2 + (m_X3_lengthOf x27_3)) (x27_3 + 1) ls _ (lv_sub hl [0, 1, 2, 3] rfl) hS hP_q0 hm
  exact J27 402 ((((m_X3_share p0.1.toInt64 (400 : Int64)).toInt32) * (146097 : Int32)) - (719528 : Int32)) ((400 : Int32) * ((m_X3_share p0.1.toInt64 (400 : Int64)).toInt32)) ls _ (lv_sub hl [0, 1, 2, 3] rfl) hS hP_q0 hm
def o_X2_isLike (p0 : DT) (p1 : DT) : Option Int32 := (if p0.1 = p1.1 then (if p0.2.1 = p1.2.1 then (if p0.2.2 = p1.2.2 then some ((1 : Int32)) else some ((0 : Int32))) else some ((0 : Int32))) else some ((0 : Int32)))
theorem kk_X2_isLike : pK yX2_isLike wsX2_isLike cX2_isLike 2 (some .boolean) 1 := ⟨⟨_, rfl⟩, by decide +kernel, by decide +kernel, by decide +kernel⟩
set_option maxRecDepth 100000 in
set_option maxHeartbeats 4000000 in
theorem k_X2_isLike (l : Launch) (k : Kx) (p0 : DT) (p1 : DT) (q0 : Nat) (q1 : Nat) {r : Int32} (hm : o_X2_isLike p0 p1 = some r) : qM l k yX2_isLike wsX2_isLike 0 0 0 0 [.ref q0, .ref q1] [(q0, p0), (q1, p1)] (rI r) := by
  refine Met.ofW (cc := cX2_isLike) (maxL := 2) (ret := (some .boolean)) (by decide) rfl ?_
  intro p e s m args below meth c s₁ B hml hv
  obtain ⟨rfl, hGx, hds⟩ := hv
  have hx := B.exec
  have hb := B.bytes
  have hr := B.returns
  have hts := atoms_spec (ws := wsX2_isLike) B.pre
  have hown : s.vm.findClass RX2 = some m.cls := findClass_of_methodNamed B.named
  have hlocks := B.notSynchronized
  have htg : ∀ w ∈ GL, w.before _ s = true := fun w h => hts w (List.mem_cons_of_mem _ h)
  have hC : CallFix p m c cX2_isLike 2 s _ wsX2_isLike RX2 := ⟨hx, hb, hml, hown, hts⟩
  have hA : ∀ q, s.heap.size ≤ q → nA s.heap.size q := fun _ h => h
  have hAB : ∀ q, nA s.heap.size q → kB k ≤ q := fun q h => Nat.le_trans hGx.2.1 h
  have hS : va_S (nA s.heap.size) s.heap s.heap [] := va_S.rf
  have hP_q0 : dP k q0 p0 s.heap := hds (q0, p0) (List.mem_of_getElem? (i := 0) rfl)
  have hP_q1 : dP k q1 p1 s.heap := hds (q1, p1) (List.mem_of_getElem? (i := 1) rfl)
  have hl := lv_entry ([.ref q0, .ref q1]) (n := 2) (Nat.le_of_ble_eq_true rfl)
  rw [lg_entry_eq]
  generalize (lg_sl ([.ref q0, .ref q1]) ++ List.replicate (2 - (lg_sl ([.ref q0, .ref q1])).length) Slot.unset).toArray = ls at hl ⊢
  have hl : lv_has ls 2 [(0, .ref q0), (1, .ref q1)] := hl
  refine lv_aload_n hx hb dX2_isLike_0 rfl (lv_at hl 0 rfl) ?_
  refine va_get (D := kD k) (ci := 4) (v := .int p0.1) (C := RX2) (T := TX2) (N := 3) hx hb htg inG_X2 hown hGx.1 hP_q0 0 rfl rfl 0 (by decide) (htg _ w_998) (fun _ h9 => h9) rfl dX2_isLike_1 ?_
  refine lv_aload_n hx hb dX2_isLike_4 rfl (lv_at hl 1 rfl) ?_
  refine va_get (D := kD k) (ci := 4) (v := .int p1.1) (C := RX2) (T := TX2) (N := 3) hx hb htg inG_X2 hown hGx.1 hP_q1 0 rfl rfl 0 (by decide) (htg _ w_998) (fun _ h9 => h9) rfl dX2_isLike_5 ?_
  refine lv_icmp_ne (tgt := 37) hx hb dX2_isLike_8 (by decide) (fun h_1 => ?_) (fun h_1 => ?_)
  · have hm := (if_neg h_1).symm.trans hm
    refine lv_iconst (v := 0) hx hb dX2_isLike_37 (by decide) ?_
    exact q_zret hx hb hr hlocks rfl (Option.some.inj hm) hS ⟨Nat.le_of_ble_eq_true rfl, Nat.le_of_ble_eq_true rfl⟩ dX2_isLike_38
  · have hm := (if_pos h_1).symm.trans hm
    refine lv_aload_n hx hb dX2_isLike_11 rfl (lv_at hl 0 rfl) ?_
    refine va_get (D := kD k) (ci := 4) (v := .int p0.2.1) (C := RX2) (T := TX2) (N := 3) hx hb htg inG_X2 hown hGx.1 hP_q0 0 rfl rfl 1 (by decide) (htg _ w_1000) (fun _ h9 => h9) rfl dX2_isLike_12 ?_
    refine lv_aload_n hx hb dX2_isLike_15 rfl (lv_at hl 1 rfl) ?_
    refine va_get (D := kD k) (ci := 4) (v := .int p1.2.1) (C := RX2) (T := TX2) (N := 3) hx hb htg inG_X2 hown hGx.1 hP_q1 0 rfl rfl 1 (by decide) (htg _ w_1000) (fun _ h9 => h9) rfl dX2_isLike_16 ?_
    refine lv_icmp_ne (tgt := 37) hx hb dX2_isLike_19 (by decide) (fun h_2 => ?_) (fun h_2 => ?_)
    · have hm := (if_neg h_2).symm.trans hm
      refine lv_iconst (v := 0) hx hb dX2_isLike_37 (by decide) ?_
      exact q_zret hx hb hr hlocks rfl (Option.some.inj hm) hS ⟨Nat.le_of_ble_eq_true rfl, Nat.le_of_ble_eq_true rfl⟩ dX2_isLike_38
    · have hm := (if_pos h_2).symm.trans hm
      refine lv_aload_n hx hb dX2_isLike_22 rfl (lv_at hl 0 rfl) ?_
      refine va_get (D := kD k) (ci := 4) (v := .int p0.2.2) (C := RX2) (T := TX2) (N := 3) hx hb htg inG_X2 hown hGx.1 hP_q0 0 rfl rfl 2 (by decide) (htg _ w_1002) (fun _ h9 => h9) rfl dX2_isLike_23 ?_
      refine lv_aload_n hx hb dX2_isLike_26 rfl (lv_at hl 1 rfl) ?_
      refine va_get (D := kD k) (ci := 4) (v := .int p1.2.2) (C := RX2) (T := TX2) (N := 3) hx hb htg inG_X2 hown hGx.1 hP_q1 0 rfl rfl 2 (by decide) (htg _ w_1002) (fun _ h9 => h9) rfl dX2_isLike_27 ?_
      refine lv_icmp_ne (tgt := 37) hx hb dX2_isLike_30 (by decide) (fun h_3 => ?_) (fun h_3 => ?_)
      · have hm := (if_neg h_3).symm.trans hm
        refine lv_iconst (v := 0) hx hb dX2_isLike_37 (by decide) ?_
        exact q_zret hx hb hr hlocks rfl (Option.some.inj hm) hS ⟨Nat.le_of_ble_eq_true rfl, Nat.le_of_ble_eq_true rfl⟩ dX2_isLike_38
      · have hm := (if_pos h_3).symm.trans hm
        refine lv_iconst (v := 1) hx hb dX2_isLike_33 (by decide) ?_
        refine lv_goto (tgt := 38) hx hb dX2_isLike_34 (by decide) ?_
        exact q_zret hx hb hr hlocks rfl (Option.some.inj hm) hS ⟨Nat.le_of_ble_eq_true rfl, Nat.le_of_ble_eq_true rfl⟩ dX2_isLike_38
def l28_X3_ofYearAndDay (p0 : Int32) (p1 : Int32) : Nat → Int32 → Int32 → Int32 → Option DT
  | 0, _, _, _ => none
  | n + 1, x28_2, x28_3, x28_4 => ((o_X3_lengthOf_ x28_2 x28_4).bind fun x_1 => (if x28_3 ≤ x_1 then some (x28_2, x28_4, x28_3) else ((o_X3_lengthOf_ x28_2 x28_4).bind fun x_3 => l28_X3_ofYearAndDay p0 p1 n x28_2 (x28_3 - x_3) (x28_4 + 1))))
def l4_X3_ofYearAndDay (p0 : Int32) (p1 : Int32) : Nat → Int32 → Int32 → Option DT
  | 0, _, _ => none
  | n + 1, x4_2, x4_3 => (if x4_3 ≤ m_X3_lengthOf x4_2 then l28_X3_ofYearAndDay p0 p1 20 x4_2 x4_3 (1 : Int32) else l4_X3_ofYearAndDay p0 p1 n (x4_2 + 1) (x4_3 - (m_X3_lengthOf x4_2)))
def o_X3_ofYearAndDay (p0 : Int32) (p1 : Int32) : Option DT := l4_X3_ofYearAndDay p0 p1 402 p0 p1
theorem kk_X3_ofYearAndDay : pK yX3_ofYearAndDay wsX3_ofYearAndDay cX3_ofYearAndDay 5 (some (.object "DatesoloModel$Date")) 2 := ⟨⟨_, rfl⟩, by decide +kernel, by decide +kernel, by decide +kernel⟩
set_option maxRecDepth 100000 in
set_option maxHeartbeats 4000000 in
theorem k_X3_ofYearAndDay (l : Launch) (k : Kx) (p0 : Int32) (p1 : Int32) {r : DT} (hm : o_X3_ofYearAndDay p0 p1 = some r) : qM l k yX3_ofYearAndDay wsX3_ofYearAndDay 2 63 1 3 [.int p0, .int p1] [] (rD k r) := by
  refine Met.ofW (cc := cX3_ofYearAndDay) (maxL := 5) (ret := (some (.object "DatesoloModel$Date"))) (by decide) rfl ?_
  intro p e s m args below meth c s₁ B hml hv
  obtain ⟨rfl, hGx, hds⟩ := hv
  have hx := B.exec
  have hb := B.bytes
  have hr := B.returns
  have hts := atoms_spec (ws := wsX3_ofYearAndDay) B.pre
  have hown : s.vm.findClass RX3 = some m.cls := findClass_of_methodNamed B.named
  have hlocks := B.notSynchronized
  have htg : ∀ w ∈ GL, w.before _ s = true := fun w h => hts w (List.mem_cons_of_mem _ h)
  have hC : CallFix p m c cX3_ofYearAndDay 5 s _ wsX3_ofYearAndDay RX3 := ⟨hx, hb, hml, hown, hts⟩
  have hA : ∀ q, s.heap.size ≤ q → nA s.heap.size q := fun _ h => h
  have hAB : ∀ q, nA s.heap.size q → kB k ≤ q := fun q h => Nat.le_trans hGx.2.1 h
  have hS : va_S (nA s.heap.size) s.heap s.heap [] := va_S.rf
  have hl := lv_entry ([.int p0, .int p1]) (n := 5) (Nat.le_of_ble_eq_true rfl)
  rw [lg_entry_eq]
  generalize (lg_sl ([.int p0, .int p1]) ++ List.replicate (5 - (lg_sl ([.int p0, .int p1])).length) Slot.unset).toArray = ls at hl ⊢
  have hl : lv_has ls 5 [(0, .int p0), (1, .int p1)] := hl
  refine lv_iload_n hx hb dX3_ofYearAndDay_0 rfl (lv_at hl 0 rfl) ?_
  refine lv_istore_n (lv' := [(2, .int p0), (0, .int p0), (1, .int p1)]) hx hb dX3_ofYearAndDay_1 rfl hl (by decide) rfl (fun ls hl => ?_)
  refine lv_iload_n hx hb dX3_ofYearAndDay_2 rfl (lv_at hl 2 rfl) ?_
  refine lv_istore_n (lv' := [(3, .int p1), (2, .int p0), (0, .int p0), (1, .int p1)]) hx hb dX3_ofYearAndDay_3 rfl hl (by decide) rfl (fun ls hl => ?_)
  have J4 : ∀ (n : Nat) (x4_2 : Int32) (x4_3 : Int32) (ls : Array Slot) (H : Heap), lv_has ls 5 [(3, .int x4_3), (2, .int x4_2), (0, .int p0), (1, .int p1)] → va_S (nA s.heap.size) s.heap H [] → l4_X3_ofYearAndDay p0 p1 n x4_2 x4_3 = some r → W p l e (headSpec wsX3_ofYearAndDay { frames := 2, cells := 1, slots := 3, locals := 63 }).room s m ([.int p0, .int p1] : List Value).toArray below meth c H [] 0 0 (MQ below (qQ (rD k r)) ([.int p0, .int p1] : List Value).toArray s 1 3 (fun _ => False)) (F0 m 4 ls []) := by
    intro n
    induction n with
    | zero => intro x4_2 x4_3 ls H hl hS  hm; cases hm
    | succ n ih =>
      intro x4_2 x4_3 ls H hl hS  hm
      refine lv_iload_n hx hb dX3_ofYearAndDay_4 rfl (lv_at hl 0 rfl) ?_
      refine lv_iload_n hx hb dX3_ofYearAndDay_5 rfl (lv_at hl 1 rfl) ?_
      refine pc_S hC (c_X3_lengthOf l x4_2) (gS w_1095 w_1071 w_27 w_1072) kk_X3_lengthOf ⟨Nat.le_of_ble_eq_true rfl, Nat.le_of_ble_eq_true rfl⟩ ⟨Nat.le_of_ble_eq_true rfl, Nat.le_of_ble_eq_true rfl⟩ hl.1 rfl rfl (Nat.le_of_ble_eq_true rfl) dX3_ofYearAndDay_6 ?_
      refine lv_icmp_le (tgt := 25) hx hb dX3_ofYearAndDay_9 (by decide) (fun h_1 => ?_) (fun h_1 => ?_)
      · have hm := (if_pos h_1).symm.trans hm
        refine lv_iconst (v := 1) hx hb dX3_ofYearAndDay_25 (by decide) ?_
        refine lv_istore (lv' := [(4, .int (1 : Int32)), (3, .int x4_3), (2, .int x4_2), (0, .int p0), (1, .int p1)]) hx hb dX3_ofYearAndDay_26 hl (by decide) rfl (fun ls hl => ?_)
        have J28 : ∀ (n : Nat) (x28_2 : Int32) (x28_3 : Int32) (x28_4 : Int32) (ls : Array Slot) (H : Heap), lv_has ls 5 [(4, .int x28_4), (3, .int x28_3), (2, .int x28_2), (0, .int p0), (1, .int p1)] → va_S (nA s.heap.size) s.heap H [] → l28_X3_ofYearAndDay p0 p1 n x28_2 x28_3 x28_4 = some r → W p l e (headSpec wsX3_ofYearAndDay { frames := 2, cells := 1, slots := 3, locals := 63 }).room s m ([.int p0, .int p1] : List Value).toArray below meth c H [] 0 0 (MQ below (qQ (rD k r)) ([.int p0, .int p1] : List Value).toArray s 1 3 (fun _ => False)) (F0 m 28 ls []) := by
          intro n
          induction n with
          | zero => intro x28_2 x28_3 x28_4 ls H hl hS  hm; cases hm
          | succ n ih =>
            intro x28_2 x28_3 x28_4 ls H hl hS  hm
            refine lv_iload_n hx hb dX3_ofYearAndDay_28 rfl (lv_at hl 1 rfl) ?_
            refine lv_iload_n hx hb dX3_ofYearAndDay_29 rfl (lv_at hl 2 rfl) ?_
            refine lv_iload hx hb dX3_ofYearAndDay_30 (lv_at hl 0 rfl) ?_
            obtain ⟨x_1, hx_1, hm⟩ := Option.bind_eq_some_iff.mp hm
            have hs_1 := hS.1
            refine qc_S hC hGx (k_X3_lengthOf_ l k x28_2 x28_4  hx_1) (gS w_1049 w_1050 w_27 w_1051) kk_X3_lengthOf_ (List.forall_mem_nil _) ⟨Nat.le_of_ble_eq_true rfl, Nat.le_of_ble_eq_true rfl⟩ ⟨Nat.le_of_ble_eq_true rfl, Nat.le_of_ble_eq_true rfl⟩ hS hA hAB hl.1 rfl rfl (Nat.le_of_ble_eq_true rfl) dX3_ofYearAndDay_32 (fun v_1 H hv hz hq hS => ?_)
            have hv : v_1 = some (.int x_1) := hv
            subst hv
            refine lv_icmp_le (tgt := 53) hx hb dX3_ofYearAndDay_35 (by decide) (fun h_2 => ?_) (fun h_2 => ?_)
            · have hm := (if_pos h_2).symm.trans hm
              have hs_2 := hS.1
              refine m_new2 hx hb htg hown (htg _ w_991) (htg _ w_993) (htg _ w_28) hGx hS ⟨Nat.le_of_ble_eq_true rfl, Nat.le_of_ble_eq_true rfl⟩ dX3_ofYearAndDay_53 (fun a_2 H hn_2 hz_2 hN_2 hq hS => ?_)
              have hq_2 := hq
              refine lv_dup hx hb dX3_ofYearAndDay_56 rfl ?_
              refine lv_iload_n hx hb dX3_ofYearAndDay_57 rfl (lv_at hl 2 rfl) ?_
              refine lv_iload hx hb dX3_ofYearAndDay_58 (lv_at hl 0 rfl) ?_
              refine lv_iload_n hx hb dX3_ofYearAndDay_60 rfl (lv_at hl 1 rfl) ?_
              refine q_init (v := (x28_2, x28_4, x28_3)) hC hGx (gC w_996) (htg _ w_994) (htg _ w_28) (htg _ w_995) hN_2 (Nat.le_trans hs_2 hn_2) ⟨Nat.le_of_ble_eq_true rfl, Nat.le_of_ble_eq_true rfl⟩ ⟨Nat.le_of_ble_eq_true rfl, Nat.le_of_ble_eq_true rfl⟩ hS hA hAB hl.1 rfl (Nat.le_of_ble_eq_true rfl) dX3_ofYearAndDay_61 (fun H hP_2 hz9 hq9 hS => ?_)
              have hq := m_q2 hn_2 hz_2 hq_2 hq9
              have hn_2 := Nat.le_trans hs_2 hn_2
              exact q_dret hx hb hr hlocks (Option.some.inj hm) hP_2 hn_2 hS ⟨Nat.le_of_ble_eq_true rfl, Nat.le_of_ble_eq_true rfl⟩ dX3_ofYearAndDay_64
            · have hm := (if_neg h_2).symm.trans hm
              refine lv_iload_n hx hb dX3_ofYearAndDay_38 rfl (lv_at hl 1 rfl) ?_
              refine lv_iload_n hx hb dX3_ofYearAndDay_39 rfl (lv_at hl 2 rfl) ?_
              refine lv_iload hx hb dX3_ofYearAndDay_40 (lv_at hl 0 rfl) ?_
              obtain ⟨x_3, hx_3, hm⟩ := Option.bind_eq_some_iff.mp hm
              have hs_3 := hS.1
              refine qc_S hC hGx (k_X3_lengthOf_ l k x28_2 x28_4  hx_3) (gS w_1049 w_1050 w_27 w_1051) kk_X3_lengthOf_ (List.forall_mem_nil _) ⟨Nat.le_of_ble_eq_true rfl, Nat.le_of_ble_eq_true rfl⟩ ⟨Nat.le_of_ble_eq_true rfl, Nat.le_of_ble_eq_true rfl⟩ hS hA hAB hl.1 rfl rfl (Nat.le_of_ble_eq_true rfl) dX3_ofYearAndDay_42 (fun v_3 H hv hz hq hS => ?_)
              have hv : v_3 = some (.int x_3) := hv
              subst hv
              refine lv_isub hx hb dX3_ofYearAndDay_45 ?_
              refine lv_istore_n (lv' := [(3, .int (x28_3 - x_3)), (4, .int x28_4), (2, .int x28_2), (0, .int p0), (1, .int p1)]) hx hb dX3_ofYearAndDay_46 rfl hl (by decide) rfl (fun ls hl => ?_)
              refine lv_iinc (v := x28_4 + 1) (lv' := [(4, .int (x28_4 + 1)), (3, .int (x28_3 - x_3)), (2, .int x28_2), (0, .int p0), (1, .int p1)]) hx hb dX3_ofYearAndDay_47 hl (k := 1) rfl rfl (by decide) rfl (fun ls hl => ?_)
              refine lv_goto (tgt := 28) hx hb dX3_ofYearAndDay_50 (by decide) ?_
              exact ih x28_2 (x28_3 - x_3) (x28_4 + 1) ls _ (lv_sub hl [0, 1, 2, 3, 4] rfl) hS  hm
        exact J28 20 x4_2 x4_3 (1 : Int32) ls _ (lv_sub hl [0, 1, 2, 3, 4] rfl) hS  hm
      · have hm := (if_neg h_1).symm.trans hm
        refine lv_iload_n hx hb dX3_ofYearAndDay_12 rfl (lv_at hl 0 rfl) ?_
        refine lv_iload_n hx hb dX3_ofYearAndDay_13 rfl (lv_at hl 1 rfl) ?_
        refine pc_S hC (c_X3_lengthOf l x4_2) (gS w_1095 w_1071 w_27 w_1072) kk_X3_lengthOf ⟨Nat.le_of_ble_eq_true rfl, Nat.le_of_ble_eq_true rfl⟩ ⟨Nat.le_of_ble_eq_true rfl, Nat.le_of_ble_eq_true rfl⟩ hl.1 rfl rfl (Nat.le_of_ble_eq_true rfl) dX3_ofYearAndDay_14 ?_
        refine lv_isub hx hb dX3_ofYearAndDay_17 ?_
        refine lv_istore_n (lv' := [(3, .int (x4_3 - (m_X3_lengthOf x4_2))), (2, .int x4_2), (0, .int p0), (1, .int p1)]) hx hb dX3_ofYearAndDay_18 rfl hl (by decide) rfl (fun ls hl => ?_)
        refine lv_iinc (v := x4_2 + 1) (lv' := [(2, .int (x4_2 + 1)), (3, .int (x4_3 - (m_X3_lengthOf x4_2))), (0, .int p0), (1, .int p1)]) hx hb dX3_ofYearAndDay_19 hl (k := 1) rfl rfl (by decide) rfl (fun ls hl => ?_)
        refine lv_goto (tgt := 4) hx hb dX3_ofYearAndDay_22 (by decide) ?_
        exact ih (x4_2 + 1) (x4_3 - (m_X3_lengthOf x4_2)) ls _ (lv_sub hl [1, 0, 2, 3] rfl) hS  hm
  exact J4 402 p0 p1 ls _ (lv_sub hl [0, 1, 2, 3] rfl) hS  hm
def o_X3_ofNumber (p0 : Int32) : Option DT := ((o_X3_ofYearAndDay ((400 : Int32) * ((m_X3_share ((p0 + (719528 : Int32)).toInt64) (146097 : Int64)).toInt32)) (((m_X3_rest ((p0 + (719528 : Int32)).toInt64) (146097 : Int64)).toInt32) + (1 : Int32))).bind fun x_1 => some x_1)
theorem kk_X3_ofNumber : pK yX3_ofNumber wsX3_ofNumber cX3_ofNumber 2 (some (.object "DatesoloModel$Date")) 1 := ⟨⟨_, rfl⟩, by decide +kernel, by decide +kernel, by decide +kernel⟩
set_option maxRecDepth 100000 in
set_option maxHeartbeats 4000000 in
theorem k_X3_ofNumber (l : Launch) (k : Kx) (p0 : Int32) {r : DT} (hm : o_X3_ofNumber p0 = some r) : qM l k yX3_ofNumber wsX3_ofNumber 3 87 1 3 [.int p0] [] (rD k r) := by
  refine Met.ofW (cc := cX3_ofNumber) (maxL := 2) (ret := (some (.object "DatesoloModel$Date"))) (by decide) rfl ?_
  intro p e s m args below meth c s₁ B hml hv
  obtain ⟨rfl, hGx, hds⟩ := hv
  have hx := B.exec
  have hb := B.bytes
  have hr := B.returns
  have hts := atoms_spec (ws := wsX3_ofNumber) B.pre
  have hown : s.vm.findClass RX3 = some m.cls := findClass_of_methodNamed B.named
  have hlocks := B.notSynchronized
  have htg : ∀ w ∈ GL, w.before _ s = true := fun w h => hts w (List.mem_cons_of_mem _ h)
  have hC : CallFix p m c cX3_ofNumber 2 s _ wsX3_ofNumber RX3 := ⟨hx, hb, hml, hown, hts⟩
  have hA : ∀ q, s.heap.size ≤ q → nA s.heap.size q := fun _ h => h
  have hAB : ∀ q, nA s.heap.size q → kB k ≤ q := fun q h => Nat.le_trans hGx.2.1 h
  have hS : va_S (nA s.heap.size) s.heap s.heap [] := va_S.rf
  have hl := lv_entry ([.int p0]) (n := 2) (Nat.le_of_ble_eq_true rfl)
  rw [lg_entry_eq]
  generalize (lg_sl ([.int p0]) ++ List.replicate (2 - (lg_sl ([.int p0])).length) Slot.unset).toArray = ls at hl ⊢
  have hl : lv_has ls 2 [(0, .int p0)] := hl
  refine lv_iload_n hx hb dX3_ofNumber_0 rfl (lv_at hl 0 rfl) ?_
  refine lv_ldc hx hb hown (htg _ w_1086) dX3_ofNumber_1 ?_
  refine lv_iadd hx hb dX3_ofNumber_3 ?_
  refine lv_i2l hx hb dX3_ofNumber_4 rfl ?_
  refine lv_ldc2 hx hb hown (htg _ w_1087) dX3_ofNumber_5 ?_
  refine pc_S hC (c_X3_share l ((p0 + (719528 : Int32)).toInt64) (146097 : Int64) (by decide)) (gS w_1088 w_1067 w_27 w_1068) kk_X3_share ⟨Nat.le_of_ble_eq_true rfl, Nat.le_of_ble_eq_true rfl⟩ ⟨Nat.le_of_ble_eq_true rfl, Nat.le_of_ble_eq_true rfl⟩ hl.1 rfl rfl (Nat.le_of_ble_eq_true rfl) dX3_ofNumber_8 ?_
  refine lv_l2i hx hb dX3_ofNumber_11 rfl ?_
  refine lv_istore_n (lv' := [(1, .int ((m_X3_share ((p0 + (719528 : Int32)).toInt64) (146097 : Int64)).toInt32)), (0, .int p0)]) hx hb dX3_ofNumber_12 rfl hl (by decide) rfl (fun ls hl => ?_)
  refine lv_sipush (v := 400) hx hb dX3_ofNumber_13 (by decide) ?_
  refine lv_iload_n hx hb dX3_ofNumber_16 rfl (lv_at hl 0 rfl) ?_
  refine lv_imul hx hb dX3_ofNumber_17 ?_
  refine lv_iload_n hx hb dX3_ofNumber_18 rfl (lv_at hl 1 rfl) ?_
  refine lv_ldc hx hb hown (htg _ w_1086) dX3_ofNumber_19 ?_
  refine lv_iadd hx hb dX3_ofNumber_21 ?_
  refine lv_i2l hx hb dX3_ofNumber_22 rfl ?_
  refine lv_ldc2 hx hb hown (htg _ w_1087) dX3_ofNumber_23 ?_
  refine pc_S hC (c_X3_rest l ((p0 + (719528 : Int32)).toInt64) (146097 : Int64) (by decide)) (gS w_1089 w_1090 w_27 w_1091) kk_X3_rest ⟨Nat.le_of_ble_eq_true rfl, Nat.le_of_ble_eq_true rfl⟩ ⟨Nat.le_of_ble_eq_true rfl, Nat.le_of_ble_eq_true rfl⟩ hl.1 rfl rfl (Nat.le_of_ble_eq_true rfl) dX3_ofNumber_26 ?_
  refine lv_l2i hx hb dX3_ofNumber_29 rfl ?_
  refine lv_iconst (v := 1) hx hb dX3_ofNumber_30 (by decide) ?_
  refine lv_iadd hx hb dX3_ofNumber_31 ?_
  obtain ⟨x_1, hx_1, hm⟩ := Option.bind_eq_some_iff.mp hm
  have hs_1 := hS.1
  refine qc_S hC hGx (k_X3_ofYearAndDay l k ((400 : Int32) * ((m_X3_share ((p0 + (719528 : Int32)).toInt64) (146097 : Int64)).toInt32)) (((m_X3_rest ((p0 + (719528 : Int32)).toInt64) (146097 : Int64)).toInt32) + (1 : Int32))  hx_1) (gS w_1092 w_1093 w_27 w_1094) kk_X3_ofYearAndDay (List.forall_mem_nil _) ⟨Nat.le_of_ble_eq_true rfl, Nat.le_of_ble_eq_true rfl⟩ ⟨Nat.le_of_ble_eq_true rfl, Nat.le_of_ble_eq_true rfl⟩ hS hA hAB hl.1 rfl rfl (Nat.le_of_ble_eq_true rfl) dX3_ofNumber_32 (fun v_1 H hv hz hq hS => ?_)
  obtain ⟨a_1, rfl, hn_1, hP_1⟩ := hv
  have hn_1 := Nat.le_trans hs_1 hn_1
  exact q_dret hx hb hr hlocks (Option.some.inj hm) hP_1 hn_1 hS ⟨Nat.le_of_ble_eq_true rfl, Nat.le_of_ble_eq_true rfl⟩ dX3_ofNumber_35
def o_X3_near (p0 : Int32) (p1 : Int32) (p2 : Int32) : Option DT := ((o_X3_lengthOf_ p0 p1).bind fun x_1 => (if p2 ≤ x_1 then some (p0, p1, p2) else some (p0, p1, x_1)))
theorem kk_X3_near : pK yX3_near wsX3_near cX3_near 4 (some (.object "DatesoloModel$Date")) 3 := ⟨⟨_, rfl⟩, by decide +kernel, by decide +kernel, by decide +kernel⟩
set_option maxRecDepth 100000 in
set_option maxHeartbeats 4000000 in
theorem k_X3_near (l : Launch) (k : Kx) (p0 : Int32) (p1 : Int32) (p2 : Int32) {r : DT} (hm : o_X3_near p0 p1 p2 = some r) : qM l k yX3_near wsX3_near 2 63 1 3 [.int p0, .int p1, .int p2] [] (rD k r) := by
  refine Met.ofW (cc := cX3_near) (maxL := 4) (ret := (some (.object "DatesoloModel$Date"))) (by decide) rfl ?_
  intro p e s m args below meth c s₁ B hml hv
  obtain ⟨rfl, hGx, hds⟩ := hv
  have hx := B.exec
  have hb := B.bytes
  have hr := B.returns
  have hts := atoms_spec (ws := wsX3_near) B.pre
  have hown : s.vm.findClass RX3 = some m.cls := findClass_of_methodNamed B.named
  have hlocks := B.notSynchronized
  have htg : ∀ w ∈ GL, w.before _ s = true := fun w h => hts w (List.mem_cons_of_mem _ h)
  have hC : CallFix p m c cX3_near 4 s _ wsX3_near RX3 := ⟨hx, hb, hml, hown, hts⟩
  have hA : ∀ q, s.heap.size ≤ q → nA s.heap.size q := fun _ h => h
  have hAB : ∀ q, nA s.heap.size q → kB k ≤ q := fun q h => Nat.le_trans hGx.2.1 h
  have hS : va_S (nA s.heap.size) s.heap s.heap [] := va_S.rf
  have hl := lv_entry ([.int p0, .int p1, .int p2]) (n := 4) (Nat.le_of_ble_eq_true rfl)
  rw [lg_entry_eq]
  generalize (lg_sl ([.int p0, .int p1, .int p2]) ++ List.replicate (4 - (lg_sl ([.int p0, .int p1, .int p2])).length) Slot.unset).toArray = ls at hl ⊢
  have hl : lv_has ls 4 [(0, .int p0), (1, .int p1), (2, .int p2)] := hl
  refine lv_iload_n hx hb dX3_near_0 rfl (lv_at hl 0 rfl) ?_
  refine lv_iload_n hx hb dX3_near_1 rfl (lv_at hl 1 rfl) ?_
  obtain ⟨x_1, hx_1, hm⟩ := Option.bind_eq_some_iff.mp hm
  have hs_1 := hS.1
  refine qc_S hC hGx (k_X3_lengthOf_ l k p0 p1  hx_1) (gS w_1049 w_1050 w_27 w_1051) kk_X3_lengthOf_ (List.forall_mem_nil _) ⟨Nat.le_of_ble_eq_true rfl, Nat.le_of_ble_eq_true rfl⟩ ⟨Nat.le_of_ble_eq_true rfl, Nat.le_of_ble_eq_true rfl⟩ hS hA hAB hl.1 rfl rfl (Nat.le_of_ble_eq_true rfl) dX3_near_2 (fun v_1 H hv hz hq hS => ?_)
  have hv : v_1 = some (.int x_1) := hv
  subst hv
  refine lv_istore_n (lv' := [(3, .int x_1), (0, .int p0), (1, .int p1), (2, .int p2)]) hx hb dX3_near_5 rfl hl (by decide) rfl (fun ls hl => ?_)
  have hs_2 := hS.1
  refine m_new2 hx hb htg hown (htg _ w_991) (htg _ w_993) (htg _ w_28) hGx hS ⟨Nat.le_of_ble_eq_true rfl, Nat.le_of_ble_eq_true rfl⟩ dX3_near_6 (fun a_2 H hn_2 hz_2 hN_2 hq hS => ?_)
  have hq_2 := hq
  refine lv_dup hx hb dX3_near_9 rfl ?_
  refine lv_iload_n hx hb dX3_near_10 rfl (lv_at hl 1 rfl) ?_
  refine lv_iload_n hx hb dX3_near_11 rfl (lv_at hl 2 rfl) ?_
  refine lv_iload_n hx hb dX3_near_12 rfl (lv_at hl 3 rfl) ?_
  refine lv_iload_n hx hb dX3_near_13 rfl (lv_at hl 0 rfl) ?_
  refine lv_icmp_le (tgt := 21) hx hb dX3_near_14 (by decide) (fun h_1 => ?_) (fun h_1 => ?_)
  · have hm := (if_pos h_1).symm.trans hm
    refine lv_iload_n hx hb dX3_near_21 rfl (lv_at hl 3 rfl) ?_
    refine q_init (v := (p0, p1, p2)) hC hGx (gC w_996) (htg _ w_994) (htg _ w_28) (htg _ w_995) hN_2 (Nat.le_trans hs_2 hn_2) ⟨Nat.le_of_ble_eq_true rfl, Nat.le_of_ble_eq_true rfl⟩ ⟨Nat.le_of_ble_eq_true rfl, Nat.le_of_ble_eq_true rfl⟩ hS hA hAB hl.1 rfl (Nat.le_of_ble_eq_true rfl) dX3_near_22 (fun H hP_2 hz9 hq9 hS => ?_)
    have hq := m_q2 hn_2 hz_2 hq_2 hq9
    have hn_2 := Nat.le_trans hs_2 hn_2
    exact q_dret hx hb hr hlocks (Option.some.inj hm) hP_2 hn_2 hS ⟨Nat.le_of_ble_eq_true rfl, Nat.le_of_ble_eq_true rfl⟩ dX3_near_25
  · have hm := (if_neg h_1).symm.trans hm
    refine lv_iload_n hx hb dX3_near_17 rfl (lv_at hl 0 rfl) ?_
    refine lv_goto (tgt := 22) hx hb dX3_near_18 (by decide) ?_
    refine q_init (v := (p0, p1, x_1)) hC hGx (gC w_996) (htg _ w_994) (htg _ w_28) (htg _ w_995) hN_2 (Nat.le_trans hs_2 hn_2) ⟨Nat.le_of_ble_eq_true rfl, Nat.le_of_ble_eq_true rfl⟩ ⟨Nat.le_of_ble_eq_true rfl, Nat.le_of_ble_eq_true rfl⟩ hS hA hAB hl.1 rfl (Nat.le_of_ble_eq_true rfl) dX3_near_22 (fun H hP_2 hz9 hq9 hS => ?_)
    have hq := m_q2 hn_2 hz_2 hq_2 hq9
    have hn_2 := Nat.le_trans hs_2 hn_2
    exact q_dret hx hb hr hlocks (Option.some.inj hm) hP_2 hn_2 hS ⟨Nat.le_of_ble_eq_true rfl, Nat.le_of_ble_eq_true rfl⟩ dX3_near_25
def o_X3_isDate (p0 : DT) : Option Int32 := (if m_X3_isIn p0.1.toInt64 (-9999 : Int64) (9999 : Int64) = 0 then some ((0 : Int32)) else some ((1 : Int32)))
theorem kk_X3_isDate : pK yX3_isDate wsX3_isDate cX3_isDate 1 (some .boolean) 1 := ⟨⟨_, rfl⟩, by decide +kernel, by decide +kernel, by decide +kernel⟩
set_option maxRecDepth 100000 in
set_option maxHeartbeats 4000000 in
theorem k_X3_isDate (l : Launch) (k : Kx) (p0 : DT) (q0 : Nat) {r : Int32} (hm : o_X3_isDate p0 = some r) : qM l k yX3_isDate wsX3_isDate 1 25 0 0 [.ref q0] [(q0, p0)] (rI r) := by
  refine Met.ofW (cc := cX3_isDate) (maxL := 1) (ret := (some .boolean)) (by decide) rfl ?_
  intro p e s m args below meth c s₁ B hml hv
  obtain ⟨rfl, hGx, hds⟩ := hv
  have hx := B.exec
  have hb := B.bytes
  have hr := B.returns
  have hts := atoms_spec (ws := wsX3_isDate) B.pre
  have hown : s.vm.findClass RX3 = some m.cls := findClass_of_methodNamed B.named
  have hlocks := B.notSynchronized
  have htg : ∀ w ∈ GL, w.before _ s = true := fun w h => hts w (List.mem_cons_of_mem _ h)
  have hC : CallFix p m c cX3_isDate 1 s _ wsX3_isDate RX3 := ⟨hx, hb, hml, hown, hts⟩
  have hA : ∀ q, s.heap.size ≤ q → nA s.heap.size q := fun _ h => h
  have hAB : ∀ q, nA s.heap.size q → kB k ≤ q := fun q h => Nat.le_trans hGx.2.1 h
  have hS : va_S (nA s.heap.size) s.heap s.heap [] := va_S.rf
  have hP_q0 : dP k q0 p0 s.heap := hds (q0, p0) (List.mem_of_getElem? (i := 0) rfl)
  have hl := lv_entry ([.ref q0]) (n := 1) (Nat.le_of_ble_eq_true rfl)
  rw [lg_entry_eq]
  generalize (lg_sl ([.ref q0]) ++ List.replicate (1 - (lg_sl ([.ref q0])).length) Slot.unset).toArray = ls at hl ⊢
  have hl : lv_has ls 1 [(0, .ref q0)] := hl
  refine lv_aload_n hx hb dX3_isDate_0 rfl (lv_at hl 0 rfl) ?_
  refine lv_ifnull hx hb dX3_isDate_1 ?_
  refine lv_aload_n hx hb dX3_isDate_4 rfl (lv_at hl 0 rfl) ?_
  refine va_get (D := kD k) (ci := 4) (v := .int p0.1) (C := RX2) (T := TX2) (N := 3) hx hb htg inG_X2 hown hGx.1 hP_q0 0 rfl rfl 0 (by decide) (htg _ w_999) (fun _ h9 => h9) rfl dX3_isDate_5 ?_
  refine lv_i2l hx hb dX3_isDate_8 rfl ?_
  refine lv_ldc2 hx hb hown (htg _ w_1038) dX3_isDate_9 ?_
  refine lv_ldc2 hx hb hown (htg _ w_1039) dX3_isDate_12 ?_
  refine pc_S hC (c_X3_isIn l p0.1.toInt64 (-9999 : Int64) (9999 : Int64)) (gS w_1040 w_1041 w_27 w_1042) kk_X3_isIn ⟨Nat.le_of_ble_eq_true rfl, Nat.le_of_ble_eq_true rfl⟩ ⟨Nat.le_of_ble_eq_true rfl, Nat.le_of_ble_eq_true rfl⟩ hl.1 rfl rfl (Nat.le_of_ble_eq_true rfl) dX3_isDate_15 ?_
  refine lv_if_eq (tgt := 25) hx hb dX3_isDate_18 (by decide) (fun h_1 => ?_) (fun h_1 => ?_)
  · have hm := (if_pos h_1).symm.trans hm
    refine lv_iconst (v := 0) hx hb dX3_isDate_25 (by decide) ?_
    exact q_zret hx hb hr hlocks rfl (Option.some.inj hm) hS ⟨Nat.le_of_ble_eq_true rfl, Nat.le_of_ble_eq_true rfl⟩ dX3_isDate_26
  · have hm := (if_neg h_1).symm.trans hm
    refine lv_iconst (v := 1) hx hb dX3_isDate_21 (by decide) ?_
    refine lv_goto (tgt := 26) hx hb dX3_isDate_22 (by decide) ?_
    exact q_zret hx hb hr hlocks rfl (Option.some.inj hm) hS ⟨Nat.le_of_ble_eq_true rfl, Nat.le_of_ble_eq_true rfl⟩ dX3_isDate_26
def o_X3_isDateN  : Option Int32 := some ((0 : Int32))
set_option maxRecDepth 100000 in
set_option maxHeartbeats 4000000 in
theorem k_X3_isDateN (l : Launch) (k : Kx)  {r : Int32} (hm : o_X3_isDateN = some r) : qM l k yX3_isDate wsX3_isDate 0 0 0 0 [.null] [] (rI r) := by
  refine Met.ofW (cc := cX3_isDate) (maxL := 1) (ret := (some .boolean)) (by decide) rfl ?_
  intro p e s m args below meth c s₁ B hml hv
  obtain ⟨rfl, hGx, hds⟩ := hv
  have hx := B.exec
  have hb := B.bytes
  have hr := B.returns
  have hts := atoms_spec (ws := wsX3_isDate) B.pre
  have hown : s.vm.findClass RX3 = some m.cls := findClass_of_methodNamed B.named
  have hlocks := B.notSynchronized
  have htg : ∀ w ∈ GL, w.before _ s = true := fun w h => hts w (List.mem_cons_of_mem _ h)
  have hC : CallFix p m c cX3_isDate 1 s _ wsX3_isDate RX3 := ⟨hx, hb, hml, hown, hts⟩
  have hA : ∀ q, s.heap.size ≤ q → nA s.heap.size q := fun _ h => h
  have hAB : ∀ q, nA s.heap.size q → kB k ≤ q := fun q h => Nat.le_trans hGx.2.1 h
  have hS : va_S (nA s.heap.size) s.heap s.heap [] := va_S.rf
  have hl := lv_entry ([.null]) (n := 1) (Nat.le_of_ble_eq_true rfl)
  rw [lg_entry_eq]
  generalize (lg_sl ([.null]) ++ List.replicate (1 - (lg_sl ([.null])).length) Slot.unset).toArray = ls at hl ⊢
  have hl : lv_has ls 1 [(0, .null)] := hl
  refine lv_aload_nN hx hb dX3_isDate_0 rfl (lv_at hl 0 rfl) ?_
  refine lv_ifnullN (tgt := 25) hx hb dX3_isDate_1 (by decide) ?_
  refine lv_iconst (v := 0) hx hb dX3_isDate_25 (by decide) ?_
  exact q_zret hx hb hr hlocks rfl (Option.some.inj hm) hS ⟨Nat.le_of_ble_eq_true rfl, Nat.le_of_ble_eq_true rfl⟩ dX3_isDate_26
def o_X3_later (p0 : DT) (p1 : Int64) : Option (Option DT) := (if m_X3_isIn (m_X3_share (((((12 : Int64) * p0.1.toInt64) + p0.2.1.toInt64) - (1 : Int64)) + p1) (12 : Int64)) (-200000 : Int64) (200000 : Int64) = 0 then some none else ((o_X3_near ((m_X3_share (((((12 : Int64) * p0.1.toInt64) + p0.2.1.toInt64) - (1 : Int64)) + p1) (12 : Int64)).toInt32) (((m_X3_rest (((((12 : Int64) * p0.1.toInt64) + p0.2.1.toInt64) - (1 : Int64)) + p1) (12 : Int64)).toInt32) + (1 : Int32)) p0.2.2).bind fun x_1 => some (some x_1)))
theorem kk_X3_later : pK yX3_later wsX3_later cX3_later 7 (some (.object "DatesoloModel$Date")) 2 := ⟨⟨_, rfl⟩, by decide +kernel, by decide +kernel, by decide +kernel⟩
set_option maxRecDepth 100000 in
set_option maxHeartbeats 4000000 in
theorem k_X3_later (l : Launch) (k : Kx) (p0 : DT) (p1 : Int64) (q0 : Nat) {r : (Option DT)} (hm : o_X3_later p0 p1 = some r) : qM l k yX3_later wsX3_later 3 86 1 3 [.ref q0, .long p1] [(q0, p0)] (rN k r) := by
  refine Met.ofW (cc := cX3_later) (maxL := 7) (ret := (some (.object "DatesoloModel$Date"))) (by decide) rfl ?_
  intro p e s m args below meth c s₁ B hml hv
  obtain ⟨rfl, hGx, hds⟩ := hv
  have hx := B.exec
  have hb := B.bytes
  have hr := B.returns
  have hts := atoms_spec (ws := wsX3_later) B.pre
  have hown : s.vm.findClass RX3 = some m.cls := findClass_of_methodNamed B.named
  have hlocks := B.notSynchronized
  have htg : ∀ w ∈ GL, w.before _ s = true := fun w h => hts w (List.mem_cons_of_mem _ h)
  have hC : CallFix p m c cX3_later 7 s _ wsX3_later RX3 := ⟨hx, hb, hml, hown, hts⟩
  have hA : ∀ q, s.heap.size ≤ q → nA s.heap.size q := fun _ h => h
  have hAB : ∀ q, nA s.heap.size q → kB k ≤ q := fun q h => Nat.le_trans hGx.2.1 h
  have hS : va_S (nA s.heap.size) s.heap s.heap [] := va_S.rf
  have hP_q0 : dP k q0 p0 s.heap := hds (q0, p0) (List.mem_of_getElem? (i := 0) rfl)
  have hl := lv_entry ([.ref q0, .long p1]) (n := 7) (Nat.le_of_ble_eq_true rfl)
  rw [lg_entry_eq]
  generalize (lg_sl ([.ref q0, .long p1]) ++ List.replicate (7 - (lg_sl ([.ref q0, .long p1])).length) Slot.unset).toArray = ls at hl ⊢
  have hl : lv_has ls 7 [(0, .ref q0), (1, .long p1)] := hl
  refine lv_ldc2 hx hb hown (htg _ w_1043) dX3_later_0 ?_
  refine lv_aload_n hx hb dX3_later_3 rfl (lv_at hl 0 rfl) ?_
  refine va_get (D := kD k) (ci := 4) (v := .int p0.1) (C := RX2) (T := TX2) (N := 3) hx hb htg inG_X2 hown hGx.1 hP_q0 0 rfl rfl 0 (by decide) (htg _ w_999) (fun _ h9 => h9) rfl dX3_later_4 ?_
  refine lv_i2l hx hb dX3_later_7 rfl ?_
  refine lv_lmul hx hb dX3_later_8 ?_
  refine lv_aload_n hx hb dX3_later_9 rfl (lv_at hl 0 rfl) ?_
  refine va_get (D := kD k) (ci := 4) (v := .int p0.2.1) (C := RX2) (T := TX2) (N := 3) hx hb htg inG_X2 hown hGx.1 hP_q0 0 rfl rfl 1 (by decide) (htg _ w_1001) (fun _ h9 => h9) rfl dX3_later_10 ?_
  refine lv_i2l hx hb dX3_later_13 rfl ?_
  refine lv_ladd hx hb dX3_later_14 ?_
  refine lv_lconst (v := 1) hx hb dX3_later_15 (by decide) ?_
  refine lv_lsub hx hb dX3_later_16 ?_
  refine lv_lload_n hx hb dX3_later_17 rfl (lv_at hl 1 rfl) ?_
  refine lv_ladd hx hb dX3_later_18 ?_
  refine lv_lstore_n (lv' := [(3, .long (((((12 : Int64) * p0.1.toInt64) + p0.2.1.toInt64) - (1 : Int64)) + p1)), (0, .ref q0), (1, .long p1)]) hx hb dX3_later_19 rfl hl (by decide) rfl (fun ls hl => ?_)
  refine lv_lload_n hx hb dX3_later_20 rfl (lv_at hl 0 rfl) ?_
  refine lv_ldc2 hx hb hown (htg _ w_1043) dX3_later_21 ?_
  refine pc_S hC (c_X3_share l (((((12 : Int64) * p0.1.toInt64) + p0.2.1.toInt64) - (1 : Int64)) + p1) (12 : Int64) (by decide)) (gS w_1088 w_1067 w_27 w_1068) kk_X3_share ⟨Nat.le_of_ble_eq_true rfl, Nat.le_of_ble_eq_true rfl⟩ ⟨Nat.le_of_ble_eq_true rfl, Nat.le_of_ble_eq_true rfl⟩ hl.1 rfl rfl (Nat.le_of_ble_eq_true rfl) dX3_later_24 ?_
  refine lv_lstore (lv' := [(5, .long (m_X3_share (((((12 : Int64) * p0.1.toInt64) + p0.2.1.toInt64) - (1 : Int64)) + p1) (12 : Int64))), (3, .long (((((12 : Int64) * p0.1.toInt64) + p0.2.1.toInt64) - (1 : Int64)) + p1)), (0, .ref q0), (1, .long p1)]) hx hb dX3_later_27 hl (by decide) rfl (fun ls hl => ?_)
  refine lv_lload hx hb dX3_later_29 (lv_at hl 0 rfl) ?_
  refine lv_ldc2 hx hb hown (htg _ w_1147) dX3_later_31 ?_
  refine lv_ldc2 hx hb hown (htg _ w_1148) dX3_later_34 ?_
  refine pc_S hC (c_X3_isIn l (m_X3_share (((((12 : Int64) * p0.1.toInt64) + p0.2.1.toInt64) - (1 : Int64)) + p1) (12 : Int64)) (-200000 : Int64) (200000 : Int64)) (gS w_1040 w_1041 w_27 w_1042) kk_X3_isIn ⟨Nat.le_of_ble_eq_true rfl, Nat.le_of_ble_eq_true rfl⟩ ⟨Nat.le_of_ble_eq_true rfl, Nat.le_of_ble_eq_true rfl⟩ hl.1 rfl rfl (Nat.le_of_ble_eq_true rfl) dX3_later_37 ?_
  refine lv_if_eq (tgt := 66) hx hb dX3_later_40 (by decide) (fun h_1 => ?_) (fun h_1 => ?_)
  · have hm := (if_pos h_1).symm.trans hm
    refine lv_null hx hb dX3_later_66 ?_
    exact q_nret hx hb hr hlocks (Option.some.inj hm) hS ⟨Nat.le_of_ble_eq_true rfl, Nat.le_of_ble_eq_true rfl⟩ dX3_later_67
  · have hm := (if_neg h_1).symm.trans hm
    refine lv_lload hx hb dX3_later_43 (lv_at hl 0 rfl) ?_
    refine lv_l2i hx hb dX3_later_45 rfl ?_
    refine lv_lload_n hx hb dX3_later_46 rfl (lv_at hl 1 rfl) ?_
    refine lv_ldc2 hx hb hown (htg _ w_1043) dX3_later_47 ?_
    refine pc_S hC (c_X3_rest l (((((12 : Int64) * p0.1.toInt64) + p0.2.1.toInt64) - (1 : Int64)) + p1) (12 : Int64) (by decide)) (gS w_1089 w_1090 w_27 w_1091) kk_X3_rest ⟨Nat.le_of_ble_eq_true rfl, Nat.le_of_ble_eq_true rfl⟩ ⟨Nat.le_of_ble_eq_true rfl, Nat.le_of_ble_eq_true rfl⟩ hl.1 rfl rfl (Nat.le_of_ble_eq_true rfl) dX3_later_50 ?_
    refine lv_l2i hx hb dX3_later_53 rfl ?_
    refine lv_iconst (v := 1) hx hb dX3_later_54 (by decide) ?_
    refine lv_iadd hx hb dX3_later_55 ?_
    refine lv_aload_n hx hb dX3_later_56 rfl (lv_at hl 2 rfl) ?_
    refine va_get (D := kD k) (ci := 4) (v := .int p0.2.2) (C := RX2) (T := TX2) (N := 3) hx hb htg inG_X2 hown hGx.1 hP_q0 0 rfl rfl 2 (by decide) (htg _ w_1003) (fun _ h9 => h9) rfl dX3_later_57 ?_
    obtain ⟨x_1, hx_1, hm⟩ := Option.bind_eq_some_iff.mp hm
    have hs_1 := hS.1
    refine qc_S hC hGx (k_X3_near l k ((m_X3_share (((((12 : Int64) * p0.1.toInt64) + p0.2.1.toInt64) - (1 : Int64)) + p1) (12 : Int64)).toInt32) (((m_X3_rest (((((12 : Int64) * p0.1.toInt64) + p0.2.1.toInt64) - (1 : Int64)) + p1) (12 : Int64)).toInt32) + (1 : Int32)) p0.2.2  hx_1) (gS w_1117 w_1118 w_27 w_1119) kk_X3_near (List.forall_mem_nil _) ⟨Nat.le_of_ble_eq_true rfl, Nat.le_of_ble_eq_true rfl⟩ ⟨Nat.le_of_ble_eq_true rfl, Nat.le_of_ble_eq_true rfl⟩ hS hA hAB hl.1 rfl rfl (Nat.le_of_ble_eq_true rfl) dX3_later_60 (fun v_1 H hv hz hq hS => ?_)
    have hP_q0 := hP_q0.up (hq _ hP_q0.lt)
    obtain ⟨a_1, rfl, hn_1, hP_1⟩ := hv
    have hn_1 := Nat.le_trans hs_1 hn_1
    refine lv_goto (tgt := 67) hx hb dX3_later_63 (by decide) ?_
    exact q_mret hx hb hr hlocks (Option.some.inj hm) hP_1 hn_1 hS ⟨Nat.le_of_ble_eq_true rfl, Nat.le_of_ble_eq_true rfl⟩ dX3_later_67
def o_X3_laterByDays (p0 : DT) (p1 : Int64) : Option (Option DT) := ((o_X2_number p0).bind fun x_1 => (if m_X3_isIn (x_1.toInt64 + p1) (-100000000 : Int64) (100000000 : Int64) = 0 then some none else ((o_X3_ofNumber ((x_1.toInt64 + p1).toInt32)).bind fun x_2 => some (some x_2))))
theorem kk_X3_laterByDays : pK yX3_laterByDays wsX3_laterByDays cX3_laterByDays 5 (some (.object "DatesoloModel$Date")) 2 := ⟨⟨_, rfl⟩, by decide +kernel, by decide +kernel, by decide +kernel⟩
set_option maxRecDepth 100000 in
set_option maxHeartbeats 4000000 in
theorem k_X3_laterByDays (l : Launch) (k : Kx) (p0 : DT) (p1 : Int64) (q0 : Nat) {r : (Option DT)} (hm : o_X3_laterByDays p0 p1 = some r) : qM l k yX3_laterByDays wsX3_laterByDays 4 108 1 3 [.ref q0, .long p1] [(q0, p0)] (rN k r) := by
  refine Met.ofW (cc := cX3_laterByDays) (maxL := 5) (ret := (some (.object "DatesoloModel$Date"))) (by decide) rfl ?_
  intro p e s m args below meth c s₁ B hml hv
  obtain ⟨rfl, hGx, hds⟩ := hv
  have hx := B.exec
  have hb := B.bytes
  have hr := B.returns
  have hts := atoms_spec (ws := wsX3_laterByDays) B.pre
  have hown : s.vm.findClass RX3 = some m.cls := findClass_of_methodNamed B.named
  have hlocks := B.notSynchronized
  have htg : ∀ w ∈ GL, w.before _ s = true := fun w h => hts w (List.mem_cons_of_mem _ h)
  have hC : CallFix p m c cX3_laterByDays 5 s _ wsX3_laterByDays RX3 := ⟨hx, hb, hml, hown, hts⟩
  have hA : ∀ q, s.heap.size ≤ q → nA s.heap.size q := fun _ h => h
  have hAB : ∀ q, nA s.heap.size q → kB k ≤ q := fun q h => Nat.le_trans hGx.2.1 h
  have hS : va_S (nA s.heap.size) s.heap s.heap [] := va_S.rf
  have hP_q0 : dP k q0 p0 s.heap := hds (q0, p0) (List.mem_of_getElem? (i := 0) rfl)
  have hl := lv_entry ([.ref q0, .long p1]) (n := 5) (Nat.le_of_ble_eq_true rfl)
  rw [lg_entry_eq]
  generalize (lg_sl ([.ref q0, .long p1]) ++ List.replicate (5 - (lg_sl ([.ref q0, .long p1])).length) Slot.unset).toArray = ls at hl ⊢
  have hl : lv_has ls 5 [(0, .ref q0), (1, .long p1)] := hl
  refine lv_aload_n hx hb dX3_laterByDays_0 rfl (lv_at hl 0 rfl) ?_
  obtain ⟨x_1, hx_1, hm⟩ := Option.bind_eq_some_iff.mp hm
  have hs_1 := hS.1
  refine qc_V hC hGx (k_X2_number l k p0 q0 hx_1) (gV w_1062 w_1063 w_1064 w_28 w_1065) kk_X2_number rfl hP_q0 (List.forall_mem_cons.mpr ⟨hP_q0, (List.forall_mem_nil _)⟩) ⟨Nat.le_of_ble_eq_true rfl, Nat.le_of_ble_eq_true rfl⟩ ⟨Nat.le_of_ble_eq_true rfl, Nat.le_of_ble_eq_true rfl⟩ hS hA hAB hl.1 rfl rfl (Nat.le_of_ble_eq_true rfl) dX3_laterByDays_1 (fun v_1 H hv hz hq hS => ?_)
  have hP_q0 := hP_q0.up (hq _ hP_q0.lt)
  have hv : v_1 = some (.int x_1) := hv
  subst hv
  refine lv_i2l hx hb dX3_laterByDays_4 rfl ?_
  refine lv_lload_n hx hb dX3_laterByDays_5 rfl (lv_at hl 1 rfl) ?_
  refine lv_ladd hx hb dX3_laterByDays_6 ?_
  refine lv_lstore_n (lv' := [(3, .long (x_1.toInt64 + p1)), (0, .ref q0), (1, .long p1)]) hx hb dX3_laterByDays_7 rfl hl (by decide) rfl (fun ls hl => ?_)
  refine lv_lload_n hx hb dX3_laterByDays_8 rfl (lv_at hl 0 rfl) ?_
  refine lv_ldc2 hx hb hown (htg _ w_1156) dX3_laterByDays_9 ?_
  refine lv_ldc2 hx hb hown (htg _ w_1157) dX3_laterByDays_12 ?_
  refine pc_S hC (c_X3_isIn l (x_1.toInt64 + p1) (-100000000 : Int64) (100000000 : Int64)) (gS w_1040 w_1041 w_27 w_1042) kk_X3_isIn ⟨Nat.le_of_ble_eq_true rfl, Nat.le_of_ble_eq_true rfl⟩ ⟨Nat.le_of_ble_eq_true rfl, Nat.le_of_ble_eq_true rfl⟩ hl.1 rfl rfl (Nat.le_of_ble_eq_true rfl) dX3_laterByDays_15 ?_
  refine lv_if_eq (tgt := 29) hx hb dX3_laterByDays_18 (by decide) (fun h_1 => ?_) (fun h_1 => ?_)
  · have hm := (if_pos h_1).symm.trans hm
    refine lv_null hx hb dX3_laterByDays_29 ?_
    exact q_nret hx hb hr hlocks (Option.some.inj hm) hS ⟨Nat.le_of_ble_eq_true rfl, Nat.le_of_ble_eq_true rfl⟩ dX3_laterByDays_30
  · have hm := (if_neg h_1).symm.trans hm
    refine lv_lload_n hx hb dX3_laterByDays_21 rfl (lv_at hl 0 rfl) ?_
    refine lv_l2i hx hb dX3_laterByDays_22 rfl ?_
    obtain ⟨x_2, hx_2, hm⟩ := Option.bind_eq_some_iff.mp hm
    have hs_2 := hS.1
    refine qc_S hC hGx (k_X3_ofNumber l k ((x_1.toInt64 + p1).toInt32)  hx_2) (gS w_1083 w_1084 w_27 w_1085) kk_X3_ofNumber (List.forall_mem_nil _) ⟨Nat.le_of_ble_eq_true rfl, Nat.le_of_ble_eq_true rfl⟩ ⟨Nat.le_of_ble_eq_true rfl, Nat.le_of_ble_eq_true rfl⟩ hS hA hAB hl.1 rfl rfl (Nat.le_of_ble_eq_true rfl) dX3_laterByDays_23 (fun v_2 H hv hz hq hS => ?_)
    have hP_q0 := hP_q0.up (hq _ hP_q0.lt)
    obtain ⟨a_2, rfl, hn_2, hP_2⟩ := hv
    have hn_2 := Nat.le_trans hs_2 hn_2
    refine lv_goto (tgt := 30) hx hb dX3_laterByDays_26 (by decide) ?_
    exact q_mret hx hb hr hlocks (Option.some.inj hm) hP_2 hn_2 hS ⟨Nat.le_of_ble_eq_true rfl, Nat.le_of_ble_eq_true rfl⟩ dX3_laterByDays_30
def o_X3_isAhead (p0 : DT) (p1 : DT) : Option Int32 := (if p0.1 = p1.1 then (if p0.2.1 = p1.2.1 then (if p1.2.2 ≤ p0.2.2 then some ((0 : Int32)) else some ((1 : Int32))) else (if p1.2.1 ≤ p0.2.1 then some ((0 : Int32)) else some ((1 : Int32)))) else (if p1.1 ≤ p0.1 then some ((0 : Int32)) else some ((1 : Int32))))
theorem kk_X3_isAhead : pK yX3_isAhead wsX3_isAhead cX3_isAhead 2 (some .boolean) 2 := ⟨⟨_, rfl⟩, by decide +kernel, by decide +kernel, by decide +kernel⟩
set_option maxRecDepth 100000 in
set_option maxHeartbeats 4000000 in
theorem k_X3_isAhead (l : Launch) (k : Kx) (p0 : DT) (p1 : DT) (q0 : Nat) (q1 : Nat) {r : Int32} (hm : o_X3_isAhead p0 p1 = some r) : qM l k yX3_isAhead wsX3_isAhead 0 0 0 0 [.ref q0, .ref q1] [(q0, p0), (q1, p1)] (rI r) := by
  refine Met.ofW (cc := cX3_isAhead) (maxL := 2) (ret := (some .boolean)) (by decide) rfl ?_
  intro p e s m args below meth c s₁ B hml hv
  obtain ⟨rfl, hGx, hds⟩ := hv
  have hx := B.exec
  have hb := B.bytes
  have hr := B.returns
  have hts := atoms_spec (ws := wsX3_isAhead) B.pre
  have hown : s.vm.findClass RX3 = some m.cls := findClass_of_methodNamed B.named
  have hlocks := B.notSynchronized
  have htg : ∀ w ∈ GL, w.before _ s = true := fun w h => hts w (List.mem_cons_of_mem _ h)
  have hC : CallFix p m c cX3_isAhead 2 s _ wsX3_isAhead RX3 := ⟨hx, hb, hml, hown, hts⟩
  have hA : ∀ q, s.heap.size ≤ q → nA s.heap.size q := fun _ h => h
  have hAB : ∀ q, nA s.heap.size q → kB k ≤ q := fun q h => Nat.le_trans hGx.2.1 h
  have hS : va_S (nA s.heap.size) s.heap s.heap [] := va_S.rf
  have hP_q0 : dP k q0 p0 s.heap := hds (q0, p0) (List.mem_of_getElem? (i := 0) rfl)
  have hP_q1 : dP k q1 p1 s.heap := hds (q1, p1) (List.mem_of_getElem? (i := 1) rfl)
  have hl := lv_entry ([.ref q0, .ref q1]) (n := 2) (Nat.le_of_ble_eq_true rfl)
  rw [lg_entry_eq]
  generalize (lg_sl ([.ref q0, .ref q1]) ++ List.replicate (2 - (lg_sl ([.ref q0, .ref q1])).length) Slot.unset).toArray = ls at hl ⊢
  have hl : lv_has ls 2 [(0, .ref q0), (1, .ref q1)] := hl
  refine lv_aload_n hx hb dX3_isAhead_0 rfl (lv_at hl 0 rfl) ?_
  refine va_get (D := kD k) (ci := 4) (v := .int p0.1) (C := RX2) (T := TX2) (N := 3) hx hb htg inG_X2 hown hGx.1 hP_q0 0 rfl rfl 0 (by decide) (htg _ w_999) (fun _ h9 => h9) rfl dX3_isAhead_1 ?_
  refine lv_aload_n hx hb dX3_isAhead_4 rfl (lv_at hl 1 rfl) ?_
  refine va_get (D := kD k) (ci := 4) (v := .int p1.1) (C := RX2) (T := TX2) (N := 3) hx hb htg inG_X2 hown hGx.1 hP_q1 0 rfl rfl 0 (by decide) (htg _ w_999) (fun _ h9 => h9) rfl dX3_isAhead_5 ?_
  refine lv_icmp_eq (tgt := 28) hx hb dX3_isAhead_8 (by decide) (fun h_1 => ?_) (fun h_1 => ?_)
  · have hm := (if_pos h_1).symm.trans hm
    refine lv_aload_n hx hb dX3_isAhead_28 rfl (lv_at hl 0 rfl) ?_
    refine va_get (D := kD k) (ci := 4) (v := .int p0.2.1) (C := RX2) (T := TX2) (N := 3) hx hb htg inG_X2 hown hGx.1 hP_q0 0 rfl rfl 1 (by decide) (htg _ w_1001) (fun _ h9 => h9) rfl dX3_isAhead_29 ?_
    refine lv_aload_n hx hb dX3_isAhead_32 rfl (lv_at hl 1 rfl) ?_
    refine va_get (D := kD k) (ci := 4) (v := .int p1.2.1) (C := RX2) (T := TX2) (N := 3) hx hb htg inG_X2 hown hGx.1 hP_q1 0 rfl rfl 1 (by decide) (htg _ w_1001) (fun _ h9 => h9) rfl dX3_isAhead_33 ?_
    refine lv_icmp_eq (tgt := 58) hx hb dX3_isAhead_36 (by decide) (fun h_2 => ?_) (fun h_2 => ?_)
    · have hm := (if_pos h_2).symm.trans hm
      refine lv_aload_n hx hb dX3_isAhead_58 rfl (lv_at hl 0 rfl) ?_
      refine va_get (D := kD k) (ci := 4) (v := .int p0.2.2) (C := RX2) (T := TX2) (N := 3) hx hb htg inG_X2 hown hGx.1 hP_q0 0 rfl rfl 2 (by decide) (htg _ w_1003) (fun _ h9 => h9) rfl dX3_isAhead_59 ?_
      refine lv_aload_n hx hb dX3_isAhead_62 rfl (lv_at hl 1 rfl) ?_
      refine va_get (D := kD k) (ci := 4) (v := .int p1.2.2) (C := RX2) (T := TX2) (N := 3) hx hb htg inG_X2 hown hGx.1 hP_q1 0 rfl rfl 2 (by decide) (htg _ w_1003) (fun _ h9 => h9) rfl dX3_isAhead_63 ?_
      refine lv_icmp_ge (tgt := 73) hx hb dX3_isAhead_66 (by decide) (fun h_3 => ?_) (fun h_3 => ?_)
      · have hm := (if_pos h_3).symm.trans hm
        refine lv_iconst (v := 0) hx hb dX3_isAhead_73 (by decide) ?_
        exact q_zret hx hb hr hlocks rfl (Option.some.inj hm) hS ⟨Nat.le_of_ble_eq_true rfl, Nat.le_of_ble_eq_true rfl⟩ dX3_isAhead_74
      · have hm := (if_neg h_3).symm.trans hm
        refine lv_iconst (v := 1) hx hb dX3_isAhead_69 (by decide) ?_
        refine lv_goto (tgt := 74) hx hb dX3_isAhead_70 (by decide) ?_
        exact q_zret hx hb hr hlocks rfl (Option.some.inj hm) hS ⟨Nat.le_of_ble_eq_true rfl, Nat.le_of_ble_eq_true rfl⟩ dX3_isAhead_74
    · have hm := (if_neg h_2).symm.trans hm
      refine lv_aload_n hx hb dX3_isAhead_39 rfl (lv_at hl 0 rfl) ?_
      refine va_get (D := kD k) (ci := 4) (v := .int p0.2.1) (C := RX2) (T := TX2) (N := 3) hx hb htg inG_X2 hown hGx.1 hP_q0 0 rfl rfl 1 (by decide) (htg _ w_1001) (fun _ h9 => h9) rfl dX3_isAhead_40 ?_
      refine lv_aload_n hx hb dX3_isAhead_43 rfl (lv_at hl 1 rfl) ?_
      refine va_get (D := kD k) (ci := 4) (v := .int p1.2.1) (C := RX2) (T := TX2) (N := 3) hx hb htg inG_X2 hown hGx.1 hP_q1 0 rfl rfl 1 (by decide) (htg _ w_1001) (fun _ h9 => h9) rfl dX3_isAhead_44 ?_
      refine lv_icmp_ge (tgt := 54) hx hb dX3_isAhead_47 (by decide) (fun h_4 => ?_) (fun h_4 => ?_)
      · have hm := (if_pos h_4).symm.trans hm
        refine lv_iconst (v := 0) hx hb dX3_isAhead_54 (by decide) ?_
        refine lv_goto (tgt := 74) hx hb dX3_isAhead_55 (by decide) ?_
        exact q_zret hx hb hr hlocks rfl (Option.some.inj hm) hS ⟨Nat.le_of_ble_eq_true rfl, Nat.le_of_ble_eq_true rfl⟩ dX3_isAhead_74
      · have hm := (if_neg h_4).symm.trans hm
        refine lv_iconst (v := 1) hx hb dX3_isAhead_50 (by decide) ?_
        refine lv_goto (tgt := 74) hx hb dX3_isAhead_51 (by decide) ?_
        exact q_zret hx hb hr hlocks rfl (Option.some.inj hm) hS ⟨Nat.le_of_ble_eq_true rfl, Nat.le_of_ble_eq_true rfl⟩ dX3_isAhead_74
  · have hm := (if_neg h_1).symm.trans hm
    refine lv_aload_n hx hb dX3_isAhead_11 rfl (lv_at hl 0 rfl) ?_
    refine va_get (D := kD k) (ci := 4) (v := .int p0.1) (C := RX2) (T := TX2) (N := 3) hx hb htg inG_X2 hown hGx.1 hP_q0 0 rfl rfl 0 (by decide) (htg _ w_999) (fun _ h9 => h9) rfl dX3_isAhead_12 ?_
    refine lv_aload_n hx hb dX3_isAhead_15 rfl (lv_at hl 1 rfl) ?_
    refine va_get (D := kD k) (ci := 4) (v := .int p1.1) (C := RX2) (T := TX2) (N := 3) hx hb htg inG_X2 hown hGx.1 hP_q1 0 rfl rfl 0 (by decide) (htg _ w_999) (fun _ h9 => h9) rfl dX3_isAhead_16 ?_
    refine lv_icmp_ge (tgt := 26) hx hb dX3_isAhead_19 (by decide) (fun h_5 => ?_) (fun h_5 => ?_)
    · have hm := (if_pos h_5).symm.trans hm
      refine lv_iconst (v := 0) hx hb dX3_isAhead_26 (by decide) ?_
      exact q_zret hx hb hr hlocks rfl (Option.some.inj hm) hS ⟨Nat.le_of_ble_eq_true rfl, Nat.le_of_ble_eq_true rfl⟩ dX3_isAhead_27
    · have hm := (if_neg h_5).symm.trans hm
      refine lv_iconst (v := 1) hx hb dX3_isAhead_22 (by decide) ?_
      refine lv_goto (tgt := 27) hx hb dX3_isAhead_23 (by decide) ?_
      exact q_zret hx hb hr hlocks rfl (Option.some.inj hm) hS ⟨Nat.le_of_ble_eq_true rfl, Nat.le_of_ble_eq_true rfl⟩ dX3_isAhead_27
def l40_X3_moved (p0 : DT) (p1 : Int32) (p2 : Int64) : Nat → Int64 → Int32 → Option (Option DT)
  | 0, _, _ => none
  | n + 1, x40_4, x40_6 => (if p1 ≤ x40_6 then ((o_X3_later p0 (x40_4 * p2)).bind fun x_2 => (Option.elim x_2 (some none) fun d_2 => some (some d_2))) else l40_X3_moved p0 p1 p2 n (x40_4 * (10 : Int64)) (x40_6 + 1))
def o_X3_moved (p0 : DT) (p1 : Int32) (p2 : Int64) : Option (Option DT) := (if (2 : Int32) ≤ p1 then (if p1 = (2 : Int32) then l40_X3_moved p0 p1 p2 8 (1 : Int64) (3 : Int32) else l40_X3_moved p0 p1 p2 8 (12 : Int64) (3 : Int32)) else (if p1 = 0 then ((o_X3_laterByDays p0 p2).bind fun x_4 => (Option.elim x_4 (some none) fun d_4 => some (some d_4))) else ((o_X3_laterByDays p0 ((7 : Int64) * p2)).bind fun x_3 => (Option.elim x_3 (some none) fun d_3 => some (some d_3)))))
theorem kk_X3_moved : pK yX3_moved wsX3_moved cX3_moved 7 (some (.object "DatesoloModel$Date")) 3 := ⟨⟨_, rfl⟩, by decide +kernel, by decide +kernel, by decide +kernel⟩
set_option maxRecDepth 100000 in
set_option maxHeartbeats 4000000 in
theorem k_X3_moved (l : Launch) (k : Kx) (p0 : DT) (p1 : Int32) (p2 : Int64) (q0 : Nat) {r : (Option DT)} (hm : o_X3_moved p0 p1 p2 = some r) : qM l k yX3_moved wsX3_moved 5 132 1 3 [.ref q0, .int p1, .long p2] [(q0, p0)] (rN k r) := by
  refine Met.ofW (cc := cX3_moved) (maxL := 7) (ret := (some (.object "DatesoloModel$Date"))) (by decide) rfl ?_
  intro p e s m args below meth c s₁ B hml hv
  obtain ⟨rfl, hGx, hds⟩ := hv
  have hx := B.exec
  have hb := B.bytes
  have hr := B.returns
  have hts := atoms_spec (ws := wsX3_moved) B.pre
  have hown : s.vm.findClass RX3 = some m.cls := findClass_of_methodNamed B.named
  have hlocks := B.notSynchronized
  have htg : ∀ w ∈ GL, w.before _ s = true := fun w h => hts w (List.mem_cons_of_mem _ h)
  have hC : CallFix p m c cX3_moved 7 s _ wsX3_moved RX3 := ⟨hx, hb, hml, hown, hts⟩
  have hA : ∀ q, s.heap.size ≤ q → nA s.heap.size q := fun _ h => h
  have hAB : ∀ q, nA s.heap.size q → kB k ≤ q := fun q h => Nat.le_trans hGx.2.1 h
  have hS : va_S (nA s.heap.size) s.heap s.heap [] := va_S.rf
  have hP_q0 : dP k q0 p0 s.heap := hds (q0, p0) (List.mem_of_getElem? (i := 0) rfl)
  have hl := lv_entry ([.ref q0, .int p1, .long p2]) (n := 7) (Nat.le_of_ble_eq_true rfl)
  rw [lg_entry_eq]
  generalize (lg_sl ([.ref q0, .int p1, .long p2]) ++ List.replicate (7 - (lg_sl ([.ref q0, .int p1, .long p2])).length) Slot.unset).toArray = ls at hl ⊢
  have hl : lv_has ls 7 [(0, .ref q0), (1, .int p1), (2, .long p2)] := hl
  refine lv_iload_n hx hb dX3_moved_0 rfl (lv_at hl 1 rfl) ?_
  refine lv_iconst (v := 2) hx hb dX3_moved_1 (by decide) ?_
  refine lv_icmp_ge (tgt := 23) hx hb dX3_moved_2 (by decide) (fun h_1 => ?_) (fun h_1 => ?_)
  · have hm := (if_pos h_1).symm.trans hm
    refine lv_iload_n hx hb dX3_moved_23 rfl (lv_at hl 1 rfl) ?_
    refine lv_iconst (v := 2) hx hb dX3_moved_24 (by decide) ?_
    refine lv_icmp_ne (tgt := 32) hx hb dX3_moved_25 (by decide) (fun h_2 => ?_) (fun h_2 => ?_)
    · have hm := (if_neg h_2).symm.trans hm
      refine lv_ldc2 hx hb hown (htg _ w_1043) dX3_moved_32 ?_
      refine lv_lstore (lv' := [(4, .long (12 : Int64)), (0, .ref q0), (1, .int p1), (2, .long p2)]) hx hb dX3_moved_35 hl (by decide) rfl (fun ls hl => ?_)
      refine lv_iconst (v := 3) hx hb dX3_moved_37 (by decide) ?_
      refine lv_istore (lv' := [(6, .int (3 : Int32)), (4, .long (12 : Int64)), (0, .ref q0), (1, .int p1), (2, .long p2)]) hx hb dX3_moved_38 hl (by decide) rfl (fun ls hl => ?_)
      have J40 : ∀ (n : Nat) (x40_4 : Int64) (x40_6 : Int32) (ls : Array Slot) (H : Heap), lv_has ls 7 [(6, .int x40_6), (4, .long x40_4), (0, .ref q0), (1, .int p1), (2, .long p2)] → va_S (nA s.heap.size) s.heap H [] → dP k q0 p0 H → l40_X3_moved p0 p1 p2 n x40_4 x40_6 = some r → W p l e (headSpec wsX3_moved { frames := 5, cells := 1, slots := 3, locals := 132 }).room s m ([.ref q0, .int p1, .long p2] : List Value).toArray below meth c H [] 0 0 (MQ below (qQ (rN k r)) ([.ref q0, .int p1, .long p2] : List Value).toArray s 1 3 (fun _ => False)) (F0 m 40 ls []) := by
        intro n
        induction n with
        | zero => intro x40_4 x40_6 ls H hl hS hP_q0 hm; cases hm
        | succ n ih =>
          intro x40_4 x40_6 ls H hl hS hP_q0 hm
          refine lv_iload hx hb dX3_moved_40 (lv_at hl 0 rfl) ?_
          refine lv_iload_n hx hb dX3_moved_42 rfl (lv_at hl 3 rfl) ?_
          refine lv_icmp_ge (tgt := 60) hx hb dX3_moved_43 (by decide) (fun h_3 => ?_) (fun h_3 => ?_)
          · have hm := (if_pos h_3).symm.trans hm
            refine lv_aload_n hx hb dX3_moved_60 rfl (lv_at hl 2 rfl) ?_
            refine lv_lload hx hb dX3_moved_61 (lv_at hl 1 rfl) ?_
            refine lv_lload_n hx hb dX3_moved_63 rfl (lv_at hl 4 rfl) ?_
            refine lv_lmul hx hb dX3_moved_64 ?_
            obtain ⟨x_1, hx_1, hm⟩ := Option.bind_eq_some_iff.mp hm
            have hs_1 := hS.1
            refine qc_S hC hGx (k_X3_later l k p0 (x40_4 * p2) q0 hx_1) (gS w_1159 w_1160 w_27 w_1161) kk_X3_later (List.forall_mem_cons.mpr ⟨hP_q0, (List.forall_mem_nil _)⟩) ⟨Nat.le_of_ble_eq_true rfl, Nat.le_of_ble_eq_true rfl⟩ ⟨Nat.le_of_ble_eq_true rfl, Nat.le_of_ble_eq_true rfl⟩ hS hA hAB hl.1 rfl rfl (Nat.le_of_ble_eq_true rfl) dX3_moved_65 (fun v_1 H hv hz hq hS => ?_)
            have hP_q0 := hP_q0.up (hq _ hP_q0.lt)
            cases x_1 with
            | none =>
              rw [Option.elim_none] at hm
              have hv : v_1 = some .null := hv
              subst hv
              exact q_nret hx hb hr hlocks (Option.some.inj hm) hS ⟨Nat.le_of_ble_eq_true rfl, Nat.le_of_ble_eq_true rfl⟩ dX3_moved_68
            | some d_1 =>
              rw [Option.elim_some] at hm
              obtain ⟨a_1, rfl, hn_1, hP_1⟩ := hv
              have hn_1 := Nat.le_trans hs_1 hn_1
              exact q_mret hx hb hr hlocks (Option.some.inj hm) hP_1 hn_1 hS ⟨Nat.le_of_ble_eq_true rfl, Nat.le_of_ble_eq_true rfl⟩ dX3_moved_68
          · have hm := (if_neg h_3).symm.trans hm
            refine lv_lload hx hb dX3_moved_46 (lv_at hl 1 rfl) ?_
            refine lv_ldc2 hx hb hown (htg _ w_1158) dX3_moved_48 ?_
            refine lv_lmul hx hb dX3_moved_51 ?_
            refine lv_lstore (lv' := [(4, .long (x40_4 * (10 : Int64))), (6, .int x40_6), (0, .ref q0), (1, .int p1), (2, .long p2)]) hx hb dX3_moved_52 hl (by decide) rfl (fun ls hl => ?_)
            refine lv_iinc (v := x40_6 + 1) (lv' := [(6, .int (x40_6 + 1)), (4, .long (x40_4 * (10 : Int64))), (0, .ref q0), (1, .int p1), (2, .long p2)]) hx hb dX3_moved_54 hl (k := 1) rfl rfl (by decide) rfl (fun ls hl => ?_)
            refine lv_goto (tgt := 40) hx hb dX3_moved_57 (by decide) ?_
            exact ih (x40_4 * (10 : Int64)) (x40_6 + 1) ls _ (lv_sub hl [0, 1, 2, 3, 4] rfl) hS hP_q0 hm
      exact J40 8 (12 : Int64) (3 : Int32) ls _ (lv_sub hl [0, 1, 2, 3, 4] rfl) hS hP_q0 hm
    · have hm := (if_pos h_2).symm.trans hm
      refine lv_lconst (v := 1) hx hb dX3_moved_28 (by decide) ?_
      refine lv_goto (tgt := 35) hx hb dX3_moved_29 (by decide) ?_
      refine lv_lstore (lv' := [(4, .long (1 : Int64)), (0, .ref q0), (1, .int p1), (2, .long p2)]) hx hb dX3_moved_35 hl (by decide) rfl (fun ls hl => ?_)
      refine lv_iconst (v := 3) hx hb dX3_moved_37 (by decide) ?_
      refine lv_istore (lv' := [(6, .int (3 : Int32)), (4, .long (1 : Int64)), (0, .ref q0), (1, .int p1), (2, .long p2)]) hx hb dX3_moved_38 hl (by decide) rfl (fun ls hl => ?_)
      have J40 : ∀ (n : Nat) (x40_4 : Int64) (x40_6 : Int32) (ls : Array Slot) (H : Heap), lv_has ls 7 [(6, .int x40_6), (4, .long x40_4), (0, .ref q0), (1, .int p1), (2, .long p2)] → va_S (nA s.heap.size) s.heap H [] → dP k q0 p0 H → l40_X3_moved p0 p1 p2 n x40_4 x40_6 = some r → W p l e (headSpec wsX3_moved { frames := 5, cells := 1, slots := 3, locals := 132 }).room s m ([.ref q0, .int p1, .long p2] : List Value).toArray below meth c H [] 0 0 (MQ below (qQ (rN k r)) ([.ref q0, .int p1, .long p2] : List Value).toArray s 1 3 (fun _ => False)) (F0 m 40 ls []) := by
        intro n
        induction n with
        | zero => intro x40_4 x40_6 ls H hl hS hP_q0 hm; cases hm
        | succ n ih =>
          intro x40_4 x40_6 ls H hl hS hP_q0 hm
          refine lv_iload hx hb dX3_moved_40 (lv_at hl 0 rfl) ?_
          refine lv_iload_n hx hb dX3_moved_42 rfl (lv_at hl 3 rfl) ?_
          refine lv_icmp_ge (tgt := 60) hx hb dX3_moved_43 (by decide) (fun h_4 => ?_) (fun h_4 => ?_)
          · have hm := (if_pos h_4).symm.trans hm
            refine lv_aload_n hx hb dX3_moved_60 rfl (lv_at hl 2 rfl) ?_
            refine lv_lload hx hb dX3_moved_61 (lv_at hl 1 rfl) ?_
            refine lv_lload_n hx hb dX3_moved_63 rfl (lv_at hl 4 rfl) ?_
            refine lv_lmul hx hb dX3_moved_64 ?_
            obtain ⟨x_2, hx_2, hm⟩ := Option.bind_eq_some_iff.mp hm
            have hs_2 := hS.1
            refine qc_S hC hGx (k_X3_later l k p0 (x40_4 * p2) q0 hx_2) (gS w_1159 w_1160 w_27 w_1161) kk_X3_later (List.forall_mem_cons.mpr ⟨hP_q0, (List.forall_mem_nil _)⟩) ⟨Nat.le_of_ble_eq_true rfl, Nat.le_of_ble_eq_true rfl⟩ ⟨Nat.le_of_ble_eq_true rfl, Nat.le_of_ble_eq_true rfl⟩ hS hA hAB hl.1 rfl rfl (Nat.le_of_ble_eq_true rfl) dX3_moved_65 (fun v_2 H hv hz hq hS => ?_)
            have hP_q0 := hP_q0.up (hq _ hP_q0.lt)
            cases x_2 with
            | none =>
              rw [Option.elim_none] at hm
              have hv : v_2 = some .null := hv
              subst hv
              exact q_nret hx hb hr hlocks (Option.some.inj hm) hS ⟨Nat.le_of_ble_eq_true rfl, Nat.le_of_ble_eq_true rfl⟩ dX3_moved_68
            | some d_2 =>
              rw [Option.elim_some] at hm
              obtain ⟨a_2, rfl, hn_2, hP_2⟩ := hv
              have hn_2 := Nat.le_trans hs_2 hn_2
              exact q_mret hx hb hr hlocks (Option.some.inj hm) hP_2 hn_2 hS ⟨Nat.le_of_ble_eq_true rfl, Nat.le_of_ble_eq_true rfl⟩ dX3_moved_68
          · have hm := (if_neg h_4).symm.trans hm
            refine lv_lload hx hb dX3_moved_46 (lv_at hl 1 rfl) ?_
            refine lv_ldc2 hx hb hown (htg _ w_1158) dX3_moved_48 ?_
            refine lv_lmul hx hb dX3_moved_51 ?_
            refine lv_lstore (lv' := [(4, .long (x40_4 * (10 : Int64))), (6, .int x40_6), (0, .ref q0), (1, .int p1), (2, .long p2)]) hx hb dX3_moved_52 hl (by decide) rfl (fun ls hl => ?_)
            refine lv_iinc (v := x40_6 + 1) (lv' := [(6, .int (x40_6 + 1)), (4, .long (x40_4 * (10 : Int64))), (0, .ref q0), (1, .int p1), (2, .long p2)]) hx hb dX3_moved_54 hl (k := 1) rfl rfl (by decide) rfl (fun ls hl => ?_)
            refine lv_goto (tgt := 40) hx hb dX3_moved_57 (by decide) ?_
            exact ih (x40_4 * (10 : Int64)) (x40_6 + 1) ls _ (lv_sub hl [0, 1, 2, 3, 4] rfl) hS hP_q0 hm
      exact J40 8 (1 : Int64) (3 : Int32) ls _ (lv_sub hl [0, 1, 2, 3, 4] rfl) hS hP_q0 hm
  · have hm := (if_neg h_1).symm.trans hm
    refine lv_aload_n hx hb dX3_moved_5 rfl (lv_at hl 0 rfl) ?_
    refine lv_iload_n hx hb dX3_moved_6 rfl (lv_at hl 1 rfl) ?_
    refine lv_if_ne (tgt := 14) hx hb dX3_moved_7 (by decide) (fun h_5 => ?_) (fun h_5 => ?_)
    · have hm := (if_neg h_5).symm.trans hm
      refine lv_ldc2 hx hb hown (htg _ w_1152) dX3_moved_14 ?_
      refine lv_lload_n hx hb dX3_moved_17 rfl (lv_at hl 2 rfl) ?_
      refine lv_lmul hx hb dX3_moved_18 ?_
      obtain ⟨x_3, hx_3, hm⟩ := Option.bind_eq_some_iff.mp hm
      have hs_3 := hS.1
      refine qc_S hC hGx (k_X3_laterByDays l k p0 ((7 : Int64) * p2) q0 hx_3) (gS w_1153 w_1154 w_27 w_1155) kk_X3_laterByDays (List.forall_mem_cons.mpr ⟨hP_q0, (List.forall_mem_nil _)⟩) ⟨Nat.le_of_ble_eq_true rfl, Nat.le_of_ble_eq_true rfl⟩ ⟨Nat.le_of_ble_eq_true rfl, Nat.le_of_ble_eq_true rfl⟩ hS hA hAB hl.1 rfl rfl (Nat.le_of_ble_eq_true rfl) dX3_moved_19 (fun v_3 H hv hz hq hS => ?_)
      have hP_q0 := hP_q0.up (hq _ hP_q0.lt)
      cases x_3 with
      | none =>
        rw [Option.elim_none] at hm
        have hv : v_3 = some .null := hv
        subst hv
        exact q_nret hx hb hr hlocks (Option.some.inj hm) hS ⟨Nat.le_of_ble_eq_true rfl, Nat.le_of_ble_eq_true rfl⟩ dX3_moved_22
      | some d_3 =>
        rw [Option.elim_some] at hm
        obtain ⟨a_3, rfl, hn_3, hP_3⟩ := hv
        have hn_3 := Nat.le_trans hs_3 hn_3
        exact q_mret hx hb hr hlocks (Option.some.inj hm) hP_3 hn_3 hS ⟨Nat.le_of_ble_eq_true rfl, Nat.le_of_ble_eq_true rfl⟩ dX3_moved_22
    · have hm := (if_pos h_5).symm.trans hm
      refine lv_lload_n hx hb dX3_moved_10 rfl (lv_at hl 2 rfl) ?_
      refine lv_goto (tgt := 19) hx hb dX3_moved_11 (by decide) ?_
      obtain ⟨x_4, hx_4, hm⟩ := Option.bind_eq_some_iff.mp hm
      have hs_4 := hS.1
      refine qc_S hC hGx (k_X3_laterByDays l k p0 p2 q0 hx_4) (gS w_1153 w_1154 w_27 w_1155) kk_X3_laterByDays (List.forall_mem_cons.mpr ⟨hP_q0, (List.forall_mem_nil _)⟩) ⟨Nat.le_of_ble_eq_true rfl, Nat.le_of_ble_eq_true rfl⟩ ⟨Nat.le_of_ble_eq_true rfl, Nat.le_of_ble_eq_true rfl⟩ hS hA hAB hl.1 rfl rfl (Nat.le_of_ble_eq_true rfl) dX3_moved_19 (fun v_4 H hv hz hq hS => ?_)
      have hP_q0 := hP_q0.up (hq _ hP_q0.lt)
      cases x_4 with
      | none =>
        rw [Option.elim_none] at hm
        have hv : v_4 = some .null := hv
        subst hv
        exact q_nret hx hb hr hlocks (Option.some.inj hm) hS ⟨Nat.le_of_ble_eq_true rfl, Nat.le_of_ble_eq_true rfl⟩ dX3_moved_22
      | some d_4 =>
        rw [Option.elim_some] at hm
        obtain ⟨a_4, rfl, hn_4, hP_4⟩ := hv
        have hn_4 := Nat.le_trans hs_4 hn_4
        exact q_mret hx hb hr hlocks (Option.some.inj hm) hP_4 hn_4 hS ⟨Nat.le_of_ble_eq_true rfl, Nat.le_of_ble_eq_true rfl⟩ dX3_moved_22
def o_X3_monthsOf (p0 : DT) (p1 : DT) : Option Int32 := (if p0.2.2 ≤ p1.2.2 then some (((((12 : Int32) * (p1.1 - p0.1)) + p1.2.1) - p0.2.1) - (m_X3_one (0 : Int32))) else some (((((12 : Int32) * (p1.1 - p0.1)) + p1.2.1) - p0.2.1) - (m_X3_one (1 : Int32))))
theorem kk_X3_monthsOf : pK yX3_monthsOf wsX3_monthsOf cX3_monthsOf 2 (some .int) 2 := ⟨⟨_, rfl⟩, by decide +kernel, by decide +kernel, by decide +kernel⟩
set_option maxRecDepth 100000 in
set_option maxHeartbeats 4000000 in
theorem k_X3_monthsOf (l : Launch) (k : Kx) (p0 : DT) (p1 : DT) (q0 : Nat) (q1 : Nat) {r : Int32} (hm : o_X3_monthsOf p0 p1 = some r) : qM l k yX3_monthsOf wsX3_monthsOf 1 20 0 0 [.ref q0, .ref q1] [(q0, p0), (q1, p1)] (rI r) := by
  refine Met.ofW (cc := cX3_monthsOf) (maxL := 2) (ret := (some .int)) (by decide) rfl ?_
  intro p e s m args below meth c s₁ B hml hv
  obtain ⟨rfl, hGx, hds⟩ := hv
  have hx := B.exec
  have hb := B.bytes
  have hr := B.returns
  have hts := atoms_spec (ws := wsX3_monthsOf) B.pre
  have hown : s.vm.findClass RX3 = some m.cls := findClass_of_methodNamed B.named
  have hlocks := B.notSynchronized
  have htg : ∀ w ∈ GL, w.before _ s = true := fun w h => hts w (List.mem_cons_of_mem _ h)
  have hC : CallFix p m c cX3_monthsOf 2 s _ wsX3_monthsOf RX3 := ⟨hx, hb, hml, hown, hts⟩
  have hA : ∀ q, s.heap.size ≤ q → nA s.heap.size q := fun _ h => h
  have hAB : ∀ q, nA s.heap.size q → kB k ≤ q := fun q h => Nat.le_trans hGx.2.1 h
  have hS : va_S (nA s.heap.size) s.heap s.heap [] := va_S.rf
  have hP_q0 : dP k q0 p0 s.heap := hds (q0, p0) (List.mem_of_getElem? (i := 0) rfl)
  have hP_q1 : dP k q1 p1 s.heap := hds (q1, p1) (List.mem_of_getElem? (i := 1) rfl)
  have hl := lv_entry ([.ref q0, .ref q1]) (n := 2) (Nat.le_of_ble_eq_true rfl)
  rw [lg_entry_eq]
  generalize (lg_sl ([.ref q0, .ref q1]) ++ List.replicate (2 - (lg_sl ([.ref q0, .ref q1])).length) Slot.unset).toArray = ls at hl ⊢
  have hl : lv_has ls 2 [(0, .ref q0), (1, .ref q1)] := hl
  refine lv_bipush (v := 12) hx hb dX3_monthsOf_0 (by decide) ?_
  refine lv_aload_n hx hb dX3_monthsOf_2 rfl (lv_at hl 1 rfl) ?_
  refine va_get (D := kD k) (ci := 4) (v := .int p1.1) (C := RX2) (T := TX2) (N := 3) hx hb htg inG_X2 hown hGx.1 hP_q1 0 rfl rfl 0 (by decide) (htg _ w_999) (fun _ h9 => h9) rfl dX3_monthsOf_3 ?_
  refine lv_aload_n hx hb dX3_monthsOf_6 rfl (lv_at hl 0 rfl) ?_
  refine va_get (D := kD k) (ci := 4) (v := .int p0.1) (C := RX2) (T := TX2) (N := 3) hx hb htg inG_X2 hown hGx.1 hP_q0 0 rfl rfl 0 (by decide) (htg _ w_999) (fun _ h9 => h9) rfl dX3_monthsOf_7 ?_
  refine lv_isub hx hb dX3_monthsOf_10 ?_
  refine lv_imul hx hb dX3_monthsOf_11 ?_
  refine lv_aload_n hx hb dX3_monthsOf_12 rfl (lv_at hl 1 rfl) ?_
  refine va_get (D := kD k) (ci := 4) (v := .int p1.2.1) (C := RX2) (T := TX2) (N := 3) hx hb htg inG_X2 hown hGx.1 hP_q1 0 rfl rfl 1 (by decide) (htg _ w_1001) (fun _ h9 => h9) rfl dX3_monthsOf_13 ?_
  refine lv_iadd hx hb dX3_monthsOf_16 ?_
  refine lv_aload_n hx hb dX3_monthsOf_17 rfl (lv_at hl 0 rfl) ?_
  refine va_get (D := kD k) (ci := 4) (v := .int p0.2.1) (C := RX2) (T := TX2) (N := 3) hx hb htg inG_X2 hown hGx.1 hP_q0 0 rfl rfl 1 (by decide) (htg _ w_1001) (fun _ h9 => h9) rfl dX3_monthsOf_18 ?_
  refine lv_isub hx hb dX3_monthsOf_21 ?_
  refine lv_aload_n hx hb dX3_monthsOf_22 rfl (lv_at hl 1 rfl) ?_
  refine va_get (D := kD k) (ci := 4) (v := .int p1.2.2) (C := RX2) (T := TX2) (N := 3) hx hb htg inG_X2 hown hGx.1 hP_q1 0 rfl rfl 2 (by decide) (htg _ w_1003) (fun _ h9 => h9) rfl dX3_monthsOf_23 ?_
  refine lv_aload_n hx hb dX3_monthsOf_26 rfl (lv_at hl 0 rfl) ?_
  refine va_get (D := kD k) (ci := 4) (v := .int p0.2.2) (C := RX2) (T := TX2) (N := 3) hx hb htg inG_X2 hown hGx.1 hP_q0 0 rfl rfl 2 (by decide) (htg _ w_1003) (fun _ h9 => h9) rfl dX3_monthsOf_27 ?_
  refine lv_icmp_ge (tgt := 37) hx hb dX3_monthsOf_30 (by decide) (fun h_1 => ?_) (fun h_1 => ?_)
  · have hm := (if_pos h_1).symm.trans hm
    refine lv_iconst (v := 0) hx hb dX3_monthsOf_37 (by decide) ?_
    refine pc_S hC (c_X3_one l (0 : Int32)) (gS w_1218 w_1219 w_27 w_1220) kk_X3_one ⟨Nat.le_of_ble_eq_true rfl, Nat.le_of_ble_eq_true rfl⟩ ⟨Nat.le_of_ble_eq_true rfl, Nat.le_of_ble_eq_true rfl⟩ hl.1 rfl rfl (Nat.le_of_ble_eq_true rfl) dX3_monthsOf_38 ?_
    refine lv_isub hx hb dX3_monthsOf_41 ?_
    exact q_iret hx hb hr hlocks (Option.some.inj hm) hS ⟨Nat.le_of_ble_eq_true rfl, Nat.le_of_ble_eq_true rfl⟩ dX3_monthsOf_42
  · have hm := (if_neg h_1).symm.trans hm
    refine lv_iconst (v := 1) hx hb dX3_monthsOf_33 (by decide) ?_
    refine lv_goto (tgt := 38) hx hb dX3_monthsOf_34 (by decide) ?_
    refine pc_S hC (c_X3_one l (1 : Int32)) (gS w_1218 w_1219 w_27 w_1220) kk_X3_one ⟨Nat.le_of_ble_eq_true rfl, Nat.le_of_ble_eq_true rfl⟩ ⟨Nat.le_of_ble_eq_true rfl, Nat.le_of_ble_eq_true rfl⟩ hl.1 rfl rfl (Nat.le_of_ble_eq_true rfl) dX3_monthsOf_38 ?_
    refine lv_isub hx hb dX3_monthsOf_41 ?_
    exact q_iret hx hb hr hlocks (Option.some.inj hm) hS ⟨Nat.le_of_ble_eq_true rfl, Nat.le_of_ble_eq_true rfl⟩ dX3_monthsOf_42
def o_X3_daysOf (p0 : DT) (p1 : DT) : Option Int32 := ((o_X2_number p1).bind fun x_1 => ((o_X3_monthsOf p0 p1).bind fun x_2 => ((o_X3_later p0 x_2.toInt64).bind fun x_3 => (Option.elim x_3 (none) fun d_3 => ((o_X2_number d_3).bind fun x_4 => some (x_1 - x_4))))))
theorem kk_X3_daysOf : pK yX3_daysOf wsX3_daysOf cX3_daysOf 2 (some .int) 2 := ⟨⟨_, rfl⟩, by decide +kernel, by decide +kernel, by decide +kernel⟩
set_option maxRecDepth 100000 in
set_option maxHeartbeats 4000000 in
theorem k_X3_daysOf (l : Launch) (k : Kx) (p0 : DT) (p1 : DT) (q0 : Nat) (q1 : Nat) {r : Int32} (hm : o_X3_daysOf p0 p1 = some r) : qM l k yX3_daysOf wsX3_daysOf 4 112 1 3 [.ref q0, .ref q1] [(q0, p0), (q1, p1)] (rI r) := by
  refine Met.ofW (cc := cX3_daysOf) (maxL := 2) (ret := (some .int)) (by decide) rfl ?_
  intro p e s m args below meth c s₁ B hml hv
  obtain ⟨rfl, hGx, hds⟩ := hv
  have hx := B.exec
  have hb := B.bytes
  have hr := B.returns
  have hts := atoms_spec (ws := wsX3_daysOf) B.pre
  have hown : s.vm.findClass RX3 = some m.cls := findClass_of_methodNamed B.named
  have hlocks := B.notSynchronized
  have htg : ∀ w ∈ GL, w.before _ s = true := fun w h => hts w (List.mem_cons_of_mem _ h)
  have hC : CallFix p m c cX3_daysOf 2 s _ wsX3_daysOf RX3 := ⟨hx, hb, hml, hown, hts⟩
  have hA : ∀ q, s.heap.size ≤ q → nA s.heap.size q := fun _ h => h
  have hAB : ∀ q, nA s.heap.size q → kB k ≤ q := fun q h => Nat.le_trans hGx.2.1 h
  have hS : va_S (nA s.heap.size) s.heap s.heap [] := va_S.rf
  have hP_q0 : dP k q0 p0 s.heap := hds (q0, p0) (List.mem_of_getElem? (i := 0) rfl)
  have hP_q1 : dP k q1 p1 s.heap := hds (q1, p1) (List.mem_of_getElem? (i := 1) rfl)
  have hl := lv_entry ([.ref q0, .ref q1]) (n := 2) (Nat.le_of_ble_eq_true rfl)
  rw [lg_entry_eq]
  generalize (lg_sl ([.ref q0, .ref q1]) ++ List.replicate (2 - (lg_sl ([.ref q0, .ref q1])).length) Slot.unset).toArray = ls at hl ⊢
  have hl : lv_has ls 2 [(0, .ref q0), (1, .ref q1)] := hl
  refine lv_aload_n hx hb dX3_daysOf_0 rfl (lv_at hl 1 rfl) ?_
  obtain ⟨x_1, hx_1, hm⟩ := Option.bind_eq_some_iff.mp hm
  have hs_1 := hS.1
  refine qc_V hC hGx (k_X2_number l k p1 q1 hx_1) (gV w_1062 w_1063 w_1064 w_28 w_1065) kk_X2_number rfl hP_q1 (List.forall_mem_cons.mpr ⟨hP_q1, (List.forall_mem_nil _)⟩) ⟨Nat.le_of_ble_eq_true rfl, Nat.le_of_ble_eq_true rfl⟩ ⟨Nat.le_of_ble_eq_true rfl, Nat.le_of_ble_eq_true rfl⟩ hS hA hAB hl.1 rfl rfl (Nat.le_of_ble_eq_true rfl) dX3_daysOf_1 (fun v_1 H hv hz hq hS => ?_)
  have hP_q0 := hP_q0.up (hq _ hP_q0.lt)
  have hP_q1 := hP_q1.up (hq _ hP_q1.lt)
  have hv : v_1 = some (.int x_1) := hv
  subst hv
  refine lv_aload_n hx hb dX3_daysOf_4 rfl (lv_at hl 0 rfl) ?_
  refine lv_aload_n hx hb dX3_daysOf_5 rfl (lv_at hl 0 rfl) ?_
  refine lv_aload_n hx hb dX3_daysOf_6 rfl (lv_at hl 1 rfl) ?_
  obtain ⟨x_2, hx_2, hm⟩ := Option.bind_eq_some_iff.mp hm
  have hs_2 := hS.1
  refine qc_S hC hGx (k_X3_monthsOf l k p0 p1 q0 q1 hx_2) (gS w_1215 w_1216 w_27 w_1217) kk_X3_monthsOf (List.forall_mem_cons.mpr ⟨hP_q0, (List.forall_mem_cons.mpr ⟨hP_q1, (List.forall_mem_nil _)⟩)⟩) ⟨Nat.le_of_ble_eq_true rfl, Nat.le_of_ble_eq_true rfl⟩ ⟨Nat.le_of_ble_eq_true rfl, Nat.le_of_ble_eq_true rfl⟩ hS hA hAB hl.1 rfl rfl (Nat.le_of_ble_eq_true rfl) dX3_daysOf_7 (fun v_2 H hv hz hq hS => ?_)
  have hP_q0 := hP_q0.up (hq _ hP_q0.lt)
  have hP_q1 := hP_q1.up (hq _ hP_q1.lt)
  have hv : v_2 = some (.int x_2) := hv
  subst hv
  refine lv_i2l hx hb dX3_daysOf_10 rfl ?_
  obtain ⟨x_3, hx_3, hm⟩ := Option.bind_eq_some_iff.mp hm
  have hs_3 := hS.1
  refine qc_S hC hGx (k_X3_later l k p0 x_2.toInt64 q0 hx_3) (gS w_1159 w_1160 w_27 w_1161) kk_X3_later (List.forall_mem_cons.mpr ⟨hP_q0, (List.forall_mem_nil _)⟩) ⟨Nat.le_of_ble_eq_true rfl, Nat.le_of_ble_eq_true rfl⟩ ⟨Nat.le_of_ble_eq_true rfl, Nat.le_of_ble_eq_true rfl⟩ hS hA hAB hl.1 rfl rfl (Nat.le_of_ble_eq_true rfl) dX3_daysOf_11 (fun v_3 H hv hz hq hS => ?_)
  have hP_q0 := hP_q0.up (hq _ hP_q0.lt)
  have hP_q1 := hP_q1.up (hq _ hP_q1.lt)
  cases x_3 with
  | none =>
    rw [Option.elim_none] at hm
    have hv : v_3 = some .null := hv
    subst hv
    cases hm
  | some d_3 =>
    rw [Option.elim_some] at hm
    obtain ⟨a_3, rfl, hn_3, hP_3⟩ := hv
    have hn_3 := Nat.le_trans hs_3 hn_3
    obtain ⟨x_4, hx_4, hm⟩ := Option.bind_eq_some_iff.mp hm
    have hs_4 := hS.1
    refine qc_V hC hGx (k_X2_number l k d_3 a_3 hx_4) (gV w_1062 w_1063 w_1064 w_28 w_1065) kk_X2_number rfl hP_3 (List.forall_mem_cons.mpr ⟨hP_3, (List.forall_mem_nil _)⟩) ⟨Nat.le_of_ble_eq_true rfl, Nat.le_of_ble_eq_true rfl⟩ ⟨Nat.le_of_ble_eq_true rfl, Nat.le_of_ble_eq_true rfl⟩ hS hA hAB hl.1 rfl rfl (Nat.le_of_ble_eq_true rfl) dX3_daysOf_14 (fun v_4 H hv hz hq hS => ?_)
    have hP_q0 := hP_q0.up (hq _ hP_q0.lt)
    have hP_q1 := hP_q1.up (hq _ hP_q1.lt)
    have hv : v_4 = some (.int x_4) := hv
    subst hv
    refine lv_isub hx hb dX3_daysOf_17 ?_
    exact q_iret hx hb hr hlocks (Option.some.inj hm) hS ⟨Nat.le_of_ble_eq_true rfl, Nat.le_of_ble_eq_true rfl⟩ dX3_daysOf_18
def o_X3_fieldOf (p0 : DT) (p1 : Int32) : Option Int32 := (if (2 : Int32) ≤ p1 then ((o_X2_inYear p0).bind fun x_1 => (if (4 : Int32) ≤ p1 then (if p0.1 ≤ 0 then (if p1 = (5 : Int32) then some (m_X3_one (0 : Int32)) else some ((1 : Int32) - p0.1)) else (if p1 = (5 : Int32) then some (m_X3_one (1 : Int32)) else some (p0.1))) else (if p1 - p1 / (2 : Int32) * (2 : Int32) = 0 then some (((x_1 - (1 : Int32)) - (x_1 - (1 : Int32)) / (7 : Int32) * (7 : Int32)) + (1 : Int32)) else some (((x_1 - (1 : Int32)) / (7 : Int32)) + (1 : Int32))))) else (if (4 : Int32) ≤ p1 then (if p0.1 ≤ 0 then (if p1 = (5 : Int32) then some (m_X3_one (0 : Int32)) else some ((1 : Int32) - p0.1)) else (if p1 = (5 : Int32) then some (m_X3_one (1 : Int32)) else some (p0.1))) else (if p1 - p1 / (2 : Int32) * (2 : Int32) = 0 then some (((p0.2.2 - (1 : Int32)) - (p0.2.2 - (1 : Int32)) / (7 : Int32) * (7 : Int32)) + (1 : Int32)) else some (((p0.2.2 - (1 : Int32)) / (7 : Int32)) + (1 : Int32)))))
theorem kk_X3_fieldOf : pK yX3_fieldOf wsX3_fieldOf cX3_fieldOf 4 (some .int) 2 := ⟨⟨_, rfl⟩, by decide +kernel, by decide +kernel, by decide +kernel⟩
set_option maxRecDepth 100000 in
set_option maxHeartbeats 4000000 in
theorem k_X3_fieldOf (l : Launch) (k : Kx) (p0 : DT) (p1 : Int32) (q0 : Nat) {r : Int32} (hm : o_X3_fieldOf p0 p1 = some r) : qM l k yX3_fieldOf wsX3_fieldOf 3 63 0 0 [.ref q0, .int p1] [(q0, p0)] (rI r) := by
  refine Met.ofW (cc := cX3_fieldOf) (maxL := 4) (ret := (some .int)) (by decide) rfl ?_
  intro p e s m args below meth c s₁ B hml hv
  obtain ⟨rfl, hGx, hds⟩ := hv
  have hx := B.exec
  have hb := B.bytes
  have hr := B.returns
  have hts := atoms_spec (ws := wsX3_fieldOf) B.pre
  have hown : s.vm.findClass RX3 = some m.cls := findClass_of_methodNamed B.named
  have hlocks := B.notSynchronized
  have htg : ∀ w ∈ GL, w.before _ s = true := fun w h => hts w (List.mem_cons_of_mem _ h)
  have hC : CallFix p m c cX3_fieldOf 4 s _ wsX3_fieldOf RX3 := ⟨hx, hb, hml, hown, hts⟩
  have hA : ∀ q, s.heap.size ≤ q → nA s.heap.size q := fun _ h => h
  have hAB : ∀ q, nA s.heap.size q → kB k ≤ q := fun q h => Nat.le_trans hGx.2.1 h
  have hS : va_S (nA s.heap.size) s.heap s.heap [] := va_S.rf
  have hP_q0 : dP k q0 p0 s.heap := hds (q0, p0) (List.mem_of_getElem? (i := 0) rfl)
  have hl := lv_entry ([.ref q0, .int p1]) (n := 4) (Nat.le_of_ble_eq_true rfl)
  rw [lg_entry_eq]
  generalize (lg_sl ([.ref q0, .int p1]) ++ List.replicate (4 - (lg_sl ([.ref q0, .int p1])).length) Slot.unset).toArray = ls at hl ⊢
  have hl : lv_has ls 4 [(0, .ref q0), (1, .int p1)] := hl
  refine lv_iload_n hx hb dX3_fieldOf_0 rfl (lv_at hl 1 rfl) ?_
  refine lv_iconst (v := 2) hx hb dX3_fieldOf_1 (by decide) ?_
  refine lv_icmp_ge (tgt := 12) hx hb dX3_fieldOf_2 (by decide) (fun h_1 => ?_) (fun h_1 => ?_)
  · have hm := (if_pos h_1).symm.trans hm
    refine lv_aload_n hx hb dX3_fieldOf_12 rfl (lv_at hl 0 rfl) ?_
    obtain ⟨x_1, hx_1, hm⟩ := Option.bind_eq_some_iff.mp hm
    have hs_1 := hS.1
    refine qc_V hC hGx (k_X2_inYear l k p0 q0 hx_1) (gV w_1260 w_1074 w_1075 w_28 w_1076) kk_X2_inYear rfl hP_q0 (List.forall_mem_cons.mpr ⟨hP_q0, (List.forall_mem_nil _)⟩) ⟨Nat.le_of_ble_eq_true rfl, Nat.le_of_ble_eq_true rfl⟩ ⟨Nat.le_of_ble_eq_true rfl, Nat.le_of_ble_eq_true rfl⟩ hS hA hAB hl.1 rfl rfl (Nat.le_of_ble_eq_true rfl) dX3_fieldOf_13 (fun v_1 H hv hz hq hS => ?_)
    have hP_q0 := hP_q0.up (hq _ hP_q0.lt)
    have hv : v_1 = some (.int x_1) := hv
    subst hv
    refine lv_istore_n (lv' := [(2, .int x_1), (0, .ref q0), (1, .int p1)]) hx hb dX3_fieldOf_16 rfl hl (by decide) rfl (fun ls hl => ?_)
    refine lv_iload_n hx hb dX3_fieldOf_17 rfl (lv_at hl 2 rfl) ?_
    refine lv_iconst (v := 4) hx hb dX3_fieldOf_18 (by decide) ?_
    refine lv_icmp_ge (tgt := 48) hx hb dX3_fieldOf_19 (by decide) (fun h_2 => ?_) (fun h_2 => ?_)
    · have hm := (if_pos h_2).symm.trans hm
      refine lv_aload_n hx hb dX3_fieldOf_48 rfl (lv_at hl 1 rfl) ?_
      refine va_get (D := kD k) (ci := 4) (v := .int p0.1) (C := RX2) (T := TX2) (N := 3) hx hb htg inG_X2 hown hGx.1 hP_q0 0 rfl rfl 0 (by decide) (htg _ w_999) (fun _ h9 => h9) rfl dX3_fieldOf_49 ?_
      refine lv_if_le (tgt := 59) hx hb dX3_fieldOf_52 (by decide) (fun h_3 => ?_) (fun h_3 => ?_)
      · have hm := (if_pos h_3).symm.trans hm
        refine lv_iconst (v := 0) hx hb dX3_fieldOf_59 (by decide) ?_
        refine lv_istore_n (lv' := [(3, .int (0 : Int32)), (2, .int x_1), (0, .ref q0), (1, .int p1)]) hx hb dX3_fieldOf_60 rfl hl (by decide) rfl (fun ls hl => ?_)
        refine lv_iload_n hx hb dX3_fieldOf_61 rfl (lv_at hl 3 rfl) ?_
        refine lv_iconst (v := 5) hx hb dX3_fieldOf_62 (by decide) ?_
        refine lv_icmp_ne (tgt := 73) hx hb dX3_fieldOf_63 (by decide) (fun h_4 => ?_) (fun h_4 => ?_)
        · have hm := (if_neg h_4).symm.trans hm
          refine lv_iload_n hx hb dX3_fieldOf_73 rfl (lv_at hl 0 rfl) ?_
          refine lv_if_eq (tgt := 84) hx hb dX3_fieldOf_74 (by decide) (fun _ => ?_) (fun h => absurd h (by decide))
          refine lv_iconst (v := 1) hx hb dX3_fieldOf_84 (by decide) ?_
          refine lv_aload_n hx hb dX3_fieldOf_85 rfl (lv_at hl 2 rfl) ?_
          refine va_get (D := kD k) (ci := 4) (v := .int p0.1) (C := RX2) (T := TX2) (N := 3) hx hb htg inG_X2 hown hGx.1 hP_q0 0 rfl rfl 0 (by decide) (htg _ w_999) (fun _ h9 => h9) rfl dX3_fieldOf_86 ?_
          refine lv_isub hx hb dX3_fieldOf_89 ?_
          exact q_iret hx hb hr hlocks (Option.some.inj hm) hS ⟨Nat.le_of_ble_eq_true rfl, Nat.le_of_ble_eq_true rfl⟩ dX3_fieldOf_90
        · have hm := (if_pos h_4).symm.trans hm
          refine lv_iload_n hx hb dX3_fieldOf_66 rfl (lv_at hl 0 rfl) ?_
          refine pc_S hC (c_X3_one l (0 : Int32)) (gS w_1218 w_1219 w_27 w_1220) kk_X3_one ⟨Nat.le_of_ble_eq_true rfl, Nat.le_of_ble_eq_true rfl⟩ ⟨Nat.le_of_ble_eq_true rfl, Nat.le_of_ble_eq_true rfl⟩ hl.1 rfl rfl (Nat.le_of_ble_eq_true rfl) dX3_fieldOf_67 ?_
          refine lv_goto (tgt := 90) hx hb dX3_fieldOf_70 (by decide) ?_
          exact q_iret hx hb hr hlocks (Option.some.inj hm) hS ⟨Nat.le_of_ble_eq_true rfl, Nat.le_of_ble_eq_true rfl⟩ dX3_fieldOf_90
      · have hm := (if_neg h_3).symm.trans hm
        refine lv_iconst (v := 1) hx hb dX3_fieldOf_55 (by decide) ?_
        refine lv_goto (tgt := 60) hx hb dX3_fieldOf_56 (by decide) ?_
        refine lv_istore_n (lv' := [(3, .int (1 : Int32)), (2, .int x_1), (0, .ref q0), (1, .int p1)]) hx hb dX3_fieldOf_60 rfl hl (by decide) rfl (fun ls hl => ?_)
        refine lv_iload_n hx hb dX3_fieldOf_61 rfl (lv_at hl 3 rfl) ?_
        refine lv_iconst (v := 5) hx hb dX3_fieldOf_62 (by decide) ?_
        refine lv_icmp_ne (tgt := 73) hx hb dX3_fieldOf_63 (by decide) (fun h_5 => ?_) (fun h_5 => ?_)
        · have hm := (if_neg h_5).symm.trans hm
          refine lv_iload_n hx hb dX3_fieldOf_73 rfl (lv_at hl 0 rfl) ?_
          refine lv_if_eq (tgt := 84) hx hb dX3_fieldOf_74 (by decide) (fun h => absurd h (by decide)) (fun _ => ?_)
          refine lv_aload_n hx hb dX3_fieldOf_77 rfl (lv_at hl 2 rfl) ?_
          refine va_get (D := kD k) (ci := 4) (v := .int p0.1) (C := RX2) (T := TX2) (N := 3) hx hb htg inG_X2 hown hGx.1 hP_q0 0 rfl rfl 0 (by decide) (htg _ w_999) (fun _ h9 => h9) rfl dX3_fieldOf_78 ?_
          refine lv_goto (tgt := 90) hx hb dX3_fieldOf_81 (by decide) ?_
          exact q_iret hx hb hr hlocks (Option.some.inj hm) hS ⟨Nat.le_of_ble_eq_true rfl, Nat.le_of_ble_eq_true rfl⟩ dX3_fieldOf_90
        · have hm := (if_pos h_5).symm.trans hm
          refine lv_iload_n hx hb dX3_fieldOf_66 rfl (lv_at hl 0 rfl) ?_
          refine pc_S hC (c_X3_one l (1 : Int32)) (gS w_1218 w_1219 w_27 w_1220) kk_X3_one ⟨Nat.le_of_ble_eq_true rfl, Nat.le_of_ble_eq_true rfl⟩ ⟨Nat.le_of_ble_eq_true rfl, Nat.le_of_ble_eq_true rfl⟩ hl.1 rfl rfl (Nat.le_of_ble_eq_true rfl) dX3_fieldOf_67 ?_
          refine lv_goto (tgt := 90) hx hb dX3_fieldOf_70 (by decide) ?_
          exact q_iret hx hb hr hlocks (Option.some.inj hm) hS ⟨Nat.le_of_ble_eq_true rfl, Nat.le_of_ble_eq_true rfl⟩ dX3_fieldOf_90
    · have hm := (if_neg h_2).symm.trans hm
      refine lv_iload_n hx hb dX3_fieldOf_22 rfl (lv_at hl 2 rfl) ?_
      refine lv_iconst (v := 2) hx hb dX3_fieldOf_23 (by decide) ?_
      refine lv_irem hx hb dX3_fieldOf_24 (by decide) ?_
      refine lv_if_ne (tgt := 39) hx hb dX3_fieldOf_25 (by decide) (fun h_6 => ?_) (fun h_6 => ?_)
      · have hm := (if_neg h_6).symm.trans hm
        refine lv_iload_n hx hb dX3_fieldOf_39 rfl (lv_at hl 0 rfl) ?_
        refine lv_iconst (v := 1) hx hb dX3_fieldOf_40 (by decide) ?_
        refine lv_isub hx hb dX3_fieldOf_41 ?_
        refine lv_bipush (v := 7) hx hb dX3_fieldOf_42 (by decide) ?_
        refine lv_idiv hx hb dX3_fieldOf_44 (by decide) ?_
        refine lv_iconst (v := 1) hx hb dX3_fieldOf_45 (by decide) ?_
        refine lv_iadd hx hb dX3_fieldOf_46 ?_
        exact q_iret hx hb hr hlocks (Option.some.inj hm) hS ⟨Nat.le_of_ble_eq_true rfl, Nat.le_of_ble_eq_true rfl⟩ dX3_fieldOf_47
      · have hm := (if_pos h_6).symm.trans hm
        refine lv_iload_n hx hb dX3_fieldOf_28 rfl (lv_at hl 0 rfl) ?_
        refine lv_iconst (v := 1) hx hb dX3_fieldOf_29 (by decide) ?_
        refine lv_isub hx hb dX3_fieldOf_30 ?_
        refine lv_bipush (v := 7) hx hb dX3_fieldOf_31 (by decide) ?_
        refine lv_irem hx hb dX3_fieldOf_33 (by decide) ?_
        refine lv_iconst (v := 1) hx hb dX3_fieldOf_34 (by decide) ?_
        refine lv_iadd hx hb dX3_fieldOf_35 ?_
        refine lv_goto (tgt := 47) hx hb dX3_fieldOf_36 (by decide) ?_
        exact q_iret hx hb hr hlocks (Option.some.inj hm) hS ⟨Nat.le_of_ble_eq_true rfl, Nat.le_of_ble_eq_true rfl⟩ dX3_fieldOf_47
  · have hm := (if_neg h_1).symm.trans hm
    refine lv_aload_n hx hb dX3_fieldOf_5 rfl (lv_at hl 0 rfl) ?_
    refine va_get (D := kD k) (ci := 4) (v := .int p0.2.2) (C := RX2) (T := TX2) (N := 3) hx hb htg inG_X2 hown hGx.1 hP_q0 0 rfl rfl 2 (by decide) (htg _ w_1003) (fun _ h9 => h9) rfl dX3_fieldOf_6 ?_
    refine lv_goto (tgt := 16) hx hb dX3_fieldOf_9 (by decide) ?_
    refine lv_istore_n (lv' := [(2, .int p0.2.2), (0, .ref q0), (1, .int p1)]) hx hb dX3_fieldOf_16 rfl hl (by decide) rfl (fun ls hl => ?_)
    refine lv_iload_n hx hb dX3_fieldOf_17 rfl (lv_at hl 2 rfl) ?_
    refine lv_iconst (v := 4) hx hb dX3_fieldOf_18 (by decide) ?_
    refine lv_icmp_ge (tgt := 48) hx hb dX3_fieldOf_19 (by decide) (fun h_7 => ?_) (fun h_7 => ?_)
    · have hm := (if_pos h_7).symm.trans hm
      refine lv_aload_n hx hb dX3_fieldOf_48 rfl (lv_at hl 1 rfl) ?_
      refine va_get (D := kD k) (ci := 4) (v := .int p0.1) (C := RX2) (T := TX2) (N := 3) hx hb htg inG_X2 hown hGx.1 hP_q0 0 rfl rfl 0 (by decide) (htg _ w_999) (fun _ h9 => h9) rfl dX3_fieldOf_49 ?_
      refine lv_if_le (tgt := 59) hx hb dX3_fieldOf_52 (by decide) (fun h_8 => ?_) (fun h_8 => ?_)
      · have hm := (if_pos h_8).symm.trans hm
        refine lv_iconst (v := 0) hx hb dX3_fieldOf_59 (by decide) ?_
        refine lv_istore_n (lv' := [(3, .int (0 : Int32)), (2, .int p0.2.2), (0, .ref q0), (1, .int p1)]) hx hb dX3_fieldOf_60 rfl hl (by decide) rfl (fun ls hl => ?_)
        refine lv_iload_n hx hb dX3_fieldOf_61 rfl (lv_at hl 3 rfl) ?_
        refine lv_iconst (v := 5) hx hb dX3_fieldOf_62 (by decide) ?_
        refine lv_icmp_ne (tgt := 73) hx hb dX3_fieldOf_63 (by decide) (fun h_9 => ?_) (fun h_9 => ?_)
        · have hm := (if_neg h_9).symm.trans hm
          refine lv_iload_n hx hb dX3_fieldOf_73 rfl (lv_at hl 0 rfl) ?_
          refine lv_if_eq (tgt := 84) hx hb dX3_fieldOf_74 (by decide) (fun _ => ?_) (fun h => absurd h (by decide))
          refine lv_iconst (v := 1) hx hb dX3_fieldOf_84 (by decide) ?_
          refine lv_aload_n hx hb dX3_fieldOf_85 rfl (lv_at hl 2 rfl) ?_
          refine va_get (D := kD k) (ci := 4) (v := .int p0.1) (C := RX2) (T := TX2) (N := 3) hx hb htg inG_X2 hown hGx.1 hP_q0 0 rfl rfl 0 (by decide) (htg _ w_999) (fun _ h9 => h9) rfl dX3_fieldOf_86 ?_
          refine lv_isub hx hb dX3_fieldOf_89 ?_
          exact q_iret hx hb hr hlocks (Option.some.inj hm) hS ⟨Nat.le_of_ble_eq_true rfl, Nat.le_of_ble_eq_true rfl⟩ dX3_fieldOf_90
        · have hm := (if_pos h_9).symm.trans hm
          refine lv_iload_n hx hb dX3_fieldOf_66 rfl (lv_at hl 0 rfl) ?_
          refine pc_S hC (c_X3_one l (0 : Int32)) (gS w_1218 w_1219 w_27 w_1220) kk_X3_one ⟨Nat.le_of_ble_eq_true rfl, Nat.le_of_ble_eq_true rfl⟩ ⟨Nat.le_of_ble_eq_true rfl, Nat.le_of_ble_eq_true rfl⟩ hl.1 rfl rfl (Nat.le_of_ble_eq_true rfl) dX3_fieldOf_67 ?_
          refine lv_goto (tgt := 90) hx hb dX3_fieldOf_70 (by decide) ?_
          exact q_iret hx hb hr hlocks (Option.some.inj hm) hS ⟨Nat.le_of_ble_eq_true rfl, Nat.le_of_ble_eq_true rfl⟩ dX3_fieldOf_90
      · have hm := (if_neg h_8).symm.trans hm
        refine lv_iconst (v := 1) hx hb dX3_fieldOf_55 (by decide) ?_
        refine lv_goto (tgt := 60) hx hb dX3_fieldOf_56 (by decide) ?_
        refine lv_istore_n (lv' := [(3, .int (1 : Int32)), (2, .int p0.2.2), (0, .ref q0), (1, .int p1)]) hx hb dX3_fieldOf_60 rfl hl (by decide) rfl (fun ls hl => ?_)
        refine lv_iload_n hx hb dX3_fieldOf_61 rfl (lv_at hl 3 rfl) ?_
        refine lv_iconst (v := 5) hx hb dX3_fieldOf_62 (by decide) ?_
        refine lv_icmp_ne (tgt := 73) hx hb dX3_fieldOf_63 (by decide) (fun h_10 => ?_) (fun h_10 => ?_)
        · have hm := (if_neg h_10).symm.trans hm
          refine lv_iload_n hx hb dX3_fieldOf_73 rfl (lv_at hl 0 rfl) ?_
          refine lv_if_eq (tgt := 84) hx hb dX3_fieldOf_74 (by decide) (fun h => absurd h (by decide)) (fun _ => ?_)
          refine lv_aload_n hx hb dX3_fieldOf_77 rfl (lv_at hl 2 rfl) ?_
          refine va_get (D := kD k) (ci := 4) (v := .int p0.1) (C := RX2) (T := TX2) (N := 3) hx hb htg inG_X2 hown hGx.1 hP_q0 0 rfl rfl 0 (by decide) (htg _ w_999) (fun _ h9 => h9) rfl dX3_fieldOf_78 ?_
          refine lv_goto (tgt := 90) hx hb dX3_fieldOf_81 (by decide) ?_
          exact q_iret hx hb hr hlocks (Option.some.inj hm) hS ⟨Nat.le_of_ble_eq_true rfl, Nat.le_of_ble_eq_true rfl⟩ dX3_fieldOf_90
        · have hm := (if_pos h_10).symm.trans hm
          refine lv_iload_n hx hb dX3_fieldOf_66 rfl (lv_at hl 0 rfl) ?_
          refine pc_S hC (c_X3_one l (1 : Int32)) (gS w_1218 w_1219 w_27 w_1220) kk_X3_one ⟨Nat.le_of_ble_eq_true rfl, Nat.le_of_ble_eq_true rfl⟩ ⟨Nat.le_of_ble_eq_true rfl, Nat.le_of_ble_eq_true rfl⟩ hl.1 rfl rfl (Nat.le_of_ble_eq_true rfl) dX3_fieldOf_67 ?_
          refine lv_goto (tgt := 90) hx hb dX3_fieldOf_70 (by decide) ?_
          exact q_iret hx hb hr hlocks (Option.some.inj hm) hS ⟨Nat.le_of_ble_eq_true rfl, Nat.le_of_ble_eq_true rfl⟩ dX3_fieldOf_90
    · have hm := (if_neg h_7).symm.trans hm
      refine lv_iload_n hx hb dX3_fieldOf_22 rfl (lv_at hl 2 rfl) ?_
      refine lv_iconst (v := 2) hx hb dX3_fieldOf_23 (by decide) ?_
      refine lv_irem hx hb dX3_fieldOf_24 (by decide) ?_
      refine lv_if_ne (tgt := 39) hx hb dX3_fieldOf_25 (by decide) (fun h_11 => ?_) (fun h_11 => ?_)
      · have hm := (if_neg h_11).symm.trans hm
        refine lv_iload_n hx hb dX3_fieldOf_39 rfl (lv_at hl 0 rfl) ?_
        refine lv_iconst (v := 1) hx hb dX3_fieldOf_40 (by decide) ?_
        refine lv_isub hx hb dX3_fieldOf_41 ?_
        refine lv_bipush (v := 7) hx hb dX3_fieldOf_42 (by decide) ?_
        refine lv_idiv hx hb dX3_fieldOf_44 (by decide) ?_
        refine lv_iconst (v := 1) hx hb dX3_fieldOf_45 (by decide) ?_
        refine lv_iadd hx hb dX3_fieldOf_46 ?_
        exact q_iret hx hb hr hlocks (Option.some.inj hm) hS ⟨Nat.le_of_ble_eq_true rfl, Nat.le_of_ble_eq_true rfl⟩ dX3_fieldOf_47
      · have hm := (if_pos h_11).symm.trans hm
        refine lv_iload_n hx hb dX3_fieldOf_28 rfl (lv_at hl 0 rfl) ?_
        refine lv_iconst (v := 1) hx hb dX3_fieldOf_29 (by decide) ?_
        refine lv_isub hx hb dX3_fieldOf_30 ?_
        refine lv_bipush (v := 7) hx hb dX3_fieldOf_31 (by decide) ?_
        refine lv_irem hx hb dX3_fieldOf_33 (by decide) ?_
        refine lv_iconst (v := 1) hx hb dX3_fieldOf_34 (by decide) ?_
        refine lv_iadd hx hb dX3_fieldOf_35 ?_
        refine lv_goto (tgt := 47) hx hb dX3_fieldOf_36 (by decide) ?_
        exact q_iret hx hb hr hlocks (Option.some.inj hm) hS ⟨Nat.le_of_ble_eq_true rfl, Nat.le_of_ble_eq_true rfl⟩ dX3_fieldOf_47
def o_X3_compared (p0 : DT) (p1 : DT) : Option Int32 := ((o_X3_isAhead p0 p1).bind fun x_1 => (if x_1 = 0 then ((o_X3_isAhead p1 p0).bind fun x_2 => some (m_X3_one x_2)) else some ((-1 : Int32))))
theorem kk_X3_compared : pK yX3_compared wsX3_compared cX3_compared 2 (some .int) 2 := ⟨⟨_, rfl⟩, by decide +kernel, by decide +kernel, by decide +kernel⟩
set_option maxRecDepth 100000 in
set_option maxHeartbeats 4000000 in
theorem k_X3_compared (l : Launch) (k : Kx) (p0 : DT) (p1 : DT) (q0 : Nat) (q1 : Nat) {r : Int32} (hm : o_X3_compared p0 p1 = some r) : qM l k yX3_compared wsX3_compared 1 21 0 0 [.ref q0, .ref q1] [(q0, p0), (q1, p1)] (rI r) := by
  refine Met.ofW (cc := cX3_compared) (maxL := 2) (ret := (some .int)) (by decide) rfl ?_
  intro p e s m args below meth c s₁ B hml hv
  obtain ⟨rfl, hGx, hds⟩ := hv
  have hx := B.exec
  have hb := B.bytes
  have hr := B.returns
  have hts := atoms_spec (ws := wsX3_compared) B.pre
  have hown : s.vm.findClass RX3 = some m.cls := findClass_of_methodNamed B.named
  have hlocks := B.notSynchronized
  have htg : ∀ w ∈ GL, w.before _ s = true := fun w h => hts w (List.mem_cons_of_mem _ h)
  have hC : CallFix p m c cX3_compared 2 s _ wsX3_compared RX3 := ⟨hx, hb, hml, hown, hts⟩
  have hA : ∀ q, s.heap.size ≤ q → nA s.heap.size q := fun _ h => h
  have hAB : ∀ q, nA s.heap.size q → kB k ≤ q := fun q h => Nat.le_trans hGx.2.1 h
  have hS : va_S (nA s.heap.size) s.heap s.heap [] := va_S.rf
  have hP_q0 : dP k q0 p0 s.heap := hds (q0, p0) (List.mem_of_getElem? (i := 0) rfl)
  have hP_q1 : dP k q1 p1 s.heap := hds (q1, p1) (List.mem_of_getElem? (i := 1) rfl)
  have hl := lv_entry ([.ref q0, .ref q1]) (n := 2) (Nat.le_of_ble_eq_true rfl)
  rw [lg_entry_eq]
  generalize (lg_sl ([.ref q0, .ref q1]) ++ List.replicate (2 - (lg_sl ([.ref q0, .ref q1])).length) Slot.unset).toArray = ls at hl ⊢
  have hl : lv_has ls 2 [(0, .ref q0), (1, .ref q1)] := hl
  refine lv_aload_n hx hb dX3_compared_0 rfl (lv_at hl 0 rfl) ?_
  refine lv_aload_n hx hb dX3_compared_1 rfl (lv_at hl 1 rfl) ?_
  obtain ⟨x_1, hx_1, hm⟩ := Option.bind_eq_some_iff.mp hm
  have hs_1 := hS.1
  refine qc_S hC hGx (k_X3_isAhead l k p0 p1 q0 q1 hx_1) (gS w_1212 w_1213 w_27 w_1214) kk_X3_isAhead (List.forall_mem_cons.mpr ⟨hP_q0, (List.forall_mem_cons.mpr ⟨hP_q1, (List.forall_mem_nil _)⟩)⟩) ⟨Nat.le_of_ble_eq_true rfl, Nat.le_of_ble_eq_true rfl⟩ ⟨Nat.le_of_ble_eq_true rfl, Nat.le_of_ble_eq_true rfl⟩ hS hA hAB hl.1 rfl rfl (Nat.le_of_ble_eq_true rfl) dX3_compared_2 (fun v_1 H hv hz hq hS => ?_)
  have hP_q0 := hP_q0.up (hq _ hP_q0.lt)
  have hP_q1 := hP_q1.up (hq _ hP_q1.lt)
  have hv : v_1 = some (.int x_1) := hv
  subst hv
  refine lv_if_eq (tgt := 12) hx hb dX3_compared_5 (by decide) (fun h_1 => ?_) (fun h_1 => ?_)
  · have hm := (if_pos h_1).symm.trans hm
    refine lv_aload_n hx hb dX3_compared_12 rfl (lv_at hl 1 rfl) ?_
    refine lv_aload_n hx hb dX3_compared_13 rfl (lv_at hl 0 rfl) ?_
    obtain ⟨x_2, hx_2, hm⟩ := Option.bind_eq_some_iff.mp hm
    have hs_2 := hS.1
    refine qc_S hC hGx (k_X3_isAhead l k p1 p0 q1 q0 hx_2) (gS w_1212 w_1213 w_27 w_1214) kk_X3_isAhead (List.forall_mem_cons.mpr ⟨hP_q1, (List.forall_mem_cons.mpr ⟨hP_q0, (List.forall_mem_nil _)⟩)⟩) ⟨Nat.le_of_ble_eq_true rfl, Nat.le_of_ble_eq_true rfl⟩ ⟨Nat.le_of_ble_eq_true rfl, Nat.le_of_ble_eq_true rfl⟩ hS hA hAB hl.1 rfl rfl (Nat.le_of_ble_eq_true rfl) dX3_compared_14 (fun v_2 H hv hz hq hS => ?_)
    have hP_q0 := hP_q0.up (hq _ hP_q0.lt)
    have hP_q1 := hP_q1.up (hq _ hP_q1.lt)
    have hv : v_2 = some (.int x_2) := hv
    subst hv
    refine pc_S hC (c_X3_one l x_2) (gS w_1218 w_1219 w_27 w_1220) kk_X3_one ⟨Nat.le_of_ble_eq_true rfl, Nat.le_of_ble_eq_true rfl⟩ ⟨Nat.le_of_ble_eq_true rfl, Nat.le_of_ble_eq_true rfl⟩ hl.1 rfl rfl (Nat.le_of_ble_eq_true rfl) dX3_compared_17 ?_
    exact q_iret hx hb hr hlocks (Option.some.inj hm) hS ⟨Nat.le_of_ble_eq_true rfl, Nat.le_of_ble_eq_true rfl⟩ dX3_compared_20
  · have hm := (if_neg h_1).symm.trans hm
    refine lv_iconst (v := (-1)) hx hb dX3_compared_8 (by decide) ?_
    refine lv_goto (tgt := 20) hx hb dX3_compared_9 (by decide) ?_
    exact q_iret hx hb hr hlocks (Option.some.inj hm) hS ⟨Nat.le_of_ble_eq_true rfl, Nat.le_of_ble_eq_true rfl⟩ dX3_compared_20
def l57_X3_whole0 (p0 : DT) (p1 : DT) (p2 : Int32) : Nat → Int32 → Int32 → Option Int32
  | 0, _, _ => none
  | n + 1, x57_3, x57_4 => (if p2 ≤ x57_4 then ((o_X3_monthsOf p0 p1).bind fun x_3 => (if x57_3 = 0 then none else some (x_3 / x57_3))) else l57_X3_whole0 p0 p1 p2 n (x57_3 * (10 : Int32)) (x57_4 + 1))
def o_X3_whole0 (p0 : DT) (p1 : DT) (p2 : Int32) : Option Int32 := ((o_X3_isAhead p1 p0).bind fun x_1 => (if x_1 = 0 then (if (2 : Int32) ≤ p2 then (if p2 = (2 : Int32) then l57_X3_whole0 p0 p1 p2 8 (1 : Int32) (3 : Int32) else l57_X3_whole0 p0 p1 p2 8 (12 : Int32) (3 : Int32)) else ((o_X2_number p1).bind fun x_4 => ((o_X2_number p0).bind fun x_5 => (if p2 = 0 then some ((x_4 - x_5) / (1 : Int32)) else some ((x_4 - x_5) / (7 : Int32)))))) else none))
set_option maxRecDepth 100000 in
set_option maxHeartbeats 4000000 in
theorem k_X3_whole0 (l : Launch) (k : Kx) (p0 : DT) (p1 : DT) (p2 : Int32) (q0 : Nat) (q1 : Nat) {r : Int32} (hm : o_X3_whole0 p0 p1 p2 = some r) : qM l k yX3_whole wsX3_whole 4 86 0 0 [.ref q0, .ref q1, .int p2] [(q0, p0), (q1, p1)] (rI r) := by
  refine Met.ofW (cc := cX3_whole) (maxL := 5) (ret := (some .int)) (by decide) rfl ?_
  intro p e s m args below meth c s₁ B hml hv
  obtain ⟨rfl, hGx, hds⟩ := hv
  have hx := B.exec
  have hb := B.bytes
  have hr := B.returns
  have hts := atoms_spec (ws := wsX3_whole) B.pre
  have hown : s.vm.findClass RX3 = some m.cls := findClass_of_methodNamed B.named
  have hlocks := B.notSynchronized
  have htg : ∀ w ∈ GL, w.before _ s = true := fun w h => hts w (List.mem_cons_of_mem _ h)
  have hC : CallFix p m c cX3_whole 5 s _ wsX3_whole RX3 := ⟨hx, hb, hml, hown, hts⟩
  have hA : ∀ q, s.heap.size ≤ q → nA s.heap.size q := fun _ h => h
  have hAB : ∀ q, nA s.heap.size q → kB k ≤ q := fun q h => Nat.le_trans hGx.2.1 h
  have hS : va_S (nA s.heap.size) s.heap s.heap [] := va_S.rf
  have hP_q0 : dP k q0 p0 s.heap := hds (q0, p0) (List.mem_of_getElem? (i := 0) rfl)
  have hP_q1 : dP k q1 p1 s.heap := hds (q1, p1) (List.mem_of_getElem? (i := 1) rfl)
  have hl := lv_entry ([.ref q0, .ref q1, .int p2]) (n := 5) (Nat.le_of_ble_eq_true rfl)
  rw [lg_entry_eq]
  generalize (lg_sl ([.ref q0, .ref q1, .int p2]) ++ List.replicate (5 - (lg_sl ([.ref q0, .ref q1, .int p2])).length) Slot.unset).toArray = ls at hl ⊢
  have hl : lv_has ls 5 [(0, .ref q0), (1, .ref q1), (2, .int p2)] := hl
  refine lv_aload_n hx hb dX3_whole_0 rfl (lv_at hl 1 rfl) ?_
  refine lv_aload_n hx hb dX3_whole_1 rfl (lv_at hl 0 rfl) ?_
  obtain ⟨x_1, hx_1, hm⟩ := Option.bind_eq_some_iff.mp hm
  have hs_1 := hS.1
  refine qc_S hC hGx (k_X3_isAhead l k p1 p0 q1 q0 hx_1) (gS w_1212 w_1213 w_27 w_1214) kk_X3_isAhead (List.forall_mem_cons.mpr ⟨hP_q1, (List.forall_mem_cons.mpr ⟨hP_q0, (List.forall_mem_nil _)⟩)⟩) ⟨Nat.le_of_ble_eq_true rfl, Nat.le_of_ble_eq_true rfl⟩ ⟨Nat.le_of_ble_eq_true rfl, Nat.le_of_ble_eq_true rfl⟩ hS hA hAB hl.1 rfl rfl (Nat.le_of_ble_eq_true rfl) dX3_whole_2 (fun v_1 H hv hz hq hS => ?_)
  have hP_q0 := hP_q0.up (hq _ hP_q0.lt)
  have hP_q1 := hP_q1.up (hq _ hP_q1.lt)
  have hv : v_1 = some (.int x_1) := hv
  subst hv
  refine lv_if_eq (tgt := 16) hx hb dX3_whole_5 (by decide) (fun h_1 => ?_) (fun h_1 => ?_)
  · have hm := (if_pos h_1).symm.trans hm
    refine lv_iload_n hx hb dX3_whole_16 rfl (lv_at hl 2 rfl) ?_
    refine lv_iconst (v := 2) hx hb dX3_whole_17 (by decide) ?_
    refine lv_icmp_ge (tgt := 42) hx hb dX3_whole_18 (by decide) (fun h_2 => ?_) (fun h_2 => ?_)
    · have hm := (if_pos h_2).symm.trans hm
      refine lv_iload_n hx hb dX3_whole_42 rfl (lv_at hl 2 rfl) ?_
      refine lv_iconst (v := 2) hx hb dX3_whole_43 (by decide) ?_
      refine lv_icmp_ne (tgt := 51) hx hb dX3_whole_44 (by decide) (fun h_3 => ?_) (fun h_3 => ?_)
      · have hm := (if_neg h_3).symm.trans hm
        refine lv_bipush (v := 12) hx hb dX3_whole_51 (by decide) ?_
        refine lv_istore_n (lv' := [(3, .int (12 : Int32)), (0, .ref q0), (1, .ref q1), (2, .int p2)]) hx hb dX3_whole_53 rfl hl (by decide) rfl (fun ls hl => ?_)
        refine lv_iconst (v := 3) hx hb dX3_whole_54 (by decide) ?_
        refine lv_istore (lv' := [(4, .int (3 : Int32)), (3, .int (12 : Int32)), (0, .ref q0), (1, .ref q1), (2, .int p2)]) hx hb dX3_whole_55 hl (by decide) rfl (fun ls hl => ?_)
        have J57 : ∀ (n : Nat) (x57_3 : Int32) (x57_4 : Int32) (ls : Array Slot) (H : Heap), lv_has ls 5 [(4, .int x57_4), (3, .int x57_3), (0, .ref q0), (1, .ref q1), (2, .int p2)] → va_S (nA s.heap.size) s.heap H [] → dP k q0 p0 H → dP k q1 p1 H → l57_X3_whole0 p0 p1 p2 n x57_3 x57_4 = some r → W p l e (headSpec wsX3_whole { frames := 4, cells := 0, slots := 0, locals := 86 }).room s m ([.ref q0, .ref q1, .int p2] : List Value).toArray below meth c H [] 0 0 (MQ below (qQ (rI r)) ([.ref q0, .ref q1, .int p2] : List Value).toArray s 0 0 (fun _ => False)) (F0 m 57 ls []) := by
          intro n
          induction n with
          | zero => intro x57_3 x57_4 ls H hl hS hP_q0 hP_q1 hm; cases hm
          | succ n ih =>
            intro x57_3 x57_4 ls H hl hS hP_q0 hP_q1 hm
            refine lv_iload hx hb dX3_whole_57 (lv_at hl 0 rfl) ?_
            refine lv_iload_n hx hb dX3_whole_59 rfl (lv_at hl 4 rfl) ?_
            refine lv_icmp_ge (tgt := 74) hx hb dX3_whole_60 (by decide) (fun h_4 => ?_) (fun h_4 => ?_)
            · have hm := (if_pos h_4).symm.trans hm
              refine lv_aload_n hx hb dX3_whole_74 rfl (lv_at hl 2 rfl) ?_
              refine lv_aload_n hx hb dX3_whole_75 rfl (lv_at hl 3 rfl) ?_
              obtain ⟨x_2, hx_2, hm⟩ := Option.bind_eq_some_iff.mp hm
              have hs_2 := hS.1
              refine qc_S hC hGx (k_X3_monthsOf l k p0 p1 q0 q1 hx_2) (gS w_1215 w_1216 w_27 w_1217) kk_X3_monthsOf (List.forall_mem_cons.mpr ⟨hP_q0, (List.forall_mem_cons.mpr ⟨hP_q1, (List.forall_mem_nil _)⟩)⟩) ⟨Nat.le_of_ble_eq_true rfl, Nat.le_of_ble_eq_true rfl⟩ ⟨Nat.le_of_ble_eq_true rfl, Nat.le_of_ble_eq_true rfl⟩ hS hA hAB hl.1 rfl rfl (Nat.le_of_ble_eq_true rfl) dX3_whole_76 (fun v_2 H hv hz hq hS => ?_)
              have hP_q0 := hP_q0.up (hq _ hP_q0.lt)
              have hP_q1 := hP_q1.up (hq _ hP_q1.lt)
              have hv : v_2 = some (.int x_2) := hv
              subst hv
              refine lv_iload_n hx hb dX3_whole_79 rfl (lv_at hl 1 rfl) ?_
              by_cases h_5 : x57_3 = 0
              · have hm := (if_pos h_5).symm.trans hm
                cases hm
              have hm := (if_neg h_5).symm.trans hm
              refine lv_idiv hx hb dX3_whole_80 h_5 ?_
              exact q_iret hx hb hr hlocks (Option.some.inj hm) hS ⟨Nat.le_of_ble_eq_true rfl, Nat.le_of_ble_eq_true rfl⟩ dX3_whole_81
            · have hm := (if_neg h_4).symm.trans hm
              refine lv_iload_n hx hb dX3_whole_63 rfl (lv_at hl 1 rfl) ?_
              refine lv_bipush (v := 10) hx hb dX3_whole_64 (by decide) ?_
              refine lv_imul hx hb dX3_whole_66 ?_
              refine lv_istore_n (lv' := [(3, .int (x57_3 * (10 : Int32))), (4, .int x57_4), (0, .ref q0), (1, .ref q1), (2, .int p2)]) hx hb dX3_whole_67 rfl hl (by decide) rfl (fun ls hl => ?_)
              refine lv_iinc (v := x57_4 + 1) (lv' := [(4, .int (x57_4 + 1)), (3, .int (x57_3 * (10 : Int32))), (0, .ref q0), (1, .ref q1), (2, .int p2)]) hx hb dX3_whole_68 hl (k := 1) rfl rfl (by decide) rfl (fun ls hl => ?_)
              refine lv_goto (tgt := 57) hx hb dX3_whole_71 (by decide) ?_
              exact ih (x57_3 * (10 : Int32)) (x57_4 + 1) ls _ (lv_sub hl [0, 1, 2, 3, 4] rfl) hS hP_q0 hP_q1 hm
        exact J57 8 (12 : Int32) (3 : Int32) ls _ (lv_sub hl [0, 1, 2, 3, 4] rfl) hS hP_q0 hP_q1 hm
      · have hm := (if_pos h_3).symm.trans hm
        refine lv_iconst (v := 1) hx hb dX3_whole_47 (by decide) ?_
        refine lv_goto (tgt := 53) hx hb dX3_whole_48 (by decide) ?_
        refine lv_istore_n (lv' := [(3, .int (1 : Int32)), (0, .ref q0), (1, .ref q1), (2, .int p2)]) hx hb dX3_whole_53 rfl hl (by decide) rfl (fun ls hl => ?_)
        refine lv_iconst (v := 3) hx hb dX3_whole_54 (by decide) ?_
        refine lv_istore (lv' := [(4, .int (3 : Int32)), (3, .int (1 : Int32)), (0, .ref q0), (1, .ref q1), (2, .int p2)]) hx hb dX3_whole_55 hl (by decide) rfl (fun ls hl => ?_)
        have J57 : ∀ (n : Nat) (x57_3 : Int32) (x57_4 : Int32) (ls : Array Slot) (H : Heap), lv_has ls 5 [(4, .int x57_4), (3, .int x57_3), (0, .ref q0), (1, .ref q1), (2, .int p2)] → va_S (nA s.heap.size) s.heap H [] → dP k q0 p0 H → dP k q1 p1 H → l57_X3_whole0 p0 p1 p2 n x57_3 x57_4 = some r → W p l e (headSpec wsX3_whole { frames := 4, cells := 0, slots := 0, locals := 86 }).room s m ([.ref q0, .ref q1, .int p2] : List Value).toArray below meth c H [] 0 0 (MQ below (qQ (rI r)) ([.ref q0, .ref q1, .int p2] : List Value).toArray s 0 0 (fun _ => False)) (F0 m 57 ls []) := by
          intro n
          induction n with
          | zero => intro x57_3 x57_4 ls H hl hS hP_q0 hP_q1 hm; cases hm
          | succ n ih =>
            intro x57_3 x57_4 ls H hl hS hP_q0 hP_q1 hm
            refine lv_iload hx hb dX3_whole_57 (lv_at hl 0 rfl) ?_
            refine lv_iload_n hx hb dX3_whole_59 rfl (lv_at hl 4 rfl) ?_
            refine lv_icmp_ge (tgt := 74) hx hb dX3_whole_60 (by decide) (fun h_6 => ?_) (fun h_6 => ?_)
            · have hm := (if_pos h_6).symm.trans hm
              refine lv_aload_n hx hb dX3_whole_74 rfl (lv_at hl 2 rfl) ?_
              refine lv_aload_n hx hb dX3_whole_75 rfl (lv_at hl 3 rfl) ?_
              obtain ⟨x_3, hx_3, hm⟩ := Option.bind_eq_some_iff.mp hm
              have hs_3 := hS.1
              refine qc_S hC hGx (k_X3_monthsOf l k p0 p1 q0 q1 hx_3) (gS w_1215 w_1216 w_27 w_1217) kk_X3_monthsOf (List.forall_mem_cons.mpr ⟨hP_q0, (List.forall_mem_cons.mpr ⟨hP_q1, (List.forall_mem_nil _)⟩)⟩) ⟨Nat.le_of_ble_eq_true rfl, Nat.le_of_ble_eq_true rfl⟩ ⟨Nat.le_of_ble_eq_true rfl, Nat.le_of_ble_eq_true rfl⟩ hS hA hAB hl.1 rfl rfl (Nat.le_of_ble_eq_true rfl) dX3_whole_76 (fun v_3 H hv hz hq hS => ?_)
              have hP_q0 := hP_q0.up (hq _ hP_q0.lt)
              have hP_q1 := hP_q1.up (hq _ hP_q1.lt)
              have hv : v_3 = some (.int x_3) := hv
              subst hv
              refine lv_iload_n hx hb dX3_whole_79 rfl (lv_at hl 1 rfl) ?_
              by_cases h_7 : x57_3 = 0
              · have hm := (if_pos h_7).symm.trans hm
                cases hm
              have hm := (if_neg h_7).symm.trans hm
              refine lv_idiv hx hb dX3_whole_80 h_7 ?_
              exact q_iret hx hb hr hlocks (Option.some.inj hm) hS ⟨Nat.le_of_ble_eq_true rfl, Nat.le_of_ble_eq_true rfl⟩ dX3_whole_81
            · have hm := (if_neg h_6).symm.trans hm
              refine lv_iload_n hx hb dX3_whole_63 rfl (lv_at hl 1 rfl) ?_
              refine lv_bipush (v := 10) hx hb dX3_whole_64 (by decide) ?_
              refine lv_imul hx hb dX3_whole_66 ?_
              refine lv_istore_n (lv' := [(3, .int (x57_3 * (10 : Int32))), (4, .int x57_4), (0, .ref q0), (1, .ref q1), (2, .int p2)]) hx hb dX3_whole_67 rfl hl (by decide) rfl (fun ls hl => ?_)
              refine lv_iinc (v := x57_4 + 1) (lv' := [(4, .int (x57_4 + 1)), (3, .int (x57_3 * (10 : Int32))), (0, .ref q0), (1, .ref q1), (2, .int p2)]) hx hb dX3_whole_68 hl (k := 1) rfl rfl (by decide) rfl (fun ls hl => ?_)
              refine lv_goto (tgt := 57) hx hb dX3_whole_71 (by decide) ?_
              exact ih (x57_3 * (10 : Int32)) (x57_4 + 1) ls _ (lv_sub hl [0, 1, 2, 3, 4] rfl) hS hP_q0 hP_q1 hm
        exact J57 8 (1 : Int32) (3 : Int32) ls _ (lv_sub hl [0, 1, 2, 3, 4] rfl) hS hP_q0 hP_q1 hm
    · have hm := (if_neg h_2).symm.trans hm
      refine lv_aload_n hx hb dX3_whole_21 rfl (lv_at hl 1 rfl) ?_
      obtain ⟨x_4, hx_4, hm⟩ := Option.bind_eq_some_iff.mp hm
      have hs_4 := hS.1
      refine qc_V hC hGx (k_X2_number l k p1 q1 hx_4) (gV w_1062 w_1063 w_1064 w_28 w_1065) kk_X2_number rfl hP_q1 (List.forall_mem_cons.mpr ⟨hP_q1, (List.forall_mem_nil _)⟩) ⟨Nat.le_of_ble_eq_true rfl, Nat.le_of_ble_eq_true rfl⟩ ⟨Nat.le_of_ble_eq_true rfl, Nat.le_of_ble_eq_true rfl⟩ hS hA hAB hl.1 rfl rfl (Nat.le_of_ble_eq_true rfl) dX3_whole_22 (fun v_4 H hv hz hq hS => ?_)
      have hP_q0 := hP_q0.up (hq _ hP_q0.lt)
      have hP_q1 := hP_q1.up (hq _ hP_q1.lt)
      have hv : v_4 = some (.int x_4) := hv
      subst hv
      refine lv_aload_n hx hb dX3_whole_25 rfl (lv_at hl 0 rfl) ?_
      obtain ⟨x_5, hx_5, hm⟩ := Option.bind_eq_some_iff.mp hm
      have hs_5 := hS.1
      refine qc_V hC hGx (k_X2_number l k p0 q0 hx_5) (gV w_1062 w_1063 w_1064 w_28 w_1065) kk_X2_number rfl hP_q0 (List.forall_mem_cons.mpr ⟨hP_q0, (List.forall_mem_nil _)⟩) ⟨Nat.le_of_ble_eq_true rfl, Nat.le_of_ble_eq_true rfl⟩ ⟨Nat.le_of_ble_eq_true rfl, Nat.le_of_ble_eq_true rfl⟩ hS hA hAB hl.1 rfl rfl (Nat.le_of_ble_eq_true rfl) dX3_whole_26 (fun v_5 H hv hz hq hS => ?_)
      have hP_q0 := hP_q0.up (hq _ hP_q0.lt)
      have hP_q1 := hP_q1.up (hq _ hP_q1.lt)
      have hv : v_5 = some (.int x_5) := hv
      subst hv
      refine lv_isub hx hb dX3_whole_29 ?_
      refine lv_iload_n hx hb dX3_whole_30 rfl (lv_at hl 2 rfl) ?_
      refine lv_if_ne (tgt := 38) hx hb dX3_whole_31 (by decide) (fun h_8 => ?_) (fun h_8 => ?_)
      · have hm := (if_neg h_8).symm.trans hm
        refine lv_bipush (v := 7) hx hb dX3_whole_38 (by decide) ?_
        refine lv_idiv hx hb dX3_whole_40 (by decide) ?_
        exact q_iret hx hb hr hlocks (Option.some.inj hm) hS ⟨Nat.le_of_ble_eq_true rfl, Nat.le_of_ble_eq_true rfl⟩ dX3_whole_41
      · have hm := (if_pos h_8).symm.trans hm
        refine lv_iconst (v := 1) hx hb dX3_whole_34 (by decide) ?_
        refine lv_goto (tgt := 40) hx hb dX3_whole_35 (by decide) ?_
        refine lv_idiv hx hb dX3_whole_40 (by decide) ?_
        exact q_iret hx hb hr hlocks (Option.some.inj hm) hS ⟨Nat.le_of_ble_eq_true rfl, Nat.le_of_ble_eq_true rfl⟩ dX3_whole_41
  · have hm := (if_neg h_1).symm.trans hm
    refine lv_aload_n hx hb dX3_whole_8 rfl (lv_at hl 1 rfl) ?_
    refine lv_aload_n hx hb dX3_whole_9 rfl (lv_at hl 0 rfl) ?_
    refine lv_iload_n hx hb dX3_whole_10 rfl (lv_at hl 2 rfl) ?_
    cases hm
def l57_X3_whole (p0 : DT) (p1 : DT) (p2 : Int32) : Nat → Int32 → Int32 → Option Int32
  | 0, _, _ => none
  | n + 1, x57_3, x57_4 => (if p2 ≤ x57_4 then ((o_X3_monthsOf p0 p1).bind fun x_3 => (if x57_3 = 0 then none else some (x_3 / x57_3))) else l57_X3_whole p0 p1 p2 n (x57_3 * (10 : Int32)) (x57_4 + 1))
def o_X3_whole (p0 : DT) (p1 : DT) (p2 : Int32) : Option Int32 := ((o_X3_isAhead p1 p0).bind fun x_1 => (if x_1 = 0 then (if (2 : Int32) ≤ p2 then (if p2 = (2 : Int32) then l57_X3_whole p0 p1 p2 8 (1 : Int32) (3 : Int32) else l57_X3_whole p0 p1 p2 8 (12 : Int32) (3 : Int32)) else ((o_X2_number p1).bind fun x_4 => ((o_X2_number p0).bind fun x_5 => (if p2 = 0 then some ((x_4 - x_5) / (1 : Int32)) else some ((x_4 - x_5) / (7 : Int32)))))) else ((o_X3_whole0 p1 p0 p2).bind fun x_6 => some (-x_6))))
theorem kk_X3_whole : pK yX3_whole wsX3_whole cX3_whole 5 (some .int) 3 := ⟨⟨_, rfl⟩, by decide +kernel, by decide +kernel, by decide +kernel⟩
set_option maxRecDepth 100000 in
set_option maxHeartbeats 4000000 in
theorem k_X3_whole (l : Launch) (k : Kx) (p0 : DT) (p1 : DT) (p2 : Int32) (q0 : Nat) (q1 : Nat) {r : Int32} (hm : o_X3_whole p0 p1 p2 = some r) : qM l k yX3_whole wsX3_whole 5 110 0 0 [.ref q0, .ref q1, .int p2] [(q0, p0), (q1, p1)] (rI r) := by
  refine Met.ofW (cc := cX3_whole) (maxL := 5) (ret := (some .int)) (by decide) rfl ?_
  intro p e s m args below meth c s₁ B hml hv
  obtain ⟨rfl, hGx, hds⟩ := hv
  have hx := B.exec
  have hb := B.bytes
  have hr := B.returns
  have hts := atoms_spec (ws := wsX3_whole) B.pre
  have hown : s.vm.findClass RX3 = some m.cls := findClass_of_methodNamed B.named
  have hlocks := B.notSynchronized
  have htg : ∀ w ∈ GL, w.before _ s = true := fun w h => hts w (List.mem_cons_of_mem _ h)
  have hC : CallFix p m c cX3_whole 5 s _ wsX3_whole RX3 := ⟨hx, hb, hml, hown, hts⟩
  have hA : ∀ q, s.heap.size ≤ q → nA s.heap.size q := fun _ h => h
  have hAB : ∀ q, nA s.heap.size q → kB k ≤ q := fun q h => Nat.le_trans hGx.2.1 h
  have hS : va_S (nA s.heap.size) s.heap s.heap [] := va_S.rf
  have hP_q0 : dP k q0 p0 s.heap := hds (q0, p0) (List.mem_of_getElem? (i := 0) rfl)
  have hP_q1 : dP k q1 p1 s.heap := hds (q1, p1) (List.mem_of_getElem? (i := 1) rfl)
  have hl := lv_entry ([.ref q0, .ref q1, .int p2]) (n := 5) (Nat.le_of_ble_eq_true rfl)
  rw [lg_entry_eq]
  generalize (lg_sl ([.ref q0, .ref q1, .int p2]) ++ List.replicate (5 - (lg_sl ([.ref q0, .ref q1, .int p2])).length) Slot.unset).toArray = ls at hl ⊢
  have hl : lv_has ls 5 [(0, .ref q0), (1, .ref q1), (2, .int p2)] := hl
  refine lv_aload_n hx hb dX3_whole_0 rfl (lv_at hl 1 rfl) ?_
  refine lv_aload_n hx hb dX3_whole_1 rfl (lv_at hl 0 rfl) ?_
  obtain ⟨x_1, hx_1, hm⟩ := Option.bind_eq_some_iff.mp hm
  have hs_1 := hS.1
  refine qc_S hC hGx (k_X3_isAhead l k p1 p0 q1 q0 hx_1) (gS w_1212 w_1213 w_27 w_1214) kk_X3_isAhead (List.forall_mem_cons.mpr ⟨hP_q1, (List.forall_mem_cons.mpr ⟨hP_q0, (List.forall_mem_nil _)⟩)⟩) ⟨Nat.le_of_ble_eq_true rfl, Nat.le_of_ble_eq_true rfl⟩ ⟨Nat.le_of_ble_eq_true rfl, Nat.le_of_ble_eq_true rfl⟩ hS hA hAB hl.1 rfl rfl (Nat.le_of_ble_eq_true rfl) dX3_whole_2 (fun v_1 H hv hz hq hS => ?_)
  have hP_q0 := hP_q0.up (hq _ hP_q0.lt)
  have hP_q1 := hP_q1.up (hq _ hP_q1.lt)
  have hv : v_1 = some (.int x_1) := hv
  subst hv
  refine lv_if_eq (tgt := 16) hx hb dX3_whole_5 (by decide) (fun h_1 => ?_) (fun h_1 => ?_)
  · have hm := (if_pos h_1).symm.trans hm
    refine lv_iload_n hx hb dX3_whole_16 rfl (lv_at hl 2 rfl) ?_
    refine lv_iconst (v := 2) hx hb dX3_whole_17 (by decide) ?_
    refine lv_icmp_ge (tgt := 42) hx hb dX3_whole_18 (by decide) (fun h_2 => ?_) (fun h_2 => ?_)
    · have hm := (if_pos h_2).symm.trans hm
      refine lv_iload_n hx hb dX3_whole_42 rfl (lv_at hl 2 rfl) ?_
      refine lv_iconst (v := 2) hx hb dX3_whole_43 (by decide) ?_
      refine lv_icmp_ne (tgt := 51) hx hb dX3_whole_44 (by decide) (fun h_3 => ?_) (fun h_3 => ?_)
      · have hm := (if_neg h_3).symm.trans hm
        refine lv_bipush (v := 12) hx hb dX3_whole_51 (by decide) ?_
        refine lv_istore_n (lv' := [(3, .int (12 : Int32)), (0, .ref q0), (1, .ref q1), (2, .int p2)]) hx hb dX3_whole_53 rfl hl (by decide) rfl (fun ls hl => ?_)
        refine lv_iconst (v := 3) hx hb dX3_whole_54 (by decide) ?_
        refine lv_istore (lv' := [(4, .int (3 : Int32)), (3, .int (12 : Int32)), (0, .ref q0), (1, .ref q1), (2, .int p2)]) hx hb dX3_whole_55 hl (by decide) rfl (fun ls hl => ?_)
        have J57 : ∀ (n : Nat) (x57_3 : Int32) (x57_4 : Int32) (ls : Array Slot) (H : Heap), lv_has ls 5 [(4, .int x57_4), (3, .int x57_3), (0, .ref q0), (1, .ref q1), (2, .int p2)] → va_S (nA s.heap.size) s.heap H [] → dP k q0 p0 H → dP k q1 p1 H → l57_X3_whole p0 p1 p2 n x57_3 x57_4 = some r → W p l e (headSpec wsX3_whole { frames := 5, cells := 0, slots := 0, locals := 110 }).room s m ([.ref q0, .ref q1, .int p2] : List Value).toArray below meth c H [] 0 0 (MQ below (qQ (rI r)) ([.ref q0, .ref q1, .int p2] : List Value).toArray s 0 0 (fun _ => False)) (F0 m 57 ls []) := by
          intro n
          induction n with
          | zero => intro x57_3 x57_4 ls H hl hS hP_q0 hP_q1 hm; cases hm
          | succ n ih =>
            intro x57_3 x57_4 ls H hl hS hP_q0 hP_q1 hm
            refine lv_iload hx hb dX3_whole_57 (lv_at hl 0 rfl) ?_
            refine lv_iload_n hx hb dX3_whole_59 rfl (lv_at hl 4 rfl) ?_
            refine lv_icmp_ge (tgt := 74) hx hb dX3_whole_60 (by decide) (fun h_4 => ?_) (fun h_4 => ?_)
            · have hm := (if_pos h_4).symm.trans hm
              refine lv_aload_n hx hb dX3_whole_74 rfl (lv_at hl 2 rfl) ?_
              refine lv_aload_n hx hb dX3_whole_75 rfl (lv_at hl 3 rfl) ?_
              obtain ⟨x_2, hx_2, hm⟩ := Option.bind_eq_some_iff.mp hm
              have hs_2 := hS.1
              refine qc_S hC hGx (k_X3_monthsOf l k p0 p1 q0 q1 hx_2) (gS w_1215 w_1216 w_27 w_1217) kk_X3_monthsOf (List.forall_mem_cons.mpr ⟨hP_q0, (List.forall_mem_cons.mpr ⟨hP_q1, (List.forall_mem_nil _)⟩)⟩) ⟨Nat.le_of_ble_eq_true rfl, Nat.le_of_ble_eq_true rfl⟩ ⟨Nat.le_of_ble_eq_true rfl, Nat.le_of_ble_eq_true rfl⟩ hS hA hAB hl.1 rfl rfl (Nat.le_of_ble_eq_true rfl) dX3_whole_76 (fun v_2 H hv hz hq hS => ?_)
              have hP_q0 := hP_q0.up (hq _ hP_q0.lt)
              have hP_q1 := hP_q1.up (hq _ hP_q1.lt)
              have hv : v_2 = some (.int x_2) := hv
              subst hv
              refine lv_iload_n hx hb dX3_whole_79 rfl (lv_at hl 1 rfl) ?_
              by_cases h_5 : x57_3 = 0
              · have hm := (if_pos h_5).symm.trans hm
                cases hm
              have hm := (if_neg h_5).symm.trans hm
              refine lv_idiv hx hb dX3_whole_80 h_5 ?_
              exact q_iret hx hb hr hlocks (Option.some.inj hm) hS ⟨Nat.le_of_ble_eq_true rfl, Nat.le_of_ble_eq_true rfl⟩ dX3_whole_81
            · have hm := (if_neg h_4).symm.trans hm
              refine lv_iload_n hx hb dX3_whole_63 rfl (lv_at hl 1 rfl) ?_
              refine lv_bipush (v := 10) hx hb dX3_whole_64 (by decide) ?_
              refine lv_imul hx hb dX3_whole_66 ?_
              refine lv_istore_n (lv' := [(3, .int (x57_3 * (10 : Int32))), (4, .int x57_4), (0, .ref q0), (1, .ref q1), (2, .int p2)]) hx hb dX3_whole_67 rfl hl (by decide) rfl (fun ls hl => ?_)
              refine lv_iinc (v := x57_4 + 1) (lv' := [(4, .int (x57_4 + 1)), (3, .int (x57_3 * (10 : Int32))), (0, .ref q0), (1, .ref q1), (2, .int p2)]) hx hb dX3_whole_68 hl (k := 1) rfl rfl (by decide) rfl (fun ls hl => ?_)
              refine lv_goto (tgt := 57) hx hb dX3_whole_71 (by decide) ?_
              exact ih (x57_3 * (10 : Int32)) (x57_4 + 1) ls _ (lv_sub hl [0, 1, 2, 3, 4] rfl) hS hP_q0 hP_q1 hm
        exact J57 8 (12 : Int32) (3 : Int32) ls _ (lv_sub hl [0, 1, 2, 3, 4] rfl) hS hP_q0 hP_q1 hm
      · have hm := (if_pos h_3).symm.trans hm
        refine lv_iconst (v := 1) hx hb dX3_whole_47 (by decide) ?_
        refine lv_goto (tgt := 53) hx hb dX3_whole_48 (by decide) ?_
        refine lv_istore_n (lv' := [(3, .int (1 : Int32)), (0, .ref q0), (1, .ref q1), (2, .int p2)]) hx hb dX3_whole_53 rfl hl (by decide) rfl (fun ls hl => ?_)
        refine lv_iconst (v := 3) hx hb dX3_whole_54 (by decide) ?_
        refine lv_istore (lv' := [(4, .int (3 : Int32)), (3, .int (1 : Int32)), (0, .ref q0), (1, .ref q1), (2, .int p2)]) hx hb dX3_whole_55 hl (by decide) rfl (fun ls hl => ?_)
        have J57 : ∀ (n : Nat) (x57_3 : Int32) (x57_4 : Int32) (ls : Array Slot) (H : Heap), lv_has ls 5 [(4, .int x57_4), (3, .int x57_3), (0, .ref q0), (1, .ref q1), (2, .int p2)] → va_S (nA s.heap.size) s.heap H [] → dP k q0 p0 H → dP k q1 p1 H → l57_X3_whole p0 p1 p2 n x57_3 x57_4 = some r → W p l e (headSpec wsX3_whole { frames := 5, cells := 0, slots := 0, locals := 110 }).room s m ([.ref q0, .ref q1, .int p2] : List Value).toArray below meth c H [] 0 0 (MQ below (qQ (rI r)) ([.ref q0, .ref q1, .int p2] : List Value).toArray s 0 0 (fun _ => False)) (F0 m 57 ls []) := by
          intro n
          induction n with
          | zero => intro x57_3 x57_4 ls H hl hS hP_q0 hP_q1 hm; cases hm
          | succ n ih =>
            intro x57_3 x57_4 ls H hl hS hP_q0 hP_q1 hm
            refine lv_iload hx hb dX3_whole_57 (lv_at hl 0 rfl) ?_
            refine lv_iload_n hx hb dX3_whole_59 rfl (lv_at hl 4 rfl) ?_
            refine lv_icmp_ge (tgt := 74) hx hb dX3_whole_60 (by decide) (fun h_6 => ?_) (fun h_6 => ?_)
            · have hm := (if_pos h_6).symm.trans hm
              refine lv_aload_n hx hb dX3_whole_74 rfl (lv_at hl 2 rfl) ?_
              refine lv_aload_n hx hb dX3_whole_75 rfl (lv_at hl 3 rfl) ?_
              obtain ⟨x_3, hx_3, hm⟩ := Option.bind_eq_some_iff.mp hm
              have hs_3 := hS.1
              refine qc_S hC hGx (k_X3_monthsOf l k p0 p1 q0 q1 hx_3) (gS w_1215 w_1216 w_27 w_1217) kk_X3_monthsOf (List.forall_mem_cons.mpr ⟨hP_q0, (List.forall_mem_cons.mpr ⟨hP_q1, (List.forall_mem_nil _)⟩)⟩) ⟨Nat.le_of_ble_eq_true rfl, Nat.le_of_ble_eq_true rfl⟩ ⟨Nat.le_of_ble_eq_true rfl, Nat.le_of_ble_eq_true rfl⟩ hS hA hAB hl.1 rfl rfl (Nat.le_of_ble_eq_true rfl) dX3_whole_76 (fun v_3 H hv hz hq hS => ?_)
              have hP_q0 := hP_q0.up (hq _ hP_q0.lt)
              have hP_q1 := hP_q1.up (hq _ hP_q1.lt)
              have hv : v_3 = some (.int x_3) := hv
              subst hv
              refine lv_iload_n hx hb dX3_whole_79 rfl (lv_at hl 1 rfl) ?_
              by_cases h_7 : x57_3 = 0
              · have hm := (if_pos h_7).symm.trans hm
                cases hm
              have hm := (if_neg h_7).symm.trans hm
              refine lv_idiv hx hb dX3_whole_80 h_7 ?_
              exact q_iret hx hb hr hlocks (Option.some.inj hm) hS ⟨Nat.le_of_ble_eq_true rfl, Nat.le_of_ble_eq_true rfl⟩ dX3_whole_81
            · have hm := (if_neg h_6).symm.trans hm
              refine lv_iload_n hx hb dX3_whole_63 rfl (lv_at hl 1 rfl) ?_
              refine lv_bipush (v := 10) hx hb dX3_whole_64 (by decide) ?_
              refine lv_imul hx hb dX3_whole_66 ?_
              refine lv_istore_n (lv' := [(3, .int (x57_3 * (10 : Int32))), (4, .int x57_4), (0, .ref q0), (1, .ref q1), (2, .int p2)]) hx hb dX3_whole_67 rfl hl (by decide) rfl (fun ls hl => ?_)
              refine lv_iinc (v := x57_4 + 1) (lv' := [(4, .int (x57_4 + 1)), (3, .int (x57_3 * (10 : Int32))), (0, .ref q0), (1, .ref q1), (2, .int p2)]) hx hb dX3_whole_68 hl (k := 1) rfl rfl (by decide) rfl (fun ls hl => ?_)
              refine lv_goto (tgt := 57) hx hb dX3_whole_71 (by decide) ?_
              exact ih (x57_3 * (10 : Int32)) (x57_4 + 1) ls _ (lv_sub hl [0, 1, 2, 3, 4] rfl) hS hP_q0 hP_q1 hm
        exact J57 8 (1 : Int32) (3 : Int32) ls _ (lv_sub hl [0, 1, 2, 3, 4] rfl) hS hP_q0 hP_q1 hm
    · have hm := (if_neg h_2).symm.trans hm
      refine lv_aload_n hx hb dX3_whole_21 rfl (lv_at hl 1 rfl) ?_
      obtain ⟨x_4, hx_4, hm⟩ := Option.bind_eq_some_iff.mp hm
      have hs_4 := hS.1
      refine qc_V hC hGx (k_X2_number l k p1 q1 hx_4) (gV w_1062 w_1063 w_1064 w_28 w_1065) kk_X2_number rfl hP_q1 (List.forall_mem_cons.mpr ⟨hP_q1, (List.forall_mem_nil _)⟩) ⟨Nat.le_of_ble_eq_true rfl, Nat.le_of_ble_eq_true rfl⟩ ⟨Nat.le_of_ble_eq_true rfl, Nat.le_of_ble_eq_true rfl⟩ hS hA hAB hl.1 rfl rfl (Nat.le_of_ble_eq_true rfl) dX3_whole_22 (fun v_4 H hv hz hq hS => ?_)
      have hP_q0 := hP_q0.up (hq _ hP_q0.lt)
      have hP_q1 := hP_q1.up (hq _ hP_q1.lt)
      have hv : v_4 = some (.int x_4) := hv
      subst hv
      refine lv_aload_n hx hb dX3_whole_25 rfl (lv_at hl 0 rfl) ?_
      obtain ⟨x_5, hx_5, hm⟩ := Option.bind_eq_some_iff.mp hm
      have hs_5 := hS.1
      refine qc_V hC hGx (k_X2_number l k p0 q0 hx_5) (gV w_1062 w_1063 w_1064 w_28 w_1065) kk_X2_number rfl hP_q0 (List.forall_mem_cons.mpr ⟨hP_q0, (List.forall_mem_nil _)⟩) ⟨Nat.le_of_ble_eq_true rfl, Nat.le_of_ble_eq_true rfl⟩ ⟨Nat.le_of_ble_eq_true rfl, Nat.le_of_ble_eq_true rfl⟩ hS hA hAB hl.1 rfl rfl (Nat.le_of_ble_eq_true rfl) dX3_whole_26 (fun v_5 H hv hz hq hS => ?_)
      have hP_q0 := hP_q0.up (hq _ hP_q0.lt)
      have hP_q1 := hP_q1.up (hq _ hP_q1.lt)
      have hv : v_5 = some (.int x_5) := hv
      subst hv
      refine lv_isub hx hb dX3_whole_29 ?_
      refine lv_iload_n hx hb dX3_whole_30 rfl (lv_at hl 2 rfl) ?_
      refine lv_if_ne (tgt := 38) hx hb dX3_whole_31 (by decide) (fun h_8 => ?_) (fun h_8 => ?_)
      · have hm := (if_neg h_8).symm.trans hm
        refine lv_bipush (v := 7) hx hb dX3_whole_38 (by decide) ?_
        refine lv_idiv hx hb dX3_whole_40 (by decide) ?_
        exact q_iret hx hb hr hlocks (Option.some.inj hm) hS ⟨Nat.le_of_ble_eq_true rfl, Nat.le_of_ble_eq_true rfl⟩ dX3_whole_41
      · have hm := (if_pos h_8).symm.trans hm
        refine lv_iconst (v := 1) hx hb dX3_whole_34 (by decide) ?_
        refine lv_goto (tgt := 40) hx hb dX3_whole_35 (by decide) ?_
        refine lv_idiv hx hb dX3_whole_40 (by decide) ?_
        exact q_iret hx hb hr hlocks (Option.some.inj hm) hS ⟨Nat.le_of_ble_eq_true rfl, Nat.le_of_ble_eq_true rfl⟩ dX3_whole_41
  · have hm := (if_neg h_1).symm.trans hm
    refine lv_aload_n hx hb dX3_whole_8 rfl (lv_at hl 1 rfl) ?_
    refine lv_aload_n hx hb dX3_whole_9 rfl (lv_at hl 0 rfl) ?_
    refine lv_iload_n hx hb dX3_whole_10 rfl (lv_at hl 2 rfl) ?_
    obtain ⟨x_6, hx_6, hm⟩ := Option.bind_eq_some_iff.mp hm
    have hs_6 := hS.1
    refine qc_S hC hGx (k_X3_whole0 l k p1 p0 p2 q1 q0 hx_6) (gS w_1351 w_1352 w_27 w_1353) kk_X3_whole (List.forall_mem_cons.mpr ⟨hP_q1, (List.forall_mem_cons.mpr ⟨hP_q0, (List.forall_mem_nil _)⟩)⟩) ⟨Nat.le_of_ble_eq_true rfl, Nat.le_of_ble_eq_true rfl⟩ ⟨Nat.le_of_ble_eq_true rfl, Nat.le_of_ble_eq_true rfl⟩ hS hA hAB hl.1 rfl rfl (Nat.le_of_ble_eq_true rfl) dX3_whole_11 (fun v_6 H hv hz hq hS => ?_)
    have hP_q0 := hP_q0.up (hq _ hP_q0.lt)
    have hP_q1 := hP_q1.up (hq _ hP_q1.lt)
    have hv : v_6 = some (.int x_6) := hv
    subst hv
    refine lv_ineg hx hb dX3_whole_14 ?_
    exact q_iret hx hb hr hlocks (Option.some.inj hm) hS ⟨Nat.le_of_ble_eq_true rfl, Nat.le_of_ble_eq_true rfl⟩ dX3_whole_15
