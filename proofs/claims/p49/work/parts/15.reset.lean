def o_X3_reset  (z : MS) : Option (Int32 × MS) := ((o_X2_number (z.2.1 (0 : Int32).toNatClampNeg)).bind fun x_2 => ((o_X2_number (((dput ((0 : Int32), z.2.1, z.2.2.1, z.2.2.2.1, z.2.2.2.2.1, z.2.2.2.2.2) (0 : Int32).toNatClampNeg ((1970 : Int32), (1 : Int32), (1 : Int32))).2.1) (1 : Int32).toNatClampNeg)).bind fun x_6 => ((o_X2_number (((dput (dput ((0 : Int32), z.2.1, z.2.2.1, z.2.2.2.1, z.2.2.2.2.1, z.2.2.2.2.2) (0 : Int32).toNatClampNeg ((1970 : Int32), (1 : Int32), (1 : Int32))) (1 : Int32).toNatClampNeg ((1970 : Int32), (1 : Int32), (1 : Int32))).2.1) (2 : Int32).toNatClampNeg)).bind fun x_10 => ((o_X2_number (((dput (dput (dput ((0 : Int32), z.2.1, z.2.2.1, z.2.2.2.1, z.2.2.2.2.1, z.2.2.2.2.2) (0 : Int32).toNatClampNeg ((1970 : Int32), (1 : Int32), (1 : Int32))) (1 : Int32).toNatClampNeg ((1970 : Int32), (1 : Int32), (1 : Int32))) (2 : Int32).toNatClampNeg ((1970 : Int32), (1 : Int32), (1 : Int32))).2.1) (3 : Int32).toNatClampNeg)).bind fun x_14 => ((o_X2_number (((dput (dput (dput (dput ((0 : Int32), z.2.1, z.2.2.1, z.2.2.2.1, z.2.2.2.2.1, z.2.2.2.2.2) (0 : Int32).toNatClampNeg ((1970 : Int32), (1 : Int32), (1 : Int32))) (1 : Int32).toNatClampNeg ((1970 : Int32), (1 : Int32), (1 : Int32))) (2 : Int32).toNatClampNeg ((1970 : Int32), (1 : Int32), (1 : Int32))) (3 : Int32).toNatClampNeg ((1970 : Int32), (1 : Int32), (1 : Int32))).2.1) (4 : Int32).toNatClampNeg)).bind fun x_18 => ((o_X2_number (((dput (dput (dput (dput (dput ((0 : Int32), z.2.1, z.2.2.1, z.2.2.2.1, z.2.2.2.2.1, z.2.2.2.2.2) (0 : Int32).toNatClampNeg ((1970 : Int32), (1 : Int32), (1 : Int32))) (1 : Int32).toNatClampNeg ((1970 : Int32), (1 : Int32), (1 : Int32))) (2 : Int32).toNatClampNeg ((1970 : Int32), (1 : Int32), (1 : Int32))) (3 : Int32).toNatClampNeg ((1970 : Int32), (1 : Int32), (1 : Int32))) (4 : Int32).toNatClampNeg ((1970 : Int32), (1 : Int32), (1 : Int32))).2.1) (5 : Int32).toNatClampNeg)).bind fun x_22 => some (((((((0 : Int32) + (m_X3_one (if x_2 = 0 then (0 : Int32) else 1))) + (m_X3_one (if x_6 = 0 then (0 : Int32) else 1))) + (m_X3_one (if x_10 = 0 then (0 : Int32) else 1))) + (m_X3_one (if x_14 = 0 then (0 : Int32) else 1))) + (m_X3_one (if x_18 = 0 then (0 : Int32) else 1))) + (m_X3_one (if x_22 = 0 then (0 : Int32) else 1)), sput (sput (sput (sput (sput (sput (dput (dput (dput (dput (dput (dput ((0 : Int32), z.2.1, z.2.2.1, z.2.2.2.1, z.2.2.2.2.1, z.2.2.2.2.2) (0 : Int32).toNatClampNeg ((1970 : Int32), (1 : Int32), (1 : Int32))) (1 : Int32).toNatClampNeg ((1970 : Int32), (1 : Int32), (1 : Int32))) (2 : Int32).toNatClampNeg ((1970 : Int32), (1 : Int32), (1 : Int32))) (3 : Int32).toNatClampNeg ((1970 : Int32), (1 : Int32), (1 : Int32))) (4 : Int32).toNatClampNeg ((1970 : Int32), (1 : Int32), (1 : Int32))) (5 : Int32).toNatClampNeg ((1970 : Int32), (1 : Int32), (1 : Int32))) ((0 : Int32).toNatClampNeg) (0 : Int32).toNatClampNeg (0 : Int32)) ((0 : Int32).toNatClampNeg) (1 : Int32).toNatClampNeg (0 : Int32)) ((0 : Int32).toNatClampNeg) (2 : Int32).toNatClampNeg (0 : Int32)) ((1 : Int32).toNatClampNeg) (0 : Int32).toNatClampNeg (0 : Int32)) ((1 : Int32).toNatClampNeg) (1 : Int32).toNatClampNeg (0 : Int32)) ((1 : Int32).toNatClampNeg) (2 : Int32).toNatClampNeg (0 : Int32))))))))
theorem kk_X3_reset : pK yX3_reset wsX3_reset cX3_reset 7 (some .int) 0 := ⟨⟨_, rfl⟩, by decide +kernel, by decide +kernel, by decide +kernel⟩
set_option maxRecDepth 100000 in
set_option maxHeartbeats 4000000 in
theorem k_X3_reset (l : Launch) (k : Kx) (b : CA) (L : List Nat) (hD : mD k b L)  (z : MS) {r : (Int32 × MS)} (hm : o_X3_reset z = some r) : mM l k b L yX3_reset wsX3_reset 4 86 6 18 [] [] z (some (.int r.1)) r.2 := by
  intro sz q
  refine Met.ofW (cc := cX3_reset) (maxL := 7) (ret := (some .int)) (by decide) rfl ?_
  intro p e s m args below meth c s₁ B hml hv
  obtain ⟨rfl, rfl, hGx, hV, hLb, hds⟩ := hv
  have hx := B.exec
  have hb := B.bytes
  have hr := B.returns
  have hts := atoms_spec (ws := wsX3_reset) B.pre
  have hown : s.vm.findClass RX3 = some m.cls := findClass_of_methodNamed B.named
  have hlocks := B.notSynchronized
  have htg : ∀ w ∈ GL, w.before _ s = true := fun w h => hts w (List.mem_cons_of_mem _ h)
  have hC : CallFix p m c cX3_reset 7 s _ wsX3_reset RX3 := ⟨hx, hb, hml, hown, hts⟩
  have hA : ∀ q, s.heap.size ≤ q → cA b s.heap.size q := fun q h => cA.new q h
  have hAB : ∀ q, cA b s.heap.size q → kB k ≤ q := hD.high hGx.2.1
  have hS : mS b s.heap s.heap [] := mS.rf
  have hl := lv_entry ([.ref b.1]) (n := 7) (Nat.le_of_ble_eq_true rfl)
  rw [lg_entry_eq]
  generalize (lg_sl ([.ref b.1]) ++ List.replicate (7 - (lg_sl ([.ref b.1])).length) Slot.unset).toArray = ls at hl ⊢
  have hl : lv_has ls 7 [(0, .ref b.1)] := hl
  refine lv_aload_n hx hb dX3_reset_0 rfl (lv_at hl 0 rfl) ?_
  refine lv_iconst (v := 0) hx hb dX3_reset_1 (by decide) ?_
  have hs9 := hS.1.1
  refine m_put (z1 := ((0 : Int32), z.2.1, z.2.2.1, z.2.2.2.1, z.2.2.2.2.1, z.2.2.2.2.2)) 0 hx hb htg hown hGx hD hV hS (by decide) (htg _ w_1011) (by decide +kernel) rfl rfl dX3_reset_2 (fun H locs hV hS hz hq => ?_)
  refine lv_iconst (v := 0) hx hb dX3_reset_5 (by decide) ?_
  refine lv_istore_n (lv' := [(1, .int (0 : Int32)), (0, .ref b.1)]) hx hb dX3_reset_6 rfl hl (by decide) rfl (fun ls hl => ?_)
  refine lv_iconst (v := 0) hx hb dX3_reset_7 (by decide) ?_
  refine lv_istore_n (lv' := [(2, .int (0 : Int32)), (1, .int (0 : Int32)), (0, .ref b.1)]) hx hb dX3_reset_8 rfl hl (by decide) rfl (fun ls hl => ?_)
  refine lv_iload_n hx hb dX3_reset_9 rfl (lv_at hl 0 rfl) ?_
  refine lv_bipush (v := 6) hx hb dX3_reset_10 (by decide) ?_
  refine lv_icmp_ge (tgt := 62) hx hb dX3_reset_12 (by decide) (fun h => absurd h (by decide)) (fun _ => ?_)
  refine lv_iload_n hx hb dX3_reset_15 rfl (lv_at hl 1 rfl) ?_
  refine lv_aload_n hx hb dX3_reset_16 rfl (lv_at hl 2 rfl) ?_
  refine va_get (D := kD k) (ci := 5) (v := .ref b.2.1) (C := RX3) (T := TX3) (N := 5) hx hb htg inG_X3 hown hGx.1 hV.1 0 rfl rfl 1 (by decide) (htg _ w_1012) (fun _ h9 => h9) rfl dX3_reset_17 ?_
  refine lv_iload_n hx hb dX3_reset_20 rfl (lv_at hl 0 rfl) ?_
  refine m_ald hx hb hGx hV (show ¬ ((0 : Int32) < 0 ∨ 6 ≤ ((0 : Int32)).toNatClampNeg) by decide) dX3_reset_21 (fun hP_1 => ?_)
  obtain ⟨x_2, hx_2, hm⟩ := Option.bind_eq_some_iff.mp hm
  have hs_2 := hS.1.1
  have hLn_2 := m_hLn hLb hS
  have hL9 := hS.2
  refine qc_V hC hGx (k_X2_number l k (z.2.1 (0 : Int32).toNatClampNeg) (q (0 : Int32).toNatClampNeg) hx_2) (gV w_1062 w_1063 w_1064 w_28 w_1065) kk_X2_number rfl hP_1.1 (List.forall_mem_cons.mpr ⟨hP_1.1, (List.forall_mem_nil _)⟩) ⟨Nat.le_of_ble_eq_true rfl, Nat.le_of_ble_eq_true rfl⟩ ⟨Nat.le_of_ble_eq_true rfl, Nat.le_of_ble_eq_true rfl⟩ hS.1 hA hAB hl.1 rfl rfl (Nat.le_of_ble_eq_true rfl) dX3_reset_22 (fun v_2 H hv hz hq hS => ?_)
  have hS : mS b s.heap H _ := ⟨hS, hL9⟩
  have hV := hV.up hq
  have hv : v_2 = some (.int x_2) := hv
  subst hv
  refine bl_ne hx hb dX3_reset_25 dX3_reset_28 dX3_reset_29 dX3_reset_32 (by decide) (by decide) ?_
  refine pc_S hC (c_X3_one l (if x_2 = 0 then (0 : Int32) else 1)) (gS w_1218 w_1219 w_27 w_1220) kk_X3_one ⟨Nat.le_of_ble_eq_true rfl, Nat.le_of_ble_eq_true rfl⟩ ⟨Nat.le_of_ble_eq_true rfl, Nat.le_of_ble_eq_true rfl⟩ hl.1 rfl rfl (Nat.le_of_ble_eq_true rfl) dX3_reset_33 ?_
  refine lv_iadd hx hb dX3_reset_36 ?_
  refine lv_istore_n (lv' := [(1, .int ((0 : Int32) + (m_X3_one (if x_2 = 0 then (0 : Int32) else 1)))), (2, .int (0 : Int32)), (0, .ref b.1)]) hx hb dX3_reset_37 rfl hl (by decide) rfl (fun ls hl => ?_)
  refine lv_aload_n hx hb dX3_reset_38 rfl (lv_at hl 2 rfl) ?_
  refine va_get (D := kD k) (ci := 5) (v := .ref b.2.1) (C := RX3) (T := TX3) (N := 5) hx hb htg inG_X3 hown hGx.1 hV.1 0 rfl rfl 1 (by decide) (htg _ w_1012) (fun _ h9 => h9) rfl dX3_reset_39 ?_
  refine lv_iload_n hx hb dX3_reset_42 rfl (lv_at hl 1 rfl) ?_
  have hLn_3 := m_hLn hLb hS
  have hL9 := hS.2
  have hV_3 := hV
  have hs_3 := hS.1.1
  refine m_new2 hx hb htg hown (htg _ w_991) (htg _ w_993) (htg _ w_28) hGx hS.1 ⟨Nat.le_of_ble_eq_true rfl, Nat.le_of_ble_eq_true rfl⟩ dX3_reset_43 (fun a_3 H hn_3 hz_3 hN_3 hq hS => ?_)
  have hS : mS b s.heap H _ := ⟨hS, hL9⟩
  have hV := hV.up hq
  have hq_3 := hq
  refine lv_dup hx hb dX3_reset_46 rfl ?_
  refine lv_sipush (v := 1970) hx hb dX3_reset_47 (by decide) ?_
  refine lv_iconst (v := 1) hx hb dX3_reset_50 (by decide) ?_
  refine lv_iconst (v := 1) hx hb dX3_reset_51 (by decide) ?_
  have hL9 := hS.2
  refine q_init (v := ((1970 : Int32), (1 : Int32), (1 : Int32))) hC hGx (gC w_996) (htg _ w_994) (htg _ w_28) (htg _ w_995) hN_3 (Nat.le_trans hs_3 hn_3) ⟨Nat.le_of_ble_eq_true rfl, Nat.le_of_ble_eq_true rfl⟩ ⟨Nat.le_of_ble_eq_true rfl, Nat.le_of_ble_eq_true rfl⟩ hS.1 hA hAB hl.1 rfl (Nat.le_of_ble_eq_true rfl) dX3_reset_52 (fun H hP_3 hz9 hq9 hS => ?_)
  have hq := m_q2 hn_3 hz_3 hq_3 hq9
  have hS : mS b s.heap H _ := ⟨hS, hL9⟩
  have hV := hV_3.up hq
  have hP_3 := dF.made hLn_3 hn_3 hP_3
  have hn_3 := Nat.le_trans hs_3 hn_3
  have hs9 := hS.1.1
  refine m_ast hx hb hGx hD hV hS hP_3 (show ¬ ((0 : Int32) < 0 ∨ 6 ≤ ((0 : Int32)).toNatClampNeg) by decide) dX3_reset_55 (fun H locs hV hS hz hq => ?_)
  generalize va_up q (0 : Int32).toNatClampNeg a_3 = q_4 at hV
  refine lv_iinc (v := (1 : Int32)) (lv' := [(2, .int (1 : Int32)), (1, .int ((0 : Int32) + (m_X3_one (if x_2 = 0 then (0 : Int32) else 1)))), (0, .ref b.1)]) hx hb dX3_reset_56 hl (k := 1) rfl (by decide) (by decide) rfl (fun ls hl => ?_)
  refine lv_goto (tgt := 9) hx hb dX3_reset_59 (by decide) ?_
  refine lv_iload_n hx hb dX3_reset_9 rfl (lv_at hl 0 rfl) ?_
  refine lv_bipush (v := 6) hx hb dX3_reset_10 (by decide) ?_
  refine lv_icmp_ge (tgt := 62) hx hb dX3_reset_12 (by decide) (fun h => absurd h (by decide)) (fun _ => ?_)
  refine lv_iload_n hx hb dX3_reset_15 rfl (lv_at hl 1 rfl) ?_
  refine lv_aload_n hx hb dX3_reset_16 rfl (lv_at hl 2 rfl) ?_
  refine va_get (D := kD k) (ci := 5) (v := .ref b.2.1) (C := RX3) (T := TX3) (N := 5) hx hb htg inG_X3 hown hGx.1 hV.1 0 rfl rfl 1 (by decide) (htg _ w_1012) (fun _ h9 => h9) rfl dX3_reset_17 ?_
  refine lv_iload_n hx hb dX3_reset_20 rfl (lv_at hl 0 rfl) ?_
  refine m_ald hx hb hGx hV (show ¬ ((1 : Int32) < 0 ∨ 6 ≤ ((1 : Int32)).toNatClampNeg) by decide) dX3_reset_21 (fun hP_5 => ?_)
  obtain ⟨x_6, hx_6, hm⟩ := Option.bind_eq_some_iff.mp hm
  have hs_6 := hS.1.1
  have hLn_6 := m_hLn hLb hS
  have hL9 := hS.2
  refine qc_V hC hGx (k_X2_number l k (((dput ((0 : Int32), z.2.1, z.2.2.1, z.2.2.2.1, z.2.2.2.2.1, z.2.2.2.2.2) (0 : Int32).toNatClampNeg ((1970 : Int32), (1 : Int32), (1 : Int32))).2.1) (1 : Int32).toNatClampNeg) (q_4 (1 : Int32).toNatClampNeg) hx_6) (gV w_1062 w_1063 w_1064 w_28 w_1065) kk_X2_number rfl hP_5.1 (List.forall_mem_cons.mpr ⟨hP_5.1, (List.forall_mem_nil _)⟩) ⟨Nat.le_of_ble_eq_true rfl, Nat.le_of_ble_eq_true rfl⟩ ⟨Nat.le_of_ble_eq_true rfl, Nat.le_of_ble_eq_true rfl⟩ hS.1 hA hAB hl.1 rfl rfl (Nat.le_of_ble_eq_true rfl) dX3_reset_22 (fun v_6 H hv hz hq hS => ?_)
  have hS : mS b s.heap H _ := ⟨hS, hL9⟩
  have hV := hV.up hq
  have hv : v_6 = some (.int x_6) := hv
  subst hv
  refine bl_ne hx hb dX3_reset_25 dX3_reset_28 dX3_reset_29 dX3_reset_32 (by decide) (by decide) ?_
  refine pc_S hC (c_X3_one l (if x_6 = 0 then (0 : Int32) else 1)) (gS w_1218 w_1219 w_27 w_1220) kk_X3_one ⟨Nat.le_of_ble_eq_true rfl, Nat.le_of_ble_eq_true rfl⟩ ⟨Nat.le_of_ble_eq_true rfl, Nat.le_of_ble_eq_true rfl⟩ hl.1 rfl rfl (Nat.le_of_ble_eq_true rfl) dX3_reset_33 ?_
  refine lv_iadd hx hb dX3_reset_36 ?_
  refine lv_istore_n (lv' := [(1, .int (((0 : Int32) + (m_X3_one (if x_2 = 0 then (0 : Int32) else 1))) + (m_X3_one (if x_6 = 0 then (0 : Int32) else 1)))), (2, .int (1 : Int32)), (0, .ref b.1)]) hx hb dX3_reset_37 rfl hl (by decide) rfl (fun ls hl => ?_)
  refine lv_aload_n hx hb dX3_reset_38 rfl (lv_at hl 2 rfl) ?_
  refine va_get (D := kD k) (ci := 5) (v := .ref b.2.1) (C := RX3) (T := TX3) (N := 5) hx hb htg inG_X3 hown hGx.1 hV.1 0 rfl rfl 1 (by decide) (htg _ w_1012) (fun _ h9 => h9) rfl dX3_reset_39 ?_
  refine lv_iload_n hx hb dX3_reset_42 rfl (lv_at hl 1 rfl) ?_
  have hLn_7 := m_hLn hLb hS
  have hL9 := hS.2
  have hV_7 := hV
  have hs_7 := hS.1.1
  refine m_new2 hx hb htg hown (htg _ w_991) (htg _ w_993) (htg _ w_28) hGx hS.1 ⟨Nat.le_of_ble_eq_true rfl, Nat.le_of_ble_eq_true rfl⟩ dX3_reset_43 (fun a_7 H hn_7 hz_7 hN_7 hq hS => ?_)
  have hS : mS b s.heap H _ := ⟨hS, hL9⟩
  have hV := hV.up hq
  have hq_7 := hq
  refine lv_dup hx hb dX3_reset_46 rfl ?_
  refine lv_sipush (v := 1970) hx hb dX3_reset_47 (by decide) ?_
  refine lv_iconst (v := 1) hx hb dX3_reset_50 (by decide) ?_
  refine lv_iconst (v := 1) hx hb dX3_reset_51 (by decide) ?_
  have hL9 := hS.2
  refine q_init (v := ((1970 : Int32), (1 : Int32), (1 : Int32))) hC hGx (gC w_996) (htg _ w_994) (htg _ w_28) (htg _ w_995) hN_7 (Nat.le_trans hs_7 hn_7) ⟨Nat.le_of_ble_eq_true rfl, Nat.le_of_ble_eq_true rfl⟩ ⟨Nat.le_of_ble_eq_true rfl, Nat.le_of_ble_eq_true rfl⟩ hS.1 hA hAB hl.1 rfl (Nat.le_of_ble_eq_true rfl) dX3_reset_52 (fun H hP_7 hz9 hq9 hS => ?_)
  have hq := m_q2 hn_7 hz_7 hq_7 hq9
  have hS : mS b s.heap H _ := ⟨hS, hL9⟩
  have hV := hV_7.up hq
  have hP_7 := dF.made hLn_7 hn_7 hP_7
  have hn_7 := Nat.le_trans hs_7 hn_7
  have hs9 := hS.1.1
  refine m_ast hx hb hGx hD hV hS hP_7 (show ¬ ((1 : Int32) < 0 ∨ 6 ≤ ((1 : Int32)).toNatClampNeg) by decide) dX3_reset_55 (fun H locs hV hS hz hq => ?_)
  generalize va_up q_4 (1 : Int32).toNatClampNeg a_7 = q_8 at hV
  refine lv_iinc (v := (2 : Int32)) (lv' := [(2, .int (2 : Int32)), (1, .int (((0 : Int32) + (m_X3_one (if x_2 = 0 then (0 : Int32) else 1))) + (m_X3_one (if x_6 = 0 then (0 : Int32) else 1)))), (0, .ref b.1)]) hx hb dX3_reset_56 hl (k := 1) rfl (by decide) (by decide) rfl (fun ls hl => ?_)
  refine lv_goto (tgt := 9) hx hb dX3_reset_59 (by decide) ?_
  refine lv_iload_n hx hb dX3_reset_9 rfl (lv_at hl 0 rfl) ?_
  refine lv_bipush (v := 6) hx hb dX3_reset_10 (by decide) ?_
  refine lv_icmp_ge (tgt := 62) hx hb dX3_reset_12 (by decide) (fun h => absurd h (by decide)) (fun _ => ?_)
  refine lv_iload_n hx hb dX3_reset_15 rfl (lv_at hl 1 rfl) ?_
  refine lv_aload_n hx hb dX3_reset_16 rfl (lv_at hl 2 rfl) ?_
  refine va_get (D := kD k) (ci := 5) (v := .ref b.2.1) (C := RX3) (T := TX3) (N := 5) hx hb htg inG_X3 hown hGx.1 hV.1 0 rfl rfl 1 (by decide) (htg _ w_1012) (fun _ h9 => h9) rfl dX3_reset_17 ?_
  refine lv_iload_n hx hb dX3_reset_20 rfl (lv_at hl 0 rfl) ?_
  refine m_ald hx hb hGx hV (show ¬ ((2 : Int32) < 0 ∨ 6 ≤ ((2 : Int32)).toNatClampNeg) by decide) dX3_reset_21 (fun hP_9 => ?_)
  obtain ⟨x_10, hx_10, hm⟩ := Option.bind_eq_some_iff.mp hm
  have hs_10 := hS.1.1
  have hLn_10 := m_hLn hLb hS
  have hL9 := hS.2
  refine qc_V hC hGx (k_X2_number l k (((dput (dput ((0 : Int32), z.2.1, z.2.2.1, z.2.2.2.1, z.2.2.2.2.1, z.2.2.2.2.2) (0 : Int32).toNatClampNeg ((1970 : Int32), (1 : Int32), (1 : Int32))) (1 : Int32).toNatClampNeg ((1970 : Int32), (1 : Int32), (1 : Int32))).2.1) (2 : Int32).toNatClampNeg) (q_8 (2 : Int32).toNatClampNeg) hx_10) (gV w_1062 w_1063 w_1064 w_28 w_1065) kk_X2_number rfl hP_9.1 (List.forall_mem_cons.mpr ⟨hP_9.1, (List.forall_mem_nil _)⟩) ⟨Nat.le_of_ble_eq_true rfl, Nat.le_of_ble_eq_true rfl⟩ ⟨Nat.le_of_ble_eq_true rfl, Nat.le_of_ble_eq_true rfl⟩ hS.1 hA hAB hl.1 rfl rfl (Nat.le_of_ble_eq_true rfl) dX3_reset_22 (fun v_10 H hv hz hq hS => ?_)
  have hS : mS b s.heap H _ := ⟨hS, hL9⟩
  have hV := hV.up hq
  have hv : v_10 = some (.int x_10) := hv
  subst hv
  refine bl_ne hx hb dX3_reset_25 dX3_reset_28 dX3_reset_29 dX3_reset_32 (by decide) (by decide) ?_
  refine pc_S hC (c_X3_one l (if x_10 = 0 then (0 : Int32) else 1)) (gS w_1218 w_1219 w_27 w_1220) kk_X3_one ⟨Nat.le_of_ble_eq_true rfl, Nat.le_of_ble_eq_true rfl⟩ ⟨Nat.le_of_ble_eq_true rfl, Nat.le_of_ble_eq_true rfl⟩ hl.1 rfl rfl (Nat.le_of_ble_eq_true rfl) dX3_reset_33 ?_
  refine lv_iadd hx hb dX3_reset_36 ?_
  refine lv_istore_n (lv' := [(1, .int ((((0 : Int32) + (m_X3_one (if x_2 = 0 then (0 : Int32) else 1))) + (m_X3_one (if x_6 = 0 then (0 : Int32) else 1))) + (m_X3_one (if x_10 = 0 then (0 : Int32) else 1)))), (2, .int (2 : Int32)), (0, .ref b.1)]) hx hb dX3_reset_37 rfl hl (by decide) rfl (fun ls hl => ?_)
  refine lv_aload_n hx hb dX3_reset_38 rfl (lv_at hl 2 rfl) ?_
  refine va_get (D := kD k) (ci := 5) (v := .ref b.2.1) (C := RX3) (T := TX3) (N := 5) hx hb htg inG_X3 hown hGx.1 hV.1 0 rfl rfl 1 (by decide) (htg _ w_1012) (fun _ h9 => h9) rfl dX3_reset_39 ?_
  refine lv_iload_n hx hb dX3_reset_42 rfl (lv_at hl 1 rfl) ?_
  have hLn_11 := m_hLn hLb hS
  have hL9 := hS.2
  have hV_11 := hV
  have hs_11 := hS.1.1
  refine m_new2 hx hb htg hown (htg _ w_991) (htg _ w_993) (htg _ w_28) hGx hS.1 ⟨Nat.le_of_ble_eq_true rfl, Nat.le_of_ble_eq_true rfl⟩ dX3_reset_43 (fun a_11 H hn_11 hz_11 hN_11 hq hS => ?_)
  have hS : mS b s.heap H _ := ⟨hS, hL9⟩
  have hV := hV.up hq
  have hq_11 := hq
  refine lv_dup hx hb dX3_reset_46 rfl ?_
  refine lv_sipush (v := 1970) hx hb dX3_reset_47 (by decide) ?_
  refine lv_iconst (v := 1) hx hb dX3_reset_50 (by decide) ?_
  refine lv_iconst (v := 1) hx hb dX3_reset_51 (by decide) ?_
  have hL9 := hS.2
  refine q_init (v := ((1970 : Int32), (1 : Int32), (1 : Int32))) hC hGx (gC w_996) (htg _ w_994) (htg _ w_28) (htg _ w_995) hN_11 (Nat.le_trans hs_11 hn_11) ⟨Nat.le_of_ble_eq_true rfl, Nat.le_of_ble_eq_true rfl⟩ ⟨Nat.le_of_ble_eq_true rfl, Nat.le_of_ble_eq_true rfl⟩ hS.1 hA hAB hl.1 rfl (Nat.le_of_ble_eq_true rfl) dX3_reset_52 (fun H hP_11 hz9 hq9 hS => ?_)
  have hq := m_q2 hn_11 hz_11 hq_11 hq9
  have hS : mS b s.heap H _ := ⟨hS, hL9⟩
  have hV := hV_11.up hq
  have hP_11 := dF.made hLn_11 hn_11 hP_11
  have hn_11 := Nat.le_trans hs_11 hn_11
  have hs9 := hS.1.1
  refine m_ast hx hb hGx hD hV hS hP_11 (show ¬ ((2 : Int32) < 0 ∨ 6 ≤ ((2 : Int32)).toNatClampNeg) by decide) dX3_reset_55 (fun H locs hV hS hz hq => ?_)
  generalize va_up q_8 (2 : Int32).toNatClampNeg a_11 = q_12 at hV
  refine lv_iinc (v := (3 : Int32)) (lv' := [(2, .int (3 : Int32)), (1, .int ((((0 : Int32) + (m_X3_one (if x_2 = 0 then (0 : Int32) else 1))) + (m_X3_one (if x_6 = 0 then (0 : Int32) else 1))) + (m_X3_one (if x_10 = 0 then (0 : Int32) else 1)))), (0, .ref b.1)]) hx hb dX3_reset_56 hl (k := 1) rfl (by decide) (by decide) rfl (fun ls hl => ?_)
  refine lv_goto (tgt := 9) hx hb dX3_reset_59 (by decide) ?_
  refine lv_iload_n hx hb dX3_reset_9 rfl (lv_at hl 0 rfl) ?_
  refine lv_bipush (v := 6) hx hb dX3_reset_10 (by decide) ?_
  refine lv_icmp_ge (tgt := 62) hx hb dX3_reset_12 (by decide) (fun h => absurd h (by decide)) (fun _ => ?_)
  refine lv_iload_n hx hb dX3_reset_15 rfl (lv_at hl 1 rfl) ?_
  refine lv_aload_n hx hb dX3_reset_16 rfl (lv_at hl 2 rfl) ?_
  refine va_get (D := kD k) (ci := 5) (v := .ref b.2.1) (C := RX3) (T := TX3) (N := 5) hx hb htg inG_X3 hown hGx.1 hV.1 0 rfl rfl 1 (by decide) (htg _ w_1012) (fun _ h9 => h9) rfl dX3_reset_17 ?_
  refine lv_iload_n hx hb dX3_reset_20 rfl (lv_at hl 0 rfl) ?_
  refine m_ald hx hb hGx hV (show ¬ ((3 : Int32) < 0 ∨ 6 ≤ ((3 : Int32)).toNatClampNeg) by decide) dX3_reset_21 (fun hP_13 => ?_)
  obtain ⟨x_14, hx_14, hm⟩ := Option.bind_eq_some_iff.mp hm
  have hs_14 := hS.1.1
  have hLn_14 := m_hLn hLb hS
  have hL9 := hS.2
  refine qc_V hC hGx (k_X2_number l k (((dput (dput (dput ((0 : Int32), z.2.1, z.2.2.1, z.2.2.2.1, z.2.2.2.2.1, z.2.2.2.2.2) (0 : Int32).toNatClampNeg ((1970 : Int32), (1 : Int32), (1 : Int32))) (1 : Int32).toNatClampNeg ((1970 : Int32), (1 : Int32), (1 : Int32))) (2 : Int32).toNatClampNeg ((1970 : Int32), (1 : Int32), (1 : Int32))).2.1) (3 : Int32).toNatClampNeg) (q_12 (3 : Int32).toNatClampNeg) hx_14) (gV w_1062 w_1063 w_1064 w_28 w_1065) kk_X2_number rfl hP_13.1 (List.forall_mem_cons.mpr ⟨hP_13.1, (List.forall_mem_nil _)⟩) ⟨Nat.le_of_ble_eq_true rfl, Nat.le_of_ble_eq_true rfl⟩ ⟨Nat.le_of_ble_eq_true rfl, Nat.le_of_ble_eq_true rfl⟩ hS.1 hA hAB hl.1 rfl rfl (Nat.le_of_ble_eq_true rfl) dX3_reset_22 (fun v_14 H hv hz hq hS => ?_)
  have hS : mS b s.heap H _ := ⟨hS, hL9⟩
  have hV := hV.up hq
  have hv : v_14 = some (.int x_14) := hv
  subst hv
  refine bl_ne hx hb dX3_reset_25 dX3_reset_28 dX3_reset_29 dX3_reset_32 (by decide) (by decide) ?_
  refine pc_S hC (c_X3_one l (if x_14 = 0 then (0 : Int32) else 1)) (gS w_1218 w_1219 w_27 w_1220) kk_X3_one ⟨Nat.le_of_ble_eq_true rfl, Nat.le_of_ble_eq_true rfl⟩ ⟨Nat.le_of_ble_eq_true rfl, Nat.le_of_ble_eq_true rfl⟩ hl.1 rfl rfl (Nat.le_of_ble_eq_true rfl) dX3_reset_33 ?_
  refine lv_iadd hx hb dX3_reset_36 ?_
  refine lv_istore_n (lv' := [(1, .int (((((0 : Int32) + (m_X3_one (if x_2 = 0 then (0 : Int32) else 1))) + (m_X3_one (if x_6 = 0 then (0 : Int32) else 1))) + (m_X3_one (if x_10 = 0 then (0 : Int32) else 1))) + (m_X3_one (if x_14 = 0 then (0 : Int32) else 1)))), (2, .int (3 : Int32)), (0, .ref b.1)]) hx hb dX3_reset_37 rfl hl (by decide) rfl (fun ls hl => ?_)
  refine lv_aload_n hx hb dX3_reset_38 rfl (lv_at hl 2 rfl) ?_
  refine va_get (D := kD k) (ci := 5) (v := .ref b.2.1) (C := RX3) (T := TX3) (N := 5) hx hb htg inG_X3 hown hGx.1 hV.1 0 rfl rfl 1 (by decide) (htg _ w_1012) (fun _ h9 => h9) rfl dX3_reset_39 ?_
  refine lv_iload_n hx hb dX3_reset_42 rfl (lv_at hl 1 rfl) ?_
  have hLn_15 := m_hLn hLb hS
  have hL9 := hS.2
  have hV_15 := hV
  have hs_15 := hS.1.1
  refine m_new2 hx hb htg hown (htg _ w_991) (htg _ w_993) (htg _ w_28) hGx hS.1 ⟨Nat.le_of_ble_eq_true rfl, Nat.le_of_ble_eq_true rfl⟩ dX3_reset_43 (fun a_15 H hn_15 hz_15 hN_15 hq hS => ?_)
  have hS : mS b s.heap H _ := ⟨hS, hL9⟩
  have hV := hV.up hq
  have hq_15 := hq
  refine lv_dup hx hb dX3_reset_46 rfl ?_
  refine lv_sipush (v := 1970) hx hb dX3_reset_47 (by decide) ?_
  refine lv_iconst (v := 1) hx hb dX3_reset_50 (by decide) ?_
  refine lv_iconst (v := 1) hx hb dX3_reset_51 (by decide) ?_
  have hL9 := hS.2
  refine q_init (v := ((1970 : Int32), (1 : Int32), (1 : Int32))) hC hGx (gC w_996) (htg _ w_994) (htg _ w_28) (htg _ w_995) hN_15 (Nat.le_trans hs_15 hn_15) ⟨Nat.le_of_ble_eq_true rfl, Nat.le_of_ble_eq_true rfl⟩ ⟨Nat.le_of_ble_eq_true rfl, Nat.le_of_ble_eq_true rfl⟩ hS.1 hA hAB hl.1 rfl (Nat.le_of_ble_eq_true rfl) dX3_reset_52 (fun H hP_15 hz9 hq9 hS => ?_)
  have hq := m_q2 hn_15 hz_15 hq_15 hq9
  have hS : mS b s.heap H _ := ⟨hS, hL9⟩
  have hV := hV_15.up hq
  have hP_15 := dF.made hLn_15 hn_15 hP_15
  have hn_15 := Nat.le_trans hs_15 hn_15
  have hs9 := hS.1.1
  refine m_ast hx hb hGx hD hV hS hP_15 (show ¬ ((3 : Int32) < 0 ∨ 6 ≤ ((3 : Int32)).toNatClampNeg) by decide) dX3_reset_55 (fun H locs hV hS hz hq => ?_)
  generalize va_up q_12 (3 : Int32).toNatClampNeg a_15 = q_16 at hV
  refine lv_iinc (v := (4 : Int32)) (lv' := [(2, .int (4 : Int32)), (1, .int (((((0 : Int32) + (m_X3_one (if x_2 = 0 then (0 : Int32) else 1))) + (m_X3_one (if x_6 = 0 then (0 : Int32) else 1))) + (m_X3_one (if x_10 = 0 then (0 : Int32) else 1))) + (m_X3_one (if x_14 = 0 then (0 : Int32) else 1)))), (0, .ref b.1)]) hx hb dX3_reset_56 hl (k := 1) rfl (by decide) (by decide) rfl (fun ls hl => ?_)
  refine lv_goto (tgt := 9) hx hb dX3_reset_59 (by decide) ?_
  refine lv_iload_n hx hb dX3_reset_9 rfl (lv_at hl 0 rfl) ?_
  refine lv_bipush (v := 6) hx hb dX3_reset_10 (by decide) ?_
  refine lv_icmp_ge (tgt := 62) hx hb dX3_reset_12 (by decide) (fun h => absurd h (by decide)) (fun _ => ?_)
  refine lv_iload_n hx hb dX3_reset_15 rfl (lv_at hl 1 rfl) ?_
  refine lv_aload_n hx hb dX3_reset_16 rfl (lv_at hl 2 rfl) ?_
  refine va_get (D := kD k) (ci := 5) (v := .ref b.2.1) (C := RX3) (T := TX3) (N := 5) hx hb htg inG_X3 hown hGx.1 hV.1 0 rfl rfl 1 (by decide) (htg _ w_1012) (fun _ h9 => h9) rfl dX3_reset_17 ?_
  refine lv_iload_n hx hb dX3_reset_20 rfl (lv_at hl 0 rfl) ?_
  refine m_ald hx hb hGx hV (show ¬ ((4 : Int32) < 0 ∨ 6 ≤ ((4 : Int32)).toNatClampNeg) by decide) dX3_reset_21 (fun hP_17 => ?_)
  obtain ⟨x_18, hx_18, hm⟩ := Option.bind_eq_some_iff.mp hm
  have hs_18 := hS.1.1
  have hLn_18 := m_hLn hLb hS
  have hL9 := hS.2
  refine qc_V hC hGx (k_X2_number l k (((dput (dput (dput (dput ((0 : Int32), z.2.1, z.2.2.1, z.2.2.2.1, z.2.2.2.2.1, z.2.2.2.2.2) (0 : Int32).toNatClampNeg ((1970 : Int32), (1 : Int32), (1 : Int32))) (1 : Int32).toNatClampNeg ((1970 : Int32), (1 : Int32), (1 : Int32))) (2 : Int32).toNatClampNeg ((1970 : Int32), (1 : Int32), (1 : Int32))) (3 : Int32).toNatClampNeg ((1970 : Int32), (1 : Int32), (1 : Int32))).2.1) (4 : Int32).toNatClampNeg) (q_16 (4 : Int32).toNatClampNeg) hx_18) (gV w_1062 w_1063 w_1064 w_28 w_1065) kk_X2_number rfl hP_17.1 (List.forall_mem_cons.mpr ⟨hP_17.1, (List.forall_mem_nil _)⟩) ⟨Nat.le_of_ble_eq_true rfl, Nat.le_of_ble_eq_true rfl⟩ ⟨Nat.le_of_ble_eq_true rfl, Nat.le_of_ble_eq_true rfl⟩ hS.1 hA hAB hl.1 rfl rfl (Nat.le_of_ble_eq_true rfl) dX3_reset_22 (fun v_18 H hv hz hq hS => ?_)
  have hS : mS b s.heap H _ := ⟨hS, hL9⟩
  have hV := hV.up hq
  have hv : v_18 = some (.int x_18) := hv
  subst hv
  refine bl_ne hx hb dX3_reset_25 dX3_reset_28 dX3_reset_29 dX3_reset_32 (by decide) (by decide) ?_
  refine pc_S hC (c_X3_one l (if x_18 = 0 then (0 : Int32) else 1)) (gS w_1218 w_1219 w_27 w_1220) kk_X3_one ⟨Nat.le_of_ble_eq_true rfl, Nat.le_of_ble_eq_true rfl⟩ ⟨Nat.le_of_ble_eq_true rfl, Nat.le_of_ble_eq_true rfl⟩ hl.1 rfl rfl (Nat.le_of_ble_eq_true rfl) dX3_reset_33 ?_
  refine lv_iadd hx hb dX3_reset_36 ?_
  refine lv_istore_n (lv' := [(1, .int ((((((0 : Int32) + (m_X3_one (if x_2 = 0 then (0 : Int32) else 1))) + (m_X3_one (if x_6 = 0 then (0 : Int32) else 1))) + (m_X3_one (if x_10 = 0 then (0 : Int32) else 1))) + (m_X3_one (if x_14 = 0 then (0 : Int32) else 1))) + (m_X3_one (if x_18 = 0 then (0 : Int32) else 1)))), (2, .int (4 : Int32)), (0, .ref b.1)]) hx hb dX3_reset_37 rfl hl (by decide) rfl (fun ls hl => ?_)
  refine lv_aload_n hx hb dX3_reset_38 rfl (lv_at hl 2 rfl) ?_
  refine va_get (D := kD k) (ci := 5) (v := .ref b.2.1) (C := RX3) (T := TX3) (N := 5) hx hb htg inG_X3 hown hGx.1 hV.1 0 rfl rfl 1 (by decide) (htg _ w_1012) (fun _ h9 => h9) rfl dX3_reset_39 ?_
  refine lv_iload_n hx hb dX3_reset_42 rfl (lv_at hl 1 rfl) ?_
  have hLn_19 := m_hLn hLb hS
  have hL9 := hS.2
  have hV_19 := hV
  have hs_19 := hS.1.1
  refine m_new2 hx hb htg hown (htg _ w_991) (htg _ w_993) (htg _ w_28) hGx hS.1 ⟨Nat.le_of_ble_eq_true rfl, Nat.le_of_ble_eq_true rfl⟩ dX3_reset_43 (fun a_19 H hn_19 hz_19 hN_19 hq hS => ?_)
  have hS : mS b s.heap H _ := ⟨hS, hL9⟩
  have hV := hV.up hq
  have hq_19 := hq
  refine lv_dup hx hb dX3_reset_46 rfl ?_
  refine lv_sipush (v := 1970) hx hb dX3_reset_47 (by decide) ?_
  refine lv_iconst (v := 1) hx hb dX3_reset_50 (by decide) ?_
  refine lv_iconst (v := 1) hx hb dX3_reset_51 (by decide) ?_
  have hL9 := hS.2
  refine q_init (v := ((1970 : Int32), (1 : Int32), (1 : Int32))) hC hGx (gC w_996) (htg _ w_994) (htg _ w_28) (htg _ w_995) hN_19 (Nat.le_trans hs_19 hn_19) ⟨Nat.le_of_ble_eq_true rfl, Nat.le_of_ble_eq_true rfl⟩ ⟨Nat.le_of_ble_eq_true rfl, Nat.le_of_ble_eq_true rfl⟩ hS.1 hA hAB hl.1 rfl (Nat.le_of_ble_eq_true rfl) dX3_reset_52 (fun H hP_19 hz9 hq9 hS => ?_)
  have hq := m_q2 hn_19 hz_19 hq_19 hq9
  have hS : mS b s.heap H _ := ⟨hS, hL9⟩
  have hV := hV_19.up hq
  have hP_19 := dF.made hLn_19 hn_19 hP_19
  have hn_19 := Nat.le_trans hs_19 hn_19
  have hs9 := hS.1.1
  refine m_ast hx hb hGx hD hV hS hP_19 (show ¬ ((4 : Int32) < 0 ∨ 6 ≤ ((4 : Int32)).toNatClampNeg) by decide) dX3_reset_55 (fun H locs hV hS hz hq => ?_)
  generalize va_up q_16 (4 : Int32).toNatClampNeg a_19 = q_20 at hV
  refine lv_iinc (v := (5 : Int32)) (lv' := [(2, .int (5 : Int32)), (1, .int ((((((0 : Int32) + (m_X3_one (if x_2 = 0 then (0 : Int32) else 1))) + (m_X3_one (if x_6 = 0 then (0 : Int32) else 1))) + (m_X3_one (if x_10 = 0 then (0 : Int32) else 1))) + (m_X3_one (if x_14 = 0 then (0 : Int32) else 1))) + (m_X3_one (if x_18 = 0 then (0 : Int32) else 1)))), (0, .ref b.1)]) hx hb dX3_reset_56 hl (k := 1) rfl (by decide) (by decide) rfl (fun ls hl => ?_)
  refine lv_goto (tgt := 9) hx hb dX3_reset_59 (by decide) ?_
  refine lv_iload_n hx hb dX3_reset_9 rfl (lv_at hl 0 rfl) ?_
  refine lv_bipush (v := 6) hx hb dX3_reset_10 (by decide) ?_
  refine lv_icmp_ge (tgt := 62) hx hb dX3_reset_12 (by decide) (fun h => absurd h (by decide)) (fun _ => ?_)
  refine lv_iload_n hx hb dX3_reset_15 rfl (lv_at hl 1 rfl) ?_
  refine lv_aload_n hx hb dX3_reset_16 rfl (lv_at hl 2 rfl) ?_
  refine va_get (D := kD k) (ci := 5) (v := .ref b.2.1) (C := RX3) (T := TX3) (N := 5) hx hb htg inG_X3 hown hGx.1 hV.1 0 rfl rfl 1 (by decide) (htg _ w_1012) (fun _ h9 => h9) rfl dX3_reset_17 ?_
  refine lv_iload_n hx hb dX3_reset_20 rfl (lv_at hl 0 rfl) ?_
  refine m_ald hx hb hGx hV (show ¬ ((5 : Int32) < 0 ∨ 6 ≤ ((5 : Int32)).toNatClampNeg) by decide) dX3_reset_21 (fun hP_21 => ?_)
  obtain ⟨x_22, hx_22, hm⟩ := Option.bind_eq_some_iff.mp hm
  have hs_22 := hS.1.1
  have hLn_22 := m_hLn hLb hS
  have hL9 := hS.2
  refine qc_V hC hGx (k_X2_number l k (((dput (dput (dput (dput (dput ((0 : Int32), z.2.1, z.2.2.1, z.2.2.2.1, z.2.2.2.2.1, z.2.2.2.2.2) (0 : Int32).toNatClampNeg ((1970 : Int32), (1 : Int32), (1 : Int32))) (1 : Int32).toNatClampNeg ((1970 : Int32), (1 : Int32), (1 : Int32))) (2 : Int32).toNatClampNeg ((1970 : Int32), (1 : Int32), (1 : Int32))) (3 : Int32).toNatClampNeg ((1970 : Int32), (1 : Int32), (1 : Int32))) (4 : Int32).toNatClampNeg ((1970 : Int32), (1 : Int32), (1 : Int32))).2.1) (5 : Int32).toNatClampNeg) (q_20 (5 : Int32).toNatClampNeg) hx_22) (gV w_1062 w_1063 w_1064 w_28 w_1065) kk_X2_number rfl hP_21.1 (List.forall_mem_cons.mpr ⟨hP_21.1, (List.forall_mem_nil _)⟩) ⟨Nat.le_of_ble_eq_true rfl, Nat.le_of_ble_eq_true rfl⟩ ⟨Nat.le_of_ble_eq_true rfl, Nat.le_of_ble_eq_true rfl⟩ hS.1 hA hAB hl.1 rfl rfl (Nat.le_of_ble_eq_true rfl) dX3_reset_22 (fun v_22 H hv hz hq hS => ?_)
  have hS : mS b s.heap H _ := ⟨hS, hL9⟩
  have hV := hV.up hq
  have hv : v_22 = some (.int x_22) := hv
  subst hv
  refine bl_ne hx hb dX3_reset_25 dX3_reset_28 dX3_reset_29 dX3_reset_32 (by decide) (by decide) ?_
  refine pc_S hC (c_X3_one l (if x_22 = 0 then (0 : Int32) else 1)) (gS w_1218 w_1219 w_27 w_1220) kk_X3_one ⟨Nat.le_of_ble_eq_true rfl, Nat.le_of_ble_eq_true rfl⟩ ⟨Nat.le_of_ble_eq_true rfl, Nat.le_of_ble_eq_true rfl⟩ hl.1 rfl rfl (Nat.le_of_ble_eq_true rfl) dX3_reset_33 ?_
  refine lv_iadd hx hb dX3_reset_36 ?_
  refine lv_istore_n (lv' := [(1, .int (((((((0 : Int32) + (m_X3_one (if x_2 = 0 then (0 : Int32) else 1))) + (m_X3_one (if x_6 = 0 then (0 : Int32) else 1))) + (m_X3_one (if x_10 = 0 then (0 : Int32) else 1))) + (m_X3_one (if x_14 = 0 then (0 : Int32) else 1))) + (m_X3_one (if x_18 = 0 then (0 : Int32) else 1))) + (m_X3_one (if x_22 = 0 then (0 : Int32) else 1)))), (2, .int (5 : Int32)), (0, .ref b.1)]) hx hb dX3_reset_37 rfl hl (by decide) rfl (fun ls hl => ?_)
  refine lv_aload_n hx hb dX3_reset_38 rfl (lv_at hl 2 rfl) ?_
  refine va_get (D := kD k) (ci := 5) (v := .ref b.2.1) (C := RX3) (T := TX3) (N := 5) hx hb htg inG_X3 hown hGx.1 hV.1 0 rfl rfl 1 (by decide) (htg _ w_1012) (fun _ h9 => h9) rfl dX3_reset_39 ?_
  refine lv_iload_n hx hb dX3_reset_42 rfl (lv_at hl 1 rfl) ?_
  have hLn_23 := m_hLn hLb hS
  have hL9 := hS.2
  have hV_23 := hV
  have hs_23 := hS.1.1
  refine m_new2 hx hb htg hown (htg _ w_991) (htg _ w_993) (htg _ w_28) hGx hS.1 ⟨Nat.le_of_ble_eq_true rfl, Nat.le_of_ble_eq_true rfl⟩ dX3_reset_43 (fun a_23 H hn_23 hz_23 hN_23 hq hS => ?_)
  have hS : mS b s.heap H _ := ⟨hS, hL9⟩
  have hV := hV.up hq
  have hq_23 := hq
  refine lv_dup hx hb dX3_reset_46 rfl ?_
  refine lv_sipush (v := 1970) hx hb dX3_reset_47 (by decide) ?_
  refine lv_iconst (v := 1) hx hb dX3_reset_50 (by decide) ?_
  refine lv_iconst (v := 1) hx hb dX3_reset_51 (by decide) ?_
  have hL9 := hS.2
  refine q_init (v := ((1970 : Int32), (1 : Int32), (1 : Int32))) hC hGx (gC w_996) (htg _ w_994) (htg _ w_28) (htg _ w_995) hN_23 (Nat.le_trans hs_23 hn_23) ⟨Nat.le_of_ble_eq_true rfl, Nat.le_of_ble_eq_true rfl⟩ ⟨Nat.le_of_ble_eq_true rfl, Nat.le_of_ble_eq_true rfl⟩ hS.1 hA hAB hl.1 rfl (Nat.le_of_ble_eq_true rfl) dX3_reset_52 (fun H hP_23 hz9 hq9 hS => ?_)
  have hq := m_q2 hn_23 hz_23 hq_23 hq9
  have hS : mS b s.heap H _ := ⟨hS, hL9⟩
  have hV := hV_23.up hq
  have hP_23 := dF.made hLn_23 hn_23 hP_23
  have hn_23 := Nat.le_trans hs_23 hn_23
  have hs9 := hS.1.1
  refine m_ast hx hb hGx hD hV hS hP_23 (show ¬ ((5 : Int32) < 0 ∨ 6 ≤ ((5 : Int32)).toNatClampNeg) by decide) dX3_reset_55 (fun H locs hV hS hz hq => ?_)
  generalize va_up q_20 (5 : Int32).toNatClampNeg a_23 = q_24 at hV
  refine lv_iinc (v := (6 : Int32)) (lv' := [(2, .int (6 : Int32)), (1, .int (((((((0 : Int32) + (m_X3_one (if x_2 = 0 then (0 : Int32) else 1))) + (m_X3_one (if x_6 = 0 then (0 : Int32) else 1))) + (m_X3_one (if x_10 = 0 then (0 : Int32) else 1))) + (m_X3_one (if x_14 = 0 then (0 : Int32) else 1))) + (m_X3_one (if x_18 = 0 then (0 : Int32) else 1))) + (m_X3_one (if x_22 = 0 then (0 : Int32) else 1)))), (0, .ref b.1)]) hx hb dX3_reset_56 hl (k := 1) rfl (by decide) (by decide) rfl (fun ls hl => ?_)
  refine lv_goto (tgt := 9) hx hb dX3_reset_59 (by decide) ?_
  refine lv_iload_n hx hb dX3_reset_9 rfl (lv_at hl 0 rfl) ?_
  refine lv_bipush (v := 6) hx hb dX3_reset_10 (by decide) ?_
  refine lv_icmp_ge (tgt := 62) hx hb dX3_reset_12 (by decide) (fun _ => ?_) (fun h => absurd h (by decide))
  refine lv_aload_n hx hb dX3_reset_62 rfl (lv_at hl 2 rfl) ?_
  refine va_get (D := kD k) (ci := 5) (v := .ref b.2.2.1) (C := RX3) (T := TX3) (N := 5) hx hb htg inG_X3 hown hGx.1 hV.1 0 rfl rfl 2 (by decide) (htg _ w_1013) (fun _ h9 => h9) rfl dX3_reset_63 ?_
  refine lv_astore_n (lv' := [(2, .ref b.2.2.1), (1, .int (((((((0 : Int32) + (m_X3_one (if x_2 = 0 then (0 : Int32) else 1))) + (m_X3_one (if x_6 = 0 then (0 : Int32) else 1))) + (m_X3_one (if x_10 = 0 then (0 : Int32) else 1))) + (m_X3_one (if x_14 = 0 then (0 : Int32) else 1))) + (m_X3_one (if x_18 = 0 then (0 : Int32) else 1))) + (m_X3_one (if x_22 = 0 then (0 : Int32) else 1)))), (0, .ref b.1)]) hx hb dX3_reset_66 rfl hl (by decide) rfl (fun ls hl => ?_)
  refine lv_aload_n hx hb dX3_reset_67 rfl (lv_at hl 0 rfl) ?_
  refine va_alen (D := kD k) (v := 2) hx hb hGx.1 hV.1 2 4 rfl rfl (show Int32.ofNat 2 = 2 by decide) dX3_reset_68 ?_
  refine lv_istore_n (lv' := [(3, .int (2 : Int32)), (2, .ref b.2.2.1), (1, .int (((((((0 : Int32) + (m_X3_one (if x_2 = 0 then (0 : Int32) else 1))) + (m_X3_one (if x_6 = 0 then (0 : Int32) else 1))) + (m_X3_one (if x_10 = 0 then (0 : Int32) else 1))) + (m_X3_one (if x_14 = 0 then (0 : Int32) else 1))) + (m_X3_one (if x_18 = 0 then (0 : Int32) else 1))) + (m_X3_one (if x_22 = 0 then (0 : Int32) else 1)))), (0, .ref b.1)]) hx hb dX3_reset_69 rfl hl (by decide) rfl (fun ls hl => ?_)
  refine lv_iconst (v := 0) hx hb dX3_reset_70 (by decide) ?_
  refine lv_istore (lv' := [(4, .int (0 : Int32)), (3, .int (2 : Int32)), (2, .ref b.2.2.1), (1, .int (((((((0 : Int32) + (m_X3_one (if x_2 = 0 then (0 : Int32) else 1))) + (m_X3_one (if x_6 = 0 then (0 : Int32) else 1))) + (m_X3_one (if x_10 = 0 then (0 : Int32) else 1))) + (m_X3_one (if x_14 = 0 then (0 : Int32) else 1))) + (m_X3_one (if x_18 = 0 then (0 : Int32) else 1))) + (m_X3_one (if x_22 = 0 then (0 : Int32) else 1)))), (0, .ref b.1)]) hx hb dX3_reset_71 hl (by decide) rfl (fun ls hl => ?_)
  refine lv_iload hx hb dX3_reset_73 (lv_at hl 0 rfl) ?_
  refine lv_iload_n hx hb dX3_reset_75 rfl (lv_at hl 1 rfl) ?_
  refine lv_icmp_ge (tgt := 112) hx hb dX3_reset_76 (by decide) (fun h => absurd h (by decide)) (fun _ => ?_)
  refine lv_aload_n hx hb dX3_reset_79 rfl (lv_at hl 2 rfl) ?_
  refine lv_iload hx hb dX3_reset_80 (lv_at hl 0 rfl) ?_
  refine m_lds hx hb hGx hV (show ¬ ((0 : Int32) < 0 ∨ 2 ≤ ((0 : Int32)).toNatClampNeg) by decide) dX3_reset_82 ?_
  refine lv_astore (lv' := [(5, .ref (srow b (0 : Int32).toNatClampNeg)), (4, .int (0 : Int32)), (3, .int (2 : Int32)), (2, .ref b.2.2.1), (1, .int (((((((0 : Int32) + (m_X3_one (if x_2 = 0 then (0 : Int32) else 1))) + (m_X3_one (if x_6 = 0 then (0 : Int32) else 1))) + (m_X3_one (if x_10 = 0 then (0 : Int32) else 1))) + (m_X3_one (if x_14 = 0 then (0 : Int32) else 1))) + (m_X3_one (if x_18 = 0 then (0 : Int32) else 1))) + (m_X3_one (if x_22 = 0 then (0 : Int32) else 1)))), (0, .ref b.1)]) hx hb dX3_reset_83 hl (by decide) rfl (fun ls hl => ?_)
  refine lv_iconst (v := 0) hx hb dX3_reset_85 (by decide) ?_
  refine lv_istore (lv' := [(6, .int (0 : Int32)), (5, .ref (srow b (0 : Int32).toNatClampNeg)), (4, .int (0 : Int32)), (3, .int (2 : Int32)), (2, .ref b.2.2.1), (1, .int (((((((0 : Int32) + (m_X3_one (if x_2 = 0 then (0 : Int32) else 1))) + (m_X3_one (if x_6 = 0 then (0 : Int32) else 1))) + (m_X3_one (if x_10 = 0 then (0 : Int32) else 1))) + (m_X3_one (if x_14 = 0 then (0 : Int32) else 1))) + (m_X3_one (if x_18 = 0 then (0 : Int32) else 1))) + (m_X3_one (if x_22 = 0 then (0 : Int32) else 1)))), (0, .ref b.1)]) hx hb dX3_reset_86 hl (by decide) rfl (fun ls hl => ?_)
  refine lv_iload hx hb dX3_reset_88 (lv_at hl 0 rfl) ?_
  refine lv_iconst (v := 3) hx hb dX3_reset_90 (by decide) ?_
  refine lv_icmp_ge (tgt := 106) hx hb dX3_reset_91 (by decide) (fun h => absurd h (by decide)) (fun _ => ?_)
  refine lv_aload hx hb dX3_reset_94 (lv_at hl 1 rfl) ?_
  refine lv_iload hx hb dX3_reset_96 (lv_at hl 0 rfl) ?_
  refine lv_iconst (v := 0) hx hb dX3_reset_98 (by decide) ?_
  have hs9 := hS.1.1
  refine m_sst hx hb hGx hD hV hS (show ¬ ((0 : Int32) < 0 ∨ 3 ≤ ((0 : Int32)).toNatClampNeg) by decide) dX3_reset_99 (fun H locs hV hS hz hq => ?_)
  refine lv_iinc (v := (1 : Int32)) (lv' := [(6, .int (1 : Int32)), (5, .ref (srow b (0 : Int32).toNatClampNeg)), (4, .int (0 : Int32)), (3, .int (2 : Int32)), (2, .ref b.2.2.1), (1, .int (((((((0 : Int32) + (m_X3_one (if x_2 = 0 then (0 : Int32) else 1))) + (m_X3_one (if x_6 = 0 then (0 : Int32) else 1))) + (m_X3_one (if x_10 = 0 then (0 : Int32) else 1))) + (m_X3_one (if x_14 = 0 then (0 : Int32) else 1))) + (m_X3_one (if x_18 = 0 then (0 : Int32) else 1))) + (m_X3_one (if x_22 = 0 then (0 : Int32) else 1)))), (0, .ref b.1)]) hx hb dX3_reset_100 hl (k := 0) rfl (by decide) (by decide) rfl (fun ls hl => ?_)
  refine lv_goto (tgt := 88) hx hb dX3_reset_103 (by decide) ?_
  refine lv_iload hx hb dX3_reset_88 (lv_at hl 0 rfl) ?_
  refine lv_iconst (v := 3) hx hb dX3_reset_90 (by decide) ?_
  refine lv_icmp_ge (tgt := 106) hx hb dX3_reset_91 (by decide) (fun h => absurd h (by decide)) (fun _ => ?_)
  refine lv_aload hx hb dX3_reset_94 (lv_at hl 1 rfl) ?_
  refine lv_iload hx hb dX3_reset_96 (lv_at hl 0 rfl) ?_
  refine lv_iconst (v := 0) hx hb dX3_reset_98 (by decide) ?_
  have hs9 := hS.1.1
  refine m_sst hx hb hGx hD hV hS (show ¬ ((1 : Int32) < 0 ∨ 3 ≤ ((1 : Int32)).toNatClampNeg) by decide) dX3_reset_99 (fun H locs hV hS hz hq => ?_)
  refine lv_iinc (v := (2 : Int32)) (lv' := [(6, .int (2 : Int32)), (5, .ref (srow b (0 : Int32).toNatClampNeg)), (4, .int (0 : Int32)), (3, .int (2 : Int32)), (2, .ref b.2.2.1), (1, .int (((((((0 : Int32) + (m_X3_one (if x_2 = 0 then (0 : Int32) else 1))) + (m_X3_one (if x_6 = 0 then (0 : Int32) else 1))) + (m_X3_one (if x_10 = 0 then (0 : Int32) else 1))) + (m_X3_one (if x_14 = 0 then (0 : Int32) else 1))) + (m_X3_one (if x_18 = 0 then (0 : Int32) else 1))) + (m_X3_one (if x_22 = 0 then (0 : Int32) else 1)))), (0, .ref b.1)]) hx hb dX3_reset_100 hl (k := 0) rfl (by decide) (by decide) rfl (fun ls hl => ?_)
  refine lv_goto (tgt := 88) hx hb dX3_reset_103 (by decide) ?_
  refine lv_iload hx hb dX3_reset_88 (lv_at hl 0 rfl) ?_
  refine lv_iconst (v := 3) hx hb dX3_reset_90 (by decide) ?_
  refine lv_icmp_ge (tgt := 106) hx hb dX3_reset_91 (by decide) (fun h => absurd h (by decide)) (fun _ => ?_)
  refine lv_aload hx hb dX3_reset_94 (lv_at hl 1 rfl) ?_
  refine lv_iload hx hb dX3_reset_96 (lv_at hl 0 rfl) ?_
  refine lv_iconst (v := 0) hx hb dX3_reset_98 (by decide) ?_
  have hs9 := hS.1.1
  refine m_sst hx hb hGx hD hV hS (show ¬ ((2 : Int32) < 0 ∨ 3 ≤ ((2 : Int32)).toNatClampNeg) by decide) dX3_reset_99 (fun H locs hV hS hz hq => ?_)
  refine lv_iinc (v := (3 : Int32)) (lv' := [(6, .int (3 : Int32)), (5, .ref (srow b (0 : Int32).toNatClampNeg)), (4, .int (0 : Int32)), (3, .int (2 : Int32)), (2, .ref b.2.2.1), (1, .int (((((((0 : Int32) + (m_X3_one (if x_2 = 0 then (0 : Int32) else 1))) + (m_X3_one (if x_6 = 0 then (0 : Int32) else 1))) + (m_X3_one (if x_10 = 0 then (0 : Int32) else 1))) + (m_X3_one (if x_14 = 0 then (0 : Int32) else 1))) + (m_X3_one (if x_18 = 0 then (0 : Int32) else 1))) + (m_X3_one (if x_22 = 0 then (0 : Int32) else 1)))), (0, .ref b.1)]) hx hb dX3_reset_100 hl (k := 0) rfl (by decide) (by decide) rfl (fun ls hl => ?_)
  refine lv_goto (tgt := 88) hx hb dX3_reset_103 (by decide) ?_
  refine lv_iload hx hb dX3_reset_88 (lv_at hl 0 rfl) ?_
  refine lv_iconst (v := 3) hx hb dX3_reset_90 (by decide) ?_
  refine lv_icmp_ge (tgt := 106) hx hb dX3_reset_91 (by decide) (fun _ => ?_) (fun h => absurd h (by decide))
  refine lv_iinc (v := (1 : Int32)) (lv' := [(4, .int (1 : Int32)), (6, .int (3 : Int32)), (5, .ref (srow b (0 : Int32).toNatClampNeg)), (3, .int (2 : Int32)), (2, .ref b.2.2.1), (1, .int (((((((0 : Int32) + (m_X3_one (if x_2 = 0 then (0 : Int32) else 1))) + (m_X3_one (if x_6 = 0 then (0 : Int32) else 1))) + (m_X3_one (if x_10 = 0 then (0 : Int32) else 1))) + (m_X3_one (if x_14 = 0 then (0 : Int32) else 1))) + (m_X3_one (if x_18 = 0 then (0 : Int32) else 1))) + (m_X3_one (if x_22 = 0 then (0 : Int32) else 1)))), (0, .ref b.1)]) hx hb dX3_reset_106 hl (k := 2) rfl (by decide) (by decide) rfl (fun ls hl => ?_)
  refine lv_goto (tgt := 73) hx hb dX3_reset_109 (by decide) ?_
  refine lv_iload hx hb dX3_reset_73 (lv_at hl 0 rfl) ?_
  refine lv_iload_n hx hb dX3_reset_75 rfl (lv_at hl 3 rfl) ?_
  refine lv_icmp_ge (tgt := 112) hx hb dX3_reset_76 (by decide) (fun h => absurd h (by decide)) (fun _ => ?_)
  refine lv_aload_n hx hb dX3_reset_79 rfl (lv_at hl 4 rfl) ?_
  refine lv_iload hx hb dX3_reset_80 (lv_at hl 0 rfl) ?_
  refine m_lds hx hb hGx hV (show ¬ ((1 : Int32) < 0 ∨ 2 ≤ ((1 : Int32)).toNatClampNeg) by decide) dX3_reset_82 ?_
  refine lv_astore (lv' := [(5, .ref (srow b (1 : Int32).toNatClampNeg)), (4, .int (1 : Int32)), (6, .int (3 : Int32)), (3, .int (2 : Int32)), (2, .ref b.2.2.1), (1, .int (((((((0 : Int32) + (m_X3_one (if x_2 = 0 then (0 : Int32) else 1))) + (m_X3_one (if x_6 = 0 then (0 : Int32) else 1))) + (m_X3_one (if x_10 = 0 then (0 : Int32) else 1))) + (m_X3_one (if x_14 = 0 then (0 : Int32) else 1))) + (m_X3_one (if x_18 = 0 then (0 : Int32) else 1))) + (m_X3_one (if x_22 = 0 then (0 : Int32) else 1)))), (0, .ref b.1)]) hx hb dX3_reset_83 hl (by decide) rfl (fun ls hl => ?_)
  refine lv_iconst (v := 0) hx hb dX3_reset_85 (by decide) ?_
  refine lv_istore (lv' := [(6, .int (0 : Int32)), (5, .ref (srow b (1 : Int32).toNatClampNeg)), (4, .int (1 : Int32)), (3, .int (2 : Int32)), (2, .ref b.2.2.1), (1, .int (((((((0 : Int32) + (m_X3_one (if x_2 = 0 then (0 : Int32) else 1))) + (m_X3_one (if x_6 = 0 then (0 : Int32) else 1))) + (m_X3_one (if x_10 = 0 then (0 : Int32) else 1))) + (m_X3_one (if x_14 = 0 then (0 : Int32) else 1))) + (m_X3_one (if x_18 = 0 then (0 : Int32) else 1))) + (m_X3_one (if x_22 = 0 then (0 : Int32) else 1)))), (0, .ref b.1)]) hx hb dX3_reset_86 hl (by decide) rfl (fun ls hl => ?_)
  refine lv_iload hx hb dX3_reset_88 (lv_at hl 0 rfl) ?_
  refine lv_iconst (v := 3) hx hb dX3_reset_90 (by decide) ?_
  refine lv_icmp_ge (tgt := 106) hx hb dX3_reset_91 (by decide) (fun h => absurd h (by decide)) (fun _ => ?_)
  refine lv_aload hx hb dX3_reset_94 (lv_at hl 1 rfl) ?_
  refine lv_iload hx hb dX3_reset_96 (lv_at hl 0 rfl) ?_
  refine lv_iconst (v := 0) hx hb dX3_reset_98 (by decide) ?_
  have hs9 := hS.1.1
  refine m_sst hx hb hGx hD hV hS (show ¬ ((0 : Int32) < 0 ∨ 3 ≤ ((0 : Int32)).toNatClampNeg) by decide) dX3_reset_99 (fun H locs hV hS hz hq => ?_)
  refine lv_iinc (v := (1 : Int32)) (lv' := [(6, .int (1 : Int32)), (5, .ref (srow b (1 : Int32).toNatClampNeg)), (4, .int (1 : Int32)), (3, .int (2 : Int32)), (2, .ref b.2.2.1), (1, .int (((((((0 : Int32) + (m_X3_one (if x_2 = 0 then (0 : Int32) else 1))) + (m_X3_one (if x_6 = 0 then (0 : Int32) else 1))) + (m_X3_one (if x_10 = 0 then (0 : Int32) else 1))) + (m_X3_one (if x_14 = 0 then (0 : Int32) else 1))) + (m_X3_one (if x_18 = 0 then (0 : Int32) else 1))) + (m_X3_one (if x_22 = 0 then (0 : Int32) else 1)))), (0, .ref b.1)]) hx hb dX3_reset_100 hl (k := 0) rfl (by decide) (by decide) rfl (fun ls hl => ?_)
  refine lv_goto (tgt := 88) hx hb dX3_reset_103 (by decide) ?_
  refine lv_iload hx hb dX3_reset_88 (lv_at hl 0 rfl) ?_
  refine lv_iconst (v := 3) hx hb dX3_reset_90 (by decide) ?_
  refine lv_icmp_ge (tgt := 106) hx hb dX3_reset_91 (by decide) (fun h => absurd h (by decide)) (fun _ => ?_)
  refine lv_aload hx hb dX3_reset_94 (lv_at hl 1 rfl) ?_
  refine lv_iload hx hb dX3_reset_96 (lv_at hl 0 rfl) ?_
  refine lv_iconst (v := 0) hx hb dX3_reset_98 (by decide) ?_
  have hs9 := hS.1.1
  refine m_sst hx hb hGx hD hV hS (show ¬ ((1 : Int32) < 0 ∨ 3 ≤ ((1 : Int32)).toNatClampNeg) by decide) dX3_reset_99 (fun H locs hV hS hz hq => ?_)
  refine lv_iinc (v := (2 : Int32)) (lv' := [(6, .int (2 : Int32)), (5, .ref (srow b (1 : Int32).toNatClampNeg)), (4, .int (1 : Int32)), (3, .int (2 : Int32)), (2, .ref b.2.2.1), (1, .int (((((((0 : Int32) + (m_X3_one (if x_2 = 0 then (0 : Int32) else 1))) + (m_X3_one (if x_6 = 0 then (0 : Int32) else 1))) + (m_X3_one (if x_10 = 0 then (0 : Int32) else 1))) + (m_X3_one (if x_14 = 0 then (0 : Int32) else 1))) + (m_X3_one (if x_18 = 0 then (0 : Int32) else 1))) + (m_X3_one (if x_22 = 0 then (0 : Int32) else 1)))), (0, .ref b.1)]) hx hb dX3_reset_100 hl (k := 0) rfl (by decide) (by decide) rfl (fun ls hl => ?_)
  refine lv_goto (tgt := 88) hx hb dX3_reset_103 (by decide) ?_
  refine lv_iload hx hb dX3_reset_88 (lv_at hl 0 rfl) ?_
  refine lv_iconst (v := 3) hx hb dX3_reset_90 (by decide) ?_
  refine lv_icmp_ge (tgt := 106) hx hb dX3_reset_91 (by decide) (fun h => absurd h (by decide)) (fun _ => ?_)
  refine lv_aload hx hb dX3_reset_94 (lv_at hl 1 rfl) ?_
  refine lv_iload hx hb dX3_reset_96 (lv_at hl 0 rfl) ?_
  refine lv_iconst (v := 0) hx hb dX3_reset_98 (by decide) ?_
  have hs9 := hS.1.1
  refine m_sst hx hb hGx hD hV hS (show ¬ ((2 : Int32) < 0 ∨ 3 ≤ ((2 : Int32)).toNatClampNeg) by decide) dX3_reset_99 (fun H locs hV hS hz hq => ?_)
  refine lv_iinc (v := (3 : Int32)) (lv' := [(6, .int (3 : Int32)), (5, .ref (srow b (1 : Int32).toNatClampNeg)), (4, .int (1 : Int32)), (3, .int (2 : Int32)), (2, .ref b.2.2.1), (1, .int (((((((0 : Int32) + (m_X3_one (if x_2 = 0 then (0 : Int32) else 1))) + (m_X3_one (if x_6 = 0 then (0 : Int32) else 1))) + (m_X3_one (if x_10 = 0 then (0 : Int32) else 1))) + (m_X3_one (if x_14 = 0 then (0 : Int32) else 1))) + (m_X3_one (if x_18 = 0 then (0 : Int32) else 1))) + (m_X3_one (if x_22 = 0 then (0 : Int32) else 1)))), (0, .ref b.1)]) hx hb dX3_reset_100 hl (k := 0) rfl (by decide) (by decide) rfl (fun ls hl => ?_)
  refine lv_goto (tgt := 88) hx hb dX3_reset_103 (by decide) ?_
  refine lv_iload hx hb dX3_reset_88 (lv_at hl 0 rfl) ?_
  refine lv_iconst (v := 3) hx hb dX3_reset_90 (by decide) ?_
  refine lv_icmp_ge (tgt := 106) hx hb dX3_reset_91 (by decide) (fun _ => ?_) (fun h => absurd h (by decide))
  refine lv_iinc (v := (2 : Int32)) (lv' := [(4, .int (2 : Int32)), (6, .int (3 : Int32)), (5, .ref (srow b (1 : Int32).toNatClampNeg)), (3, .int (2 : Int32)), (2, .ref b.2.2.1), (1, .int (((((((0 : Int32) + (m_X3_one (if x_2 = 0 then (0 : Int32) else 1))) + (m_X3_one (if x_6 = 0 then (0 : Int32) else 1))) + (m_X3_one (if x_10 = 0 then (0 : Int32) else 1))) + (m_X3_one (if x_14 = 0 then (0 : Int32) else 1))) + (m_X3_one (if x_18 = 0 then (0 : Int32) else 1))) + (m_X3_one (if x_22 = 0 then (0 : Int32) else 1)))), (0, .ref b.1)]) hx hb dX3_reset_106 hl (k := 2) rfl (by decide) (by decide) rfl (fun ls hl => ?_)
  refine lv_goto (tgt := 73) hx hb dX3_reset_109 (by decide) ?_
  refine lv_iload hx hb dX3_reset_73 (lv_at hl 0 rfl) ?_
  refine lv_iload_n hx hb dX3_reset_75 rfl (lv_at hl 3 rfl) ?_
  refine lv_icmp_ge (tgt := 112) hx hb dX3_reset_76 (by decide) (fun _ => ?_) (fun h => absurd h (by decide))
  refine lv_iload_n hx hb dX3_reset_112 rfl (lv_at hl 5 rfl) ?_
  exact m_iret hx hb hr hlocks (Option.some.inj hm) hV hS ⟨Nat.le_of_ble_eq_true rfl, Nat.le_of_ble_eq_true rfl⟩ dX3_reset_113
set_option maxRecDepth 100000 in
def m_X0_reset  (z : CS) : Nat × Int32 × CS := (if lg_cmp (z.1 (0 : Int32).toNatClampNeg) (1008673 : Int64) = 0 then (if lg_cmp (z.1 (1 : Int32).toNatClampNeg) (1008673 : Int64) = 0 then (if lg_cmp (z.1 (2 : Int32).toNatClampNeg) (1008673 : Int64) = 0 then (if lg_cmp (z.1 (3 : Int32).toNatClampNeg) (1008673 : Int64) = 0 then (if lg_cmp (z.1 (4 : Int32).toNatClampNeg) (1008673 : Int64) = 0 then (if lg_cmp (z.1 (5 : Int32).toNatClampNeg) (1008673 : Int64) = 0 then (if (m_X0_putSpan (0 : Int32) (0 : Int32) (0 : Int32) (0 : Int32) z).1 = 0 then (if (m_X0_putSpan (1 : Int32) (0 : Int32) (0 : Int32) (0 : Int32) ((m_X0_putSpan (0 : Int32) (0 : Int32) (0 : Int32) (0 : Int32) z).2)).1 = 0 then (0, (0 : Int32), (m_X0_putSpan (1 : Int32) (0 : Int32) (0 : Int32) (0 : Int32) ((m_X0_putSpan (0 : Int32) (0 : Int32) (0 : Int32) (0 : Int32) z).2)).2) else ((m_X0_putSpan (1 : Int32) (0 : Int32) (0 : Int32) (0 : Int32) ((m_X0_putSpan (0 : Int32) (0 : Int32) (0 : Int32) (0 : Int32) z).2)).1, 0, (m_X0_putSpan (1 : Int32) (0 : Int32) (0 : Int32) (0 : Int32) ((m_X0_putSpan (0 : Int32) (0 : Int32) (0 : Int32) (0 : Int32) z).2)).2)) else ((m_X0_putSpan (0 : Int32) (0 : Int32) (0 : Int32) (0 : Int32) z).1, 0, (m_X0_putSpan (0 : Int32) (0 : Int32) (0 : Int32) (0 : Int32) z).2)) else (if (m_X0_putSpan (0 : Int32) (0 : Int32) (0 : Int32) (0 : Int32) (vp_updL z.1 (5 : Int32).toNatClampNeg (1008673 : Int64), z.2.1, z.2.2.1, z.2.2.2.1, z.2.2.2.2.1, z.2.2.2.2.2)).1 = 0 then (if (m_X0_putSpan (1 : Int32) (0 : Int32) (0 : Int32) (0 : Int32) ((m_X0_putSpan (0 : Int32) (0 : Int32) (0 : Int32) (0 : Int32) (vp_updL z.1 (5 : Int32).toNatClampNeg (1008673 : Int64), z.2.1, z.2.2.1, z.2.2.2.1, z.2.2.2.2.1, z.2.2.2.2.2)).2)).1 = 0 then (0, (1 : Int32), (m_X0_putSpan (1 : Int32) (0 : Int32) (0 : Int32) (0 : Int32) ((m_X0_putSpan (0 : Int32) (0 : Int32) (0 : Int32) (0 : Int32) (vp_updL z.1 (5 : Int32).toNatClampNeg (1008673 : Int64), z.2.1, z.2.2.1, z.2.2.2.1, z.2.2.2.2.1, z.2.2.2.2.2)).2)).2) else ((m_X0_putSpan (1 : Int32) (0 : Int32) (0 : Int32) (0 : Int32) ((m_X0_putSpan (0 : Int32) (0 : Int32) (0 : Int32) (0 : Int32) (vp_updL z.1 (5 : Int32).toNatClampNeg (1008673 : Int64), z.2.1, z.2.2.1, z.2.2.2.1, z.2.2.2.2.1, z.2.2.2.2.2)).2)).1, 0, (m_X0_putSpan (1 : Int32) (0 : Int32) (0 : Int32) (0 : Int32) ((m_X0_putSpan (0 : Int32) (0 : Int32) (0 : Int32) (0 : Int32) (vp_updL z.1 (5 : Int32).toNatClampNeg (1008673 : Int64), z.2.1, z.2.2.1, z.2.2.2.1, z.2.2.2.2.1, z.2.2.2.2.2)).2)).2)) else ((m_X0_putSpan (0 : Int32) (0 : Int32) (0 : Int32) (0 : Int32) (vp_updL z.1 (5 : Int32).toNatClampNeg (1008673 : Int64), z.2.1, z.2.2.1, z.2.2.2.1, z.2.2.2.2.1, z.2.2.2.2.2)).1, 0, (m_X0_putSpan (0 : Int32) (0 : Int32) (0 : Int32) (0 : Int32) (vp_updL z.1 (5 : Int32).toNatClampNeg (1008673 : Int64), z.2.1, z.2.2.1, z.2.2.2.1, z.2.2.2.2.1, z.2.2.2.2.2)).2))) else (if lg_cmp ((vp_updL z.1 (4 : Int32).toNatClampNeg (1008673 : Int64)) (5 : Int32).toNatClampNeg) (1008673 : Int64) = 0 then (if (m_X0_putSpan (0 : Int32) (0 : Int32) (0 : Int32) (0 : Int32) (vp_updL z.1 (4 : Int32).toNatClampNeg (1008673 : Int64), z.2.1, z.2.2.1, z.2.2.2.1, z.2.2.2.2.1, z.2.2.2.2.2)).1 = 0 then (if (m_X0_putSpan (1 : Int32) (0 : Int32) (0 : Int32) (0 : Int32) ((m_X0_putSpan (0 : Int32) (0 : Int32) (0 : Int32) (0 : Int32) (vp_updL z.1 (4 : Int32).toNatClampNeg (1008673 : Int64), z.2.1, z.2.2.1, z.2.2.2.1, z.2.2.2.2.1, z.2.2.2.2.2)).2)).1 = 0 then (0, (1 : Int32), (m_X0_putSpan (1 : Int32) (0 : Int32) (0 : Int32) (0 : Int32) ((m_X0_putSpan (0 : Int32) (0 : Int32) (0 : Int32) (0 : Int32) (vp_updL z.1 (4 : Int32).toNatClampNeg (1008673 : Int64), z.2.1, z.2.2.1, z.2.2.2.1, z.2.2.2.2.1, z.2.2.2.2.2)).2)).2) else ((m_X0_putSpan (1 : Int32) (0 : Int32) (0 : Int32) (0 : Int32) ((m_X0_putSpan (0 : Int32) (0 : Int32) (0 : Int32) (0 : Int32) (vp_updL z.1 (4 : Int32).toNatClampNeg (1008673 : Int64), z.2.1, z.2.2.1, z.2.2.2.1, z.2.2.2.2.1, z.2.2.2.2.2)).2)).1, 0, (m_X0_putSpan (1 : Int32) (0 : Int32) (0 : Int32) (0 : Int32) ((m_X0_putSpan (0 : Int32) (0 : Int32) (0 : Int32) (0 : Int32) (vp_updL z.1 (4 : Int32).toNatClampNeg (1008673 : Int64), z.2.1, z.2.2.1, z.2.2.2.1, z.2.2.2.2.1, z.2.2.2.2.2)).2)).2)) else ((m_X0_putSpan (0 : Int32) (0 : Int32) (0 : Int32) (0 : Int32) (vp_updL z.1 (4 : Int32).toNatClampNeg (1008673 : Int64), z.2.1, z.2.2.1, z.2.2.2.1, z.2.2.2.2.1, z.2.2.2.2.2)).1, 0, (m_X0_putSpan (0 : Int32) (0 : Int32) (0 : Int32) (0 : Int32) (vp_updL z.1 (4 : Int32).toNatClampNeg (1008673 : Int64), z.2.1, z.2.2.1, z.2.2.2.1, z.2.2.2.2.1, z.2.2.2.2.2)).2)) else (if (m_X0_putSpan (0 : Int32) (0 : Int32) (0 : Int32) (0 : Int32) (vp_updL (vp_updL z.1 (4 : Int32).toNatClampNeg (1008673 : Int64)) (5 : Int32).toNatClampNeg (1008673 : Int64), z.2.1, z.2.2.1, z.2.2.2.1, z.2.2.2.2.1, z.2.2.2.2.2)).1 = 0 then (if (m_X0_putSpan (1 : Int32) (0 : Int32) (0 : Int32) (0 : Int32) ((m_X0_putSpan (0 : Int32) (0 : Int32) (0 : Int32) (0 : Int32) (vp_updL (vp_updL z.1 (4 : Int32).toNatClampNeg (1008673 : Int64)) (5 : Int32).toNatClampNeg (1008673 : Int64), z.2.1, z.2.2.1, z.2.2.2.1, z.2.2.2.2.1, z.2.2.2.2.2)).2)).1 = 0 then (0, (2 : Int32), (m_X0_putSpan (1 : Int32) (0 : Int32) (0 : Int32) (0 : Int32) ((m_X0_putSpan (0 : Int32) (0 : Int32) (0 : Int32) (0 : Int32) (vp_updL (vp_updL z.1 (4 : Int32).toNatClampNeg (1008673 : Int64)) (5 : Int32).toNatClampNeg (1008673 : Int64), z.2.1, z.2.2.1, z.2.2.2.1, z.2.2.2.2.1, z.2.2.2.2.2)).2)).2) else ((m_X0_putSpan (1 : Int32) (0 : Int32) (0 : Int32) (0 : Int32) ((m_X0_putSpan (0 : Int32) (0 : Int32) (0 : Int32) (0 : Int32) (vp_updL (vp_updL z.1 (4 : Int32).toNatClampNeg (1008673 : Int64)) (5 : Int32).toNatClampNeg (1008673 : Int64), z.2.1, z.2.2.1, z.2.2.2.1, z.2.2.2.2.1, z.2.2.2.2.2)).2)).1, 0, (m_X0_putSpan (1 : Int32) (0 : Int32) (0 : Int32) (0 : Int32) ((m_X0_putSpan (0 : Int32) (0 : Int32) (0 : Int32) (0 : Int32) (vp_updL (vp_updL z.1 (4 : Int32).toNatClampNeg (1008673 : Int64)) (5 : Int32).toNatClampNeg (1008673 : Int64), z.2.1, z.2.2.1, z.2.2.2.1, z.2.2.2.2.1, z.2.2.2.2.2)).2)).2)) else ((m_X0_putSpan (0 : Int32) (0 : Int32) (0 : Int32) (0 : Int32) (vp_updL (vp_updL z.1 (4 : Int32).toNatClampNeg (1008673 : Int64)) (5 : Int32).toNatClampNeg (1008673 : Int64), z.2.1, z.2.2.1, z.2.2.2.1, z.2.2.2.2.1, z.2.2.2.2.2)).1, 0, (m_X0_putSpan (0 : Int32) (0 : Int32) (0 : Int32) (0 : Int32) (vp_updL (vp_updL z.1 (4 : Int32).toNatClampNeg (1008673 : Int64)) (5 : Int32).toNatClampNeg (1008673 : Int64), z.2.1, z.2.2.1, z.2.2.2.1, z.2.2.2.2.1, z.2.2.2.2.2)).2)))) else (if lg_cmp ((vp_updL z.1 (3 : Int32).toNatClampNeg (1008673 : Int64)) (4 : Int32).toNatClampNeg) (1008673 : Int64) = 0 then (if lg_cmp ((vp_updL z.1 (3 : Int32).toNatClampNeg (1008673 : Int64)) (5 : Int32).toNatClampNeg) (1008673 : Int64) = 0 then (if (m_X0_putSpan (0 : Int32) (0 : Int32) (0 : Int32) (0 : Int32) (vp_updL z.1 (3 : Int32).toNatClampNeg (1008673 : Int64), z.2.1, z.2.2.1, z.2.2.2.1, z.2.2.2.2.1, z.2.2.2.2.2)).1 = 0 then (if (m_X0_putSpan (1 : Int32) (0 : Int32) (0 : Int32) (0 : Int32) ((m_X0_putSpan (0 : Int32) (0 : Int32) (0 : Int32) (0 : Int32) (vp_updL z.1 (3 : Int32).toNatClampNeg (1008673 : Int64), z.2.1, z.2.2.1, z.2.2.2.1, z.2.2.2.2.1, z.2.2.2.2.2)).2)).1 = 0 then (0, (1 : Int32), (m_X0_putSpan (1 : Int32) (0 : Int32) (0 : Int32) (0 : Int32) ((m_X0_putSpan (0 : Int32) (0 : Int32) (0 : Int32) (0 : Int32) (vp_updL z.1 (3 : Int32).toNatClampNeg (1008673 : Int64), z.2.1, z.2.2.1, z.2.2.2.1, z.2.2.2.2.1, z.2.2.2.2.2)).2)).2) else ((m_X0_putSpan (1 : Int32) (0 : Int32) (0 : Int32) (0 : Int32) ((m_X0_putSpan (0 : Int32) (0 : Int32) (0 : Int32) (0 : Int32) (vp_updL z.1 (3 : Int32).toNatClampNeg (1008673 : Int64), z.2.1, z.2.2.1, z.2.2.2.1, z.2.2.2.2.1, z.2.2.2.2.2)).2)).1, 0, (m_X0_putSpan (1 : Int32) (0 : Int32) (0 : Int32) (0 : Int32) ((m_X0_putSpan (0 : Int32) (0 : Int32) (0 : Int32) (0 : Int32) (vp_updL z.1 (3 : Int32).toNatClampNeg (1008673 : Int64), z.2.1, z.2.2.1, z.2.2.2.1, z.2.2.2.2.1, z.2.2.2.2.2)).2)).2)) else ((m_X0_putSpan (0 : Int32) (0 : Int32) (0 : Int32) (0 : Int32) (vp_updL z.1 (3 : Int32).toNatClampNeg (1008673 : Int64), z.2.1, z.2.2.1, z.2.2.2.1, z.2.2.2.2.1, z.2.2.2.2.2)).1, 0, (m_X0_putSpan (0 : Int32) (0 : Int32) (0 : Int32) (0 : Int32) (vp_updL z.1 (3 : Int32).toNatClampNeg (1008673 : Int64), z.2.1, z.2.2.1, z.2.2.2.1, z.2.2.2.2.1, z.2.2.2.2.2)).2)) else (if (m_X0_putSpan (0 : Int32) (0 : Int32) (0 : Int32) (0 : Int32) (vp_updL (vp_updL z.1 (3 : Int32).toNatClampNeg (1008673 : Int64)) (5 : Int32).toNatClampNeg (1008673 : Int64), z.2.1, z.2.2.1, z.2.2.2.1, z.2.2.2.2.1, z.2.2.2.2.2)).1 = 0 then (if (m_X0_putSpan (1 : Int32) (0 : Int32) (0 : Int32) (0 : Int32) ((m_X0_putSpan (0 : Int32) (0 : Int32) (0 : Int32) (0 : Int32) (vp_updL (vp_updL z.1 (3 : Int32).toNatClampNeg (1008673 : Int64)) (5 : Int32).toNatClampNeg (1008673 : Int64), z.2.1, z.2.2.1, z.2.2.2.1, z.2.2.2.2.1, z.2.2.2.2.2)).2)).1 = 0 then (0, (2 : Int32), (m_X0_putSpan (1 : Int32) (0 : Int32) (0 : Int32) (0 : Int32) ((m_X0_putSpan (0 : Int32) (0 : Int32) (0 : Int32) (0 : Int32) (vp_updL (vp_updL z.1 (3 : Int32).toNatClampNeg (1008673 : Int64)) (5 : Int32).toNatClampNeg (1008673 : Int64), z.2.1, z.2.2.1, z.2.2.2.1, z.2.2.2.2.1, z.2.2.2.2.2)).2)).2) else ((m_X0_putSpan (1 : Int32) (0 : Int32) (0 : Int32) (0 : Int32) ((m_X0_putSpan (0 : Int32) (0 : Int32) (0 : Int32) (0 : Int32) (vp_updL (vp_updL z.1 (3 : Int32).toNatClampNeg (1008673 : Int64)) (5 : Int32).toNatClampNeg (1008673 : Int64), z.2.1, z.2.2.1, z.2.2.2.1, z.2.2.2.2.1, z.2.2.2.2.2)).2)).1, 0, (m_X0_putSpan (1 : Int32) (0 : Int32) (0 : Int32) (0 : Int32) ((m_X0_putSpan (0 : Int32) (0 : Int32) (0 : Int32) (0 : Int32) (vp_updL (vp_updL z.1 (3 : Int32).toNatClampNeg (1008673 : Int64)) (5 : Int32).toNatClampNeg (1008673 : Int64), z.2.1, z.2.2.1, z.2.2.2.1, z.2.2.2.2.1, z.2.2.2.2.2)).2)).2)) else ((m_X0_putSpan (0 : Int32) (0 : Int32) (0 : Int32) (0 : Int32) (vp_updL (vp_updL z.1 (3 : Int32).toNatClampNeg (1008673 : Int64)) (5 : Int32).toNatClampNeg (1008673 : Int64), z.2.1, z.2.2.1, z.2.2.2.1, z.2.2.2.2.1, z.2.2.2.2.2)).1, 0, (m_X0_putSpan (0 : Int32) (0 : Int32) (0 : Int32) (0 : Int32) (vp_updL (vp_updL z.1 (3 : Int32).toNatClampNeg (1008673 : Int64)) (5 : Int32).toNatClampNeg (1008673 : Int64), z.2.1, z.2.2.1, z.2.2.2.1, z.2.2.2.2.1, z.2.2.2.2.2)).2))) else (if lg_cmp ((vp_updL (vp_updL z.1 (3 : Int32).toNatClampNeg (1008673 : Int64)) (4 : Int32).toNatClampNeg (1008673 : Int64)) (5 : Int32).toNatClampNeg) (1008673 : Int64) = 0 then (if (m_X0_putSpan (0 : Int32) (0 : Int32) (0 : Int32) (0 : Int32) (vp_updL (vp_updL z.1 (3 : Int32).toNatClampNeg (1008673 : Int64)) (4 : Int32).toNatClampNeg (1008673 : Int64), z.2.1, z.2.2.1, z.2.2.2.1, z.2.2.2.2.1, z.2.2.2.2.2)).1 = 0 then (if (m_X0_putSpan (1 : Int32) (0 : Int32) (0 : Int32) (0 : Int32) ((m_X0_putSpan (0 : Int32) (0 : Int32) (0 : Int32) (0 : Int32) (vp_updL (vp_updL z.1 (3 : Int32).toNatClampNeg (1008673 : Int64)) (4 : Int32).toNatClampNeg (1008673 : Int64), z.2.1, z.2.2.1, z.2.2.2.1, z.2.2.2.2.1, z.2.2.2.2.2)).2)).1 = 0 then (0, (2 : Int32), (m_X0_putSpan (1 : Int32) (0 : Int32) (0 : Int32) (0 : Int32) ((m_X0_putSpan (0 : Int32) (0 : Int32) (0 : Int32) (0 : Int32) (vp_updL (vp_updL z.1 (3 : Int32).toNatClampNeg (1008673 : Int64)) (4 : Int32).toNatClampNeg (1008673 : Int64), z.2.1, z.2.2.1, z.2.2.2.1, z.2.2.2.2.1, z.2.2.2.2.2)).2)).2) else ((m_X0_putSpan (1 : Int32) (0 : Int32) (0 : Int32) (0 : Int32) ((m_X0_putSpan (0 : Int32) (0 : Int32) (0 : Int32) (0 : Int32) (vp_updL (vp_updL z.1 (3 : Int32).toNatClampNeg (1008673 : Int64)) (4 : Int32).toNatClampNeg (1008673 : Int64), z.2.1, z.2.2.1, z.2.2.2.1, z.2.2.2.2.1, z.2.2.2.2.2)).2)).1, 0, (m_X0_putSpan (1 : Int32) (0 : Int32) (0 : Int32) (0 : Int32) ((m_X0_putSpan (0 : Int32) (0 : Int32) (0 : Int32) (0 : Int32) (vp_updL (vp_updL z.1 (3 : Int32).toNatClampNeg (1008673 : Int64)) (4 : Int32).toNatClampNeg (1008673 : Int64), z.2.1, z.2.2.1, z.2.2.2.1, z.2.2.2.2.1, z.2.2.2.2.2)).2)).2)) else ((m_X0_putSpan (0 : Int32) (0 : Int32) (0 : Int32) (0 : Int32) (vp_updL (vp_updL z.1 (3 : Int32).toNatClampNeg (1008673 : Int64)) (4 : Int32).toNatClampNeg (1008673 : Int64), z.2.1, z.2.2.1, z.2.2.2.1, z.2.2.2.2.1, z.2.2.2.2.2)).1, 0, (m_X0_putSpan (0 : Int32) (0 : Int32) (0 : Int32) (0 : Int32) (vp_updL (vp_updL z.1 (3 : Int32).toNatClampNeg (1008673 : Int64)) (4 : Int32).toNatClampNeg (1008673 : Int64), z.2.1, z.2.2.1, z.2.2.2.1, z.2.2.2.2.1, z.2.2.2.2.2)).2)) else (if (m_X0_putSpan (0 : Int32) (0 : Int32) (0 : Int32) (0 : Int32) (vp_updL (vp_updL (vp_updL z.1 (3 : Int32).toNatClampNeg (1008673 : Int64)) (4 : Int32).toNatClampNeg (1008673 : Int64)) (5 : Int32).toNatClampNeg (1008673 : Int64), z.2.1, z.2.2.1, z.2.2.2.1, z.2.2.2.2.1, z.2.2.2.2.2)).1 = 0 then (if (m_X0_putSpan (1 : Int32) (0 : Int32) (0 : Int32) (0 : Int32) ((m_X0_putSpan (0 : Int32) (0 : Int32) (0 : Int32) (0 : Int32) (vp_updL (vp_updL (vp_updL z.1 (3 : Int32).toNatClampNeg (1008673 : Int64)) (4 : Int32).toNatClampNeg (1008673 : Int64)) (5 : Int32).toNatClampNeg (1008673 : Int64), z.2.1, z.2.2.1, z.2.2.2.1, z.2.2.2.2.1, z.2.2.2.2.2)).2)).1 = 0 then (0, (3 : Int32), (m_X0_putSpan (1 : Int32) (0 : Int32) (0 : Int32) (0 : Int32) ((m_X0_putSpan (0 : Int32) (0 : Int32) (0 : Int32) (0 : Int32) (vp_updL (vp_updL (vp_updL z.1 (3 : Int32).toNatClampNeg (1008673 : Int64)) (4 : Int32).toNatClampNeg (1008673 : Int64)) (5 : Int32).toNatClampNeg (1008673 : Int64), z.2.1, z.2.2.1, z.2.2.2.1, z.2.2.2.2.1, z.2.2.2.2.2)).2)).2) else ((m_X0_putSpan (1 : Int32) (0 : Int32) (0 : Int32) (0 : Int32) ((m_X0_putSpan (0 : Int32) (0 : Int32) (0 : Int32) (0 : Int32) (vp_updL (vp_updL (vp_updL z.1 (3 : Int32).toNatClampNeg (1008673 : Int64)) (4 : Int32).toNatClampNeg (1008673 : Int64)) (5 : Int32).toNatClampNeg (1008673 : Int64), z.2.1, z.2.2.1, z.2.2.2.1, z.2.2.2.2.1, z.2.2.2.2.2)).2)).1, 0, (m_X0_putSpan (1 : Int32) (0 : Int32) (0 : Int32) (0 : Int32) ((m_X0_putSpan (0 : Int32) (0 : Int32) (0 : Int32) (0 : Int32) (vp_updL (vp_updL (vp_updL z.1 (3 : Int32).toNatClampNeg (1008673 : Int64)) (4 : Int32).toNatClampNeg (1008673 : Int64)) (5 : Int32).toNatClampNeg (1008673 : Int64), z.2.1, z.2.2.1, z.2.2.2.1, z.2.2.2.2.1, z.2.2.2.2.2)).2)).2)) else ((m_X0_putSpan (0 : Int32) (0 : Int32) (0 : Int32) (0 : Int32) (vp_updL (vp_updL (vp_updL z.1 (3 : Int32).toNatClampNeg (1008673 : Int64)) (4 : Int32).toNatClampNeg (1008673 : Int64)) (5 : Int32).toNatClampNeg (1008673 : Int64), z.2.1, z.2.2.1, z.2.2.2.1, z.2.2.2.2.1, z.2.2.2.2.2)).1, 0, (m_X0_putSpan (0 : Int32) (0 : Int32) (0 : Int32) (0 : Int32) (vp_updL (vp_updL (vp_updL z.1 (3 : Int32).toNatClampNeg (1008673 : Int64)) (4 : Int32).toNatClampNeg (1008673 : Int64)) (5 : Int32).toNatClampNeg (1008673 : Int64), z.2.1, z.2.2.1, z.2.2.2.1, z.2.2.2.2.1, z.2.2.2.2.2)).2))))) else (if lg_cmp ((vp_updL z.1 (2 : Int32).toNatClampNeg (1008673 : Int64)) (3 : Int32).toNatClampNeg) (1008673 : Int64) = 0 then (if lg_cmp ((vp_updL z.1 (2 : Int32).toNatClampNeg (1008673 : Int64)) (4 : Int32).toNatClampNeg) (1008673 : Int64) = 0 then (if lg_cmp ((vp_updL z.1 (2 : Int32).toNatClampNeg (1008673 : Int64)) (5 : Int32).toNatClampNeg) (1008673 : Int64) = 0 then (if (m_X0_putSpan (0 : Int32) (0 : Int32) (0 : Int32) (0 : Int32) (vp_updL z.1 (2 : Int32).toNatClampNeg (1008673 : Int64), z.2.1, z.2.2.1, z.2.2.2.1, z.2.2.2.2.1, z.2.2.2.2.2)).1 = 0 then (if (m_X0_putSpan (1 : Int32) (0 : Int32) (0 : Int32) (0 : Int32) ((m_X0_putSpan (0 : Int32) (0 : Int32) (0 : Int32) (0 : Int32) (vp_updL z.1 (2 : Int32).toNatClampNeg (1008673 : Int64), z.2.1, z.2.2.1, z.2.2.2.1, z.2.2.2.2.1, z.2.2.2.2.2)).2)).1 = 0 then (0, (1 : Int32), (m_X0_putSpan (1 : Int32) (0 : Int32) (0 : Int32) (0 : Int32) ((m_X0_putSpan (0 : Int32) (0 : Int32) (0 : Int32) (0 : Int32) (vp_updL z.1 (2 : Int32).toNatClampNeg (1008673 : Int64), z.2.1, z.2.2.1, z.2.2.2.1, z.2.2.2.2.1, z.2.2.2.2.2)).2)).2) else ((m_X0_putSpan (1 : Int32) (0 : Int32) (0 : Int32) (0 : Int32) ((m_X0_putSpan (0 : Int32) (0 : Int32) (0 : Int32) (0 : Int32) (vp_updL z.1 (2 : Int32).toNatClampNeg (1008673 : Int64), z.2.1, z.2.2.1, z.2.2.2.1, z.2.2.2.2.1, z.2.2.2.2.2)).2)).1, 0, (m_X0_putSpan (1 : Int32) (0 : Int32) (0 : Int32) (0 : Int32) ((m_X0_putSpan (0 : Int32) (0 : Int32) (0 : Int32) (0 : Int32) (vp_updL z.1 (2 : Int32).toNatClampNeg (1008673 : Int64), z.2.1, z.2.2.1, z.2.2.2.1, z.2.2.2.2.1, z.2.2.2.2.2)).2)).2)) else ((m_X0_putSpan (0 : Int32) (0 : Int32) (0 : Int32) (0 : Int32) (vp_updL z.1 (2 : Int32).toNatClampNeg (1008673 : Int64), z.2.1, z.2.2.1, z.2.2.2.1, z.2.2.2.2.1, z.2.2.2.2.2)).1, 0, (m_X0_putSpan (0 : Int32) (0 : Int32) (0 : Int32) (0 : Int32) (vp_updL z.1 (2 : Int32).toNatClampNeg (1008673 : Int64), z.2.1, z.2.2.1, z.2.2.2.1, z.2.2.2.2.1, z.2.2.2.2.2)).2)) else (if (m_X0_putSpan (0 : Int32) (0 : Int32) (0 : Int32) (0 : Int32) (vp_updL (vp_updL z.1 (2 : Int32).toNatClampNeg (1008673 : Int64)) (5 : Int32).toNatClampNeg (1008673 : Int64), z.2.1, z.2.2.1, z.2.2.2.1, z.2.2.2.2.1, z.2.2.2.2.2)).1 = 0 then (if (m_X0_putSpan (1 : Int32) (0 : Int32) (0 : Int32) (0 : Int32) ((m_X0_putSpan (0 : Int32) (0 : Int32) (0 : Int32) (0 : Int32) (vp_updL (vp_updL z.1 (2 : Int32).toNatClampNeg (1008673 : Int64)) (5 : Int32).toNatClampNeg (1008673 : Int64), z.2.1, z.2.2.1, z.2.2.2.1, z.2.2.2.2.1, z.2.2.2.2.2)).2)).1 = 0 then (0, (2 : Int32), (m_X0_putSpan (1 : Int32) (0 : Int32) (0 : Int32) (0 : Int32) ((m_X0_putSpan (0 : Int32) (0 : Int32) (0 : Int32) (0 : Int32) (vp_updL (vp_updL z.1 (2 : Int32).toNatClampNeg (1008673 : Int64)) (5 : Int32).toNatClampNeg (1008673 : Int64), z.2.1, z.2.2.1, z.2.2.2.1, z.2.2.2.2.1, z.2.2.2.2.2)).2)).2) else ((m_X0_putSpan (1 : Int32) (0 : Int32) (0 : Int32) (0 : Int32) ((m_X0_putSpan (0 : Int32) (0 : Int32) (0 : Int32) (0 : Int32) (vp_updL (vp_updL z.1 (2 : Int32).toNatClampNeg (1008673 : Int64)) (5 : Int32).toNatClampNeg (1008673 : Int64), z.2.1, z.2.2.1, z.2.2.2.1, z.2.2.2.2.1, z.2.2.2.2.2)).2)).1, 0, (m_X0_putSpan (1 : Int32) (0 : Int32) (0 : Int32) (0 : Int32) ((m_X0_putSpan (0 : Int32) (0 : Int32) (0 : Int32) (0 : Int32) (vp_updL (vp_updL z.1 (2 : Int32).toNatClampNeg (1008673 : Int64)) (5 : Int32).toNatClampNeg (1008673 : Int64), z.2.1, z.2.2.1, z.2.2.2.1, z.2.2.2.2.1, z.2.2.2.2.2)).2)).2)) else ((m_X0_putSpan (0 : Int32) (0 : Int32) (0 : Int32) (0 : Int32) (vp_updL (vp_updL z.1 (2 : Int32).toNatClampNeg (1008673 : Int64)) (5 : Int32).toNatClampNeg (1008673 : Int64), z.2.1, z.2.2.1, z.2.2.2.1, z.2.2.2.2.1, z.2.2.2.2.2)).1, 0, (m_X0_putSpan (0 : Int32) (0 : Int32) (0 : Int32) (0 : Int32) (vp_updL (vp_updL z.1 (2 : Int32).toNatClampNeg (1008673 : Int64)) (5 : Int32).toNatClampNeg (1008673 : Int64), z.2.1, z.2.2.1, z.2.2.2.1, z.2.2.2.2.1, z.2.2.2.2.2)).2))) else (if lg_cmp ((vp_updL (vp_updL z.1 (2 : Int32).toNatClampNeg (1008673 : Int64)) (4 : Int32).toNatClampNeg (1008673 : Int64)) (5 : Int32).toNatClampNeg) (1008673 : Int64) = 0 then (if (m_X0_putSpan (0 : Int32) (0 : Int32) (0 : Int32) (0 : Int32) (vp_updL (vp_updL z.1 (2 : Int32).toNatClampNeg (1008673 : Int64)) (4 : Int32).toNatClampNeg (1008673 : Int64), z.2.1, z.2.2.1, z.2.2.2.1, z.2.2.2.2.1, z.2.2.2.2.2)).1 = 0 then (if (m_X0_putSpan (1 : Int32) (0 : Int32) (0 : Int32) (0 : Int32) ((m_X0_putSpan (0 : Int32) (0 : Int32) (0 : Int32) (0 : Int32) (vp_updL (vp_updL z.1 (2 : Int32).toNatClampNeg (1008673 : Int64)) (4 : Int32).toNatClampNeg (1008673 : Int64), z.2.1, z.2.2.1, z.2.2.2.1, z.2.2.2.2.1, z.2.2.2.2.2)).2)).1 = 0 then (0, (2 : Int32), (m_X0_putSpan (1 : Int32) (0 : Int32) (0 : Int32) (0 : Int32) ((m_X0_putSpan (0 : Int32) (0 : Int32) (0 : Int32) (0 : Int32) (vp_updL (vp_updL z.1 (2 : Int32).toNatClampNeg (1008673 : Int64)) (4 : Int32).toNatClampNeg (1008673 : Int64), z.2.1, z.2.2.1, z.2.2.2.1, z.2.2.2.2.1, z.2.2.2.2.2)).2)).2) else ((m_X0_putSpan (1 : Int32) (0 : Int32) (0 : Int32) (0 : Int32) ((m_X0_putSpan (0 : Int32) (0 : Int32) (0 : Int32) (0 : Int32) (vp_updL (vp_updL z.1 (2 : Int32).toNatClampNeg (1008673 : Int64)) (4 : Int32).toNatClampNeg (1008673 : Int64), z.2.1, z.2.2.1, z.2.2.2.1, z.2.2.2.2.1, z.2.2.2.2.2)).2)).1, 0, (m_X0_putSpan (1 : Int32) (0 : Int32) (0 : Int32) (0 : Int32) ((m_X0_putSpan (0 : Int32) (0 : Int32) (0 : Int32) (0 : Int32) (vp_updL (vp_updL z.1 (2 : Int32).toNatClampNeg (1008673 : Int64)) (4 : Int32).toNatClampNeg (1008673 : Int64), z.2.1, z.2.2.1, z.2.2.2.1, z.2.2.2.2.1, z.2.2.2.2.2)).2)).2)) else ((m_X0_putSpan (0 : Int32) (0 : Int32) (0 : Int32) (0 : Int32) (vp_updL (vp_updL z.1 (2 : Int32).toNatClampNeg (1008673 : Int64)) (4 : Int32).toNatClampNeg (1008673 : Int64), z.2.1, z.2.2.1, z.2.2.2.1, z.2.2.2.2.1, z.2.2.2.2.2)).1, 0, (m_X0_putSpan (0 : Int32) (0 : Int32) (0 : Int32) (0 : Int32) (vp_updL (vp_updL z.1 (2 : Int32).toNatClampNeg (1008673 : Int64)) (4 : Int32).toNatClampNeg (1008673 : Int64), z.2.1, z.2.2.1, z.2.2.2.1, z.2.2.2.2.1, z.2.2.2.2.2)).2)) else (if (m_X0_putSpan (0 : Int32) (0 : Int32) (0 : Int32) (0 : Int32) (vp_updL (vp_updL (vp_updL z.1 (2 : Int32).toNatClampNeg (1008673 : Int64)) (4 : Int32).toNatClampNeg (1008673 : Int64)) (5 : Int32).toNatClampNeg (1008673 : Int64), z.2.1, z.2.2.1, z.2.2.2.1, z.2.2.2.2.1, z.2.2.2.2.2)).1 = 0 then (if (m_X0_putSpan (1 : Int32) (0 : Int32) (0 : Int32) (0 : Int32) ((m_X0_putSpan (0 : Int32) (0 : Int32) (0 : Int32) (0 : Int32) (vp_updL (vp_updL (vp_updL z.1 (2 : Int32).toNatClampNeg (1008673 : Int64)) (4 : Int32).toNatClampNeg (1008673 : Int64)) (5 : Int32).toNatClampNeg (1008673 : Int64), z.2.1, z.2.2.1, z.2.2.2.1, z.2.2.2.2.1, z.2.2.2.2.2)).2)).1 = 0 then (0, (3 : Int32), (m_X0_putSpan (1 : Int32) (0 : Int32) (0 : Int32) (0 : Int32) ((m_X0_putSpan (0 : Int32) (0 : Int32) (0 : Int32) (0 : Int32) (vp_updL (vp_updL (vp_updL z.1 (2 : Int32).toNatClampNeg (1008673 : Int64)) (4 : Int32).toNatClampNeg (1008673 : Int64)) (5 : Int32).toNatClampNeg (1008673 : Int64), z.2.1, z.2.2.1, z.2.2.2.1, z.2.2.2.2.1, z.2.2.2.2.2)).2)).2) else ((m_X0_putSpan (1 : Int32) (0 : Int32) (0 : Int32) (0 : Int32) ((m_X0_putSpan (0 : Int32) (0 : Int32) (0 : Int32) (0 : Int32) (vp_updL (vp_updL (vp_updL z.1 (2 : Int32).toNatClampNeg (1008673 : Int64)) (4 : Int32).toNatClampNeg (1008673 : Int64)) (5 : Int32).toNatClampNeg (1008673 : Int64), z.2.1, z.2.2.1, z.2.2.2.1, z.2.2.2.2.1, z.2.2.2.2.2)).2)).1, 0, (m_X0_putSpan (1 : Int32) (0 : Int32) (0 : Int32) (0 : Int32) ((m_X0_putSpan (0 : Int32) (0 : Int32) (0 : Int32) (0 : Int32) (vp_updL (vp_updL (vp_updL z.1 (2 : Int32).toNatClampNeg (1008673 : Int64)) (4 : Int32).toNatClampNeg (1008673 : Int64)) (5 : Int32).toNatClampNeg (1008673 : Int64), z.2.1, z.2.2.1, z.2.2.2.1, z.2.2.2.2.1, z.2.2.2.2.2)).2)).2)) else ((m_X0_putSpan (0 : Int32) (0 : Int32) (0 : Int32) (0 : Int32) (vp_updL (vp_updL (vp_updL z.1 (2 : Int32).toNatClampNeg (1008673 : Int64)) (4 : Int32).toNatClampNeg (1008673 : Int64)) (5 : Int32).toNatClampNeg (1008673 : Int64), z.2.1, z.2.2.1, z.2.2.2.1, z.2.2.2.2.1, z.2.2.2.2.2)).1, 0, (m_X0_putSpan (0 : Int32) (0 : Int32) (0 : Int32) (0 : Int32) (vp_updL (vp_updL (vp_updL z.1 (2 : Int32).toNatClampNeg (1008673 : Int64)) (4 : Int32).toNatClampNeg (1008673 : Int64)) (5 : Int32).toNatClampNeg (1008673 : Int64), z.2.1, z.2.2.1, z.2.2.2.1, z.2.2.2.2.1, z.2.2.2.2.2)).2)))) else (if lg_cmp ((vp_updL (vp_updL z.1 (2 : Int32).toNatClampNeg (1008673 : Int64)) (3 : Int32).toNatClampNeg (1008673 : Int64)) (4 : Int32).toNatClampNeg) (1008673 : Int64) = 0 then (if lg_cmp ((vp_updL (vp_updL z.1 (2 : Int32).toNatClampNeg (1008673 : Int64)) (3 : Int32).toNatClampNeg (1008673 : Int64)) (5 : Int32).toNatClampNeg) (1008673 : Int64) = 0 then (if (m_X0_putSpan (0 : Int32) (0 : Int32) (0 : Int32) (0 : Int32) (vp_updL (vp_updL z.1 (2 : Int32).toNatClampNeg (1008673 : Int64)) (3 : Int32).toNatClampNeg (1008673 : Int64), z.2.1, z.2.2.1, z.2.2.2.1, z.2.2.2.2.1, z.2.2.2.2.2)).1 = 0 then (if (m_X0_putSpan (1 : Int32) (0 : Int32) (0 : Int32) (0 : Int32) ((m_X0_putSpan (0 : Int32) (0 : Int32) (0 : Int32) (0 : Int32) (vp_updL (vp_updL z.1 (2 : Int32).toNatClampNeg (1008673 : Int64)) (3 : Int32).toNatClampNeg (1008673 : Int64), z.2.1, z.2.2.1, z.2.2.2.1, z.2.2.2.2.1, z.2.2.2.2.2)).2)).1 = 0 then (0, (2 : Int32), (m_X0_putSpan (1 : Int32) (0 : Int32) (0 : Int32) (0 : Int32) ((m_X0_putSpan (0 : Int32) (0 : Int32) (0 : Int32) (0 : Int32) (vp_updL (vp_updL z.1 (2 : Int32).toNatClampNeg (1008673 : Int64)) (3 : Int32).toNatClampNeg (1008673 : Int64), z.2.1, z.2.2.1, z.2.2.2.1, z.2.2.2.2.1, z.2.2.2.2.2)).2)).2) else ((m_X0_putSpan (1 : Int32) (0 : Int32) (0 : Int32) (0 : Int32) ((m_X0_putSpan (0 : Int32) (0 : Int32) (0 : Int32) (0 : Int32) (vp_updL (vp_updL z.1 (2 : Int32).toNatClampNeg (1008673 : Int64)) (3 : Int32).toNatClampNeg (1008673 : Int64), z.2.1, z.2.2.1, z.2.2.2.1, z.2.2.2.2.1, z.2.2.2.2.2)).2)).1, 0, (m_X0_putSpan (1 : Int32) (0 : Int32) (0 : Int32) (0 : Int32) ((m_X0_putSpan (0 : Int32) (0 : Int32) (0 : Int32) (0 : Int32) (vp_updL (vp_updL z.1 (2 : Int32).toNatClampNeg (1008673 : Int64)) (3 : Int32).toNatClampNeg (1008673 : Int64), z.2.1, z.2.2.1, z.2.2.2.1, z.2.2.2.2.1, z.2.2.2.2.2)).2)).2)) else ((m_X0_putSpan (0 : Int32) (0 : Int32) (0 : Int32) (0 : Int32) (vp_updL (vp_updL z.1 (2 : Int32).toNatClampNeg (1008673 : Int64)) (3 : Int32).toNatClampNeg (1008673 : Int64), z.2.1, z.2.2.1, z.2.2.2.1, z.2.2.2.2.1, z.2.2.2.2.2)).1, 0, (m_X0_putSpan (0 : Int32) (0 : Int32) (0 : Int32) (0 : Int32) (vp_updL (vp_updL z.1 (2 : Int32).toNatClampNeg (1008673 : Int64)) (3 : Int32).toNatClampNeg (1008673 : Int64), z.2.1, z.2.2.1, z.2.2.2.1, z.2.2.2.2.1, z.2.2.2.2.2)).2)) else (if (m_X0_putSpan (0 : Int32) (0 : Int32) (0 : Int32) (0 : Int32) (vp_updL (vp_updL (vp_updL z.1 (2 : Int32).toNatClampNeg (1008673 : Int64)) (3 : Int32).toNatClampNeg (1008673 : Int64)) (5 : Int32).toNatClampNeg (1008673 : Int64), z.2.1, z.2.2.1, z.2.2.2.1, z.2.2.2.2.1, z.2.2.2.2.2)).1 = 0 then (if (m_X0_putSpan (1 : Int32) (0 : Int32) (0 : Int32) (0 : Int32) ((m_X0_putSpan (0 : Int32) (0 : Int32) (0 : Int32) (0 : Int32) (vp_updL (vp_updL (vp_updL z.1 (2 : Int32).toNatClampNeg (1008673 : Int64)) (3 : Int32).toNatClampNeg (1008673 : Int64)) (5 : Int32).toNatClampNeg (1008673 : Int64), z.2.1, z.2.2.1, z.2.2.2.1, z.2.2.2.2.1, z.2.2.2.2.2)).2)).1 = 0 then (0, (3 : Int32), (m_X0_putSpan (1 : Int32) (0 : Int32) (0 : Int32) (0 : Int32) ((m_X0_putSpan (0 : Int32) (0 : Int32) (0 : Int32) (0 : Int32) (vp_updL (vp_updL (vp_updL z.1 (2 : Int32).toNatClampNeg (1008673 : Int64)) (3 : Int32).toNatClampNeg (1008673 : Int64)) (5 : Int32).toNatClampNeg (1008673 : Int64), z.2.1, z.2.2.1, z.2.2.2.1, z.2.2.2.2.1, z.2.2.2.2.2)).2)).2) else ((m_X0_putSpan (1 : Int32) (0 : Int32) (0 : Int32) (0 : Int32) ((m_X0_putSpan (0 : Int32) (0 : Int32) (0 : Int32) (0 : Int32) (vp_updL (vp_updL (vp_updL z.1 (2 : Int32).toNatClampNeg (1008673 : Int64)) (3 : Int32).toNatClampNeg (1008673 : Int64)) (5 : Int32).toNatClampNeg (1008673 : Int64), z.2.1, z.2.2.1, z.2.2.2.1, z.2.2.2.2.1, z.2.2.2.2.2)).2)).1, 0, (m_X0_putSpan (1 : Int32) (0 : Int32) (0 : Int32) (0 : Int32) ((m_X0_putSpan (0 : Int32) (0 : Int32) (0 : Int32) (0 : Int32) (vp_updL (vp_updL (vp_updL z.1 (2 : Int32).toNatClampNeg (1008673 : Int64)) (3 : Int32).toNatClampNeg (1008673 : Int64)) (5 : Int32).toNatClampNeg (1008673 : Int64), z.2.1, z.2.2.1, z.2.2.2.1, z.2.2.2.2.1, z.2.2.2.2.2)).2)).2)) else ((m_X0_putSpan (0 : Int32) (0 : Int32) (0 : Int32) (0 : Int32) (vp_updL (vp_updL (vp_updL z.1 (2 : Int32).toNatClampNeg (1008673 : Int64)) (3 : Int32).toNatClampNeg (1008673 : Int64)) (5 : Int32).toNatClampNeg (1008673 : Int64), z.2.1, z.2.2.1, z.2.2.2.1, z.2.2.2.2.1, z.2.2.2.2.2)).1, 0, (m_X0_putSpan (0 : Int32) (0 : Int32) (0 : Int32) (0 : Int32) (vp_updL (vp_updL (vp_updL z.1 (2 : Int32).toNatClampNeg (1008673 : Int64)) (3 : Int32).toNatClampNeg (1008673 : Int64)) (5 : Int32).toNatClampNeg (1008673 : Int64), z.2.1, z.2.2.1, z.2.2.2.1, z.2.2.2.2.1, z.2.2.2.2.2)).2))) else (if lg_cmp ((vp_updL (vp_updL (vp_updL z.1 (2 : Int32).toNatClampNeg (1008673 : Int64)) (3 : Int32).toNatClampNeg (1008673 : Int64)) (4 : Int32).toNatClampNeg (1008673 : Int64)) (5 : Int32).toNatClampNeg) (1008673 : Int64) = 0 then (if (m_X0_putSpan (0 : Int32) (0 : Int32) (0 : Int32) (0 : Int32) (vp_updL (vp_updL (vp_updL z.1 (2 : Int32).toNatClampNeg (1008673 : Int64)) (3 : Int32).toNatClampNeg (1008673 : Int64)) (4 : Int32).toNatClampNeg (1008673 : Int64), z.2.1, z.2.2.1, z.2.2.2.1, z.2.2.2.2.1, z.2.2.2.2.2)).1 = 0 then (if (m_X0_putSpan (1 : Int32) (0 : Int32) (0 : Int32) (0 : Int32) ((m_X0_putSpan (0 : Int32) (0 : Int32) (0 : Int32) (0 : Int32) (vp_updL (vp_updL (vp_updL z.1 (2 : Int32).toNatClampNeg (1008673 : Int64)) (3 : Int32).toNatClampNeg (1008673 : Int64)) (4 : Int32).toNatClampNeg (1008673 : Int64), z.2.1, z.2.2.1, z.2.2.2.1, z.2.2.2.2.1, z.2.2.2.2.2)).2)).1 = 0 then (0, (3 : Int32), (m_X0_putSpan (1 : Int32) (0 : Int32) (0 : Int32) (0 : Int32) ((m_X0_putSpan (0 : Int32) (0 : Int32) (0 : Int32) (0 : Int32) (vp_updL (vp_updL (vp_updL z.1 (2 : Int32).toNatClampNeg (1008673 : Int64)) (3 : Int32).toNatClampNeg (1008673 : Int64)) (4 : Int32).toNatClampNeg (1008673 : Int64), z.2.1, z.2.2.1, z.2.2.2.1, z.2.2.2.2.1, z.2.2.2.2.2)).2)).2) else ((m_X0_putSpan (1 : Int32) (0 : Int32) (0 : Int32) (0 : Int32) ((m_X0_putSpan (0 : Int32) (0 : Int32) (0 : Int32) (0 : Int32) (vp_updL (vp_updL (vp_updL z.1 (2 : Int32).toNatClampNeg (1008673 : Int64)) (3 : Int32).toNatClampNeg (1008673 : Int64)) (4 : Int32).toNatClampNeg (1008673 : Int64), z.2.1, z.2.2.1, z.2.2.2.1, z.2.2.2.2.1, z.2.2.2.2.2)).2)).1, 0, (m_X0_putSpan (1 : Int32) (0 : Int32) (0 : Int32) (0 : Int32) ((m_X0_putSpan (0 : Int32) (0 : Int32) (0 : Int32) (0 : Int32) (vp_updL (vp_updL (vp_updL z.1 (2 : Int32).toNatClampNeg (1008673 : Int64)) (3 : Int32).toNatClampNeg (1008673 : Int64)) (4 : Int32).toNatClampNeg (1008673 : Int64), z.2.1, z.2.2.1, z.2.2.2.1, z.2.2.2.2.1, z.2.2.2.2.2)).2)).2)) else ((m_X0_putSpan (0 : Int32) (0 : Int32) (0 : Int32) (0 : Int32) (vp_updL (vp_updL (vp_updL z.1 (2 : Int32).toNatClampNeg (1008673 : Int64)) (3 : Int32).toNatClampNeg (1008673 : Int64)) (4 : Int32).toNatClampNeg (1008673 : Int64), z.2.1, z.2.2.1, z.2.2.2.1, z.2.2.2.2.1, z.2.2.2.2.2)).1, 0, (m_X0_putSpan (0 : Int32) (0 : Int32) (0 : Int32) (0 : Int32) (vp_updL (vp_updL (vp_updL z.1 (2 : Int32).toNatClampNeg (1008673 : Int64)) (3 : Int32).toNatClampNeg (1008673 : Int64)) (4 : Int32).toNatClampNeg (1008673 : Int64), z.2.1, z.2.2.1, z.2.2.2.1, z.2.2.2.2.1, z.2.2.2.2.2)).2)) else (if (m_X0_putSpan (0 : Int32) (0 : Int32) (0 : Int32) (0 : Int32) (vp_updL (vp_updL (vp_updL (vp_updL z.1 (2 : Int32).toNatClampNeg (1008673 : Int64)) (3 : Int32).toNatClampNeg (1008673 : Int64)) (4 : Int32).toNatClampNeg (1008673 : Int64)) (5 : Int32).toNatClampNeg (1008673 : Int64), z.2.1, z.2.2.1, z.2.2.2.1, z.2.2.2.2.1, z.2.2.2.2.2)).1 = 0 then (if (m_X0_putSpan (1 : Int32) (0 : Int32) (0 : Int32) (0 : Int32) ((m_X0_putSpan (0 : Int32) (0 : Int32) (0 : Int32) (0 : Int32) (vp_updL (vp_updL (vp_updL (vp_updL z.1 (2 : Int32).toNatClampNeg (1008673 : Int64)) (3 : Int32).toNatClampNeg (1008673 : Int64)) (4 : Int32).toNatClampNeg (1008673 : Int64)) (5 : Int32).toNatClampNeg (1008673 : Int64), z.2.1, z.2.2.1, z.2.2.2.1, z.2.2.2.2.1, z.2.2.2.2.2)).2)).1 = 0 then (0, (4 : Int32), (m_X0_putSpan (1 : Int32) (0 : Int32) (0 : Int32) (0 : Int32) ((m_X0_putSpan (0 : Int32) (0 : Int32) (0 : Int32) (0 : Int32) (vp_updL (vp_updL (vp_updL (vp_updL z.1 (2 : Int32).toNatClampNeg (1008673 : Int64)) (3 : Int32).toNatClampNeg (1008673 : Int64)) (4 : Int32).toNatClampNeg (1008673 : Int64)) (5 : Int32).toNatClampNeg (1008673 : Int64), z.2.1, z.2.2.1, z.2.2.2.1, z.2.2.2.2.1, z.2.2.2.2.2)).2)).2) else ((m_X0_putSpan (1 : Int32) (0 : Int32) (0 : Int32) (0 : Int32) ((m_X0_putSpan (0 : Int32) (0 : Int32) (0 : Int32) (0 : Int32) (vp_updL (vp_updL (vp_updL (vp_updL z.1 (2 : Int32).toNatClampNeg (1008673 : Int64)) (3 : Int32).toNatClampNeg (1008673 : Int64)) (4 : Int32).toNatClampNeg (1008673 : Int64)) (5 : Int32).toNatClampNeg (1008673 : Int64), z.2.1, z.2.2.1, z.2.2.2.1, z.2.2.2.2.1, z.2.2.2.2.2)).2)).1, 0, (m_X0_putSpan (1 : Int32) (0 : Int32) (0 : Int32) (0 : Int32) ((m_X0_putSpan (0 : Int32) (0 : Int32) (0 : Int32) (0 : Int32) (vp_updL (vp_updL (vp_updL (vp_updL z.1 (2 : Int32).toNatClampNeg (1008673 : Int64)) (3 : Int32).toNatClampNeg (1008673 : Int64)) (4 : Int32).toNatClampNeg (1008673 : Int64)) (5 : Int32).toNatClampNeg (1008673 : Int64), z.2.1, z.2.2.1, z.2.2.2.1, z.2.2.2.2.1, z.2.2.2.2.2)).2)).2)) else ((m_X0_putSpan (0 : Int32) (0 : Int32) (0 : Int32) (0 : Int32) (vp_updL (vp_updL (vp_updL (vp_updL z.1 (2 : Int32).toNatClampNeg (1008673 : Int64)) (3 : Int32).toNatClampNeg (1008673 : Int64)) (4 : Int32).toNatClampNeg (1008673 : Int64)) (5 : Int32).toNatClampNeg (1008673 : Int64), z.2.1, z.2.2.1, z.2.2.2.1, z.2.2.2.2.1, z.2.2.2.2.2)).1, 0, (m_X0_putSpan (0 : Int32) (0 : Int32) (0 : Int32) (0 : Int32) (vp_updL (vp_updL (vp_updL (vp_updL z.1 (2 : Int32).toNatClampNeg (1008673 : Int64)) (3 : Int32).toNatClampNeg (1008673 : Int64)) (4 : Int32).toNatClampNeg (1008673 : Int64)) (5 : Int32).toNatClampNeg (1008673 : Int64), z.2.1, z.2.2.1, z.2.2.2.1, z.2.2.2.2.1, z.2.2.2.2.2)).2)))))) else (if lg_cmp ((vp_updL z.1 (1 : Int32).toNatClampNeg (1008673 : Int64)) (2 : Int32).toNatClampNeg) (1008673 : Int64) = 0 then (if lg_cmp ((vp_updL z.1 (1 : Int32).toNatClampNeg (1008673 : Int64)) (3 : Int32).toNatClampNeg) (1008673 : Int64) = 0 then (if lg_cmp ((vp_updL z.1 (1 : Int32).toNatClampNeg (1008673 : Int64)) (4 : Int32).toNatClampNeg) (1008673 : Int64) = 0 then (if lg_cmp ((vp_updL z.1 (1 : Int32).toNatClampNeg (1008673 : Int64)) (5 : Int32).toNatClampNeg) (1008673 : Int64) = 0 then (if (m_X0_putSpan (0 : Int32) (0 : Int32) (0 : Int32) (0 : Int32) (vp_updL z.1 (1 : Int32).toNatClampNeg (1008673 : Int64), z.2.1, z.2.2.1, z.2.2.2.1, z.2.2.2.2.1, z.2.2.2.2.2)).1 = 0 then (if (m_X0_putSpan (1 : Int32) (0 : Int32) (0 : Int32) (0 : Int32) ((m_X0_putSpan (0 : Int32) (0 : Int32) (0 : Int32) (0 : Int32) (vp_updL z.1 (1 : Int32).toNatClampNeg (1008673 : Int64), z.2.1, z.2.2.1, z.2.2.2.1, z.2.2.2.2.1, z.2.2.2.2.2)).2)).1 = 0 then (0, (1 : Int32), (m_X0_putSpan (1 : Int32) (0 : Int32) (0 : Int32) (0 : Int32) ((m_X0_putSpan (0 : Int32) (0 : Int32) (0 : Int32) (0 : Int32) (vp_updL z.1 (1 : Int32).toNatClampNeg (1008673 : Int64), z.2.1, z.2.2.1, z.2.2.2.1, z.2.2.2.2.1, z.2.2.2.2.2)).2)).2) else ((m_X0_putSpan (1 : Int32) (0 : Int32) (0 : Int32) (0 : Int32) ((m_X0_putSpan (0 : Int32) (0 : Int32) (0 : Int32) (0 : Int32) (vp_updL z.1 (1 : Int32).toNatClampNeg (1008673 : Int64), z.2.1, z.2.2.1, z.2.2.2.1, z.2.2.2.2.1, z.2.2.2.2.2)).2)).1, 0, (m_X0_putSpan (1 : Int32) (0 : Int32) (0 : Int32) (0 : Int32) ((m_X0_putSpan (0 : Int32) (0 : Int32) (0 : Int32) (0 : Int32) (vp_updL z.1 (1 : Int32).toNatClampNeg (1008673 : Int64), z.2.1, z.2.2.1, z.2.2.2.1, z.2.2.2.2.1, z.2.2.2.2.2)).2)).2)) else ((m_X0_putSpan (0 : Int32) (0 : Int32) (0 : Int32) (0 : Int32) (vp_updL z.1 (1 : Int32).toNatClampNeg (1008673 : Int64), z.2.1, z.2.2.1, z.2.2.2.1, z.2.2.2.2.1, z.2.2.2.2.2)).1, 0, (m_X0_putSpan (0 : Int32) (0 : Int32) (0 : Int32) (0 : Int32) (vp_updL z.1 (1 : Int32).toNatClampNeg (1008673 : Int64), z.2.1, z.2.2.1, z.2.2.2.1, z.2.2.2.2.1, z.2.2.2.2.2)).2)) else (if (m_X0_putSpan (0 : Int32) (0 : Int32) (0 : Int32) (0 : Int32) (vp_updL (vp_updL z.1 (1 : Int32).toNatClampNeg (1008673 : Int64)) (5 : Int32).toNatClampNeg (1008673 : Int64), z.2.1, z.2.2.1, z.2.2.2.1, z.2.2.2.2.1, z.2.2.2.2.2)).1 = 0 then (if (m_X0_putSpan (1 : Int32) (0 : Int32) (0 : Int32) (0 : Int32) ((m_X0_putSpan (0 : Int32) (0 : Int32) (0 : Int32) (0 : Int32) (vp_updL (vp_updL z.1 (1 : Int32).toNatClampNeg (1008673 : Int64)) (5 : Int32).toNatClampNeg (1008673 : Int64), z.2.1, z.2.2.1, z.2.2.2.1, z.2.2.2.2.1, z.2.2.2.2.2)).2)).1 = 0 then (0, (2 : Int32), (m_X0_putSpan (1 : Int32) (0 : Int32) (0 : Int32) (0 : Int32) ((m_X0_putSpan (0 : Int32) (0 : Int32) (0 : Int32) (0 : Int32) (vp_updL (vp_updL z.1 (1 : Int32).toNatClampNeg (1008673 : Int64)) (5 : Int32).toNatClampNeg (1008673 : Int64), z.2.1, z.2.2.1, z.2.2.2.1, z.2.2.2.2.1, z.2.2.2.2.2)).2)).2) else ((m_X0_putSpan (1 : Int32) (0 : Int32) (0 : Int32) (0 : Int32) ((m_X0_putSpan (0 : Int32) (0 : Int32) (0 : Int32) (0 : Int32) (vp_updL (vp_updL z.1 (1 : Int32).toNatClampNeg (1008673 : Int64)) (5 : Int32).toNatClampNeg (1008673 : Int64), z.2.1, z.2.2.1, z.2.2.2.1, z.2.2.2.2.1, z.2.2.2.2.2)).2)).1, 0, (m_X0_putSpan (1 : Int32) (0 : Int32) (0 : Int32) (0 : Int32) ((m_X0_putSpan (0 : Int32) (0 : Int32) (0 : Int32) (0 : Int32) (vp_updL (vp_updL z.1 (1 : Int32).toNatClampNeg (1008673 : Int64)) (5 : Int32).toNatClampNeg (1008673 : Int64), z.2.1, z.2.2.1, z.2.2.2.1, z.2.2.2.2.1, z.2.2.2.2.2)).2)).2)) else ((m_X0_putSpan (0 : Int32) (0 : Int32) (0 : Int32) (0 : Int32) (vp_updL (vp_updL z.1 (1 : Int32).toNatClampNeg (1008673 : Int64)) (5 : Int32).toNatClampNeg (1008673 : Int64), z.2.1, z.2.2.1, z.2.2.2.1, z.2.2.2.2.1, z.2.2.2.2.2)).1, 0, (m_X0_putSpan (0 : Int32) (0 : Int32) (0 : Int32) (0 : Int32) (vp_updL (vp_updL z.1 (1 : Int32).toNatClampNeg (1008673 : Int64)) (5 : Int32).toNatClampNeg (1008673 : Int64), z.2.1, z.2.2.1, z.2.2.2.1, z.2.2.2.2.1, z.2.2.2.2.2)).2))) else (if lg_cmp ((vp_updL (vp_updL z.1 (1 : Int32).toNatClampNeg (1008673 : Int64)) (4 : Int32).toNatClampNeg (1008673 : Int64)) (5 : Int32).toNatClampNeg) (1008673 : Int64) = 0 then (if (m_X0_putSpan (0 : Int32) (0 : Int32) (0 : Int32) (0 : Int32) (vp_updL (vp_updL z.1 (1 : Int32).toNatClampNeg (1008673 : Int64)) (4 : Int32).toNatClampNeg (1008673 : Int64), z.2.1, z.2.2.1, z.2.2.2.1, z.2.2.2.2.1, z.2.2.2.2.2)).1 = 0 then (if (m_X0_putSpan (1 : Int32) (0 : Int32) (0 : Int32) (0 : Int32) ((m_X0_putSpan (0 : Int32) (0 : Int32) (0 : Int32) (0 : Int32) (vp_updL (vp_updL z.1 (1 : Int32).toNatClampNeg (1008673 : Int64)) (4 : Int32).toNatClampNeg (1008673 : Int64), z.2.1, z.2.2.1, z.2.2.2.1, z.2.2.2.2.1, z.2.2.2.2.2)).2)).1 = 0 then (0, (2 : Int32), (m_X0_putSpan (1 : Int32) (0 : Int32) (0 : Int32) (0 : Int32) ((m_X0_putSpan (0 : Int32) (0 : Int32) (0 : Int32) (0 : Int32) (vp_updL (vp_updL z.1 (1 : Int32).toNatClampNeg (1008673 : Int64)) (4 : Int32).toNatClampNeg (1008673 : Int64), z.2.1, z.2.2.1, z.2.2.2.1, z.2.2.2.2.1, z.2.2.2.2.2)).2)).2) else ((m_X0_putSpan (1 : Int32) (0 : Int32) (0 : Int32) (0 : Int32) ((m_X0_putSpan (0 : Int32) (0 : Int32) (0 : Int32) (0 : Int32) (vp_updL (vp_updL z.1 (1 : Int32).toNatClampNeg (1008673 : Int64)) (4 : Int32).toNatClampNeg (1008673 : Int64), z.2.1, z.2.2.1, z.2.2.2.1, z.2.2.2.2.1, z.2.2.2.2.2)).2)).1, 0, (m_X0_putSpan (1 : Int32) (0 : Int32) (0 : Int32) (0 : Int32) ((m_X0_putSpan (0 : Int32) (0 : Int32) (0 : Int32) (0 : Int32) (vp_updL (vp_updL z.1 (1 : Int32).toNatClampNeg (1008673 : Int64)) (4 : Int32).toNatClampNeg (1008673 : Int64), z.2.1, z.2.2.1, z.2.2.2.1, z.2.2.2.2.1, z.2.2.2.2.2)).2)).2)) else ((m_X0_putSpan (0 : Int32) (0 : Int32) (0 : Int32) (0 : Int32) (vp_updL (vp_updL z.1 (1 : Int32).toNatClampNeg (1008673 : Int64)) (4 : Int32).toNatClampNeg (1008673 : Int64), z.2.1, z.2.2.1, z.2.2.2.1, z.2.2.2.2.1, z.2.2.2.2.2)).1, 0, (m_X0_putSpan (0 : Int32) (0 : Int32) (0 : Int32) (0 : Int32) (vp_updL (vp_updL z.1 (1 : Int32).toNatClampNeg (1008673 : Int64)) (4 : Int32).toNatClampNeg (1008673 : Int64), z.2.1, z.2.2.1, z.2.2.2.1, z.2.2.2.2.1, z.2.2.2.2.2)).2)) else (if (m_X0_putSpan (0 : Int32) (0 : Int32) (0 : Int32) (0 : Int32) (vp_updL (vp_updL (vp_updL z.1 (1 : Int32).toNatClampNeg (1008673 : Int64)) (4 : Int32).toNatClampNeg (1008673 : Int64)) (5 : Int32).toNatClampNeg (1008673 : Int64), z.2.1, z.2.2.1, z.2.2.2.1, z.2.2.2.2.1, z.2.2.2.2.2)).1 = 0 then (if (m_X0_putSpan (1 : Int32) (0 : Int32) (0 : Int32) (0 : Int32) ((m_X0_putSpan (0 : Int32) (0 : Int32) (0 : Int32) (0 : Int32) (vp_updL (vp_updL (vp_updL z.1 (1 : Int32).toNatClampNeg (1008673 : Int64)) (4 : Int32).toNatClampNeg (1008673 : Int64)) (5 : Int32).toNatClampNeg (1008673 : Int64), z.2.1, z.2.2.1, z.2.2.2.1, z.2.2.2.2.1, z.2.2.2.2.2)).2)).1 = 0 then (0, (3 : Int32), (m_X0_putSpan (1 : Int32) (0 : Int32) (0 : Int32) (0 : Int32) ((m_X0_putSpan (0 : Int32) (0 : Int32) (0 : Int32) (0 : Int32) (vp_updL (vp_updL (vp_updL z.1 (1 : Int32).toNatClampNeg (1008673 : Int64)) (4 : Int32).toNatClampNeg (1008673 : Int64)) (5 : Int32).toNatClampNeg (1008673 : Int64), z.2.1, z.2.2.1, z.2.2.2.1, z.2.2.2.2.1, z.2.2.2.2.2)).2)).2) else ((m_X0_putSpan (1 : Int32) (0 : Int32) (0 : Int32) (0 : Int32) ((m_X0_putSpan (0 : Int32) (0 : Int32) (0 : Int32) (0 : Int32) (vp_updL (vp_updL (vp_updL z.1 (1 : Int32).toNatClampNeg (1008673 : Int64)) (4 : Int32).toNatClampNeg (1008673 : Int64)) (5 : Int32).toNatClampNeg (1008673 : Int64), z.2.1, z.2.2.1, z.2.2.2.1, z.2.2.2.2.1, z.2.2.2.2.2)).2)).1, 0, (m_X0_putSpan (1 : Int32) (0 : Int32) (0 : Int32) (0 : Int32) ((m_X0_putSpan (0 : Int32) (0 : Int32) (0 : Int32) (0 : Int32) (vp_updL (vp_updL (vp_updL z.1 (1 : Int32).toNatClampNeg (1008673 : Int64)) (4 : Int32).toNatClampNeg (1008673 : Int64)) (5 : Int32).toNatClampNeg (1008673 : Int64), z.2.1, z.2.2.1, z.2.2.2.1, z.2.2.2.2.1, z.2.2.2.2.2)).2)).2)) else ((m_X0_putSpan (0 : Int32) (0 : Int32) (0 : Int32) (0 : Int32) (vp_updL (vp_updL (vp_updL z.1 (1 : Int32).toNatClampNeg (1008673 : Int64)) (4 : Int32).toNatClampNeg (1008673 : Int64)) (5 : Int32).toNatClampNeg (1008673 : Int64), z.2.1, z.2.2.1, z.2.2.2.1, z.2.2.2.2.1, z.2.2.2.2.2)).1, 0, (m_X0_putSpan (0 : Int32) (0 : Int32) (0 : Int32) (0 : Int32) (vp_updL (vp_updL (vp_updL z.1 (1 : Int32).toNatClampNeg (1008673 : Int64)) (4 : Int32).toNatClampNeg (1008673 : Int64)) (5 : Int32).toNatClampNeg (1008673 : Int64), z.2.1, z.2.2.1, z.2.2.2.1, z.2.2.2.2.1, z.2.2.2.2.2)).2)))) else (if lg_cmp ((vp_updL (vp_updL z.1 (1 : Int32).toNatClampNeg (1008673 : Int64)) (3 : Int32).toNatClampNeg (1008673 : Int64)) (4 : Int32).toNatClampNeg) (1008673 : Int64) = 0 then (if lg_cmp ((vp_updL (vp_updL z.1 (1 : Int32).toNatClampNeg (1008673 : Int64)) (3 : Int32).toNatClampNeg (1008673 : Int64)) (5 : Int32).toNatClampNeg) (1008673 : Int64) = 0 then (if (m_X0_putSpan (0 : Int32) (0 : Int32) (0 : Int32) (0 : Int32) (vp_updL (vp_updL z.1 (1 : Int32).toNatClampNeg (1008673 : Int64)) (3 : Int32).toNatClampNeg (1008673 : Int64), z.2.1, z.2.2.1, z.2.2.2.1, z.2.2.2.2.1, z.2.2.2.2.2)).1 = 0 then (if (m_X0_putSpan (1 : Int32) (0 : Int32) (0 : Int32) (0 : Int32) ((m_X0_putSpan (0 : Int32) (0 : Int32) (0 : Int32) (0 : Int32) (vp_updL (vp_updL z.1 (1 : Int32).toNatClampNeg (1008673 : Int64)) (3 : Int32).toNatClampNeg (1008673 : Int64), z.2.1, z.2.2.1, z.2.2.2.1, z.2.2.2.2.1, z.2.2.2.2.2)).2)).1 = 0 then (0, (2 : Int32), (m_X0_putSpan (1 : Int32) (0 : Int32) (0 : Int32) (0 : Int32) ((m_X0_putSpan (0 : Int32) (0 : Int32) (0 : Int32) (0 : Int32) (vp_updL (vp_updL z.1 (1 : Int32).toNatClampNeg (1008673 : Int64)) (3 : Int32).toNatClampNeg (1008673 : Int64), z.2.1, z.2.2.1, z.2.2.2.1, z.2.2.2.2.1, z.2.2.2.2.2)).2)).2) else ((m_X0_putSpan (1 : Int32) (0 : Int32) (0 : Int32) (0 : Int32) ((m_X0_putSpan (0 : Int32) (0 : Int32) (0 : Int32) (0 : Int32) (vp_updL (vp_updL z.1 (1 : Int32).toNatClampNeg (1008673 : Int64)) (3 : Int32).toNatClampNeg (1008673 : Int64), z.2.1, z.2.2.1, z.2.2.2.1, z.2.2.2.2.1, z.2.2.2.2.2)).2)).1, 0, (m_X0_putSpan (1 : Int32) (0 : Int32) (0 : Int32) (0 : Int32) ((m_X0_putSpan (0 : Int32) (0 : Int32) (0 : Int32) (0 : Int32) (vp_updL (vp_updL z.1 (1 : Int32).toNatClampNeg (1008673 : Int64)) (3 : Int32).toNatClampNeg (1008673 : Int64), z.2.1, z.2.2.1, z.2.2.2.1, z.2.2.2.2.1, z.2.2.2.2.2)).2)).2)) else ((m_X0_putSpan (0 : Int32) (0 : Int32) (0 : Int32) (0 : Int32) (vp_updL (vp_updL z.1 (1 : Int32).toNatClampNeg (1008673 : Int64)) (3 : Int32).toNatClampNeg (1008673 : Int64), z.2.1, z.2.2.1, z.2.2.2.1, z.2.2.2.2.1, z.2.2.2.2.2)).1, 0, (m_X0_putSpan (0 : Int32) (0 : Int32) (0 : Int32) (0 : Int32) (vp_updL (vp_updL z.1 (1 : Int32).toNatClampNeg (1008673 : Int64)) (3 : Int32).toNatClampNeg (1008673 : Int64), z.2.1, z.2.2.1, z.2.2.2.1, z.2.2.2.2.1, z.2.2.2.2.2)).2)) else (if (m_X0_putSpan (0 : Int32) (0 : Int32) (0 : Int32) (0 : Int32) (vp_updL (vp_updL (vp_updL z.1 (1 : Int32).toNatClampNeg (1008673 : Int64)) (3 : Int32).toNatClampNeg (1008673 : Int64)) (5 : Int32).toNatClampNeg (1008673 : Int64), z.2.1, z.2.2.1, z.2.2.2.1, z.2.2.2.2.1, z.2.2.2.2.2)).1 = 0 then (if (m_X0_putSpan (1 : Int32) (0 : Int32) (0 : Int32) (0 : Int32) ((m_X0_putSpan (0 : Int32) (0 : Int32) (0 : Int32) (0 : Int32) (vp_updL (vp_updL (vp_updL z.1 (1 : Int32).toNatClampNeg (1008673 : Int64)) (3 : Int32).toNatClampNeg (1008673 : Int64)) (5 : Int32).toNatClampNeg (1008673 : Int64), z.2.1, z.2.2.1, z.2.2.2.1, z.2.2.2.2.1, z.2.2.2.2.2)).2)).1 = 0 then (0, (3 : Int32), (m_X0_putSpan (1 : Int32) (0 : Int32) (0 : Int32) (0 : Int32) ((m_X0_putSpan (0 : Int32) (0 : Int32) (0 : Int32) (0 : Int32) (vp_updL (vp_updL (vp_updL z.1 (1 : Int32).toNatClampNeg (1008673 : Int64)) (3 : Int32).toNatClampNeg (1008673 : Int64)) (5 : Int32).toNatClampNeg (1008673 : Int64), z.2.1, z.2.2.1, z.2.2.2.1, z.2.2.2.2.1, z.2.2.2.2.2)).2)).2) else ((m_X0_putSpan (1 : Int32) (0 : Int32) (0 : Int32) (0 : Int32) ((m_X0_putSpan (0 : Int32) (0 : Int32) (0 : Int32) (0 : Int32) (vp_updL (vp_updL (vp_updL z.1 (1 : Int32).toNatClampNeg (1008673 : Int64)) (3 : Int32).toNatClampNeg (1008673 : Int64)) (5 : Int32).toNatClampNeg (1008673 : Int64), z.2.1, z.2.2.1, z.2.2.2.1, z.2.2.2.2.1, z.2.2.2.2.2)).2)).1, 0, (m_X0_putSpan (1 : Int32) (0 : Int32) (0 : Int32) (0 : Int32) ((m_X0_putSpan (0 : Int32) (0 : Int32) (0 : Int32) (0 : Int32) (vp_updL (vp_updL (vp_updL z.1 (1 : Int32).toNatClampNeg (1008673 : Int64)) (3 : Int32).toNatClampNeg (1008673 : Int64)) (5 : Int32).toNatClampNeg (1008673 : Int64), z.2.1, z.2.2.1, z.2.2.2.1, z.2.2.2.2.1, z.2.2.2.2.2)).2)).2)) else ((m_X0_putSpan (0 : Int32) (0 : Int32) (0 : Int32) (0 : Int32) (vp_updL (vp_updL (vp_updL z.1 (1 : Int32).toNatClampNeg (1008673 : Int64)) (3 : Int32).toNatClampNeg (1008673 : Int64)) (5 : Int32).toNatClampNeg (1008673 : Int64), z.2.1, z.2.2.1, z.2.2.2.1, z.2.2.2.2.1, z.2.2.2.2.2)).1, 0, (m_X0_putSpan (0 : Int32) (0 : Int32) (0 : Int32) (0 : Int32) (vp_updL (vp_updL (vp_updL z.1 (1 : Int32).toNatClampNeg (1008673 : Int64)) (3 : Int32).toNatClampNeg (1008673 : Int64)) (5 : Int32).toNatClampNeg (1008673 : Int64), z.2.1, z.2.2.1, z.2.2.2.1, z.2.2.2.2.1, z.2.2.2.2.2)).2))) else (if lg_cmp ((vp_updL (vp_updL (vp_updL z.1 (1 : Int32).toNatClampNeg (1008673 : Int64)) (3 : Int32).toNatClampNeg (1008673 : Int64)) (4 : Int32).toNatClampNeg (1008673 : Int64)) (5 : Int32).toNatClampNeg) (1008673 : Int64) = 0 then (if (m_X0_putSpan (0 : Int32) (0 : Int32) (0 : Int32) (0 : Int32) (vp_updL (vp_updL (vp_updL z.1 (1 : Int32).toNatClampNeg (1008673 : Int64)) (3 : Int32).toNatClampNeg (1008673 : Int64)) (4 : Int32).toNatClampNeg (1008673 : Int64), z.2.1, z.2.2.1, z.2.2.2.1, z.2.2.2.2.1, z.2.2.2.2.2)).1 = 0 then (if (m_X0_putSpan (1 : Int32) (0 : Int32) (0 : Int32) (0 : Int32) ((m_X0_putSpan (0 : Int32) (0 : Int32) (0 : Int32) (0 : Int32) (vp_updL (vp_updL (vp_updL z.1 (1 : Int32).toNatClampNeg (1008673 : Int64)) (3 : Int32).toNatClampNeg (1008673 : Int64)) (4 : Int32).toNatClampNeg (1008673 : Int64), z.2.1, z.2.2.1, z.2.2.2.1, z.2.2.2.2.1, z.2.2.2.2.2)).2)).1 = 0 then (0, (3 : Int32), (m_X0_putSpan (1 : Int32) (0 : Int32) (0 : Int32) (0 : Int32) ((m_X0_putSpan (0 : Int32) (0 : Int32) (0 : Int32) (0 : Int32) (vp_updL (vp_updL (vp_updL z.1 (1 : Int32).toNatClampNeg (1008673 : Int64)) (3 : Int32).toNatClampNeg (1008673 : Int64)) (4 : Int32).toNatClampNeg (1008673 : Int64), z.2.1, z.2.2.1, z.2.2.2.1, z.2.2.2.2.1, z.2.2.2.2.2)).2)).2) else ((m_X0_putSpan (1 : Int32) (0 : Int32) (0 : Int32) (0 : Int32) ((m_X0_putSpan (0 : Int32) (0 : Int32) (0 : Int32) (0 : Int32) (vp_updL (vp_updL (vp_updL z.1 (1 : Int32).toNatClampNeg (1008673 : Int64)) (3 : Int32).toNatClampNeg (1008673 : Int64)) (4 : Int32).toNatClampNeg (1008673 : Int64), z.2.1, z.2.2.1, z.2.2.2.1, z.2.2.2.2.1, z.2.2.2.2.2)).2)).1, 0, (m_X0_putSpan (1 : Int32) (0 : Int32) (0 : Int32) (0 : Int32) ((m_X0_putSpan (0 : Int32) (0 : Int32) (0 : Int32) (0 : Int32) (vp_updL (vp_updL (vp_updL z.1 (1 : Int32).toNatClampNeg (1008673 : Int64)) (3 : Int32).toNatClampNeg (1008673 : Int64)) (4 : Int32).toNatClampNeg (1008673 : Int64), z.2.1, z.2.2.1, z.2.2.2.1, z.2.2.2.2.1, z.2.2.2.2.2)).2)).2)) else ((m_X0_putSpan (0 : Int32) (0 : Int32) (0 : Int32) (0 : Int32) (vp_updL (vp_updL (vp_updL z.1 (1 : Int32).toNatClampNeg (1008673 : Int64)) (3 : Int32).toNatClampNeg (1008673 : Int64)) (4 : Int32).toNatClampNeg (1008673 : Int64), z.2.1, z.2.2.1, z.2.2.2.1, z.2.2.2.2.1, z.2.2.2.2.2)).1, 0, (m_X0_putSpan (0 : Int32) (0 : Int32) (0 : Int32) (0 : Int32) (vp_updL (vp_updL (vp_updL z.1 (1 : Int32).toNatClampNeg (1008673 : Int64)) (3 : Int32).toNatClampNeg (1008673 : Int64)) (4 : Int32).toNatClampNeg (1008673 : Int64), z.2.1, z.2.2.1, z.2.2.2.1, z.2.2.2.2.1, z.2.2.2.2.2)).2)) else (if (m_X0_putSpan (0 : Int32) (0 : Int32) (0 : Int32) (0 : Int32) (vp_updL (vp_updL (vp_updL (vp_updL z.1 (1 : Int32).toNatClampNeg (1008673 : Int64)) (3 : Int32).toNatClampNeg (1008673 : Int64)) (4 : Int32).toNatClampNeg (1008673 : Int64)) (5 : Int32).toNatClampNeg (1008673 : Int64), z.2.1, z.2.2.1, z.2.2.2.1, z.2.2.2.2.1, z.2.2.2.2.2)).1 = 0 then (if (m_X0_putSpan (1 : Int32) (0 : Int32) (0 : Int32) (0 : Int32) ((m_X0_putSpan (0 : Int32) (0 : Int32) (0 : Int32) (0 : Int32) (vp_updL (vp_updL (vp_updL (vp_updL z.1 (1 : Int32).toNatClampNeg (1008673 : Int64)) (3 : Int32).toNatClampNeg (1008673 : Int64)) (4 : Int32).toNatClampNeg (1008673 : Int64)) (5 : Int32).toNatClampNeg (1008673 : Int64), z.2.1, z.2.2.1, z.2.2.2.1, z.2.2.2.2.1, z.2.2.2.2.2)).2)).1 = 0 then (0, (4 : Int32), (m_X0_putSpan (1 : Int32) (0 : Int32) (0 : Int32) (0 : Int32) ((m_X0_putSpan (0 : Int32) (0 : Int32) (0 : Int32) (0 : Int32) (vp_updL (vp_updL (vp_updL (vp_updL z.1 (1 : Int32).toNatClampNeg (1008673 : Int64)) (3 : Int32).toNatClampNeg (1008673 : Int64)) (4 : Int32).toNatClampNeg (1008673 : Int64)) (5 : Int32).toNatClampNeg (1008673 : Int64), z.2.1, z.2.2.1, z.2.2.2.1, z.2.2.2.2.1, z.2.2.2.2.2)).2)).2) else ((m_X0_putSpan (1 : Int32) (0 : Int32) (0 : Int32) (0 : Int32) ((m_X0_putSpan (0 : Int32) (0 : Int32) (0 : Int32) (0 : Int32) (vp_updL (vp_updL (vp_updL (vp_updL z.1 (1 : Int32).toNatClampNeg (1008673 : Int64)) (3 : Int32).toNatClampNeg (1008673 : Int64)) (4 : Int32).toNatClampNeg (1008673 : Int64)) (5 : Int32).toNatClampNeg (1008673 : Int64), z.2.1, z.2.2.1, z.2.2.2.1, z.2.2.2.2.1, z.2.2.2.2.2)).2)).1, 0, (m_X0_putSpan (1 : Int32) (0 : Int32) (0 : Int32) (0 : Int32) ((m_X0_putSpan (0 : Int32) (0 : Int32) (0 : Int32) (0 : Int32) (vp_updL (vp_updL (vp_updL (vp_updL z.1 (1 : Int32).toNatClampNeg (1008673 : Int64)) (3 : Int32).toNatClampNeg (1008673 : Int64)) (4 : Int32).toNatClampNeg (1008673 : Int64)) (5 : Int32).toNatClampNeg (1008673 : Int64), z.2.1, z.2.2.1, z.2.2.2.1, z.2.2.2.2.1, z.2.2.2.2.2)).2)).2)) else ((m_X0_putSpan (0 : Int32) (0 : Int32) (0 : Int32) (0 : Int32) (vp_updL (vp_updL (vp_updL (vp_updL z.1 (1 : Int32).toNatClampNeg (1008673 : Int64)) (3 : Int32).toNatClampNeg (1008673 : Int64)) (4 : Int32).toNatClampNeg (1008673 : Int64)) (5 : Int32).toNatClampNeg (1008673 : Int64), z.2.1, z.2.2.1, z.2.2.2.1, z.2.2.2.2.1, z.2.2.2.2.2)).1, 0, (m_X0_putSpan (0 : Int32) (0 : Int32) (0 : Int32) (0 : Int32) (vp_updL (vp_updL (vp_updL (vp_updL z.1 (1 : Int32).toNatClampNeg (1008673 : Int64)) (3 : Int32).toNatClampNeg (1008673 : Int64)) (4 : Int32).toNatClampNeg (1008673 : Int64)) (5 : Int32).toNatClampNeg (1008673 : Int64), z.2.1, z.2.2.1, z.2.2.2.1, z.2.2.2.2.1, z.2.2.2.2.2)).2))))) else (if lg_cmp ((vp_updL (vp_updL z.1 (1 : Int32).toNatClampNeg (1008673 : Int64)) (2 : Int32).toNatClampNeg (1008673 : Int64)) (3 : Int32).toNatClampNeg) (1008673 : Int64) = 0 then (if lg_cmp ((vp_updL (vp_updL z.1 (1 : Int32).toNatClampNeg (1008673 : Int64)) (2 : Int32).toNatClampNeg (1008673 : Int64)) (4 : Int32).toNatClampNeg) (1008673 : Int64) = 0 then (if lg_cmp ((vp_updL (vp_updL z.1 (1 : Int32).toNatClampNeg (1008673 : Int64)) (2 : Int32).toNatClampNeg (1008673 : Int64)) (5 : Int32).toNatClampNeg) (1008673 : Int64) = 0 then (if (m_X0_putSpan (0 : Int32) (0 : Int32) (0 : Int32) (0 : Int32) (vp_updL (vp_updL z.1 (1 : Int32).toNatClampNeg (1008673 : Int64)) (2 : Int32).toNatClampNeg (1008673 : Int64), z.2.1, z.2.2.1, z.2.2.2.1, z.2.2.2.2.1, z.2.2.2.2.2)).1 = 0 then (if (m_X0_putSpan (1 : Int32) (0 : Int32) (0 : Int32) (0 : Int32) ((m_X0_putSpan (0 : Int32) (0 : Int32) (0 : Int32) (0 : Int32) (vp_updL (vp_updL z.1 (1 : Int32).toNatClampNeg (1008673 : Int64)) (2 : Int32).toNatClampNeg (1008673 : Int64), z.2.1, z.2.2.1, z.2.2.2.1, z.2.2.2.2.1, z.2.2.2.2.2)).2)).1 = 0 then (0, (2 : Int32), (m_X0_putSpan (1 : Int32) (0 : Int32) (0 : Int32) (0 : Int32) ((m_X0_putSpan (0 : Int32) (0 : Int32) (0 : Int32) (0 : Int32) (vp_updL (vp_updL z.1 (1 : Int32).toNatClampNeg (1008673 : Int64)) (2 : Int32).toNatClampNeg (1008673 : Int64), z.2.1, z.2.2.1, z.2.2.2.1, z.2.2.2.2.1, z.2.2.2.2.2)).2)).2) else ((m_X0_putSpan (1 : Int32) (0 : Int32) (0 : Int32) (0 : Int32) ((m_X0_putSpan (0 : Int32) (0 : Int32) (0 : Int32) (0 : Int32) (vp_updL (vp_updL z.1 (1 : Int32).toNatClampNeg (1008673 : Int64)) (2 : Int32).toNatClampNeg (1008673 : Int64), z.2.1, z.2.2.1, z.2.2.2.1, z.2.2.2.2.1, z.2.2.2.2.2)).2)).1, 0, (m_X0_putSpan (1 : Int32) (0 : Int32) (0 : Int32) (0 : Int32) ((m_X0_putSpan (0 : Int32) (0 : Int32) (0 : Int32) (0 : Int32) (vp_updL (vp_updL z.1 (1 : Int32).toNatClampNeg (1008673 : Int64)) (2 : Int32).toNatClampNeg (1008673 : Int64), z.2.1, z.2.2.1, z.2.2.2.1, z.2.2.2.2.1, z.2.2.2.2.2)).2)).2)) else ((m_X0_putSpan (0 : Int32) (0 : Int32) (0 : Int32) (0 : Int32) (vp_updL (vp_updL z.1 (1 : Int32).toNatClampNeg (1008673 : Int64)) (2 : Int32).toNatClampNeg (1008673 : Int64), z.2.1, z.2.2.1, z.2.2.2.1, z.2.2.2.2.1, z.2.2.2.2.2)).1, 0, (m_X0_putSpan (0 : Int32) (0 : Int32) (0 : Int32) (0 : Int32) (vp_updL (vp_updL z.1 (1 : Int32).toNatClampNeg (1008673 : Int64)) (2 : Int32).toNatClampNeg (1008673 : Int64), z.2.1, z.2.2.1, z.2.2.2.1, z.2.2.2.2.1, z.2.2.2.2.2)).2)) else (if (m_X0_putSpan (0 : Int32) (0 : Int32) (0 : Int32) (0 : Int32) (vp_updL (vp_updL (vp_updL z.1 (1 : Int32).toNatClampNeg (1008673 : Int64)) (2 : Int32).toNatClampNeg (1008673 : Int64)) (5 : Int32).toNatClampNeg (1008673 : Int64), z.2.1, z.2.2.1, z.2.2.2.1, z.2.2.2.2.1, z.2.2.2.2.2)).1 = 0 then (if (m_X0_putSpan (1 : Int32) (0 : Int32) (0 : Int32) (0 : Int32) ((m_X0_putSpan (0 : Int32) (0 : Int32) (0 : Int32) (0 : Int32) (vp_updL (vp_updL (vp_updL z.1 (1 : Int32).toNatClampNeg (1008673 : Int64)) (2 : Int32).toNatClampNeg (1008673 : Int64)) (5 : Int32).toNatClampNeg (1008673 : Int64), z.2.1, z.2.2.1, z.2.2.2.1, z.2.2.2.2.1, z.2.2.2.2.2)).2)).1 = 0 then (0, (3 : Int32), (m_X0_putSpan (1 : Int32) (0 : Int32) (0 : Int32) (0 : Int32) ((m_X0_putSpan (0 : Int32) (0 : Int32) (0 : Int32) (0 : Int32) (vp_updL (vp_updL (vp_updL z.1 (1 : Int32).toNatClampNeg (1008673 : Int64)) (2 : Int32).toNatClampNeg (1008673 : Int64)) (5 : Int32).toNatClampNeg (1008673 : Int64), z.2.1, z.2.2.1, z.2.2.2.1, z.2.2.2.2.1, z.2.2.2.2.2)).2)).2) else ((m_X0_putSpan (1 : Int32) (0 : Int32) (0 : Int32) (0 : Int32) ((m_X0_putSpan (0 : Int32) (0 : Int32) (0 : Int32) (0 : Int32) (vp_updL (vp_updL (vp_updL z.1 (1 : Int32).toNatClampNeg (1008673 : Int64)) (2 : Int32).toNatClampNeg (1008673 : Int64)) (5 : Int32).toNatClampNeg (1008673 : Int64), z.2.1, z.2.2.1, z.2.2.2.1, z.2.2.2.2.1, z.2.2.2.2.2)).2)).1, 0, (m_X0_putSpan (1 : Int32) (0 : Int32) (0 : Int32) (0 : Int32) ((m_X0_putSpan (0 : Int32) (0 : Int32) (0 : Int32) (0 : Int32) (vp_updL (vp_updL (vp_updL z.1 (1 : Int32).toNatClampNeg (1008673 : Int64)) (2 : Int32).toNatClampNeg (1008673 : Int64)) (5 : Int32).toNatClampNeg (1008673 : Int64), z.2.1, z.2.2.1, z.2.2.2.1, z.2.2.2.2.1, z.2.2.2.2.2)).2)).2)) else ((m_X0_putSpan (0 : Int32) (0 : Int32) (0 : Int32) (0 : Int32) (vp_updL (vp_updL (vp_updL z.1 (1 : Int32).toNatClampNeg (1008673 : Int64)) (2 : Int32).toNatClampNeg (1008673 : Int64)) (5 : Int32).toNatClampNeg (1008673 : Int64), z.2.1, z.2.2.1, z.2.2.2.1, z.2.2.2.2.1, z.2.2.2.2.2)).1, 0, (m_X0_putSpan (0 : Int32) (0 : Int32) (0 : Int32) (0 : Int32) (vp_updL (vp_updL (vp_updL z.1 (1 : Int32).toNatClampNeg (1008673 : Int64)) (2 : Int32).toNatClampNeg (1008673 : Int64)) (5 : Int32).toNatClampNeg (1008673 : Int64), z.2.1, z.2.2.1, z.2.2.2.1, z.2.2.2.2.1, z.2.2.2.2.2)).2))) else (if lg_cmp ((vp_updL (vp_updL (vp_updL z.1 (1 : Int32).toNatClampNeg (1008673 : Int64)) (2 : Int32).toNatClampNeg (1008673 : Int64)) (4 : Int32).toNatClampNeg (1008673 : Int64)) (5 : Int32).toNatClampNeg) (1008673 : Int64) = 0 then (if (m_X0_putSpan (0 : Int32) (0 : Int32) (0 : Int32) (0 : Int32) (vp_updL (vp_updL (vp_updL z.1 (1 : Int32).toNatClampNeg (1008673 : Int64)) (2 : Int32).toNatClampNeg (1008673 : Int64)) (4 : Int32).toNatClampNeg (1008673 : Int64), z.2.1, z.2.2.1, z.2.2.2.1, z.2.2.2.2.1, z.2.2.2.2.2)).1 = 0 then (if (m_X0_putSpan (1 : Int32) (0 : Int32) (0 : Int32) (0 : Int32) ((m_X0_putSpan (0 : Int32) (0 : Int32) (0 : Int32) (0 : Int32) (vp_updL (vp_updL (vp_updL z.1 (1 : Int32).toNatClampNeg (1008673 : Int64)) (2 : Int32).toNatClampNeg (1008673 : Int64)) (4 : Int32).toNatClampNeg (1008673 : Int64), z.2.1, z.2.2.1, z.2.2.2.1, z.2.2.2.2.1, z.2.2.2.2.2)).2)).1 = 0 then (0, (3 : Int32), (m_X0_putSpan (1 : Int32) (0 : Int32) (0 : Int32) (0 : Int32) ((m_X0_putSpan (0 : Int32) (0 : Int32) (0 : Int32) (0 : Int32) (vp_updL (vp_updL (vp_updL z.1 (1 : Int32).toNatClampNeg (1008673 : Int64)) (2 : Int32).toNatClampNeg (1008673 : Int64)) (4 : Int32).toNatClampNeg (1008673 : Int64), z.2.1, z.2.2.1, z.2.2.2.1, z.2.2.2.2.1, z.2.2.2.2.2)).2)).2) else ((m_X0_putSpan (1 : Int32) (0 : Int32) (0 : Int32) (0 : Int32) ((m_X0_putSpan (0 : Int32) (0 : Int32) (0 : Int32) (0 : Int32) (vp_updL (vp_updL (vp_updL z.1 (1 : Int32).toNatClampNeg (1008673 : Int64)) (2 : Int32).toNatClampNeg (1008673 : Int64)) (4 : Int32).toNatClampNeg (1008673 : Int64), z.2.1, z.2.2.1, z.2.2.2.1, z.2.2.2.2.1, z.2.2.2.2.2)).2)).1, 0, (m_X0_putSpan (1 : Int32) (0 : Int32) (0 : Int32) (0 : Int32) ((m_X0_putSpan (0 : Int32) (0 : Int32) (0 : Int32) (0 : Int32) (vp_updL (vp_updL (vp_updL z.1 (1 : Int32).toNatClampNeg (1008673 : Int64)) (2 : Int32).toNatClampNeg (1008673 : Int64)) (4 : Int32).toNatClampNeg (1008673 : Int64), z.2.1, z.2.2.1, z.2.2.2.1, z.2.2.2.2.1, z.2.2.2.2.2)).2)).2)) else ((m_X0_putSpan (0 : Int32) (0 : Int32) (0 : Int32) (0 : Int32) (vp_updL (vp_updL (vp_updL z.1 (1 : Int32).toNatClampNeg (1008673 : Int64)) (2 : Int32).toNatClampNeg (1008673 : Int64)) (4 : Int32).toNatClampNeg (1008673 : Int64), z.2.1, z.2.2.1, z.2.2.2.1, z.2.2.2.2.1, z.2.2.2.2.2)).1, 0, (m_X0_putSpan (0 : Int32) (0 : Int32) (0 : Int32) (0 : Int32) (vp_updL (vp_updL (vp_updL z.1 (1 : Int32).toNatClampNeg (1008673 : Int64)) (2 : Int32).toNatClampNeg (1008673 : Int64)) (4 : Int32).toNatClampNeg (1008673 : Int64), z.2.1, z.2.2.1, z.2.2.2.1, z.2.2.2.2.1, z.2.2.2.2.2)).2)) else (if (m_X0_putSpan (0 : Int32) (0 : Int32) (0 : Int32) (0 : Int32) (vp_updL (vp_updL (vp_updL (vp_updL z.1 (1 : Int32).toNatClampNeg (1008673 : Int64)) (2 : Int32).toNatClampNeg (1008673 : Int64)) (4 : Int32).toNatClampNeg (1008673 : Int64)) (5 : Int32).toNatClampNeg (1008673 : Int64), z.2.1, z.2.2.1, z.2.2.2.1, z.2.2.2.2.1, z.2.2.2.2.2)).1 = 0 then (if (m_X0_putSpan (1 : Int32) (0 : Int32) (0 : Int32) (0 : Int32) ((m_X0_putSpan (0 : Int32) (0 : Int32) (0 : Int32) (0 : Int32) (vp_updL (vp_updL (vp_updL (vp_updL z.1 (1 : Int32).toNatClampNeg (1008673 : Int64)) (2 : Int32).toNatClampNeg (1008673 : Int64)) (4 : Int32).toNatClampNeg (1008673 : Int64)) (5 : Int32).toNatClampNeg (1008673 : Int64), z.2.1, z.2.2.1, z.2.2.2.1, z.2.2.2.2.1, z.2.2.2.2.2)).2)).1 = 0 then (0, (4 : Int32), (m_X0_putSpan (1 : Int32) (0 : Int32) (0 : Int32) (0 : Int32) ((m_X0_putSpan (0 : Int32) (0 : Int32) (0 : Int32) (0 : Int32) (vp_updL (vp_updL (vp_updL (vp_updL z.1 (1 : Int32).toNatClampNeg (1008673 : Int64)) (2 : Int32).toNatClampNeg (1008673 : Int64)) (4 : Int32).toNatClampNeg (1008673 : Int64)) (5 : Int32).toNatClampNeg (1008673 : Int64), z.2.1, z.2.2.1, z.2.2.2.1, z.2.2.2.2.1, z.2.2.2.2.2)).2)).2) else ((m_X0_putSpan (1 : Int32) (0 : Int32) (0 : Int32) (0 : Int32) ((m_X0_putSpan (0 : Int32) (0 : Int32) (0 : Int32) (0 : Int32) (vp_updL (vp_updL (vp_updL (vp_updL z.1 (1 : Int32).toNatClampNeg (1008673 : Int64)) (2 : Int32).toNatClampNeg (1008673 : Int64)) (4 : Int32).toNatClampNeg (1008673 : Int64)) (5 : Int32).toNatClampNeg (1008673 : Int64), z.2.1, z.2.2.1, z.2.2.2.1, z.2.2.2.2.1, z.2.2.2.2.2)).2)).1, 0, (m_X0_putSpan (1 : Int32) (0 : Int32) (0 : Int32) (0 : Int32) ((m_X0_putSpan (0 : Int32) (0 : Int32) (0 : Int32) (0 : Int32) (vp_updL (vp_updL (vp_updL (vp_updL z.1 (1 : Int32).toNatClampNeg (1008673 : Int64)) (2 : Int32).toNatClampNeg (1008673 : Int64)) (4 : Int32).toNatClampNeg (1008673 : Int64)) (5 : Int32).toNatClampNeg (1008673 : Int64), z.2.1, z.2.2.1, z.2.2.2.1, z.2.2.2.2.1, z.2.2.2.2.2)).2)).2)) else ((m_X0_putSpan (0 : Int32) (0 : Int32) (0 : Int32) (0 : Int32) (vp_updL (vp_updL (vp_updL (vp_updL z.1 (1 : Int32).toNatClampNeg (1008673 : Int64)) (2 : Int32).toNatClampNeg (1008673 : Int64)) (4 : Int32).toNatClampNeg (1008673 : Int64)) (5 : Int32).toNatClampNeg (1008673 : Int64), z.2.1, z.2.2.1, z.2.2.2.1, z.2.2.2.2.1, z.2.2.2.2.2)).1, 0, (m_X0_putSpan (0 : Int32) (0 : Int32) (0 : Int32) (0 : Int32) (vp_updL (vp_updL (vp_updL (vp_updL z.1 (1 : Int32).toNatClampNeg (1008673 : Int64)) (2 : Int32).toNatClampNeg (1008673 : Int64)) (4 : Int32).toNatClampNeg (1008673 : Int64)) (5 : Int32).toNatClampNeg (1008673 : Int64), z.2.1, z.2.2.1, z.2.2.2.1, z.2.2.2.2.1, z.2.2.2.2.2)).2)))) else (if lg_cmp ((vp_updL (vp_updL (vp_updL z.1 (1 : Int32).toNatClampNeg (1008673 : Int64)) (2 : Int32).toNatClampNeg (1008673 : Int64)) (3 : Int32).toNatClampNeg (1008673 : Int64)) (4 : Int32).toNatClampNeg) (1008673 : Int64) = 0 then (if lg_cmp ((vp_updL (vp_updL (vp_updL z.1 (1 : Int32).toNatClampNeg (1008673 : Int64)) (2 : Int32).toNatClampNeg (1008673 : Int64)) (3 : Int32).toNatClampNeg (1008673 : Int64)) (5 : Int32).toNatClampNeg) (1008673 : Int64) = 0 then (if (m_X0_putSpan (0 : Int32) (0 : Int32) (0 : Int32) (0 : Int32) (vp_updL (vp_updL (vp_updL z.1 (1 : Int32).toNatClampNeg (1008673 : Int64)) (2 : Int32).toNatClampNeg (1008673 : Int64)) (3 : Int32).toNatClampNeg (1008673 : Int64), z.2.1, z.2.2.1, z.2.2.2.1, z.2.2.2.2.1, z.2.2.2.2.2)).1 = 0 then (if (m_X0_putSpan (1 : Int32) (0 : Int32) (0 : Int32) (0 : Int32) ((m_X0_putSpan (0 : Int32) (0 : Int32) (0 : Int32) (0 : Int32) (vp_updL (vp_updL (vp_updL z.1 (1 : Int32).toNatClampNeg (1008673 : Int64)) (2 : Int32).toNatClampNeg (1008673 : Int64)) (3 : Int32).toNatClampNeg (1008673 : Int64), z.2.1, z.2.2.1, z.2.2.2.1, z.2.2.2.2.1, z.2.2.2.2.2)).2)).1 = 0 then (0, (3 : Int32), (m_X0_putSpan (1 : Int32) (0 : Int32) (0 : Int32) (0 : Int32) ((m_X0_putSpan (0 : Int32) (0 : Int32) (0 : Int32) (0 : Int32) (vp_updL (vp_updL (vp_updL z.1 (1 : Int32).toNatClampNeg (1008673 : Int64)) (2 : Int32).toNatClampNeg (1008673 : Int64)) (3 : Int32).toNatClampNeg (1008673 : Int64), z.2.1, z.2.2.1, z.2.2.2.1, z.2.2.2.2.1, z.2.2.2.2.2)).2)).2) else ((m_X0_putSpan (1 : Int32) (0 : Int32) (0 : Int32) (0 : Int32) ((m_X0_putSpan (0 : Int32) (0 : Int32) (0 : Int32) (0 : Int32) (vp_updL (vp_updL (vp_updL z.1 (1 : Int32).toNatClampNeg (1008673 : Int64)) (2 : Int32).toNatClampNeg (1008673 : Int64)) (3 : Int32).toNatClampNeg (1008673 : Int64), z.2.1, z.2.2.1, z.2.2.2.1, z.2.2.2.2.1, z.2.2.2.2.2)).2)).1, 0, (m_X0_putSpan (1 : Int32) (0 : Int32) (0 : Int32) (0 : Int32) ((m_X0_putSpan (0 : Int32) (0 : Int32) (0 : Int32) (0 : Int32) (vp_updL (vp_updL (vp_updL z.1 (1 : Int32).toNatClampNeg (1008673 : Int64)) (2 : Int32).toNatClampNeg (1008673 : Int64)) (3 : Int32).toNatClampNeg (1008673 : Int64), z.2.1, z.2.2.1, z.2.2.2.1, z.2.2.2.2.1, z.2.2.2.2.2)).2)).2)) else ((m_X0_putSpan (0 : Int32) (0 : Int32) (0 : Int32) (0 : Int32) (vp_updL (vp_updL (vp_updL z.1 (1 : Int32).toNatClampNeg (1008673 : Int64)) (2 : Int32).toNatClampNeg (1008673 : Int64)) (3 : Int32).toNatClampNeg (1008673 : Int64), z.2.1, z.2.2.1, z.2.2.2.1, z.2.2.2.2.1, z.2.2.2.2.2)).1, 0, (m_X0_putSpan (0 : Int32) (0 : Int32) (0 : Int32) (0 : Int32) (vp_updL (vp_updL (vp_updL z.1 (1 : Int32).toNatClampNeg (1008673 : Int64)) (2 : Int32).toNatClampNeg (1008673 : Int64)) (3 : Int32).toNatClampNeg (1008673 : Int64), z.2.1, z.2.2.1, z.2.2.2.1, z.2.2.2.2.1, z.2.2.2.2.2)).2)) else (if (m_X0_putSpan (0 : Int32) (0 : Int32) (0 : Int32) (0 : Int32) (vp_updL (vp_updL (vp_updL (vp_updL z.1 (1 : Int32).toNatClampNeg (1008673 : Int64)) (2 : Int32).toNatClampNeg (1008673 : Int64)) (3 : Int32).toNatClampNeg (1008673 : Int64)) (5 : Int32).toNatClampNeg (1008673 : Int64), z.2.1, z.2.2.1, z.2.2.2.1, z.2.2.2.2.1, z.2.2.2.2.2)).1 = 0 then (if (m_X0_putSpan (1 : Int32) (0 : Int32) (0 : Int32) (0 : Int32) ((m_X0_putSpan (0 : Int32) (0 : Int32) (0 : Int32) (0 : Int32) (vp_updL (vp_updL (vp_updL (vp_updL z.1 (1 : Int32).toNatClampNeg (1008673 : Int64)) (2 : Int32).toNatClampNeg (1008673 : Int64)) (3 : Int32).toNatClampNeg (1008673 : Int64)) (5 : Int32).toNatClampNeg (1008673 : Int64), z.2.1, z.2.2.1, z.2.2.2.1, z.2.2.2.2.1, z.2.2.2.2.2)).2)).1 = 0 then (0, (4 : Int32), (m_X0_putSpan (1 : Int32) (0 : Int32) (0 : Int32) (0 : Int32) ((m_X0_putSpan (0 : Int32) (0 : Int32) (0 : Int32) (0 : Int32) (vp_updL (vp_updL (vp_updL (vp_updL z.1 (1 : Int32).toNatClampNeg (1008673 : Int64)) (2 : Int32).toNatClampNeg (1008673 : Int64)) (3 : Int32).toNatClampNeg (1008673 : Int64)) (5 : Int32).toNatClampNeg (1008673 : Int64), z.2.1, z.2.2.1, z.2.2.2.1, z.2.2.2.2.1, z.2.2.2.2.2)).2)).2) else ((m_X0_putSpan (1 : Int32) (0 : Int32) (0 : Int32) (0 : Int32) ((m_X0_putSpan (0 : Int32) (0 : Int32) (0 : Int32) (0 : Int32) (vp_updL (vp_updL (vp_updL (vp_updL z.1 (1 : Int32).toNatClampNeg (1008673 : Int64)) (2 : Int32).toNatClampNeg (1008673 : Int64)) (3 : Int32).toNatClampNeg (1008673 : Int64)) (5 : Int32).toNatClampNeg (1008673 : Int64), z.2.1, z.2.2.1, z.2.2.2.1, z.2.2.2.2.1, z.2.2.2.2.2)).2)).1, 0, (m_X0_putSpan (1 : Int32) (0 : Int32) (0 : Int32) (0 : Int32) ((m_X0_putSpan (0 : Int32) (0 : Int32) (0 : Int32) (0 : Int32) (vp_updL (vp_updL (vp_updL (vp_updL z.1 (1 : Int32).toNatClampNeg (1008673 : Int64)) (2 : Int32).toNatClampNeg (1008673 : Int64)) (3 : Int32).toNatClampNeg (1008673 : Int64)) (5 : Int32).toNatClampNeg (1008673 : Int64), z.2.1, z.2.2.1, z.2.2.2.1, z.2.2.2.2.1, z.2.2.2.2.2)).2)).2)) else ((m_X0_putSpan (0 : Int32) (0 : Int32) (0 : Int32) (0 : Int32) (vp_updL (vp_updL (vp_updL (vp_updL z.1 (1 : Int32).toNatClampNeg (1008673 : Int64)) (2 : Int32).toNatClampNeg (1008673 : Int64)) (3 : Int32).toNatClampNeg (1008673 : Int64)) (5 : Int32).toNatClampNeg (1008673 : Int64), z.2.1, z.2.2.1, z.2.2.2.1, z.2.2.2.2.1, z.2.2.2.2.2)).1, 0, (m_X0_putSpan (0 : Int32) (0 : Int32) (0 : Int32) (0 : Int32) (vp_updL (vp_updL (vp_updL (vp_updL z.1 (1 : Int32).toNatClampNeg (1008673 : Int64)) (2 : Int32).toNatClampNeg (1008673 : Int64)) (3 : Int32).toNatClampNeg (1008673 : Int64)) (5 : Int32).toNatClampNeg (1008673 : Int64), z.2.1, z.2.2.1, z.2.2.2.1, z.2.2.2.2.1, z.2.2.2.2.2)).2))) else (if lg_cmp ((vp_updL (vp_updL (vp_updL (vp_updL z.1 (1 : Int32).toNatClampNeg (1008673 : Int64)) (2 : Int32).toNatClampNeg (1008673 : Int64)) (3 : Int32).toNatClampNeg (1008673 : Int64)) (4 : Int32).toNatClampNeg (1008673 : Int64)) (5 : Int32).toNatClampNeg) (1008673 : Int64) = 0 then (if (m_X0_putSpan (0 : Int32) (0 : Int32) (0 : Int32) (0 : Int32) (vp_updL (vp_updL (vp_updL (vp_updL z.1 (1 : Int32).toNatClampNeg (1008673 : Int64)) (2 : Int32).toNatClampNeg (1008673 : Int64)) (3 : Int32).toNatClampNeg (1008673 : Int64)) (4 : Int32).toNatClampNeg (1008673 : Int64), z.2.1, z.2.2.1, z.2.2.2.1, z.2.2.2.2.1, z.2.2.2.2.2)).1 = 0 then (if (m_X0_putSpan (1 : Int32) (0 : Int32) (0 : Int32) (0 : Int32) ((m_X0_putSpan (0 : Int32) (0 : Int32) (0 : Int32) (0 : Int32) (vp_updL (vp_updL (vp_updL (vp_updL z.1 (1 : Int32).toNatClampNeg (1008673 : Int64)) (2 : Int32).toNatClampNeg (1008673 : Int64)) (3 : Int32).toNatClampNeg (1008673 : Int64)) (4 : Int32).toNatClampNeg (1008673 : Int64), z.2.1, z.2.2.1, z.2.2.2.1, z.2.2.2.2.1, z.2.2.2.2.2)).2)).1 = 0 then (0, (4 : Int32), (m_X0_putSpan (1 : Int32) (0 : Int32) (0 : Int32) (0 : Int32) ((m_X0_putSpan (0 : Int32) (0 : Int32) (0 : Int32) (0 : Int32) (vp_updL (vp_updL (vp_updL (vp_updL z.1 (1 : Int32).toNatClampNeg (1008673 : Int64)) (2 : Int32).toNatClampNeg (1008673 : Int64)) (3 : Int32).toNatClampNeg (1008673 : Int64)) (4 : Int32).toNatClampNeg (1008673 : Int64), z.2.1, z.2.2.1, z.2.2.2.1, z.2.2.2.2.1, z.2.2.2.2.2)).2)).2) else ((m_X0_putSpan (1 : Int32) (0 : Int32) (0 : Int32) (0 : Int32) ((m_X0_putSpan (0 : Int32) (0 : Int32) (0 : Int32) (0 : Int32) (vp_updL (vp_updL (vp_updL (vp_updL z.1 (1 : Int32).toNatClampNeg (1008673 : Int64)) (2 : Int32).toNatClampNeg (1008673 : Int64)) (3 : Int32).toNatClampNeg (1008673 : Int64)) (4 : Int32).toNatClampNeg (1008673 : Int64), z.2.1, z.2.2.1, z.2.2.2.1, z.2.2.2.2.1, z.2.2.2.2.2)).2)).1, 0, (m_X0_putSpan (1 : Int32) (0 : Int32) (0 : Int32) (0 : Int32) ((m_X0_putSpan (0 : Int32) (0 : Int32) (0 : Int32) (0 : Int32) (vp_updL (vp_updL (vp_updL (vp_updL z.1 (1 : Int32).toNatClampNeg (1008673 : Int64)) (2 : Int32).toNatClampNeg (1008673 : Int64)) (3 : Int32).toNatClampNeg (1008673 : Int64)) (4 : Int32).toNatClampNeg (1008673 : Int64), z.2.1, z.2.2.1, z.2.2.2.1, z.2.2.2.2.1, z.2.2.2.2.2)).2)).2)) else ((m_X0_putSpan (0 : Int32) (0 : Int32) (0 : Int32) (0 : Int32) (vp_updL (vp_updL (vp_updL (vp_updL z.1 (1 : Int32).toNatClampNeg (1008673 : Int64)) (2 : Int32).toNatClampNeg (1008673 : Int64)) (3 : Int32).toNatClampNeg (1008673 : Int64)) (4 : Int32).toNatClampNeg (1008673 : Int64), z.2.1, z.2.2.1, z.2.2.2.1, z.2.2.2.2.1, z.2.2.2.2.2)).1, 0, (m_X0_putSpan (0 : Int32) (0 : Int32) (0 : Int32) (0 : Int32) (vp_updL (vp_updL (vp_updL (vp_updL z.1 (1 : Int32).toNatClampNeg (1008673 : Int64)) (2 : Int32).toNatClampNeg (1008673 : Int64)) (3 : Int32).toNatClampNeg (1008673 : Int64)) (4 : Int32).toNatClampNeg (1008673 : Int64), z.2.1, z.2.2.1, z.2.2.2.1, z.2.2.2.2.1, z.2.2.2.2.2)).2)) else (if (m_X0_putSpan (0 : Int32) (0 : Int32) (0 : Int32) (0 : Int32) (vp_updL (vp_updL (vp_updL (vp_updL (vp_updL z.1 (1 : Int32).toNatClampNeg (1008673 : Int64)) (2 : Int32).toNatClampNeg (1008673 : Int64)) (3 : Int32).toNatClampNeg (1008673 : Int64)) (4 : Int32).toNatClampNeg (1008673 : Int64)) (5 : Int32).toNatClampNeg (1008673 : Int64), z.2.1, z.2.2.1, z.2.2.2.1, z.2.2.2.2.1, z.2.2.2.2.2)).1 = 0 then (if (m_X0_putSpan (1 : Int32) (0 : Int32) (0 : Int32) (0 : Int32) ((m_X0_putSpan (0 : Int32) (0 : Int32) (0 : Int32) (0 : Int32) (vp_updL (vp_updL (vp_updL (vp_updL (vp_updL z.1 (1 : Int32).toNatClampNeg (1008673 : Int64)) (2 : Int32).toNatClampNeg (1008673 : Int64)) (3 : Int32).toNatClampNeg (1008673 : Int64)) (4 : Int32).toNatClampNeg (1008673 : Int64)) (5 : Int32).toNatClampNeg (1008673 : Int64), z.2.1, z.2.2.1, z.2.2.2.1, z.2.2.2.2.1, z.2.2.2.2.2)).2)).1 = 0 then (0, (5 : Int32), (m_X0_putSpan (1 : Int32) (0 : Int32) (0 : Int32) (0 : Int32) ((m_X0_putSpan (0 : Int32) (0 : Int32) (0 : Int32) (0 : Int32) (vp_updL (vp_updL (vp_updL (vp_updL (vp_updL z.1 (1 : Int32).toNatClampNeg (1008673 : Int64)) (2 : Int32).toNatClampNeg (1008673 : Int64)) (3 : Int32).toNatClampNeg (1008673 : Int64)) (4 : Int32).toNatClampNeg (1008673 : Int64)) (5 : Int32).toNatClampNeg (1008673 : Int64), z.2.1, z.2.2.1, z.2.2.2.1, z.2.2.2.2.1, z.2.2.2.2.2)).2)).2) else ((m_X0_putSpan (1 : Int32) (0 : Int32) (0 : Int32) (0 : Int32) ((m_X0_putSpan (0 : Int32) (0 : Int32) (0 : Int32) (0 : Int32) (vp_updL (vp_updL (vp_updL (vp_updL (vp_updL z.1 (1 : Int32).toNatClampNeg (1008673 : Int64)) (2 : Int32).toNatClampNeg (1008673 : Int64)) (3 : Int32).toNatClampNeg (1008673 : Int64)) (4 : Int32).toNatClampNeg (1008673 : Int64)) (5 : Int32).toNatClampNeg (1008673 : Int64), z.2.1, z.2.2.1, z.2.2.2.1, z.2.2.2.2.1, z.2.2.2.2.2)).2)).1, 0, (m_X0_putSpan (1 : Int32) (0 : Int32) (0 : Int32) (0 : Int32) ((m_X0_putSpan (0 : Int32) (0 : Int32) (0 : Int32) (0 : Int32) (vp_updL (vp_updL (vp_updL (vp_updL (vp_updL z.1 (1 : Int32).toNatClampNeg (1008673 : Int64)) (2 : Int32).toNatClampNeg (1008673 : Int64)) (3 : Int32).toNatClampNeg (1008673 : Int64)) (4 : Int32).toNatClampNeg (1008673 : Int64)) (5 : Int32).toNatClampNeg (1008673 : Int64), z.2.1, z.2.2.1, z.2.2.2.1, z.2.2.2.2.1, z.2.2.2.2.2)).2)).2)) else ((m_X0_putSpan (0 : Int32) (0 : Int32) (0 : Int32) (0 : Int32) (vp_updL (vp_updL (vp_updL (vp_updL (vp_updL z.1 (1 : Int32).toNatClampNeg (1008673 : Int64)) (2 : Int32).toNatClampNeg (1008673 : Int64)) (3 : Int32).toNatClampNeg (1008673 : Int64)) (4 : Int32).toNatClampNeg (1008673 : Int64)) (5 : Int32).toNatClampNeg (1008673 : Int64), z.2.1, z.2.2.1, z.2.2.2.1, z.2.2.2.2.1, z.2.2.2.2.2)).1, 0, (m_X0_putSpan (0 : Int32) (0 : Int32) (0 : Int32) (0 : Int32) (vp_updL (vp_updL (vp_updL (vp_updL (vp_updL z.1 (1 : Int32).toNatClampNeg (1008673 : Int64)) (2 : Int32).toNatClampNeg (1008673 : Int64)) (3 : Int32).toNatClampNeg (1008673 : Int64)) (4 : Int32).toNatClampNeg (1008673 : Int64)) (5 : Int32).toNatClampNeg (1008673 : Int64), z.2.1, z.2.2.1, z.2.2.2.1, z.2.2.2.2.1, z.2.2.2.2.2)).2))))))) else (if lg_cmp ((vp_updL z.1 (0 : Int32).toNatClampNeg (1008673 : Int64)) (1 : Int32).toNatClampNeg) (1008673 : Int64) = 0 then (if lg_cmp ((vp_updL z.1 (0 : Int32).toNatClampNeg (1008673 : Int64)) (2 : Int32).toNatClampNeg) (1008673 : Int64) = 0 then (if lg_cmp ((vp_updL z.1 (0 : Int32).toNatClampNeg (1008673 : Int64)) (3 : Int32).toNatClampNeg) (1008673 : Int64) = 0 then (if lg_cmp ((vp_updL z.1 (0 : Int32).toNatClampNeg (1008673 : Int64)) (4 : Int32).toNatClampNeg) (1008673 : Int64) = 0 then (if lg_cmp ((vp_updL z.1 (0 : Int32).toNatClampNeg (1008673 : Int64)) (5 : Int32).toNatClampNeg) (1008673 : Int64) = 0 then (if (m_X0_putSpan (0 : Int32) (0 : Int32) (0 : Int32) (0 : Int32) (vp_updL z.1 (0 : Int32).toNatClampNeg (1008673 : Int64), z.2.1, z.2.2.1, z.2.2.2.1, z.2.2.2.2.1, z.2.2.2.2.2)).1 = 0 then (if (m_X0_putSpan (1 : Int32) (0 : Int32) (0 : Int32) (0 : Int32) ((m_X0_putSpan (0 : Int32) (0 : Int32) (0 : Int32) (0 : Int32) (vp_updL z.1 (0 : Int32).toNatClampNeg (1008673 : Int64), z.2.1, z.2.2.1, z.2.2.2.1, z.2.2.2.2.1, z.2.2.2.2.2)).2)).1 = 0 then (0, (1 : Int32), (m_X0_putSpan (1 : Int32) (0 : Int32) (0 : Int32) (0 : Int32) ((m_X0_putSpan (0 : Int32) (0 : Int32) (0 : Int32) (0 : Int32) (vp_updL z.1 (0 : Int32).toNatClampNeg (1008673 : Int64), z.2.1, z.2.2.1, z.2.2.2.1, z.2.2.2.2.1, z.2.2.2.2.2)).2)).2) else ((m_X0_putSpan (1 : Int32) (0 : Int32) (0 : Int32) (0 : Int32) ((m_X0_putSpan (0 : Int32) (0 : Int32) (0 : Int32) (0 : Int32) (vp_updL z.1 (0 : Int32).toNatClampNeg (1008673 : Int64), z.2.1, z.2.2.1, z.2.2.2.1, z.2.2.2.2.1, z.2.2.2.2.2)).2)).1, 0, (m_X0_putSpan (1 : Int32) (0 : Int32) (0 : Int32) (0 : Int32) ((m_X0_putSpan (0 : Int32) (0 : Int32) (0 : Int32) (0 : Int32) (vp_updL z.1 (0 : Int32).toNatClampNeg (1008673 : Int64), z.2.1, z.2.2.1, z.2.2.2.1, z.2.2.2.2.1, z.2.2.2.2.2)).2)).2)) else ((m_X0_putSpan (0 : Int32) (0 : Int32) (0 : Int32) (0 : Int32) (vp_updL z.1 (0 : Int32).toNatClampNeg (1008673 : Int64), z.2.1, z.2.2.1, z.2.2.2.1, z.2.2.2.2.1, z.2.2.2.2.2)).1, 0, (m_X0_putSpan (0 : Int32) (0 : Int32) (0 : Int32) (0 : Int32) (vp_updL z.1 (0 : Int32).toNatClampNeg (1008673 : Int64), z.2.1, z.2.2.1, z.2.2.2.1, z.2.2.2.2.1, z.2.2.2.2.2)).2)) else (if (m_X0_putSpan (0 : Int32) (0 : Int32) (0 : Int32) (0 : Int32) (vp_updL (vp_updL z.1 (0 : Int32).toNatClampNeg (1008673 : Int64)) (5 : Int32).toNatClampNeg (1008673 : Int64), z.2.1, z.2.2.1, z.2.2.2.1, z.2.2.2.2.1, z.2.2.2.2.2)).1 = 0 then (if (m_X0_putSpan (1 : Int32) (0 : Int32) (0 : Int32) (0 : Int32) ((m_X0_putSpan (0 : Int32) (0 : Int32) (0 : Int32) (0 : Int32) (vp_updL (vp_updL z.1 (0 : Int32).toNatClampNeg (1008673 : Int64)) (5 : Int32).toNatClampNeg (1008673 : Int64), z.2.1, z.2.2.1, z.2.2.2.1, z.2.2.2.2.1, z.2.2.2.2.2)).2)).1 = 0 then (0, (2 : Int32), (m_X0_putSpan (1 : Int32) (0 : Int32) (0 : Int32) (0 : Int32) ((m_X0_putSpan (0 : Int32) (0 : Int32) (0 : Int32) (0 : Int32) (vp_updL (vp_updL z.1 (0 : Int32).toNatClampNeg (1008673 : Int64)) (5 : Int32).toNatClampNeg (1008673 : Int64), z.2.1, z.2.2.1, z.2.2.2.1, z.2.2.2.2.1, z.2.2.2.2.2)).2)).2) else ((m_X0_putSpan (1 : Int32) (0 : Int32) (0 : Int32) (0 : Int32) ((m_X0_putSpan (0 : Int32) (0 : Int32) (0 : Int32) (0 : Int32) (vp_updL (vp_updL z.1 (0 : Int32).toNatClampNeg (1008673 : Int64)) (5 : Int32).toNatClampNeg (1008673 : Int64), z.2.1, z.2.2.1, z.2.2.2.1, z.2.2.2.2.1, z.2.2.2.2.2)).2)).1, 0, (m_X0_putSpan (1 : Int32) (0 : Int32) (0 : Int32) (0 : Int32) ((m_X0_putSpan (0 : Int32) (0 : Int32) (0 : Int32) (0 : Int32) (vp_updL (vp_updL z.1 (0 : Int32).toNatClampNeg (1008673 : Int64)) (5 : Int32).toNatClampNeg (1008673 : Int64), z.2.1, z.2.2.1, z.2.2.2.1, z.2.2.2.2.1, z.2.2.2.2.2)).2)).2)) else ((m_X0_putSpan (0 : Int32) (0 : Int32) (0 : Int32) (0 : Int32) (vp_updL (vp_updL z.1 (0 : Int32).toNatClampNeg (1008673 : Int64)) (5 : Int32).toNatClampNeg (1008673 : Int64), z.2.1, z.2.2.1, z.2.2.2.1, z.2.2.2.2.1, z.2.2.2.2.2)).1, 0, (m_X0_putSpan (0 : Int32) (0 : Int32) (0 : Int32) (0 : Int32) (vp_updL (vp_updL z.1 (0 : Int32).toNatClampNeg (1008673 : Int64)) (5 : Int32).toNatClampNeg (1008673 : Int64), z.2.1, z.2.2.1, z.2.2.2.1, z.2.2.2.2.1, z.2.2.2.2.2)).2))) else (if lg_cmp ((vp_updL (vp_updL z.1 (0 : Int32).toNatClampNeg (1008673 : Int64)) (4 : Int32).toNatClampNeg (1008673 : Int64)) (5 : Int32).toNatClampNeg) (1008673 : Int64) = 0 then (if (m_X0_putSpan (0 : Int32) (0 : Int32) (0 : Int32) (0 : Int32) (vp_updL (vp_updL z.1 (0 : Int32).toNatClampNeg (1008673 : Int64)) (4 : Int32).toNatClampNeg (1008673 : Int64), z.2.1, z.2.2.1, z.2.2.2.1, z.2.2.2.2.1, z.2.2.2.2.2)).1 = 0 then (if (m_X0_putSpan (1 : Int32) (0 : Int32) (0 : Int32) (0 : Int32) ((m_X0_putSpan (0 : Int32) (0 : Int32) (0 : Int32) (0 : Int32) (vp_updL (vp_updL z.1 (0 : Int32).toNatClampNeg (1008673 : Int64)) (4 : Int32).toNatClampNeg (1008673 : Int64), z.2.1, z.2.2.1, z.2.2.2.1, z.2.2.2.2.1, z.2.2.2.2.2)).2)).1 = 0 then (0, (2 : Int32), (m_X0_putSpan (1 : Int32) (0 : Int32) (0 : Int32) (0 : Int32) ((m_X0_putSpan (0 : Int32) (0 : Int32) (0 : Int32) (0 : Int32) (vp_updL (vp_updL z.1 (0 : Int32).toNatClampNeg (1008673 : Int64)) (4 : Int32).toNatClampNeg (1008673 : Int64), z.2.1, z.2.2.1, z.2.2.2.1, z.2.2.2.2.1, z.2.2.2.2.2)).2)).2) else ((m_X0_putSpan (1 : Int32) (0 : Int32) (0 : Int32) (0 : Int32) ((m_X0_putSpan (0 : Int32) (0 : Int32) (0 : Int32) (0 : Int32) (vp_updL (vp_updL z.1 (0 : Int32).toNatClampNeg (1008673 : Int64)) (4 : Int32).toNatClampNeg (1008673 : Int64), z.2.1, z.2.2.1, z.2.2.2.1, z.2.2.2.2.1, z.2.2.2.2.2)).2)).1, 0, (m_X0_putSpan (1 : Int32) (0 : Int32) (0 : Int32) (0 : Int32) ((m_X0_putSpan (0 : Int32) (0 : Int32) (0 : Int32) (0 : Int32) (vp_updL (vp_updL z.1 (0 : Int32).toNatClampNeg (1008673 : Int64)) (4 : Int32).toNatClampNeg (1008673 : Int64), z.2.1, z.2.2.1, z.2.2.2.1, z.2.2.2.2.1, z.2.2.2.2.2)).2)).2)) else ((m_X0_putSpan (0 : Int32) (0 : Int32) (0 : Int32) (0 : Int32) (vp_updL (vp_updL z.1 (0 : Int32).toNatClampNeg (1008673 : Int64)) (4 : Int32).toNatClampNeg (1008673 : Int64), z.2.1, z.2.2.1, z.2.2.2.1, z.2.2.2.2.1, z.2.2.2.2.2)).1, 0, (m_X0_putSpan (0 : Int32) (0 : Int32) (0 : Int32) (0 : Int32) (vp_updL (vp_updL z.1 (0 : Int32).toNatClampNeg (1008673 : Int64)) (4 : Int32).toNatClampNeg (1008673 : Int64), z.2.1, z.2.2.1, z.2.2.2.1, z.2.2.2.2.1, z.2.2.2.2.2)).2)) else (if (m_X0_putSpan (0 : Int32) (0 : Int32) (0 : Int32) (0 : Int32) (vp_updL (vp_updL (vp_updL z.1 (0 : Int32).toNatClampNeg (1008673 : Int64)) (4 : Int32).toNatClampNeg (1008673 : Int64)) (5 : Int32).toNatClampNeg (1008673 : Int64), z.2.1, z.2.2.1, z.2.2.2.1, z.2.2.2.2.1, z.2.2.2.2.2)).1 = 0 then (if (m_X0_putSpan (1 : Int32) (0 : Int32) (0 : Int32) (0 : Int32) ((m_X0_putSpan (0 : Int32) (0 : Int32) (0 : Int32) (0 : Int32) (vp_updL (vp_updL (vp_updL z.1 (0 : Int32).toNatClampNeg (1008673 : Int64)) (4 : Int32).toNatClampNeg (1008673 : Int64)) (5 : Int32).toNatClampNeg (1008673 : Int64), z.2.1, z.2.2.1, z.2.2.2.1, z.2.2.2.2.1, z.2.2.2.2.2)).2)).1 = 0 then (0, (3 : Int32), (m_X0_putSpan (1 : Int32) (0 : Int32) (0 : Int32) (0 : Int32) ((m_X0_putSpan (0 : Int32) (0 : Int32) (0 : Int32) (0 : Int32) (vp_updL (vp_updL (vp_updL z.1 (0 : Int32).toNatClampNeg (1008673 : Int64)) (4 : Int32).toNatClampNeg (1008673 : Int64)) (5 : Int32).toNatClampNeg (1008673 : Int64), z.2.1, z.2.2.1, z.2.2.2.1, z.2.2.2.2.1, z.2.2.2.2.2)).2)).2) else ((m_X0_putSpan (1 : Int32) (0 : Int32) (0 : Int32) (0 : Int32) ((m_X0_putSpan (0 : Int32) (0 : Int32) (0 : Int32) (0 : Int32) (vp_updL (vp_updL (vp_updL z.1 (0 : Int32).toNatClampNeg (1008673 : Int64)) (4 : Int32).toNatClampNeg (1008673 : Int64)) (5 : Int32).toNatClampNeg (1008673 : Int64), z.2.1, z.2.2.1, z.2.2.2.1, z.2.2.2.2.1, z.2.2.2.2.2)).2)).1, 0, (m_X0_putSpan (1 : Int32) (0 : Int32) (0 : Int32) (0 : Int32) ((m_X0_putSpan (0 : Int32) (0 : Int32) (0 : Int32) (0 : Int32) (vp_updL (vp_updL (vp_updL z.1 (0 : Int32).toNatClampNeg (1008673 : Int64)) (4 : Int32).toNatClampNeg (1008673 : Int64)) (5 : Int32).toNatClampNeg (1008673 : Int64), z.2.1, z.2.2.1, z.2.2.2.1, z.2.2.2.2.1, z.2.2.2.2.2)).2)).2)) else ((m_X0_putSpan (0 : Int32) (0 : Int32) (0 : Int32) (0 : Int32) (vp_updL (vp_updL (vp_updL z.1 (0 : Int32).toNatClampNeg (1008673 : Int64)) (4 : Int32).toNatClampNeg (1008673 : Int64)) (5 : Int32).toNatClampNeg (1008673 : Int64), z.2.1, z.2.2.1, z.2.2.2.1, z.2.2.2.2.1, z.2.2.2.2.2)).1, 0, (m_X0_putSpan (0 : Int32) (0 : Int32) (0 : Int32) (0 : Int32) (vp_updL (vp_updL (vp_updL z.1 (0 : Int32).toNatClampNeg (1008673 : Int64)) (4 : Int32).toNatClampNeg (1008673 : Int64)) (5 : Int32).toNatClampNeg (1008673 : Int64), z.2.1, z.2.2.1, z.2.2.2.1, z.2.2.2.2.1, z.2.2.2.2.2)).2)))) else (if lg_cmp ((vp_updL (vp_updL z.1 (0 : Int32).toNatClampNeg (1008673 : Int64)) (3 : Int32).toNatClampNeg (1008673 : Int64)) (4 : Int32).toNatClampNeg) (1008673 : Int64) = 0 then (if lg_cmp ((vp_updL (vp_updL z.1 (0 : Int32).toNatClampNeg (1008673 : Int64)) (3 : Int32).toNatClampNeg (1008673 : Int64)) (5 : Int32).toNatClampNeg) (1008673 : Int64) = 0 then (if (m_X0_putSpan (0 : Int32) (0 : Int32) (0 : Int32) (0 : Int32) (vp_updL (vp_updL z.1 (0 : Int32).toNatClampNeg (1008673 : Int64)) (3 : Int32).toNatClampNeg (1008673 : Int64), z.2.1, z.2.2.1, z.2.2.2.1, z.2.2.2.2.1, z.2.2.2.2.2)).1 = 0 then (if (m_X0_putSpan (1 : Int32) (0 : Int32) (0 : Int32) (0 : Int32) ((m_X0_putSpan (0 : Int32) (0 : Int32) (0 : Int32) (0 : Int32) (vp_updL (vp_updL z.1 (0 : Int32).toNatClampNeg (1008673 : Int64)) (3 : Int32).toNatClampNeg (1008673 : Int64), z.2.1, z.2.2.1, z.2.2.2.1, z.2.2.2.2.1, z.2.2.2.2.2)).2)).1 = 0 then (0, (2 : Int32), (m_X0_putSpan (1 : Int32) (0 : Int32) (0 : Int32) (0 : Int32) ((m_X0_putSpan (0 : Int32) (0 : Int32) (0 : Int32) (0 : Int32) (vp_updL (vp_updL z.1 (0 : Int32).toNatClampNeg (1008673 : Int64)) (3 : Int32).toNatClampNeg (1008673 : Int64), z.2.1, z.2.2.1, z.2.2.2.1, z.2.2.2.2.1, z.2.2.2.2.2)).2)).2) else ((m_X0_putSpan (1 : Int32) (0 : Int32) (0 : Int32) (0 : Int32) ((m_X0_putSpan (0 : Int32) (0 : Int32) (0 : Int32) (0 : Int32) (vp_updL (vp_updL z.1 (0 : Int32).toNatClampNeg (1008673 : Int64)) (3 : Int32).toNatClampNeg (1008673 : Int64), z.2.1, z.2.2.1, z.2.2.2.1, z.2.2.2.2.1, z.2.2.2.2.2)).2)).1, 0, (m_X0_putSpan (1 : Int32) (0 : Int32) (0 : Int32) (0 : Int32) ((m_X0_putSpan (0 : Int32) (0 : Int32) (0 : Int32) (0 : Int32) (vp_updL (vp_updL z.1 (0 : Int32).toNatClampNeg (1008673 : Int64)) (3 : Int32).toNatClampNeg (1008673 : Int64), z.2.1, z.2.2.1, z.2.2.2.1, z.2.2.2.2.1, z.2.2.2.2.2)).2)).2)) else ((m_X0_putSpan (0 : Int32) (0 : Int32) (0 : Int32) (0 : Int32) (vp_updL (vp_updL z.1 (0 : Int32).toNatClampNeg (1008673 : Int64)) (3 : Int32).toNatClampNeg (1008673 : Int64), z.2.1, z.2.2.1, z.2.2.2.1, z.2.2.2.2.1, z.2.2.2.2.2)).1, 0, (m_X0_putSpan (0 : Int32) (0 : Int32) (0 : Int32) (0 : Int32) (vp_updL (vp_updL z.1 (0 : Int32).toNatClampNeg (1008673 : Int64)) (3 : Int32).toNatClampNeg (1008673 : Int64), z.2.1, z.2.2.1, z.2.2.2.1, z.2.2.2.2.1, z.2.2.2.2.2)).2)) else (if (m_X0_putSpan (0 : Int32) (0 : Int32) (0 : Int32) (0 : Int32) (vp_updL (vp_updL (vp_updL z.1 (0 : Int32).toNatClampNeg (1008673 : Int64)) (3 : Int32).toNatClampNeg (1008673 : Int64)) (5 : Int32).toNatClampNeg (1008673 : Int64), z.2.1, z.2.2.1, z.2.2.2.1, z.2.2.2.2.1, z.2.2.2.2.2)).1 = 0 then (if (m_X0_putSpan (1 : Int32) (0 : Int32) (0 : Int32) (0 : Int32) ((m_X0_putSpan (0 : Int32) (0 : Int32) (0 : Int32) (0 : Int32) (vp_updL (vp_updL (vp_updL z.1 (0 : Int32).toNatClampNeg (1008673 : Int64)) (3 : Int32).toNatClampNeg (1008673 : Int64)) (5 : Int32).toNatClampNeg (1008673 : Int64), z.2.1, z.2.2.1, z.2.2.2.1, z.2.2.2.2.1, z.2.2.2.2.2)).2)).1 = 0 then (0, (3 : Int32), (m_X0_putSpan (1 : Int32) (0 : Int32) (0 : Int32) (0 : Int32) ((m_X0_putSpan (0 : Int32) (0 : Int32) (0 : Int32) (0 : Int32) (vp_updL (vp_updL (vp_updL z.1 (0 : Int32).toNatClampNeg (1008673 : Int64)) (3 : Int32).toNatClampNeg (1008673 : Int64)) (5 : Int32).toNatClampNeg (1008673 : Int64), z.2.1, z.2.2.1, z.2.2.2.1, z.2.2.2.2.1, z.2.2.2.2.2)).2)).2) else ((m_X0_putSpan (1 : Int32) (0 : Int32) (0 : Int32) (0 : Int32) ((m_X0_putSpan (0 : Int32) (0 : Int32) (0 : Int32) (0 : Int32) (vp_updL (vp_updL (vp_updL z.1 (0 : Int32).toNatClampNeg (1008673 : Int64)) (3 : Int32).toNatClampNeg (1008673 : Int64)) (5 : Int32).toNatClampNeg (1008673 : Int64), z.2.1, z.2.2.1, z.2.2.2.1, z.2.2.2.2.1, z.2.2.2.2.2)).2)).1, 0, (m_X0_putSpan (1 : Int32) (0 : Int32) (0 : Int32) (0 : Int32) ((m_X0_putSpan (0 : Int32) (0 : Int32) (0 : Int32) (0 : Int32) (vp_updL (vp_updL (vp_updL z.1 (0 : Int32).toNatClampNeg (1008673 : Int64)) (3 : Int32).toNatClampNeg (1008673 : Int64)) (5 : Int32).toNatClampNeg (1008673 : Int64), z.2.1, z.2.2.1, z.2.2.2.1, z.2.2.2.2.1, z.2.2.2.2.2)).2)).2)) else ((m_X0_putSpan (0 : Int32) (0 : Int32) (0 : Int32) (0 : Int32) (vp_updL (vp_updL (vp_updL z.1 (0 : Int32).toNatClampNeg (1008673 : Int64)) (3 : Int32).toNatClampNeg (1008673 : Int64)) (5 : Int32).toNatClampNeg (1008673 : Int64), z.2.1, z.2.2.1, z.2.2.2.1, z.2.2.2.2.1, z.2.2.2.2.2)).1, 0, (m_X0_putSpan (0 : Int32) (0 : Int32) (0 : Int32) (0 : Int32) (vp_updL (vp_updL (vp_updL z.1 (0 : Int32).toNatClampNeg (1008673 : Int64)) (3 : Int32).toNatClampNeg (1008673 : Int64)) (5 : Int32).toNatClampNeg (1008673 : Int64), z.2.1, z.2.2.1, z.2.2.2.1, z.2.2.2.2.1, z.2.2.2.2.2)).2))) else (if lg_cmp ((vp_updL (vp_updL (vp_updL z.1 (0 : Int32).toNatClampNeg (1008673 : Int64)) (3 : Int32).toNatClampNeg (1008673 : Int64)) (4 : Int32).toNatClampNeg (1008673 : Int64)) (5 : Int32).toNatClampNeg) (1008673 : Int64) = 0 then (if (m_X0_putSpan (0 : Int32) (0 : Int32) (0 : Int32) (0 : Int32) (vp_updL (vp_updL (vp_updL z.1 (0 : Int32).toNatClampNeg (1008673 : Int64)) (3 : Int32).toNatClampNeg (1008673 : Int64)) (4 : Int32).toNatClampNeg (1008673 : Int64), z.2.1, z.2.2.1, z.2.2.2.1, z.2.2.2.2.1, z.2.2.2.2.2)).1 = 0 then (if (m_X0_putSpan (1 : Int32) (0 : Int32) (0 : Int32) (0 : Int32) ((m_X0_putSpan (0 : Int32) (0 : Int32) (0 : Int32) (0 : Int32) (vp_updL (vp_updL (vp_updL z.1 (0 : Int32).toNatClampNeg (1008673 : Int64)) (3 : Int32).toNatClampNeg (1008673 : Int64)) (4 : Int32).toNatClampNeg (1008673 : Int64), z.2.1, z.2.2.1, z.2.2.2.1, z.2.2.2.2.1, z.2.2.2.2.2)).2)).1 = 0 then (0, (3 : Int32), (m_X0_putSpan (1 : Int32) (0 : Int32) (0 : Int32) (0 : Int32) ((m_X0_putSpan (0 : Int32) (0 : Int32) (0 : Int32) (0 : Int32) (vp_updL (vp_updL (vp_updL z.1 (0 : Int32).toNatClampNeg (1008673 : Int64)) (3 : Int32).toNatClampNeg (1008673 : Int64)) (4 : Int32).toNatClampNeg (1008673 : Int64), z.2.1, z.2.2.1, z.2.2.2.1, z.2.2.2.2.1, z.2.2.2.2.2)).2)).2) else ((m_X0_putSpan (1 : Int32) (0 : Int32) (0 : Int32) (0 : Int32) ((m_X0_putSpan (0 : Int32) (0 : Int32) (0 : Int32) (0 : Int32) (vp_updL (vp_updL (vp_updL z.1 (0 : Int32).toNatClampNeg (1008673 : Int64)) (3 : Int32).toNatClampNeg (1008673 : Int64)) (4 : Int32).toNatClampNeg (1008673 : Int64), z.2.1, z.2.2.1, z.2.2.2.1, z.2.2.2.2.1, z.2.2.2.2.2)).2)).1, 0, (m_X0_putSpan (1 : Int32) (0 : Int32) (0 : Int32) (0 : Int32) ((m_X0_putSpan (0 : Int32) (0 : Int32) (0 : Int32) (0 : Int32) (vp_updL (vp_updL (vp_updL z.1 (0 : Int32).toNatClampNeg (1008673 : Int64)) (3 : Int32).toNatClampNeg (1008673 : Int64)) (4 : Int32).toNatClampNeg (1008673 : Int64), z.2.1, z.2.2.1, z.2.2.2.1, z.2.2.2.2.1, z.2.2.2.2.2)).2)).2)) else ((m_X0_putSpan (0 : Int32) (0 : Int32) (0 : Int32) (0 : Int32) (vp_updL (vp_updL (vp_updL z.1 (0 : Int32).toNatClampNeg (1008673 : Int64)) (3 : Int32).toNatClampNeg (1008673 : Int64)) (4 : Int32).toNatClampNeg (1008673 : Int64), z.2.1, z.2.2.1, z.2.2.2.1, z.2.2.2.2.1, z.2.2.2.2.2)).1, 0, (m_X0_putSpan (0 : Int32) (0 : Int32) (0 : Int32) (0 : Int32) (vp_updL (vp_updL (vp_updL z.1 (0 : Int32).toNatClampNeg (1008673 : Int64)) (3 : Int32).toNatClampNeg (1008673 : Int64)) (4 : Int32).toNatClampNeg (1008673 : Int64), z.2.1, z.2.2.1, z.2.2.2.1, z.2.2.2.2.1, z.2.2.2.2.2)).2)) else (if (m_X0_putSpan (0 : Int32) (0 : Int32) (0 : Int32) (0 : Int32) (vp_updL (vp_updL (vp_updL (vp_updL z.1 (0 : Int32).toNatClampNeg (1008673 : Int64)) (3 : Int32).toNatClampNeg (1008673 : Int64)) (4 : Int32).toNatClampNeg (1008673 : Int64)) (5 : Int32).toNatClampNeg (1008673 : Int64), z.2.1, z.2.2.1, z.2.2.2.1, z.2.2.2.2.1, z.2.2.2.2.2)).1 = 0 then (if (m_X0_putSpan (1 : Int32) (0 : Int32) (0 : Int32) (0 : Int32) ((m_X0_putSpan (0 : Int32) (0 : Int32) (0 : Int32) (0 : Int32) (vp_updL (vp_updL (vp_updL (vp_updL z.1 (0 : Int32).toNatClampNeg (1008673 : Int64)) (3 : Int32).toNatClampNeg (1008673 : Int64)) (4 : Int32).toNatClampNeg (1008673 : Int64)) (5 : Int32).toNatClampNeg (1008673 : Int64), z.2.1, z.2.2.1, z.2.2.2.1, z.2.2.2.2.1, z.2.2.2.2.2)).2)).1 = 0 then (0, (4 : Int32), (m_X0_putSpan (1 : Int32) (0 : Int32) (0 : Int32) (0 : Int32) ((m_X0_putSpan (0 : Int32) (0 : Int32) (0 : Int32) (0 : Int32) (vp_updL (vp_updL (vp_updL (vp_updL z.1 (0 : Int32).toNatClampNeg (1008673 : Int64)) (3 : Int32).toNatClampNeg (1008673 : Int64)) (4 : Int32).toNatClampNeg (1008673 : Int64)) (5 : Int32).toNatClampNeg (1008673 : Int64), z.2.1, z.2.2.1, z.2.2.2.1, z.2.2.2.2.1, z.2.2.2.2.2)).2)).2) else ((m_X0_putSpan (1 : Int32) (0 : Int32) (0 : Int32) (0 : Int32) ((m_X0_putSpan (0 : Int32) (0 : Int32) (0 : Int32) (0 : Int32) (vp_updL (vp_updL (vp_updL (vp_updL z.1 (0 : Int32).toNatClampNeg (1008673 : Int64)) (3 : Int32).toNatClampNeg (1008673 : Int64)) (4 : Int32).toNatClampNeg (1008673 : Int64)) (5 : Int32).toNatClampNeg (1008673 : Int64), z.2.1, z.2.2.1, z.2.2.2.1, z.2.2.2.2.1, z.2.2.2.2.2)).2)).1, 0, (m_X0_putSpan (1 : Int32) (0 : Int32) (0 : Int32) (0 : Int32) ((m_X0_putSpan (0 : Int32) (0 : Int32) (0 : Int32) (0 : Int32) (vp_updL (vp_updL (vp_updL (vp_updL z.1 (0 : Int32).toNatClampNeg (1008673 : Int64)) (3 : Int32).toNatClampNeg (1008673 : Int64)) (4 : Int32).toNatClampNeg (1008673 : Int64)) (5 : Int32).toNatClampNeg (1008673 : Int64), z.2.1, z.2.2.1, z.2.2.2.1, z.2.2.2.2.1, z.2.2.2.2.2)).2)).2)) else ((m_X0_putSpan (0 : Int32) (0 : Int32) (0 : Int32) (0 : Int32) (vp_updL (vp_updL (vp_updL (vp_updL z.1 (0 : Int32).toNatClampNeg (1008673 : Int64)) (3 : Int32).toNatClampNeg (1008673 : Int64)) (4 : Int32).toNatClampNeg (1008673 : Int64)) (5 : Int32).toNatClampNeg (1008673 : Int64), z.2.1, z.2.2.1, z.2.2.2.1, z.2.2.2.2.1, z.2.2.2.2.2)).1, 0, (m_X0_putSpan (0 : Int32) (0 : Int32) (0 : Int32) (0 : Int32) (vp_updL (vp_updL (vp_updL (vp_updL z.1 (0 : Int32).toNatClampNeg (1008673 : Int64)) (3 : Int32).toNatClampNeg (1008673 : Int64)) (4 : Int32).toNatClampNeg (1008673 : Int64)) (5 : Int32).toNatClampNeg (1008673 : Int64), z.2.1, z.2.2.1, z.2.2.2.1, z.2.2.2.2.1, z.2.2.2.2.2)).2))))) else (if lg_cmp ((vp_updL (vp_updL z.1 (0 : Int32).toNatClampNeg (1008673 : Int64)) (2 : Int32).toNatClampNeg (1008673 : Int64)) (3 : Int32).toNatClampNeg) (1008673 : Int64) = 0 then (if lg_cmp ((vp_updL (vp_updL z.1 (0 : Int32).toNatClampNeg (1008673 : Int64)) (2 : Int32).toNatClampNeg (1008673 : Int64)) (4 : Int32).toNatClampNeg) (1008673 : Int64) = 0 then (if lg_cmp ((vp_updL (vp_updL z.1 (0 : Int32).toNatClampNeg (1008673 : Int64)) (2 : Int32).toNatClampNeg (1008673 : Int64)) (5 : Int32).toNatClampNeg) (1008673 : Int64) = 0 then (if (m_X0_putSpan (0 : Int32) (0 : Int32) (0 : Int32) (0 : Int32) (vp_updL (vp_updL z.1 (0 : Int32).toNatClampNeg (1008673 : Int64)) (2 : Int32).toNatClampNeg (1008673 : Int64), z.2.1, z.2.2.1, z.2.2.2.1, z.2.2.2.2.1, z.2.2.2.2.2)).1 = 0 then (if (m_X0_putSpan (1 : Int32) (0 : Int32) (0 : Int32) (0 : Int32) ((m_X0_putSpan (0 : Int32) (0 : Int32) (0 : Int32) (0 : Int32) (vp_updL (vp_updL z.1 (0 : Int32).toNatClampNeg (1008673 : Int64)) (2 : Int32).toNatClampNeg (1008673 : Int64), z.2.1, z.2.2.1, z.2.2.2.1, z.2.2.2.2.1, z.2.2.2.2.2)).2)).1 = 0 then (0, (2 : Int32), (m_X0_putSpan (1 : Int32) (0 : Int32) (0 : Int32) (0 : Int32) ((m_X0_putSpan (0 : Int32) (0 : Int32) (0 : Int32) (0 : Int32) (vp_updL (vp_updL z.1 (0 : Int32).toNatClampNeg (1008673 : Int64)) (2 : Int32).toNatClampNeg (1008673 : Int64), z.2.1, z.2.2.1, z.2.2.2.1, z.2.2.2.2.1, z.2.2.2.2.2)).2)).2) else ((m_X0_putSpan (1 : Int32) (0 : Int32) (0 : Int32) (0 : Int32) ((m_X0_putSpan (0 : Int32) (0 : Int32) (0 : Int32) (0 : Int32) (vp_updL (vp_updL z.1 (0 : Int32).toNatClampNeg (1008673 : Int64)) (2 : Int32).toNatClampNeg (1008673 : Int64), z.2.1, z.2.2.1, z.2.2.2.1, z.2.2.2.2.1, z.2.2.2.2.2)).2)).1, 0, (m_X0_putSpan (1 : Int32) (0 : Int32) (0 : Int32) (0 : Int32) ((m_X0_putSpan (0 : Int32) (0 : Int32) (0 : Int32) (0 : Int32) (vp_updL (vp_updL z.1 (0 : Int32).toNatClampNeg (1008673 : Int64)) (2 : Int32).toNatClampNeg (1008673 : Int64), z.2.1, z.2.2.1, z.2.2.2.1, z.2.2.2.2.1, z.2.2.2.2.2)).2)).2)) else ((m_X0_putSpan (0 : Int32) (0 : Int32) (0 : Int32) (0 : Int32) (vp_updL (vp_updL z.1 (0 : Int32).toNatClampNeg (1008673 : Int64)) (2 : Int32).toNatClampNeg (1008673 : Int64), z.2.1, z.2.2.1, z.2.2.2.1, z.2.2.2.2.1, z.2.2.2.2.2)).1, 0, (m_X0_putSpan (0 : Int32) (0 : Int32) (0 : Int32) (0 : Int32) (vp_updL (vp_updL z.1 (0 : Int32).toNatClampNeg (1008673 : Int64)) (2 : Int32).toNatClampNeg (1008673 : Int64), z.2.1, z.2.2.1, z.2.2.2.1, z.2.2.2.2.1, z.2.2.2.2.2)).2)) else (if (m_X0_putSpan (0 : Int32) (0 : Int32) (0 : Int32) (0 : Int32) (vp_updL (vp_updL (vp_updL z.1 (0 : Int32).toNatClampNeg (1008673 : Int64)) (2 : Int32).toNatClampNeg (1008673 : Int64)) (5 : Int32).toNatClampNeg (1008673 : Int64), z.2.1, z.2.2.1, z.2.2.2.1, z.2.2.2.2.1, z.2.2.2.2.2)).1 = 0 then (if (m_X0_putSpan (1 : Int32) (0 : Int32) (0 : Int32) (0 : Int32) ((m_X0_putSpan (0 : Int32) (0 : Int32) (0 : Int32) (0 : Int32) (vp_updL (vp_updL (vp_updL z.1 (0 : Int32).toNatClampNeg (1008673 : Int64)) (2 : Int32).toNatClampNeg (1008673 : Int64)) (5 : Int32).toNatClampNeg (1008673 : Int64), z.2.1, z.2.2.1, z.2.2.2.1, z.2.2.2.2.1, z.2.2.2.2.2)).2)).1 = 0 then (0, (3 : Int32), (m_X0_putSpan (1 : Int32) (0 : Int32) (0 : Int32) (0 : Int32) ((m_X0_putSpan (0 : Int32) (0 : Int32) (0 : Int32) (0 : Int32) (vp_updL (vp_updL (vp_updL z.1 (0 : Int32).toNatClampNeg (1008673 : Int64)) (2 : Int32).toNatClampNeg (1008673 : Int64)) (5 : Int32).toNatClampNeg (1008673 : Int64), z.2.1, z.2.2.1, z.2.2.2.1, z.2.2.2.2.1, z.2.2.2.2.2)).2)).2) else ((m_X0_putSpan (1 : Int32) (0 : Int32) (0 : Int32) (0 : Int32) ((m_X0_putSpan (0 : Int32) (0 : Int32) (0 : Int32) (0 : Int32) (vp_updL (vp_updL (vp_updL z.1 (0 : Int32).toNatClampNeg (1008673 : Int64)) (2 : Int32).toNatClampNeg (1008673 : Int64)) (5 : Int32).toNatClampNeg (1008673 : Int64), z.2.1, z.2.2.1, z.2.2.2.1, z.2.2.2.2.1, z.2.2.2.2.2)).2)).1, 0, (m_X0_putSpan (1 : Int32) (0 : Int32) (0 : Int32) (0 : Int32) ((m_X0_putSpan (0 : Int32) (0 : Int32) (0 : Int32) (0 : Int32) (vp_updL (vp_updL (vp_updL z.1 (0 : Int32).toNatClampNeg (1008673 : Int64)) (2 : Int32).toNatClampNeg (1008673 : Int64)) (5 : Int32).toNatClampNeg (1008673 : Int64), z.2.1, z.2.2.1, z.2.2.2.1, z.2.2.2.2.1, z.2.2.2.2.2)).2)).2)) else ((m_X0_putSpan (0 : Int32) (0 : Int32) (0 : Int32) (0 : Int32) (vp_updL (vp_updL (vp_updL z.1 (0 : Int32).toNatClampNeg (1008673 : Int64)) (2 : Int32).toNatClampNeg (1008673 : Int64)) (5 : Int32).toNatClampNeg (1008673 : Int64), z.2.1, z.2.2.1, z.2.2.2.1, z.2.2.2.2.1, z.2.2.2.2.2)).1, 0, (m_X0_putSpan (0 : Int32) (0 : Int32) (0 : Int32) (0 : Int32) (vp_updL (vp_updL (vp_updL z.1 (0 : Int32).toNatClampNeg (1008673 : Int64)) (2 : Int32).toNatClampNeg (1008673 : Int64)) (5 : Int32).toNatClampNeg (1008673 : Int64), z.2.1, z.2.2.1, z.2.2.2.1, z.2.2.2.2.1, z.2.2.2.2.2)).2))) else (if lg_cmp ((vp_updL (vp_updL (vp_updL z.1 (0 : Int32).toNatClampNeg (1008673 : Int64)) (2 : Int32).toNatClampNeg (1008673 : Int64)) (4 : Int32).toNatClampNeg (1008673 : Int64)) (5 : Int32).toNatClampNeg) (1008673 : Int64) = 0 then (if (m_X0_putSpan (0 : Int32) (0 : Int32) (0 : Int32) (0 : Int32) (vp_updL (vp_updL (vp_updL z.1 (0 : Int32).toNatClampNeg (1008673 : Int64)) (2 : Int32).toNatClampNeg (1008673 : Int64)) (4 : Int32).toNatClampNeg (1008673 : Int64), z.2.1, z.2.2.1, z.2.2.2.1, z.2.2.2.2.1, z.2.2.2.2.2)).1 = 0 then (if (m_X0_putSpan (1 : Int32) (0 : Int32) (0 : Int32) (0 : Int32) ((m_X0_putSpan (0 : Int32) (0 : Int32) (0 : Int32) (0 : Int32) (vp_updL (vp_updL (vp_updL z.1 (0 : Int32).toNatClampNeg (1008673 : Int64)) (2 : Int32).toNatClampNeg (1008673 : Int64)) (4 : Int32).toNatClampNeg (1008673 : Int64), z.2.1, z.2.2.1, z.2.2.2.1, z.2.2.2.2.1, z.2.2.2.2.2)).2)).1 = 0 then (0, (3 : Int32), (m_X0_putSpan (1 : Int32) (0 : Int32) (0 : Int32) (0 : Int32) ((m_X0_putSpan (0 : Int32) (0 : Int32) (0 : Int32) (0 : Int32) (vp_updL (vp_updL (vp_updL z.1 (0 : Int32).toNatClampNeg (1008673 : Int64)) (2 : Int32).toNatClampNeg (1008673 : Int64)) (4 : Int32).toNatClampNeg (1008673 : Int64), z.2.1, z.2.2.1, z.2.2.2.1, z.2.2.2.2.1, z.2.2.2.2.2)).2)).2) else ((m_X0_putSpan (1 : Int32) (0 : Int32) (0 : Int32) (0 : Int32) ((m_X0_putSpan (0 : Int32) (0 : Int32) (0 : Int32) (0 : Int32) (vp_updL (vp_updL (vp_updL z.1 (0 : Int32).toNatClampNeg (1008673 : Int64)) (2 : Int32).toNatClampNeg (1008673 : Int64)) (4 : Int32).toNatClampNeg (1008673 : Int64), z.2.1, z.2.2.1, z.2.2.2.1, z.2.2.2.2.1, z.2.2.2.2.2)).2)).1, 0, (m_X0_putSpan (1 : Int32) (0 : Int32) (0 : Int32) (0 : Int32) ((m_X0_putSpan (0 : Int32) (0 : Int32) (0 : Int32) (0 : Int32) (vp_updL (vp_updL (vp_updL z.1 (0 : Int32).toNatClampNeg (1008673 : Int64)) (2 : Int32).toNatClampNeg (1008673 : Int64)) (4 : Int32).toNatClampNeg (1008673 : Int64), z.2.1, z.2.2.1, z.2.2.2.1, z.2.2.2.2.1, z.2.2.2.2.2)).2)).2)) else ((m_X0_putSpan (0 : Int32) (0 : Int32) (0 : Int32) (0 : Int32) (vp_updL (vp_updL (vp_updL z.1 (0 : Int32).toNatClampNeg (1008673 : Int64)) (2 : Int32).toNatClampNeg (1008673 : Int64)) (4 : Int32).toNatClampNeg (1008673 : Int64), z.2.1, z.2.2.1, z.2.2.2.1, z.2.2.2.2.1, z.2.2.2.2.2)).1, 0, (m_X0_putSpan (0 : Int32) (0 : Int32) (0 : Int32) (0 : Int32) (vp_updL (vp_updL (vp_updL z.1 (0 : Int32).toNatClampNeg (1008673 : Int64)) (2 : Int32).toNatClampNeg (1008673 : Int64)) (4 : Int32).toNatClampNeg (1008673 : Int64), z.2.1, z.2.2.1, z.2.2.2.1, z.2.2.2.2.1, z.2.2.2.2.2)).2)) else (if (m_X0_putSpan (0 : Int32) (0 : Int32) (0 : Int32) (0 : Int32) (vp_updL (vp_updL (vp_updL (vp_updL z.1 (0 : Int32).toNatClampNeg (1008673 : Int64)) (2 : Int32).toNatClampNeg (1008673 : Int64)) (4 : Int32).toNatClampNeg (1008673 : Int64)) (5 : Int32).toNatClampNeg (1008673 : Int64), z.2.1, z.2.2.1, z.2.2.2.1, z.2.2.2.2.1, z.2.2.2.2.2)).1 = 0 then (if (m_X0_putSpan (1 : Int32) (0 : Int32) (0 : Int32) (0 : Int32) ((m_X0_putSpan (0 : Int32) (0 : Int32) (0 : Int32) (0 : Int32) (vp_updL (vp_updL (vp_updL (vp_updL z.1 (0 : Int32).toNatClampNeg (1008673 : Int64)) (2 : Int32).toNatClampNeg (1008673 : Int64)) (4 : Int32).toNatClampNeg (1008673 : Int64)) (5 : Int32).toNatClampNeg (1008673 : Int64), z.2.1, z.2.2.1, z.2.2.2.1, z.2.2.2.2.1, z.2.2.2.2.2)).2)).1 = 0 then (0, (4 : Int32), (m_X0_putSpan (1 : Int32) (0 : Int32) (0 : Int32) (0 : Int32) ((m_X0_putSpan (0 : Int32) (0 : Int32) (0 : Int32) (0 : Int32) (vp_updL (vp_updL (vp_updL (vp_updL z.1 (0 : Int32).toNatClampNeg (1008673 : Int64)) (2 : Int32).toNatClampNeg (1008673 : Int64)) (4 : Int32).toNatClampNeg (1008673 : Int64)) (5 : Int32).toNatClampNeg (1008673 : Int64), z.2.1, z.2.2.1, z.2.2.2.1, z.2.2.2.2.1, z.2.2.2.2.2)).2)).2) else ((m_X0_putSpan (1 : Int32) (0 : Int32) (0 : Int32) (0 : Int32) ((m_X0_putSpan (0 : Int32) (0 : Int32) (0 : Int32) (0 : Int32) (vp_updL (vp_updL (vp_updL (vp_updL z.1 (0 : Int32).toNatClampNeg (1008673 : Int64)) (2 : Int32).toNatClampNeg (1008673 : Int64)) (4 : Int32).toNatClampNeg (1008673 : Int64)) (5 : Int32).toNatClampNeg (1008673 : Int64), z.2.1, z.2.2.1, z.2.2.2.1, z.2.2.2.2.1, z.2.2.2.2.2)).2)).1, 0, (m_X0_putSpan (1 : Int32) (0 : Int32) (0 : Int32) (0 : Int32) ((m_X0_putSpan (0 : Int32) (0 : Int32) (0 : Int32) (0 : Int32) (vp_updL (vp_updL (vp_updL (vp_updL z.1 (0 : Int32).toNatClampNeg (1008673 : Int64)) (2 : Int32).toNatClampNeg (1008673 : Int64)) (4 : Int32).toNatClampNeg (1008673 : Int64)) (5 : Int32).toNatClampNeg (1008673 : Int64), z.2.1, z.2.2.1, z.2.2.2.1, z.2.2.2.2.1, z.2.2.2.2.2)).2)).2)) else ((m_X0_putSpan (0 : Int32) (0 : Int32) (0 : Int32) (0 : Int32) (vp_updL (vp_updL (vp_updL (vp_updL z.1 (0 : Int32).toNatClampNeg (1008673 : Int64)) (2 : Int32).toNatClampNeg (1008673 : Int64)) (4 : Int32).toNatClampNeg (1008673 : Int64)) (5 : Int32).toNatClampNeg (1008673 : Int64), z.2.1, z.2.2.1, z.2.2.2.1, z.2.2.2.2.1, z.2.2.2.2.2)).1, 0, (m_X0_putSpan (0 : Int32) (0 : Int32) (0 : Int32) (0 : Int32) (vp_updL (vp_updL (vp_updL (vp_updL z.1 (0 : Int32).toNatClampNeg (1008673 : Int64)) (2 : Int32).toNatClampNeg (1008673 : Int64)) (4 : Int32).toNatClampNeg (1008673 : Int64)) (5 : Int32).toNatClampNeg (1008673 : Int64), z.2.1, z.2.2.1, z.2.2.2.1, z.2.2.2.2.1, z.2.2.2.2.2)).2)))) else (if lg_cmp ((vp_updL (vp_updL (vp_updL z.1 (0 : Int32).toNatClampNeg (1008673 : Int64)) (2 : Int32).toNatClampNeg (1008673 : Int64)) (3 : Int32).toNatClampNeg (1008673 : Int64)) (4 : Int32).toNatClampNeg) (1008673 : Int64) = 0 then (if lg_cmp ((vp_updL (vp_updL (vp_updL z.1 (0 : Int32).toNatClampNeg (1008673 : Int64)) (2 : Int32).toNatClampNeg (1008673 : Int64)) (3 : Int32).toNatClampNeg (1008673 : Int64)) (5 : Int32).toNatClampNeg) (1008673 : Int64) = 0 then (if (m_X0_putSpan (0 : Int32) (0 : Int32) (0 : Int32) (0 : Int32) (vp_updL (vp_updL (vp_updL z.1 (0 : Int32).toNatClampNeg (1008673 : Int64)) (2 : Int32).toNatClampNeg (1008673 : Int64)) (3 : Int32).toNatClampNeg (1008673 : Int64), z.2.1, z.2.2.1, z.2.2.2.1, z.2.2.2.2.1, z.2.2.2.2.2)).1 = 0 then (if (m_X0_putSpan (1 : Int32) (0 : Int32) (0 : Int32) (0 : Int32) ((m_X0_putSpan (0 : Int32) (0 : Int32) (0 : Int32) (0 : Int32) (vp_updL (vp_updL (vp_updL z.1 (0 : Int32).toNatClampNeg (1008673 : Int64)) (2 : Int32).toNatClampNeg (1008673 : Int64)) (3 : Int32).toNatClampNeg (1008673 : Int64), z.2.1, z.2.2.1, z.2.2.2.1, z.2.2.2.2.1, z.2.2.2.2.2)).2)).1 = 0 then (0, (3 : Int32), (m_X0_putSpan (1 : Int32) (0 : Int32) (0 : Int32) (0 : Int32) ((m_X0_putSpan (0 : Int32) (0 : Int32) (0 : Int32) (0 : Int32) (vp_updL (vp_updL (vp_updL z.1 (0 : Int32).toNatClampNeg (1008673 : Int64)) (2 : Int32).toNatClampNeg (1008673 : Int64)) (3 : Int32).toNatClampNeg (1008673 : Int64), z.2.1, z.2.2.1, z.2.2.2.1, z.2.2.2.2.1, z.2.2.2.2.2)).2)).2) else ((m_X0_putSpan (1 : Int32) (0 : Int32) (0 : Int32) (0 : Int32) ((m_X0_putSpan (0 : Int32) (0 : Int32) (0 : Int32) (0 : Int32) (vp_updL (vp_updL (vp_updL z.1 (0 : Int32).toNatClampNeg (1008673 : Int64)) (2 : Int32).toNatClampNeg (1008673 : Int64)) (3 : Int32).toNatClampNeg (1008673 : Int64), z.2.1, z.2.2.1, z.2.2.2.1, z.2.2.2.2.1, z.2.2.2.2.2)).2)).1, 0, (m_X0_putSpan (1 : Int32) (0 : Int32) (0 : Int32) (0 : Int32) ((m_X0_putSpan (0 : Int32) (0 : Int32) (0 : Int32) (0 : Int32) (vp_updL (vp_updL (vp_updL z.1 (0 : Int32).toNatClampNeg (1008673 : Int64)) (2 : Int32).toNatClampNeg (1008673 : Int64)) (3 : Int32).toNatClampNeg (1008673 : Int64), z.2.1, z.2.2.1, z.2.2.2.1, z.2.2.2.2.1, z.2.2.2.2.2)).2)).2)) else ((m_X0_putSpan (0 : Int32) (0 : Int32) (0 : Int32) (0 : Int32) (vp_updL (vp_updL (vp_updL z.1 (0 : Int32).toNatClampNeg (1008673 : Int64)) (2 : Int32).toNatClampNeg (1008673 : Int64)) (3 : Int32).toNatClampNeg (1008673 : Int64), z.2.1, z.2.2.1, z.2.2.2.1, z.2.2.2.2.1, z.2.2.2.2.2)).1, 0, (m_X0_putSpan (0 : Int32) (0 : Int32) (0 : Int32) (0 : Int32) (vp_updL (vp_updL (vp_updL z.1 (0 : Int32).toNatClampNeg (1008673 : Int64)) (2 : Int32).toNatClampNeg (1008673 : Int64)) (3 : Int32).toNatClampNeg (1008673 : Int64), z.2.1, z.2.2.1, z.2.2.2.1, z.2.2.2.2.1, z.2.2.2.2.2)).2)) else (if (m_X0_putSpan (0 : Int32) (0 : Int32) (0 : Int32) (0 : Int32) (vp_updL (vp_updL (vp_updL (vp_updL z.1 (0 : Int32).toNatClampNeg (1008673 : Int64)) (2 : Int32).toNatClampNeg (1008673 : Int64)) (3 : Int32).toNatClampNeg (1008673 : Int64)) (5 : Int32).toNatClampNeg (1008673 : Int64), z.2.1, z.2.2.1, z.2.2.2.1, z.2.2.2.2.1, z.2.2.2.2.2)).1 = 0 then (if (m_X0_putSpan (1 : Int32) (0 : Int32) (0 : Int32) (0 : Int32) ((m_X0_putSpan (0 : Int32) (0 : Int32) (0 : Int32) (0 : Int32) (vp_updL (vp_updL (vp_updL (vp_updL z.1 (0 : Int32).toNatClampNeg (1008673 : Int64)) (2 : Int32).toNatClampNeg (1008673 : Int64)) (3 : Int32).toNatClampNeg (1008673 : Int64)) (5 : Int32).toNatClampNeg (1008673 : Int64), z.2.1, z.2.2.1, z.2.2.2.1, z.2.2.2.2.1, z.2.2.2.2.2)).2)).1 = 0 then (0, (4 : Int32), (m_X0_putSpan (1 : Int32) (0 : Int32) (0 : Int32) (0 : Int32) ((m_X0_putSpan (0 : Int32) (0 : Int32) (0 : Int32) (0 : Int32) (vp_updL (vp_updL (vp_updL (vp_updL z.1 (0 : Int32).toNatClampNeg (1008673 : Int64)) (2 : Int32).toNatClampNeg (1008673 : Int64)) (3 : Int32).toNatClampNeg (1008673 : Int64)) (5 : Int32).toNatClampNeg (1008673 : Int64), z.2.1, z.2.2.1, z.2.2.2.1, z.2.2.2.2.1, z.2.2.2.2.2)).2)).2) else ((m_X0_putSpan (1 : Int32) (0 : Int32) (0 : Int32) (0 : Int32) ((m_X0_putSpan (0 : Int32) (0 : Int32) (0 : Int32) (0 : Int32) (vp_updL (vp_updL (vp_updL (vp_updL z.1 (0 : Int32).toNatClampNeg (1008673 : Int64)) (2 : Int32).toNatClampNeg (1008673 : Int64)) (3 : Int32).toNatClampNeg (1008673 : Int64)) (5 : Int32).toNatClampNeg (1008673 : Int64), z.2.1, z.2.2.1, z.2.2.2.1, z.2.2.2.2.1, z.2.2.2.2.2)).2)).1, 0, (m_X0_putSpan (1 : Int32) (0 : Int32) (0 : Int32) (0 : Int32) ((m_X0_putSpan (0 : Int32) (0 : Int32) (0 : Int32) (0 : Int32) (vp_updL (vp_updL (vp_updL (vp_updL z.1 (0 : Int32).toNatClampNeg (1008673 : Int64)) (2 : Int32).toNatClampNeg (1008673 : Int64)) (3 : Int32).toNatClampNeg (1008673 : Int64)) (5 : Int32).toNatClampNeg (1008673 : Int64), z.2.1, z.2.2.1, z.2.2.2.1, z.2.2.2.2.1, z.2.2.2.2.2)).2)).2)) else ((m_X0_putSpan (0 : Int32) (0 : Int32) (0 : Int32) (0 : Int32) (vp_updL (vp_updL (vp_updL (vp_updL z.1 (0 : Int32).toNatClampNeg (1008673 : Int64)) (2 : Int32).toNatClampNeg (1008673 : Int64)) (3 : Int32).toNatClampNeg (1008673 : Int64)) (5 : Int32).toNatClampNeg (1008673 : Int64), z.2.1, z.2.2.1, z.2.2.2.1, z.2.2.2.2.1, z.2.2.2.2.2)).1, 0, (m_X0_putSpan (0 : Int32) (0 : Int32) (0 : Int32) (0 : Int32) (vp_updL (vp_updL (vp_updL (vp_updL z.1 (0 : Int32).toNatClampNeg (1008673 : Int64)) (2 : Int32).toNatClampNeg (1008673 : Int64)) (3 : Int32).toNatClampNeg (1008673 : Int64)) (5 : Int32).toNatClampNeg (1008673 : Int64), z.2.1, z.2.2.1, z.2.2.2.1, z.2.2.2.2.1, z.2.2.2.2.2)).2))) else (if lg_cmp ((vp_updL (vp_updL (vp_updL (vp_updL z.1 (0 : Int32).toNatClampNeg (1008673 : Int64)) (2 : Int32).toNatClampNeg (1008673 : Int64)) (3 : Int32).toNatClampNeg (1008673 : Int64)) (4 : Int32).toNatClampNeg (1008673 : Int64)) (5 : Int32).toNatClampNeg) (1008673 : Int64) = 0 then (if (m_X0_putSpan (0 : Int32) (0 : Int32) (0 : Int32) (0 : Int32) (vp_updL (vp_updL (vp_updL (vp_updL z.1 (0 : Int32).toNatClampNeg (1008673 : Int64)) (2 : Int32).toNatClampNeg (1008673 : Int64)) (3 : Int32).toNatClampNeg (1008673 : Int64)) (4 : Int32).toNatClampNeg (1008673 : Int64), z.2.1, z.2.2.1, z.2.2.2.1, z.2.2.2.2.1, z.2.2.2.2.2)).1 = 0 then (if (m_X0_putSpan (1 : Int32) (0 : Int32) (0 : Int32) (0 : Int32) ((m_X0_putSpan (0 : Int32) (0 : Int32) (0 : Int32) (0 : Int32) (vp_updL (vp_updL (vp_updL (vp_updL z.1 (0 : Int32).toNatClampNeg (1008673 : Int64)) (2 : Int32).toNatClampNeg (1008673 : Int64)) (3 : Int32).toNatClampNeg (1008673 : Int64)) (4 : Int32).toNatClampNeg (1008673 : Int64), z.2.1, z.2.2.1, z.2.2.2.1, z.2.2.2.2.1, z.2.2.2.2.2)).2)).1 = 0 then (0, (4 : Int32), (m_X0_putSpan (1 : Int32) (0 : Int32) (0 : Int32) (0 : Int32) ((m_X0_putSpan (0 : Int32) (0 : Int32) (0 : Int32) (0 : Int32) (vp_updL (vp_updL (vp_updL (vp_updL z.1 (0 : Int32).toNatClampNeg (1008673 : Int64)) (2 : Int32).toNatClampNeg (1008673 : Int64)) (3 : Int32).toNatClampNeg (1008673 : Int64)) (4 : Int32).toNatClampNeg (1008673 : Int64), z.2.1, z.2.2.1, z.2.2.2.1, z.2.2.2.2.1, z.2.2.2.2.2)).2)).2) else ((m_X0_putSpan (1 : Int32) (0 : Int32) (0 : Int32) (0 : Int32) ((m_X0_putSpan (0 : Int32) (0 : Int32) (0 : Int32) (0 : Int32) (vp_updL (vp_updL (vp_updL (vp_updL z.1 (0 : Int32).toNatClampNeg (1008673 : Int64)) (2 : Int32).toNatClampNeg (1008673 : Int64)) (3 : Int32).toNatClampNeg (1008673 : Int64)) (4 : Int32).toNatClampNeg (1008673 : Int64), z.2.1, z.2.2.1, z.2.2.2.1, z.2.2.2.2.1, z.2.2.2.2.2)).2)).1, 0, (m_X0_putSpan (1 : Int32) (0 : Int32) (0 : Int32) (0 : Int32) ((m_X0_putSpan (0 : Int32) (0 : Int32) (0 : Int32) (0 : Int32) (vp_updL (vp_updL (vp_updL (vp_updL z.1 (0 : Int32).toNatClampNeg (1008673 : Int64)) (2 : Int32).toNatClampNeg (1008673 : Int64)) (3 : Int32).toNatClampNeg (1008673 : Int64)) (4 : Int32).toNatClampNeg (1008673 : Int64), z.2.1, z.2.2.1, z.2.2.2.1, z.2.2.2.2.1, z.2.2.2.2.2)).2)).2)) else ((m_X0_putSpan (0 : Int32) (0 : Int32) (0 : Int32) (0 : Int32) (vp_updL (vp_updL (vp_updL (vp_updL z.1 (0 : Int32).toNatClampNeg (1008673 : Int64)) (2 : Int32).toNatClampNeg (1008673 : Int64)) (3 : Int32).toNatClampNeg (1008673 : Int64)) (4 : Int32).toNatClampNeg (1008673 : Int64), z.2.1, z.2.2.1, z.2.2.2.1, z.2.2.2.2.1, z.2.2.2.2.2)).1, 0, (m_X0_putSpan (0 : Int32) (0 : Int32) (0 : Int32) (0 : Int32) (vp_updL (vp_updL (vp_updL (vp_updL z.1 (0 : Int32).toNatClampNeg (1008673 : Int64)) (2 : Int32).toNatClampNeg (1008673 : Int64)) (3 : Int32).toNatClampNeg (1008673 : Int64)) (4 : Int32).toNatClampNeg (1008673 : Int64), z.2.1, z.2.2.1, z.2.2.2.1, z.2.2.2.2.1, z.2.2.2.2.2)).2)) else (if (m_X0_putSpan (0 : Int32) (0 : Int32) (0 : Int32) (0 : Int32) (vp_updL (vp_updL (vp_updL (vp_updL (vp_updL z.1 (0 : Int32).toNatClampNeg (1008673 : Int64)) (2 : Int32).toNatClampNeg (1008673 : Int64)) (3 : Int32).toNatClampNeg (1008673 : Int64)) (4 : Int32).toNatClampNeg (1008673 : Int64)) (5 : Int32).toNatClampNeg (1008673 : Int64), z.2.1, z.2.2.1, z.2.2.2.1, z.2.2.2.2.1, z.2.2.2.2.2)).1 = 0 then (if (m_X0_putSpan (1 : Int32) (0 : Int32) (0 : Int32) (0 : Int32) ((m_X0_putSpan (0 : Int32) (0 : Int32) (0 : Int32) (0 : Int32) (vp_updL (vp_updL (vp_updL (vp_updL (vp_updL z.1 (0 : Int32).toNatClampNeg (1008673 : Int64)) (2 : Int32).toNatClampNeg (1008673 : Int64)) (3 : Int32).toNatClampNeg (1008673 : Int64)) (4 : Int32).toNatClampNeg (1008673 : Int64)) (5 : Int32).toNatClampNeg (1008673 : Int64), z.2.1, z.2.2.1, z.2.2.2.1, z.2.2.2.2.1, z.2.2.2.2.2)).2)).1 = 0 then (0, (5 : Int32), (m_X0_putSpan (1 : Int32) (0 : Int32) (0 : Int32) (0 : Int32) ((m_X0_putSpan (0 : Int32) (0 : Int32) (0 : Int32) (0 : Int32) (vp_updL (vp_updL (vp_updL (vp_updL (vp_updL z.1 (0 : Int32).toNatClampNeg (1008673 : Int64)) (2 : Int32).toNatClampNeg (1008673 : Int64)) (3 : Int32).toNatClampNeg (1008673 : Int64)) (4 : Int32).toNatClampNeg (1008673 : Int64)) (5 : Int32).toNatClampNeg (1008673 : Int64), z.2.1, z.2.2.1, z.2.2.2.1, z.2.2.2.2.1, z.2.2.2.2.2)).2)).2) else ((m_X0_putSpan (1 : Int32) (0 : Int32) (0 : Int32) (0 : Int32) ((m_X0_putSpan (0 : Int32) (0 : Int32) (0 : Int32) (0 : Int32) (vp_updL (vp_updL (vp_updL (vp_updL (vp_updL z.1 (0 : Int32).toNatClampNeg (1008673 : Int64)) (2 : Int32).toNatClampNeg (1008673 : Int64)) (3 : Int32).toNatClampNeg (1008673 : Int64)) (4 : Int32).toNatClampNeg (1008673 : Int64)) (5 : Int32).toNatClampNeg (1008673 : Int64), z.2.1, z.2.2.1, z.2.2.2.1, z.2.2.2.2.1, z.2.2.2.2.2)).2)).1, 0, (m_X0_putSpan (1 : Int32) (0 : Int32) (0 : Int32) (0 : Int32) ((m_X0_putSpan (0 : Int32) (0 : Int32) (0 : Int32) (0 : Int32) (vp_updL (vp_updL (vp_updL (vp_updL (vp_updL z.1 (0 : Int32).toNatClampNeg (1008673 : Int64)) (2 : Int32).toNatClampNeg (1008673 : Int64)) (3 : Int32).toNatClampNeg (1008673 : Int64)) (4 : Int32).toNatClampNeg (1008673 : Int64)) (5 : Int32).toNatClampNeg (1008673 : Int64), z.2.1, z.2.2.1, z.2.2.2.1, z.2.2.2.2.1, z.2.2.2.2.2)).2)).2)) else ((m_X0_putSpan (0 : Int32) (0 : Int32) (0 : Int32) (0 : Int32) (vp_updL (vp_updL (vp_updL (vp_updL (vp_updL z.1 (0 : Int32).toNatClampNeg (1008673 : Int64)) (2 : Int32).toNatClampNeg (1008673 : Int64)) (3 : Int32).toNatClampNeg (1008673 : Int64)) (4 : Int32).toNatClampNeg (1008673 : Int64)) (5 : Int32).toNatClampNeg (1008673 : Int64), z.2.1, z.2.2.1, z.2.2.2.1, z.2.2.2.2.1, z.2.2.2.2.2)).1, 0, (m_X0_putSpan (0 : Int32) (0 : Int32) (0 : Int32) (0 : Int32) (vp_updL (vp_updL (vp_updL (vp_updL (vp_updL z.1 (0 : Int32).toNatClampNeg (1008673 : Int64)) (2 : Int32).toNatClampNeg (1008673 : Int64)) (3 : Int32).toNatClampNeg (1008673 : Int64)) (4 : Int32).toNatClampNeg (1008673 : Int64)) (5 : Int32).toNatClampNeg (1008673 : Int64), z.2.1, z.2.2.1, z.2.2.2.1, z.2.2.2.2.1, z.2.2.2.2.2)).2)))))) else (if lg_cmp ((vp_updL (vp_updL z.1 (0 : Int32).toNatClampNeg (1008673 : Int64)) (1 : Int32).toNatClampNeg (1008673 : Int64)) (2 : Int32).toNatClampNeg) (1008673 : Int64) = 0 then (if lg_cmp ((vp_updL (vp_updL z.1 (0 : Int32).toNatClampNeg (1008673 : Int64)) (1 : Int32).toNatClampNeg (1008673 : Int64)) (3 : Int32).toNatClampNeg) (1008673 : Int64) = 0 then (if lg_cmp ((vp_updL (vp_updL z.1 (0 : Int32).toNatClampNeg (1008673 : Int64)) (1 : Int32).toNatClampNeg (1008673 : Int64)) (4 : Int32).toNatClampNeg) (1008673 : Int64) = 0 then (if lg_cmp ((vp_updL (vp_updL z.1 (0 : Int32).toNatClampNeg (1008673 : Int64)) (1 : Int32).toNatClampNeg (1008673 : Int64)) (5 : Int32).toNatClampNeg) (1008673 : Int64) = 0 then (if (m_X0_putSpan (0 : Int32) (0 : Int32) (0 : Int32) (0 : Int32) (vp_updL (vp_updL z.1 (0 : Int32).toNatClampNeg (1008673 : Int64)) (1 : Int32).toNatClampNeg (1008673 : Int64), z.2.1, z.2.2.1, z.2.2.2.1, z.2.2.2.2.1, z.2.2.2.2.2)).1 = 0 then (if (m_X0_putSpan (1 : Int32) (0 : Int32) (0 : Int32) (0 : Int32) ((m_X0_putSpan (0 : Int32) (0 : Int32) (0 : Int32) (0 : Int32) (vp_updL (vp_updL z.1 (0 : Int32).toNatClampNeg (1008673 : Int64)) (1 : Int32).toNatClampNeg (1008673 : Int64), z.2.1, z.2.2.1, z.2.2.2.1, z.2.2.2.2.1, z.2.2.2.2.2)).2)).1 = 0 then (0, (2 : Int32), (m_X0_putSpan (1 : Int32) (0 : Int32) (0 : Int32) (0 : Int32) ((m_X0_putSpan (0 : Int32) (0 : Int32) (0 : Int32) (0 : Int32) (vp_updL (vp_updL z.1 (0 : Int32).toNatClampNeg (1008673 : Int64)) (1 : Int32).toNatClampNeg (1008673 : Int64), z.2.1, z.2.2.1, z.2.2.2.1, z.2.2.2.2.1, z.2.2.2.2.2)).2)).2) else ((m_X0_putSpan (1 : Int32) (0 : Int32) (0 : Int32) (0 : Int32) ((m_X0_putSpan (0 : Int32) (0 : Int32) (0 : Int32) (0 : Int32) (vp_updL (vp_updL z.1 (0 : Int32).toNatClampNeg (1008673 : Int64)) (1 : Int32).toNatClampNeg (1008673 : Int64), z.2.1, z.2.2.1, z.2.2.2.1, z.2.2.2.2.1, z.2.2.2.2.2)).2)).1, 0, (m_X0_putSpan (1 : Int32) (0 : Int32) (0 : Int32) (0 : Int32) ((m_X0_putSpan (0 : Int32) (0 : Int32) (0 : Int32) (0 : Int32) (vp_updL (vp_updL z.1 (0 : Int32).toNatClampNeg (1008673 : Int64)) (1 : Int32).toNatClampNeg (1008673 : Int64), z.2.1, z.2.2.1, z.2.2.2.1, z.2.2.2.2.1, z.2.2.2.2.2)).2)).2)) else ((m_X0_putSpan (0 : Int32) (0 : Int32) (0 : Int32) (0 : Int32) (vp_updL (vp_updL z.1 (0 : Int32).toNatClampNeg (1008673 : Int64)) (1 : Int32).toNatClampNeg (1008673 : Int64), z.2.1, z.2.2.1, z.2.2.2.1, z.2.2.2.2.1, z.2.2.2.2.2)).1, 0, (m_X0_putSpan (0 : Int32) (0 : Int32) (0 : Int32) (0 : Int32) (vp_updL (vp_updL z.1 (0 : Int32).toNatClampNeg (1008673 : Int64)) (1 : Int32).toNatClampNeg (1008673 : Int64), z.2.1, z.2.2.1, z.2.2.2.1, z.2.2.2.2.1, z.2.2.2.2.2)).2)) else (if (m_X0_putSpan (0 : Int32) (0 : Int32) (0 : Int32) (0 : Int32) (vp_updL (vp_updL (vp_updL z.1 (0 : Int32).toNatClampNeg (1008673 : Int64)) (1 : Int32).toNatClampNeg (1008673 : Int64)) (5 : Int32).toNatClampNeg (1008673 : Int64), z.2.1, z.2.2.1, z.2.2.2.1, z.2.2.2.2.1, z.2.2.2.2.2)).1 = 0 then (if (m_X0_putSpan (1 : Int32) (0 : Int32) (0 : Int32) (0 : Int32) ((m_X0_putSpan (0 : Int32) (0 : Int32) (0 : Int32) (0 : Int32) (vp_updL (vp_updL (vp_updL z.1 (0 : Int32).toNatClampNeg (1008673 : Int64)) (1 : Int32).toNatClampNeg (1008673 : Int64)) (5 : Int32).toNatClampNeg (1008673 : Int64), z.2.1, z.2.2.1, z.2.2.2.1, z.2.2.2.2.1, z.2.2.2.2.2)).2)).1 = 0 then (0, (3 : Int32), (m_X0_putSpan (1 : Int32) (0 : Int32) (0 : Int32) (0 : Int32) ((m_X0_putSpan (0 : Int32) (0 : Int32) (0 : Int32) (0 : Int32) (vp_updL (vp_updL (vp_updL z.1 (0 : Int32).toNatClampNeg (1008673 : Int64)) (1 : Int32).toNatClampNeg (1008673 : Int64)) (5 : Int32).toNatClampNeg (1008673 : Int64), z.2.1, z.2.2.1, z.2.2.2.1, z.2.2.2.2.1, z.2.2.2.2.2)).2)).2) else ((m_X0_putSpan (1 : Int32) (0 : Int32) (0 : Int32) (0 : Int32) ((m_X0_putSpan (0 : Int32) (0 : Int32) (0 : Int32) (0 : Int32) (vp_updL (vp_updL (vp_updL z.1 (0 : Int32).toNatClampNeg (1008673 : Int64)) (1 : Int32).toNatClampNeg (1008673 : Int64)) (5 : Int32).toNatClampNeg (1008673 : Int64), z.2.1, z.2.2.1, z.2.2.2.1, z.2.2.2.2.1, z.2.2.2.2.2)).2)).1, 0, (m_X0_putSpan (1 : Int32) (0 : Int32) (0 : Int32) (0 : Int32) ((m_X0_putSpan (0 : Int32) (0 : Int32) (0 : Int32) (0 : Int32) (vp_updL (vp_updL (vp_updL z.1 (0 : Int32).toNatClampNeg (1008673 : Int64)) (1 : Int32).toNatClampNeg (1008673 : Int64)) (5 : Int32).toNatClampNeg (1008673 : Int64), z.2.1, z.2.2.1, z.2.2.2.1, z.2.2.2.2.1, z.2.2.2.2.2)).2)).2)) else ((m_X0_putSpan (0 : Int32) (0 : Int32) (0 : Int32) (0 : Int32) (vp_updL (vp_updL (vp_updL z.1 (0 : Int32).toNatClampNeg (1008673 : Int64)) (1 : Int32).toNatClampNeg (1008673 : Int64)) (5 : Int32).toNatClampNeg (1008673 : Int64), z.2.1, z.2.2.1, z.2.2.2.1, z.2.2.2.2.1, z.2.2.2.2.2)).1, 0, (m_X0_putSpan (0 : Int32) (0 : Int32) (0 : Int32) (0 : Int32) (vp_updL (vp_updL (vp_updL z.1 (0 : Int32).toNatClampNeg (1008673 : Int64)) (1 : Int32).toNatClampNeg (1008673 : Int64)) (5 : Int32).toNatClampNeg (1008673 : Int64), z.2.1, z.2.2.1, z.2.2.2.1, z.2.2.2.2.1, z.2.2.2.2.2)).2))) else (if lg_cmp ((vp_updL (vp_updL (vp_updL z.1 (0 : Int32).toNatClampNeg (1008673 : Int64)) (1 : Int32).toNatClampNeg (1008673 : Int64)) (4 : Int32).toNatClampNeg (1008673 : Int64)) (5 : Int32).toNatClampNeg) (1008673 : Int64) = 0 then (if (m_X0_putSpan (0 : Int32) (0 : Int32) (0 : Int32) (0 : Int32) (vp_updL (vp_updL (vp_updL z.1 (0 : Int32).toNatClampNeg (1008673 : Int64)) (1 : Int32).toNatClampNeg (1008673 : Int64)) (4 : Int32).toNatClampNeg (1008673 : Int64), z.2.1, z.2.2.1, z.2.2.2.1, z.2.2.2.2.1, z.2.2.2.2.2)).1 = 0 then (if (m_X0_putSpan (1 : Int32) (0 : Int32) (0 : Int32) (0 : Int32) ((m_X0_putSpan (0 : Int32) (0 : Int32) (0 : Int32) (0 : Int32) (vp_updL (vp_updL (vp_updL z.1 (0 : Int32).toNatClampNeg (1008673 : Int64)) (1 : Int32).toNatClampNeg (1008673 : Int64)) (4 : Int32).toNatClampNeg (1008673 : Int64), z.2.1, z.2.2.1, z.2.2.2.1, z.2.2.2.2.1, z.2.2.2.2.2)).2)).1 = 0 then (0, (3 : Int32), (m_X0_putSpan (1 : Int32) (0 : Int32) (0 : Int32) (0 : Int32) ((m_X0_putSpan (0 : Int32) (0 : Int32) (0 : Int32) (0 : Int32) (vp_updL (vp_updL (vp_updL z.1 (0 : Int32).toNatClampNeg (1008673 : Int64)) (1 : Int32).toNatClampNeg (1008673 : Int64)) (4 : Int32).toNatClampNeg (1008673 : Int64), z.2.1, z.2.2.1, z.2.2.2.1, z.2.2.2.2.1, z.2.2.2.2.2)).2)).2) else ((m_X0_putSpan (1 : Int32) (0 : Int32) (0 : Int32) (0 : Int32) ((m_X0_putSpan (0 : Int32) (0 : Int32) (0 : Int32) (0 : Int32) (vp_updL (vp_updL (vp_updL z.1 (0 : Int32).toNatClampNeg (1008673 : Int64)) (1 : Int32).toNatClampNeg (1008673 : Int64)) (4 : Int32).toNatClampNeg (1008673 : Int64), z.2.1, z.2.2.1, z.2.2.2.1, z.2.2.2.2.1, z.2.2.2.2.2)).2)).1, 0, (m_X0_putSpan (1 : Int32) (0 : Int32) (0 : Int32) (0 : Int32) ((m_X0_putSpan (0 : Int32) (0 : Int32) (0 : Int32) (0 : Int32) (vp_updL (vp_updL (vp_updL z.1 (0 : Int32).toNatClampNeg (1008673 : Int64)) (1 : Int32).toNatClampNeg (1008673 : Int64)) (4 : Int32).toNatClampNeg (1008673 : Int64), z.2.1, z.2.2.1, z.2.2.2.1, z.2.2.2.2.1, z.2.2.2.2.2)).2)).2)) else ((m_X0_putSpan (0 : Int32) (0 : Int32) (0 : Int32) (0 : Int32) (vp_updL (vp_updL (vp_updL z.1 (0 : Int32).toNatClampNeg (1008673 : Int64)) (1 : Int32).toNatClampNeg (1008673 : Int64)) (4 : Int32).toNatClampNeg (1008673 : Int64), z.2.1, z.2.2.1, z.2.2.2.1, z.2.2.2.2.1, z.2.2.2.2.2)).1, 0, (m_X0_putSpan (0 : Int32) (0 : Int32) (0 : Int32) (0 : Int32) (vp_updL (vp_updL (vp_updL z.1 (0 : Int32).toNatClampNeg (1008673 : Int64)) (1 : Int32).toNatClampNeg (1008673 : Int64)) (4 : Int32).toNatClampNeg (1008673 : Int64), z.2.1, z.2.2.1, z.2.2.2.1, z.2.2.2.2.1, z.2.2.2.2.2)).2)) else (if (m_X0_putSpan (0 : Int32) (0 : Int32) (0 : Int32) (0 : Int32) (vp_updL (vp_updL (vp_updL (vp_updL z.1 (0 : Int32).toNatClampNeg (1008673 : Int64)) (1 : Int32).toNatClampNeg (1008673 : Int64)) (4 : Int32).toNatClampNeg (1008673 : Int64)) (5 : Int32).toNatClampNeg (1008673 : Int64), z.2.1, z.2.2.1, z.2.2.2.1, z.2.2.2.2.1, z.2.2.2.2.2)).1 = 0 then (if (m_X0_putSpan (1 : Int32) (0 : Int32) (0 : Int32) (0 : Int32) ((m_X0_putSpan (0 : Int32) (0 : Int32) (0 : Int32) (0 : Int32) (vp_updL (vp_updL (vp_updL (vp_updL z.1 (0 : Int32).toNatClampNeg (1008673 : Int64)) (1 : Int32).toNatClampNeg (1008673 : Int64)) (4 : Int32).toNatClampNeg (1008673 : Int64)) (5 : Int32).toNatClampNeg (1008673 : Int64), z.2.1, z.2.2.1, z.2.2.2.1, z.2.2.2.2.1, z.2.2.2.2.2)).2)).1 = 0 then (0, (4 : Int32), (m_X0_putSpan (1 : Int32) (0 : Int32) (0 : Int32) (0 : Int32) ((m_X0_putSpan (0 : Int32) (0 : Int32) (0 : Int32) (0 : Int32) (vp_updL (vp_updL (vp_updL (vp_updL z.1 (0 : Int32).toNatClampNeg (1008673 : Int64)) (1 : Int32).toNatClampNeg (1008673 : Int64)) (4 : Int32).toNatClampNeg (1008673 : Int64)) (5 : Int32).toNatClampNeg (1008673 : Int64), z.2.1, z.2.2.1, z.2.2.2.1, z.2.2.2.2.1, z.2.2.2.2.2)).2)).2) else ((m_X0_putSpan (1 : Int32) (0 : Int32) (0 : Int32) (0 : Int32) ((m_X0_putSpan (0 : Int32) (0 : Int32) (0 : Int32) (0 : Int32) (vp_updL (vp_updL (vp_updL (vp_updL z.1 (0 : Int32).toNatClampNeg (1008673 : Int64)) (1 : Int32).toNatClampNeg (1008673 : Int64)) (4 : Int32).toNatClampNeg (1008673 : Int64)) (5 : Int32).toNatClampNeg (1008673 : Int64), z.2.1, z.2.2.1, z.2.2.2.1, z.2.2.2.2.1, z.2.2.2.2.2)).2)).1, 0, (m_X0_putSpan (1 : Int32) (0 : Int32) (0 : Int32) (0 : Int32) ((m_X0_putSpan (0 : Int32) (0 : Int32) (0 : Int32) (0 : Int32) (vp_updL (vp_updL (vp_updL (vp_updL z.1 (0 : Int32).toNatClampNeg (1008673 : Int64)) (1 : Int32).toNatClampNeg (1008673 : Int64)) (4 : Int32).toNatClampNeg (1008673 : Int64)) (5 : Int32).toNatClampNeg (1008673 : Int64), z.2.1, z.2.2.1, z.2.2.2.1, z.2.2.2.2.1, z.2.2.2.2.2)).2)).2)) else ((m_X0_putSpan (0 : Int32) (0 : Int32) (0 : Int32) (0 : Int32) (vp_updL (vp_updL (vp_updL (vp_updL z.1 (0 : Int32).toNatClampNeg (1008673 : Int64)) (1 : Int32).toNatClampNeg (1008673 : Int64)) (4 : Int32).toNatClampNeg (1008673 : Int64)) (5 : Int32).toNatClampNeg (1008673 : Int64), z.2.1, z.2.2.1, z.2.2.2.1, z.2.2.2.2.1, z.2.2.2.2.2)).1, 0, (m_X0_putSpan (0 : Int32) (0 : Int32) (0 : Int32) (0 : Int32) (vp_updL (vp_updL (vp_updL (vp_updL z.1 (0 : Int32).toNatClampNeg (1008673 : Int64)) (1 : Int32).toNatClampNeg (1008673 : Int64)) (4 : Int32).toNatClampNeg (1008673 : Int64)) (5 : Int32).toNatClampNeg (1008673 : Int64), z.2.1, z.2.2.1, z.2.2.2.1, z.2.2.2.2.1, z.2.2.2.2.2)).2)))) else (if lg_cmp ((vp_updL (vp_updL (vp_updL z.1 (0 : Int32).toNatClampNeg (1008673 : Int64)) (1 : Int32).toNatClampNeg (1008673 : Int64)) (3 : Int32).toNatClampNeg (1008673 : Int64)) (4 : Int32).toNatClampNeg) (1008673 : Int64) = 0 then (if lg_cmp ((vp_updL (vp_updL (vp_updL z.1 (0 : Int32).toNatClampNeg (1008673 : Int64)) (1 : Int32).toNatClampNeg (1008673 : Int64)) (3 : Int32).toNatClampNeg (1008673 : Int64)) (5 : Int32).toNatClampNeg) (1008673 : Int64) = 0 then (if (m_X0_putSpan (0 : Int32) (0 : Int32) (0 : Int32) (0 : Int32) (vp_updL (vp_updL (vp_updL z.1 (0 : Int32).toNatClampNeg (1008673 : Int64)) (1 : Int32).toNatClampNeg (1008673 : Int64)) (3 : Int32).toNatClampNeg (1008673 : Int64), z.2.1, z.2.2.1, z.2.2.2.1, z.2.2.2.2.1, z.2.2.2.2.2)).1 = 0 then (if (m_X0_putSpan (1 : Int32) (0 : Int32) (0 : Int32) (0 : Int32) ((m_X0_putSpan (0 : Int32) (0 : Int32) (0 : Int32) (0 : Int32) (vp_updL (vp_updL (vp_updL z.1 (0 : Int32).toNatClampNeg (1008673 : Int64)) (1 : Int32).toNatClampNeg (1008673 : Int64)) (3 : Int32).toNatClampNeg (1008673 : Int64), z.2.1, z.2.2.1, z.2.2.2.1, z.2.2.2.2.1, z.2.2.2.2.2)).2)).1 = 0 then (0, (3 : Int32), (m_X0_putSpan (1 : Int32) (0 : Int32) (0 : Int32) (0 : Int32) ((m_X0_putSpan (0 : Int32) (0 : Int32) (0 : Int32) (0 : Int32) (vp_updL (vp_updL (vp_updL z.1 (0 : Int32).toNatClampNeg (1008673 : Int64)) (1 : Int32).toNatClampNeg (1008673 : Int64)) (3 : Int32).toNatClampNeg (1008673 : Int64), z.2.1, z.2.2.1, z.2.2.2.1, z.2.2.2.2.1, z.2.2.2.2.2)).2)).2) else ((m_X0_putSpan (1 : Int32) (0 : Int32) (0 : Int32) (0 : Int32) ((m_X0_putSpan (0 : Int32) (0 : Int32) (0 : Int32) (0 : Int32) (vp_updL (vp_updL (vp_updL z.1 (0 : Int32).toNatClampNeg (1008673 : Int64)) (1 : Int32).toNatClampNeg (1008673 : Int64)) (3 : Int32).toNatClampNeg (1008673 : Int64), z.2.1, z.2.2.1, z.2.2.2.1, z.2.2.2.2.1, z.2.2.2.2.2)).2)).1, 0, (m_X0_putSpan (1 : Int32) (0 : Int32) (0 : Int32) (0 : Int32) ((m_X0_putSpan (0 : Int32) (0 : Int32) (0 : Int32) (0 : Int32) (vp_updL (vp_updL (vp_updL z.1 (0 : Int32).toNatClampNeg (1008673 : Int64)) (1 : Int32).toNatClampNeg (1008673 : Int64)) (3 : Int32).toNatClampNeg (1008673 : Int64), z.2.1, z.2.2.1, z.2.2.2.1, z.2.2.2.2.1, z.2.2.2.2.2)).2)).2)) else ((m_X0_putSpan (0 : Int32) (0 : Int32) (0 : Int32) (0 : Int32) (vp_updL (vp_updL (vp_updL z.1 (0 : Int32).toNatClampNeg (1008673 : Int64)) (1 : Int32).toNatClampNeg (1008673 : Int64)) (3 : Int32).toNatClampNeg (1008673 : Int64), z.2.1, z.2.2.1, z.2.2.2.1, z.2.2.2.2.1, z.2.2.2.2.2)).1, 0, (m_X0_putSpan (0 : Int32) (0 : Int32) (0 : Int32) (0 : Int32) (vp_updL (vp_updL (vp_updL z.1 (0 : Int32).toNatClampNeg (1008673 : Int64)) (1 : Int32).toNatClampNeg (1008673 : Int64)) (3 : Int32).toNatClampNeg (1008673 : Int64), z.2.1, z.2.2.1, z.2.2.2.1, z.2.2.2.2.1, z.2.2.2.2.2)).2)) else (if (m_X0_putSpan (0 : Int32) (0 : Int32) (0 : Int32) (0 : Int32) (vp_updL (vp_updL (vp_updL (vp_updL z.1 (0 : Int32).toNatClampNeg (1008673 : Int64)) (1 : Int32).toNatClampNeg (1008673 : Int64)) (3 : Int32).toNatClampNeg (1008673 : Int64)) (5 : Int32).toNatClampNeg (1008673 : Int64), z.2.1, z.2.2.1, z.2.2.2.1, z.2.2.2.2.1, z.2.2.2.2.2)).1 = 0 then (if (m_X0_putSpan (1 : Int32) (0 : Int32) (0 : Int32) (0 : Int32) ((m_X0_putSpan (0 : Int32) (0 : Int32) (0 : Int32) (0 : Int32) (vp_updL (vp_updL (vp_updL (vp_updL z.1 (0 : Int32).toNatClampNeg (1008673 : Int64)) (1 : Int32).toNatClampNeg (1008673 : Int64)) (3 : Int32).toNatClampNeg (1008673 : Int64)) (5 : Int32).toNatClampNeg (1008673 : Int64), z.2.1, z.2.2.1, z.2.2.2.1, z.2.2.2.2.1, z.2.2.2.2.2)).2)).1 = 0 then (0, (4 : Int32), (m_X0_putSpan (1 : Int32) (0 : Int32) (0 : Int32) (0 : Int32) ((m_X0_putSpan (0 : Int32) (0 : Int32) (0 : Int32) (0 : Int32) (vp_updL (vp_updL (vp_updL (vp_updL z.1 (0 : Int32).toNatClampNeg (1008673 : Int64)) (1 : Int32).toNatClampNeg (1008673 : Int64)) (3 : Int32).toNatClampNeg (1008673 : Int64)) (5 : Int32).toNatClampNeg (1008673 : Int64), z.2.1, z.2.2.1, z.2.2.2.1, z.2.2.2.2.1, z.2.2.2.2.2)).2)).2) else ((m_X0_putSpan (1 : Int32) (0 : Int32) (0 : Int32) (0 : Int32) ((m_X0_putSpan (0 : Int32) (0 : Int32) (0 : Int32) (0 : Int32) (vp_updL (vp_updL (vp_updL (vp_updL z.1 (0 : Int32).toNatClampNeg (1008673 : Int64)) (1 : Int32).toNatClampNeg (1008673 : Int64)) (3 : Int32).toNatClampNeg (1008673 : Int64)) (5 : Int32).toNatClampNeg (1008673 : Int64), z.2.1, z.2.2.1, z.2.2.2.1, z.2.2.2.2.1, z.2.2.2.2.2)).2)).1, 0, (m_X0_putSpan (1 : Int32) (0 : Int32) (0 : Int32) (0 : Int32) ((m_X0_putSpan (0 : Int32) (0 : Int32) (0 : Int32) (0 : Int32) (vp_updL (vp_updL (vp_updL (vp_updL z.1 (0 : Int32).toNatClampNeg (1008673 : Int64)) (1 : Int32).toNatClampNeg (1008673 : Int64)) (3 : Int32).toNatClampNeg (1008673 : Int64)) (5 : Int32).toNatClampNeg (1008673 : Int64), z.2.1, z.2.2.1, z.2.2.2.1, z.2.2.2.2.1, z.2.2.2.2.2)).2)).2)) else ((m_X0_putSpan (0 : Int32) (0 : Int32) (0 : Int32) (0 : Int32) (vp_updL (vp_updL (vp_updL (vp_updL z.1 (0 : Int32).toNatClampNeg (1008673 : Int64)) (1 : Int32).toNatClampNeg (1008673 : Int64)) (3 : Int32).toNatClampNeg (1008673 : Int64)) (5 : Int32).toNatClampNeg (1008673 : Int64), z.2.1, z.2.2.1, z.2.2.2.1, z.2.2.2.2.1, z.2.2.2.2.2)).1, 0, (m_X0_putSpan (0 : Int32) (0 : Int32) (0 : Int32) (0 : Int32) (vp_updL (vp_updL (vp_updL (vp_updL z.1 (0 : Int32).toNatClampNeg (1008673 : Int64)) (1 : Int32).toNatClampNeg (1008673 : Int64)) (3 : Int32).toNatClampNeg (1008673 : Int64)) (5 : Int32).toNatClampNeg (1008673 : Int64), z.2.1, z.2.2.1, z.2.2.2.1, z.2.2.2.2.1, z.2.2.2.2.2)).2))) else (if lg_cmp ((vp_updL (vp_updL (vp_updL (vp_updL z.1 (0 : Int32).toNatClampNeg (1008673 : Int64)) (1 : Int32).toNatClampNeg (1008673 : Int64)) (3 : Int32).toNatClampNeg (1008673 : Int64)) (4 : Int32).toNatClampNeg (1008673 : Int64)) (5 : Int32).toNatClampNeg) (1008673 : Int64) = 0 then (if (m_X0_putSpan (0 : Int32) (0 : Int32) (0 : Int32) (0 : Int32) (vp_updL (vp_updL (vp_updL (vp_updL z.1 (0 : Int32).toNatClampNeg (1008673 : Int64)) (1 : Int32).toNatClampNeg (1008673 : Int64)) (3 : Int32).toNatClampNeg (1008673 : Int64)) (4 : Int32).toNatClampNeg (1008673 : Int64), z.2.1, z.2.2.1, z.2.2.2.1, z.2.2.2.2.1, z.2.2.2.2.2)).1 = 0 then (if (m_X0_putSpan (1 : Int32) (0 : Int32) (0 : Int32) (0 : Int32) ((m_X0_putSpan (0 : Int32) (0 : Int32) (0 : Int32) (0 : Int32) (vp_updL (vp_updL (vp_updL (vp_updL z.1 (0 : Int32).toNatClampNeg (1008673 : Int64)) (1 : Int32).toNatClampNeg (1008673 : Int64)) (3 : Int32).toNatClampNeg (1008673 : Int64)) (4 : Int32).toNatClampNeg (1008673 : Int64), z.2.1, z.2.2.1, z.2.2.2.1, z.2.2.2.2.1, z.2.2.2.2.2)).2)).1 = 0 then (0, (4 : Int32), (m_X0_putSpan (1 : Int32) (0 : Int32) (0 : Int32) (0 : Int32) ((m_X0_putSpan (0 : Int32) (0 : Int32) (0 : Int32) (0 : Int32) (vp_updL (vp_updL (vp_updL (vp_updL z.1 (0 : Int32).toNatClampNeg (1008673 : Int64)) (1 : Int32).toNatClampNeg (1008673 : Int64)) (3 : Int32).toNatClampNeg (1008673 : Int64)) (4 : Int32).toNatClampNeg (1008673 : Int64), z.2.1, z.2.2.1, z.2.2.2.1, z.2.2.2.2.1, z.2.2.2.2.2)).2)).2) else ((m_X0_putSpan (1 : Int32) (0 : Int32) (0 : Int32) (0 : Int32) ((m_X0_putSpan (0 : Int32) (0 : Int32) (0 : Int32) (0 : Int32) (vp_updL (vp_updL (vp_updL (vp_updL z.1 (0 : Int32).toNatClampNeg (1008673 : Int64)) (1 : Int32).toNatClampNeg (1008673 : Int64)) (3 : Int32).toNatClampNeg (1008673 : Int64)) (4 : Int32).toNatClampNeg (1008673 : Int64), z.2.1, z.2.2.1, z.2.2.2.1, z.2.2.2.2.1, z.2.2.2.2.2)).2)).1, 0, (m_X0_putSpan (1 : Int32) (0 : Int32) (0 : Int32) (0 : Int32) ((m_X0_putSpan (0 : Int32) (0 : Int32) (0 : Int32) (0 : Int32) (vp_updL (vp_updL (vp_updL (vp_updL z.1 (0 : Int32).toNatClampNeg (1008673 : Int64)) (1 : Int32).toNatClampNeg (1008673 : Int64)) (3 : Int32).toNatClampNeg (1008673 : Int64)) (4 : Int32).toNatClampNeg (1008673 : Int64), z.2.1, z.2.2.1, z.2.2.2.1, z.2.2.2.2.1, z.2.2.2.2.2)).2)).2)) else ((m_X0_putSpan (0 : Int32) (0 : Int32) (0 : Int32) (0 : Int32) (vp_updL (vp_updL (vp_updL (vp_updL z.1 (0 : Int32).toNatClampNeg (1008673 : Int64)) (1 : Int32).toNatClampNeg (1008673 : Int64)) (3 : Int32).toNatClampNeg (1008673 : Int64)) (4 : Int32).toNatClampNeg (1008673 : Int64), z.2.1, z.2.2.1, z.2.2.2.1, z.2.2.2.2.1, z.2.2.2.2.2)).1, 0, (m_X0_putSpan (0 : Int32) (0 : Int32) (0 : Int32) (0 : Int32) (vp_updL (vp_updL (vp_updL (vp_updL z.1 (0 : Int32).toNatClampNeg (1008673 : Int64)) (1 : Int32).toNatClampNeg (1008673 : Int64)) (3 : Int32).toNatClampNeg (1008673 : Int64)) (4 : Int32).toNatClampNeg (1008673 : Int64), z.2.1, z.2.2.1, z.2.2.2.1, z.2.2.2.2.1, z.2.2.2.2.2)).2)) else (if (m_X0_putSpan (0 : Int32) (0 : Int32) (0 : Int32) (0 : Int32) (vp_updL (vp_updL (vp_updL (vp_updL (vp_updL z.1 (0 : Int32).toNatClampNeg (1008673 : Int64)) (1 : Int32).toNatClampNeg (1008673 : Int64)) (3 : Int32).toNatClampNeg (1008673 : Int64)) (4 : Int32).toNatClampNeg (1008673 : Int64)) (5 : Int32).toNatClampNeg (1008673 : Int64), z.2.1, z.2.2.1, z.2.2.2.1, z.2.2.2.2.1, z.2.2.2.2.2)).1 = 0 then (if (m_X0_putSpan (1 : Int32) (0 : Int32) (0 : Int32) (0 : Int32) ((m_X0_putSpan (0 : Int32) (0 : Int32) (0 : Int32) (0 : Int32) (vp_updL (vp_updL (vp_updL (vp_updL (vp_updL z.1 (0 : Int32).toNatClampNeg (1008673 : Int64)) (1 : Int32).toNatClampNeg (1008673 : Int64)) (3 : Int32).toNatClampNeg (1008673 : Int64)) (4 : Int32).toNatClampNeg (1008673 : Int64)) (5 : Int32).toNatClampNeg (1008673 : Int64), z.2.1, z.2.2.1, z.2.2.2.1, z.2.2.2.2.1, z.2.2.2.2.2)).2)).1 = 0 then (0, (5 : Int32), (m_X0_putSpan (1 : Int32) (0 : Int32) (0 : Int32) (0 : Int32) ((m_X0_putSpan (0 : Int32) (0 : Int32) (0 : Int32) (0 : Int32) (vp_updL (vp_updL (vp_updL (vp_updL (vp_updL z.1 (0 : Int32).toNatClampNeg (1008673 : Int64)) (1 : Int32).toNatClampNeg (1008673 : Int64)) (3 : Int32).toNatClampNeg (1008673 : Int64)) (4 : Int32).toNatClampNeg (1008673 : Int64)) (5 : Int32).toNatClampNeg (1008673 : Int64), z.2.1, z.2.2.1, z.2.2.2.1, z.2.2.2.2.1, z.2.2.2.2.2)).2)).2) else ((m_X0_putSpan (1 : Int32) (0 : Int32) (0 : Int32) (0 : Int32) ((m_X0_putSpan (0 : Int32) (0 : Int32) (0 : Int32) (0 : Int32) (vp_updL (vp_updL (vp_updL (vp_updL (vp_updL z.1 (0 : Int32).toNatClampNeg (1008673 : Int64)) (1 : Int32).toNatClampNeg (1008673 : Int64)) (3 : Int32).toNatClampNeg (1008673 : Int64)) (4 : Int32).toNatClampNeg (1008673 : Int64)) (5 : Int32).toNatClampNeg (1008673 : Int64), z.2.1, z.2.2.1, z.2.2.2.1, z.2.2.2.2.1, z.2.2.2.2.2)).2)).1, 0, (m_X0_putSpan (1 : Int32) (0 : Int32) (0 : Int32) (0 : Int32) ((m_X0_putSpan (0 : Int32) (0 : Int32) (0 : Int32) (0 : Int32) (vp_updL (vp_updL (vp_updL (vp_updL (vp_updL z.1 (0 : Int32).toNatClampNeg (1008673 : Int64)) (1 : Int32).toNatClampNeg (1008673 : Int64)) (3 : Int32).toNatClampNeg (1008673 : Int64)) (4 : Int32).toNatClampNeg (1008673 : Int64)) (5 : Int32).toNatClampNeg (1008673 : Int64), z.2.1, z.2.2.1, z.2.2.2.1, z.2.2.2.2.1, z.2.2.2.2.2)).2)).2)) else ((m_X0_putSpan (0 : Int32) (0 : Int32) (0 : Int32) (0 : Int32) (vp_updL (vp_updL (vp_updL (vp_updL (vp_updL z.1 (0 : Int32).toNatClampNeg (1008673 : Int64)) (1 : Int32).toNatClampNeg (1008673 : Int64)) (3 : Int32).toNatClampNeg (1008673 : Int64)) (4 : Int32).toNatClampNeg (1008673 : Int64)) (5 : Int32).toNatClampNeg (1008673 : Int64), z.2.1, z.2.2.1, z.2.2.2.1, z.2.2.2.2.1, z.2.2.2.2.2)).1, 0, (m_X0_putSpan (0 : Int32) (0 : Int32) (0 : Int32) (0 : Int32) (vp_updL (vp_updL (vp_updL (vp_updL (vp_updL z.1 (0 : Int32).toNatClampNeg (1008673 : Int64)) (1 : Int32).toNatClampNeg (1008673 : Int64)) (3 : Int32).toNatClampNeg (1008673 : Int64)) (4 : Int32).toNatClampNeg (1008673 : Int64)) (5 : Int32).toNatClampNeg (1008673 : Int64), z.2.1, z.2.2.1, z.2.2.2.1, z.2.2.2.2.1, z.2.2.2.2.2)).2))))) else (if lg_cmp ((vp_updL (vp_updL (vp_updL z.1 (0 : Int32).toNatClampNeg (1008673 : Int64)) (1 : Int32).toNatClampNeg (1008673 : Int64)) (2 : Int32).toNatClampNeg (1008673 : Int64)) (3 : Int32).toNatClampNeg) (1008673 : Int64) = 0 then (if lg_cmp ((vp_updL (vp_updL (vp_updL z.1 (0 : Int32).toNatClampNeg (1008673 : Int64)) (1 : Int32).toNatClampNeg (1008673 : Int64)) (2 : Int32).toNatClampNeg (1008673 : Int64)) (4 : Int32).toNatClampNeg) (1008673 : Int64) = 0 then (if lg_cmp ((vp_updL (vp_updL (vp_updL z.1 (0 : Int32).toNatClampNeg (1008673 : Int64)) (1 : Int32).toNatClampNeg (1008673 : Int64)) (2 : Int32).toNatClampNeg (1008673 : Int64)) (5 : Int32).toNatClampNeg) (1008673 : Int64) = 0 then (if (m_X0_putSpan (0 : Int32) (0 : Int32) (0 : Int32) (0 : Int32) (vp_updL (vp_updL (vp_updL z.1 (0 : Int32).toNatClampNeg (1008673 : Int64)) (1 : Int32).toNatClampNeg (1008673 : Int64)) (2 : Int32).toNatClampNeg (1008673 : Int64), z.2.1, z.2.2.1, z.2.2.2.1, z.2.2.2.2.1, z.2.2.2.2.2)).1 = 0 then (if (m_X0_putSpan (1 : Int32) (0 : Int32) (0 : Int32) (0 : Int32) ((m_X0_putSpan (0 : Int32) (0 : Int32) (0 : Int32) (0 : Int32) (vp_updL (vp_updL (vp_updL z.1 (0 : Int32).toNatClampNeg (1008673 : Int64)) (1 : Int32).toNatClampNeg (1008673 : Int64)) (2 : Int32).toNatClampNeg (1008673 : Int64), z.2.1, z.2.2.1, z.2.2.2.1, z.2.2.2.2.1, z.2.2.2.2.2)).2)).1 = 0 then (0, (3 : Int32), (m_X0_putSpan (1 : Int32) (0 : Int32) (0 : Int32) (0 : Int32) ((m_X0_putSpan (0 : Int32) (0 : Int32) (0 : Int32) (0 : Int32) (vp_updL (vp_updL (vp_updL z.1 (0 : Int32).toNatClampNeg (1008673 : Int64)) (1 : Int32).toNatClampNeg (1008673 : Int64)) (2 : Int32).toNatClampNeg (1008673 : Int64), z.2.1, z.2.2.1, z.2.2.2.1, z.2.2.2.2.1, z.2.2.2.2.2)).2)).2) else ((m_X0_putSpan (1 : Int32) (0 : Int32) (0 : Int32) (0 : Int32) ((m_X0_putSpan (0 : Int32) (0 : Int32) (0 : Int32) (0 : Int32) (vp_updL (vp_updL (vp_updL z.1 (0 : Int32).toNatClampNeg (1008673 : Int64)) (1 : Int32).toNatClampNeg (1008673 : Int64)) (2 : Int32).toNatClampNeg (1008673 : Int64), z.2.1, z.2.2.1, z.2.2.2.1, z.2.2.2.2.1, z.2.2.2.2.2)).2)).1, 0, (m_X0_putSpan (1 : Int32) (0 : Int32) (0 : Int32) (0 : Int32) ((m_X0_putSpan (0 : Int32) (0 : Int32) (0 : Int32) (0 : Int32) (vp_updL (vp_updL (vp_updL z.1 (0 : Int32).toNatClampNeg (1008673 : Int64)) (1 : Int32).toNatClampNeg (1008673 : Int64)) (2 : Int32).toNatClampNeg (1008673 : Int64), z.2.1, z.2.2.1, z.2.2.2.1, z.2.2.2.2.1, z.2.2.2.2.2)).2)).2)) else ((m_X0_putSpan (0 : Int32) (0 : Int32) (0 : Int32) (0 : Int32) (vp_updL (vp_updL (vp_updL z.1 (0 : Int32).toNatClampNeg (1008673 : Int64)) (1 : Int32).toNatClampNeg (1008673 : Int64)) (2 : Int32).toNatClampNeg (1008673 : Int64), z.2.1, z.2.2.1, z.2.2.2.1, z.2.2.2.2.1, z.2.2.2.2.2)).1, 0, (m_X0_putSpan (0 : Int32) (0 : Int32) (0 : Int32) (0 : Int32) (vp_updL (vp_updL (vp_updL z.1 (0 : Int32).toNatClampNeg (1008673 : Int64)) (1 : Int32).toNatClampNeg (1008673 : Int64)) (2 : Int32).toNatClampNeg (1008673 : Int64), z.2.1, z.2.2.1, z.2.2.2.1, z.2.2.2.2.1, z.2.2.2.2.2)).2)) else (if (m_X0_putSpan (0 : Int32) (0 : Int32) (0 : Int32) (0 : Int32) (vp_updL (vp_updL (vp_updL (vp_updL z.1 (0 : Int32).toNatClampNeg (1008673 : Int64)) (1 : Int32).toNatClampNeg (1008673 : Int64)) (2 : Int32).toNatClampNeg (1008673 : Int64)) (5 : Int32).toNatClampNeg (1008673 : Int64), z.2.1, z.2.2.1, z.2.2.2.1, z.2.2.2.2.1, z.2.2.2.2.2)).1 = 0 then (if (m_X0_putSpan (1 : Int32) (0 : Int32) (0 : Int32) (0 : Int32) ((m_X0_putSpan (0 : Int32) (0 : Int32) (0 : Int32) (0 : Int32) (vp_updL (vp_updL (vp_updL (vp_updL z.1 (0 : Int32).toNatClampNeg (1008673 : Int64)) (1 : Int32).toNatClampNeg (1008673 : Int64)) (2 : Int32).toNatClampNeg (1008673 : Int64)) (5 : Int32).toNatClampNeg (1008673 : Int64), z.2.1, z.2.2.1, z.2.2.2.1, z.2.2.2.2.1, z.2.2.2.2.2)).2)).1 = 0 then (0, (4 : Int32), (m_X0_putSpan (1 : Int32) (0 : Int32) (0 : Int32) (0 : Int32) ((m_X0_putSpan (0 : Int32) (0 : Int32) (0 : Int32) (0 : Int32) (vp_updL (vp_updL (vp_updL (vp_updL z.1 (0 : Int32).toNatClampNeg (1008673 : Int64)) (1 : Int32).toNatClampNeg (1008673 : Int64)) (2 : Int32).toNatClampNeg (1008673 : Int64)) (5 : Int32).toNatClampNeg (1008673 : Int64), z.2.1, z.2.2.1, z.2.2.2.1, z.2.2.2.2.1, z.2.2.2.2.2)).2)).2) else ((m_X0_putSpan (1 : Int32) (0 : Int32) (0 : Int32) (0 : Int32) ((m_X0_putSpan (0 : Int32) (0 : Int32) (0 : Int32) (0 : Int32) (vp_updL (vp_updL (vp_updL (vp_updL z.1 (0 : Int32).toNatClampNeg (1008673 : Int64)) (1 : Int32).toNatClampNeg (1008673 : Int64)) (2 : Int32).toNatClampNeg (1008673 : Int64)) (5 : Int32).toNatClampNeg (1008673 : Int64), z.2.1, z.2.2.1, z.2.2.2.1, z.2.2.2.2.1, z.2.2.2.2.2)).2)).1, 0, (m_X0_putSpan (1 : Int32) (0 : Int32) (0 : Int32) (0 : Int32) ((m_X0_putSpan (0 : Int32) (0 : Int32) (0 : Int32) (0 : Int32) (vp_updL (vp_updL (vp_updL (vp_updL z.1 (0 : Int32).toNatClampNeg (1008673 : Int64)) (1 : Int32).toNatClampNeg (1008673 : Int64)) (2 : Int32).toNatClampNeg (1008673 : Int64)) (5 : Int32).toNatClampNeg (1008673 : Int64), z.2.1, z.2.2.1, z.2.2.2.1, z.2.2.2.2.1, z.2.2.2.2.2)).2)).2)) else ((m_X0_putSpan (0 : Int32) (0 : Int32) (0 : Int32) (0 : Int32) (vp_updL (vp_updL (vp_updL (vp_updL z.1 (0 : Int32).toNatClampNeg (1008673 : Int64)) (1 : Int32).toNatClampNeg (1008673 : Int64)) (2 : Int32).toNatClampNeg (1008673 : Int64)) (5 : Int32).toNatClampNeg (1008673 : Int64), z.2.1, z.2.2.1, z.2.2.2.1, z.2.2.2.2.1, z.2.2.2.2.2)).1, 0, (m_X0_putSpan (0 : Int32) (0 : Int32) (0 : Int32) (0 : Int32) (vp_updL (vp_updL (vp_updL (vp_updL z.1 (0 : Int32).toNatClampNeg (1008673 : Int64)) (1 : Int32).toNatClampNeg (1008673 : Int64)) (2 : Int32).toNatClampNeg (1008673 : Int64)) (5 : Int32).toNatClampNeg (1008673 : Int64), z.2.1, z.2.2.1, z.2.2.2.1, z.2.2.2.2.1, z.2.2.2.2.2)).2))) else (if lg_cmp ((vp_updL (vp_updL (vp_updL (vp_updL z.1 (0 : Int32).toNatClampNeg (1008673 : Int64)) (1 : Int32).toNatClampNeg (1008673 : Int64)) (2 : Int32).toNatClampNeg (1008673 : Int64)) (4 : Int32).toNatClampNeg (1008673 : Int64)) (5 : Int32).toNatClampNeg) (1008673 : Int64) = 0 then (if (m_X0_putSpan (0 : Int32) (0 : Int32) (0 : Int32) (0 : Int32) (vp_updL (vp_updL (vp_updL (vp_updL z.1 (0 : Int32).toNatClampNeg (1008673 : Int64)) (1 : Int32).toNatClampNeg (1008673 : Int64)) (2 : Int32).toNatClampNeg (1008673 : Int64)) (4 : Int32).toNatClampNeg (1008673 : Int64), z.2.1, z.2.2.1, z.2.2.2.1, z.2.2.2.2.1, z.2.2.2.2.2)).1 = 0 then (if (m_X0_putSpan (1 : Int32) (0 : Int32) (0 : Int32) (0 : Int32) ((m_X0_putSpan (0 : Int32) (0 : Int32) (0 : Int32) (0 : Int32) (vp_updL (vp_updL (vp_updL (vp_updL z.1 (0 : Int32).toNatClampNeg (1008673 : Int64)) (1 : Int32).toNatClampNeg (1008673 : Int64)) (2 : Int32).toNatClampNeg (1008673 : Int64)) (4 : Int32).toNatClampNeg (1008673 : Int64), z.2.1, z.2.2.1, z.2.2.2.1, z.2.2.2.2.1, z.2.2.2.2.2)).2)).1 = 0 then (0, (4 : Int32), (m_X0_putSpan (1 : Int32) (0 : Int32) (0 : Int32) (0 : Int32) ((m_X0_putSpan (0 : Int32) (0 : Int32) (0 : Int32) (0 : Int32) (vp_updL (vp_updL (vp_updL (vp_updL z.1 (0 : Int32).toNatClampNeg (1008673 : Int64)) (1 : Int32).toNatClampNeg (1008673 : Int64)) (2 : Int32).toNatClampNeg (1008673 : Int64)) (4 : Int32).toNatClampNeg (1008673 : Int64), z.2.1, z.2.2.1, z.2.2.2.1, z.2.2.2.2.1, z.2.2.2.2.2)).2)).2) else ((m_X0_putSpan (1 : Int32) (0 : Int32) (0 : Int32) (0 : Int32) ((m_X0_putSpan (0 : Int32) (0 : Int32) (0 : Int32) (0 : Int32) (vp_updL (vp_updL (vp_updL (vp_updL z.1 (0 : Int32).toNatClampNeg (1008673 : Int64)) (1 : Int32).toNatClampNeg (1008673 : Int64)) (2 : Int32).toNatClampNeg (1008673 : Int64)) (4 : Int32).toNatClampNeg (1008673 : Int64), z.2.1, z.2.2.1, z.2.2.2.1, z.2.2.2.2.1, z.2.2.2.2.2)).2)).1, 0, (m_X0_putSpan (1 : Int32) (0 : Int32) (0 : Int32) (0 : Int32) ((m_X0_putSpan (0 : Int32) (0 : Int32) (0 : Int32) (0 : Int32) (vp_updL (vp_updL (vp_updL (vp_updL z.1 (0 : Int32).toNatClampNeg (1008673 : Int64)) (1 : Int32).toNatClampNeg (1008673 : Int64)) (2 : Int32).toNatClampNeg (1008673 : Int64)) (4 : Int32).toNatClampNeg (1008673 : Int64), z.2.1, z.2.2.1, z.2.2.2.1, z.2.2.2.2.1, z.2.2.2.2.2)).2)).2)) else ((m_X0_putSpan (0 : Int32) (0 : Int32) (0 : Int32) (0 : Int32) (vp_updL (vp_updL (vp_updL (vp_updL z.1 (0 : Int32).toNatClampNeg (1008673 : Int64)) (1 : Int32).toNatClampNeg (1008673 : Int64)) (2 : Int32).toNatClampNeg (1008673 : Int64)) (4 : Int32).toNatClampNeg (1008673 : Int64), z.2.1, z.2.2.1, z.2.2.2.1, z.2.2.2.2.1, z.2.2.2.2.2)).1, 0, (m_X0_putSpan (0 : Int32) (0 : Int32) (0 : Int32) (0 : Int32) (vp_updL (vp_updL (vp_updL (vp_updL z.1 (0 : Int32).toNatClampNeg (1008673 : Int64)) (1 : Int32).toNatClampNeg (1008673 : Int64)) (2 : Int32).toNatClampNeg (1008673 : Int64)) (4 : Int32).toNatClampNeg (1008673 : Int64), z.2.1, z.2.2.1, z.2.2.2.1, z.2.2.2.2.1, z.2.2.2.2.2)).2)) else (if (m_X0_putSpan (0 : Int32) (0 : Int32) (0 : Int32) (0 : Int32) (vp_updL (vp_updL (vp_updL (vp_updL (vp_updL z.1 (0 : Int32).toNatClampNeg (1008673 : Int64)) (1 : Int32).toNatClampNeg (1008673 : Int64)) (2 : Int32).toNatClampNeg (1008673 : Int64)) (4 : Int32).toNatClampNeg (1008673 : Int64)) (5 : Int32).toNatClampNeg (1008673 : Int64), z.2.1, z.2.2.1, z.2.2.2.1, z.2.2.2.2.1, z.2.2.2.2.2)).1 = 0 then (if (m_X0_putSpan (1 : Int32) (0 : Int32) (0 : Int32) (0 : Int32) ((m_X0_putSpan (0 : Int32) (0 : Int32) (0 : Int32) (0 : Int32) (vp_updL (vp_updL (vp_updL (vp_updL (vp_updL z.1 (0 : Int32).toNatClampNeg (1008673 : Int64)) (1 : Int32).toNatClampNeg (1008673 : Int64)) (2 : Int32).toNatClampNeg (1008673 : Int64)) (4 : Int32).toNatClampNeg (1008673 : Int64)) (5 : Int32).toNatClampNeg (1008673 : Int64), z.2.1, z.2.2.1, z.2.2.2.1, z.2.2.2.2.1, z.2.2.2.2.2)).2)).1 = 0 then (0, (5 : Int32), (m_X0_putSpan (1 : Int32) (0 : Int32) (0 : Int32) (0 : Int32) ((m_X0_putSpan (0 : Int32) (0 : Int32) (0 : Int32) (0 : Int32) (vp_updL (vp_updL (vp_updL (vp_updL (vp_updL z.1 (0 : Int32).toNatClampNeg (1008673 : Int64)) (1 : Int32).toNatClampNeg (1008673 : Int64)) (2 : Int32).toNatClampNeg (1008673 : Int64)) (4 : Int32).toNatClampNeg (1008673 : Int64)) (5 : Int32).toNatClampNeg (1008673 : Int64), z.2.1, z.2.2.1, z.2.2.2.1, z.2.2.2.2.1, z.2.2.2.2.2)).2)).2) else ((m_X0_putSpan (1 : Int32) (0 : Int32) (0 : Int32) (0 : Int32) ((m_X0_putSpan (0 : Int32) (0 : Int32) (0 : Int32) (0 : Int32) (vp_updL (vp_updL (vp_updL (vp_updL (vp_updL z.1 (0 : Int32).toNatClampNeg (1008673 : Int64)) (1 : Int32).toNatClampNeg (1008673 : Int64)) (2 : Int32).toNatClampNeg (1008673 : Int64)) (4 : Int32).toNatClampNeg (1008673 : Int64)) (5 : Int32).toNatClampNeg (1008673 : Int64), z.2.1, z.2.2.1, z.2.2.2.1, z.2.2.2.2.1, z.2.2.2.2.2)).2)).1, 0, (m_X0_putSpan (1 : Int32) (0 : Int32) (0 : Int32) (0 : Int32) ((m_X0_putSpan (0 : Int32) (0 : Int32) (0 : Int32) (0 : Int32) (vp_updL (vp_updL (vp_updL (vp_updL (vp_updL z.1 (0 : Int32).toNatClampNeg (1008673 : Int64)) (1 : Int32).toNatClampNeg (1008673 : Int64)) (2 : Int32).toNatClampNeg (1008673 : Int64)) (4 : Int32).toNatClampNeg (1008673 : Int64)) (5 : Int32).toNatClampNeg (1008673 : Int64), z.2.1, z.2.2.1, z.2.2.2.1, z.2.2.2.2.1, z.2.2.2.2.2)).2)).2)) else ((m_X0_putSpan (0 : Int32) (0 : Int32) (0 : Int32) (0 : Int32) (vp_updL (vp_updL (vp_updL (vp_updL (vp_updL z.1 (0 : Int32).toNatClampNeg (1008673 : Int64)) (1 : Int32).toNatClampNeg (1008673 : Int64)) (2 : Int32).toNatClampNeg (1008673 : Int64)) (4 : Int32).toNatClampNeg (1008673 : Int64)) (5 : Int32).toNatClampNeg (1008673 : Int64), z.2.1, z.2.2.1, z.2.2.2.1, z.2.2.2.2.1, z.2.2.2.2.2)).1, 0, (m_X0_putSpan (0 : Int32) (0 : Int32) (0 : Int32) (0 : Int32) (vp_updL (vp_updL (vp_updL (vp_updL (vp_updL z.1 (0 : Int32).toNatClampNeg (1008673 : Int64)) (1 : Int32).toNatClampNeg (1008673 : Int64)) (2 : Int32).toNatClampNeg (1008673 : Int64)) (4 : Int32).toNatClampNeg (1008673 : Int64)) (5 : Int32).toNatClampNeg (1008673 : Int64), z.2.1, z.2.2.1, z.2.2.2.1, z.2.2.2.2.1, z.2.2.2.2.2)).2)))) else (if lg_cmp ((vp_updL (vp_updL (vp_updL (vp_updL z.1 (0 : Int32).toNatClampNeg (1008673 : Int64)) (1 : Int32).toNatClampNeg (1008673 : Int64)) (2 : Int32).toNatClampNeg (1008673 : Int64)) (3 : Int32).toNatClampNeg (1008673 : Int64)) (4 : Int32).toNatClampNeg) (1008673 : Int64) = 0 then (if lg_cmp ((vp_updL (vp_updL (vp_updL (vp_updL z.1 (0 : Int32).toNatClampNeg (1008673 : Int64)) (1 : Int32).toNatClampNeg (1008673 : Int64)) (2 : Int32).toNatClampNeg (1008673 : Int64)) (3 : Int32).toNatClampNeg (1008673 : Int64)) (5 : Int32).toNatClampNeg) (1008673 : Int64) = 0 then (if (m_X0_putSpan (0 : Int32) (0 : Int32) (0 : Int32) (0 : Int32) (vp_updL (vp_updL (vp_updL (vp_updL z.1 (0 : Int32).toNatClampNeg (1008673 : Int64)) (1 : Int32).toNatClampNeg (1008673 : Int64)) (2 : Int32).toNatClampNeg (1008673 : Int64)) (3 : Int32).toNatClampNeg (1008673 : Int64), z.2.1, z.2.2.1, z.2.2.2.1, z.2.2.2.2.1, z.2.2.2.2.2)).1 = 0 then (if (m_X0_putSpan (1 : Int32) (0 : Int32) (0 : Int32) (0 : Int32) ((m_X0_putSpan (0 : Int32) (0 : Int32) (0 : Int32) (0 : Int32) (vp_updL (vp_updL (vp_updL (vp_updL z.1 (0 : Int32).toNatClampNeg (1008673 : Int64)) (1 : Int32).toNatClampNeg (1008673 : Int64)) (2 : Int32).toNatClampNeg (1008673 : Int64)) (3 : Int32).toNatClampNeg (1008673 : Int64), z.2.1, z.2.2.1, z.2.2.2.1, z.2.2.2.2.1, z.2.2.2.2.2)).2)).1 = 0 then (0, (4 : Int32), (m_X0_putSpan (1 : Int32) (0 : Int32) (0 : Int32) (0 : Int32) ((m_X0_putSpan (0 : Int32) (0 : Int32) (0 : Int32) (0 : Int32) (vp_updL (vp_updL (vp_updL (vp_updL z.1 (0 : Int32).toNatClampNeg (1008673 : Int64)) (1 : Int32).toNatClampNeg (1008673 : Int64)) (2 : Int32).toNatClampNeg (1008673 : Int64)) (3 : Int32).toNatClampNeg (1008673 : Int64), z.2.1, z.2.2.1, z.2.2.2.1, z.2.2.2.2.1, z.2.2.2.2.2)).2)).2) else ((m_X0_putSpan (1 : Int32) (0 : Int32) (0 : Int32) (0 : Int32) ((m_X0_putSpan (0 : Int32) (0 : Int32) (0 : Int32) (0 : Int32) (vp_updL (vp_updL (vp_updL (vp_updL z.1 (0 : Int32).toNatClampNeg (1008673 : Int64)) (1 : Int32).toNatClampNeg (1008673 : Int64)) (2 : Int32).toNatClampNeg (1008673 : Int64)) (3 : Int32).toNatClampNeg (1008673 : Int64), z.2.1, z.2.2.1, z.2.2.2.1, z.2.2.2.2.1, z.2.2.2.2.2)).2)).1, 0, (m_X0_putSpan (1 : Int32) (0 : Int32) (0 : Int32) (0 : Int32) ((m_X0_putSpan (0 : Int32) (0 : Int32) (0 : Int32) (0 : Int32) (vp_updL (vp_updL (vp_updL (vp_updL z.1 (0 : Int32).toNatClampNeg (1008673 : Int64)) (1 : Int32).toNatClampNeg (1008673 : Int64)) (2 : Int32).toNatClampNeg (1008673 : Int64)) (3 : Int32).toNatClampNeg (1008673 : Int64), z.2.1, z.2.2.1, z.2.2.2.1, z.2.2.2.2.1, z.2.2.2.2.2)).2)).2)) else ((m_X0_putSpan (0 : Int32) (0 : Int32) (0 : Int32) (0 : Int32) (vp_updL (vp_updL (vp_updL (vp_updL z.1 (0 : Int32).toNatClampNeg (1008673 : Int64)) (1 : Int32).toNatClampNeg (1008673 : Int64)) (2 : Int32).toNatClampNeg (1008673 : Int64)) (3 : Int32).toNatClampNeg (1008673 : Int64), z.2.1, z.2.2.1, z.2.2.2.1, z.2.2.2.2.1, z.2.2.2.2.2)).1, 0, (m_X0_putSpan (0 : Int32) (0 : Int32) (0 : Int32) (0 : Int32) (vp_updL (vp_updL (vp_updL (vp_updL z.1 (0 : Int32).toNatClampNeg (1008673 : Int64)) (1 : Int32).toNatClampNeg (1008673 : Int64)) (2 : Int32).toNatClampNeg (1008673 : Int64)) (3 : Int32).toNatClampNeg (1008673 : Int64), z.2.1, z.2.2.1, z.2.2.2.1, z.2.2.2.2.1, z.2.2.2.2.2)).2)) else (if (m_X0_putSpan (0 : Int32) (0 : Int32) (0 : Int32) (0 : Int32) (vp_updL (vp_updL (vp_updL (vp_updL (vp_updL z.1 (0 : Int32).toNatClampNeg (1008673 : Int64)) (1 : Int32).toNatClampNeg (1008673 : Int64)) (2 : Int32).toNatClampNeg (1008673 : Int64)) (3 : Int32).toNatClampNeg (1008673 : Int64)) (5 : Int32).toNatClampNeg (1008673 : Int64), z.2.1, z.2.2.1, z.2.2.2.1, z.2.2.2.2.1, z.2.2.2.2.2)).1 = 0 then (if (m_X0_putSpan (1 : Int32) (0 : Int32) (0 : Int32) (0 : Int32) ((m_X0_putSpan (0 : Int32) (0 : Int32) (0 : Int32) (0 : Int32) (vp_updL (vp_updL (vp_updL (vp_updL (vp_updL z.1 (0 : Int32).toNatClampNeg (1008673 : Int64)) (1 : Int32).toNatClampNeg (1008673 : Int64)) (2 : Int32).toNatClampNeg (1008673 : Int64)) (3 : Int32).toNatClampNeg (1008673 : Int64)) (5 : Int32).toNatClampNeg (1008673 : Int64), z.2.1, z.2.2.1, z.2.2.2.1, z.2.2.2.2.1, z.2.2.2.2.2)).2)).1 = 0 then (0, (5 : Int32), (m_X0_putSpan (1 : Int32) (0 : Int32) (0 : Int32) (0 : Int32) ((m_X0_putSpan (0 : Int32) (0 : Int32) (0 : Int32) (0 : Int32) (vp_updL (vp_updL (vp_updL (vp_updL (vp_updL z.1 (0 : Int32).toNatClampNeg (1008673 : Int64)) (1 : Int32).toNatClampNeg (1008673 : Int64)) (2 : Int32).toNatClampNeg (1008673 : Int64)) (3 : Int32).toNatClampNeg (1008673 : Int64)) (5 : Int32).toNatClampNeg (1008673 : Int64), z.2.1, z.2.2.1, z.2.2.2.1, z.2.2.2.2.1, z.2.2.2.2.2)).2)).2) else ((m_X0_putSpan (1 : Int32) (0 : Int32) (0 : Int32) (0 : Int32) ((m_X0_putSpan (0 : Int32) (0 : Int32) (0 : Int32) (0 : Int32) (vp_updL (vp_updL (vp_updL (vp_updL (vp_updL z.1 (0 : Int32).toNatClampNeg (1008673 : Int64)) (1 : Int32).toNatClampNeg (1008673 : Int64)) (2 : Int32).toNatClampNeg (1008673 : Int64)) (3 : Int32).toNatClampNeg (1008673 : Int64)) (5 : Int32).toNatClampNeg (1008673 : Int64), z.2.1, z.2.2.1, z.2.2.2.1, z.2.2.2.2.1, z.2.2.2.2.2)).2)).1, 0, (m_X0_putSpan (1 : Int32) (0 : Int32) (0 : Int32) (0 : Int32) ((m_X0_putSpan (0 : Int32) (0 : Int32) (0 : Int32) (0 : Int32) (vp_updL (vp_updL (vp_updL (vp_updL (vp_updL z.1 (0 : Int32).toNatClampNeg (1008673 : Int64)) (1 : Int32).toNatClampNeg (1008673 : Int64)) (2 : Int32).toNatClampNeg (1008673 : Int64)) (3 : Int32).toNatClampNeg (1008673 : Int64)) (5 : Int32).toNatClampNeg (1008673 : Int64), z.2.1, z.2.2.1, z.2.2.2.1, z.2.2.2.2.1, z.2.2.2.2.2)).2)).2)) else ((m_X0_putSpan (0 : Int32) (0 : Int32) (0 : Int32) (0 : Int32) (vp_updL (vp_updL (vp_updL (vp_updL (vp_updL z.1 (0 : Int32).toNatClampNeg (1008673 : Int64)) (1 : Int32).toNatClampNeg (1008673 : Int64)) (2 : Int32).toNatClampNeg (1008673 : Int64)) (3 : Int32).toNatClampNeg (1008673 : Int64)) (5 : Int32).toNatClampNeg (1008673 : Int64), z.2.1, z.2.2.1, z.2.2.2.1, z.2.2.2.2.1, z.2.2.2.2.2)).1, 0, (m_X0_putSpan (0 : Int32) (0 : Int32) (0 : Int32) (0 : Int32) (vp_updL (vp_updL (vp_updL (vp_updL (vp_updL z.1 (0 : Int32).toNatClampNeg (1008673 : Int64)) (1 : Int32).toNatClampNeg (1008673 : Int64)) (2 : Int32).toNatClampNeg (1008673 : Int64)) (3 : Int32).toNatClampNeg (1008673 : Int64)) (5 : Int32).toNatClampNeg (1008673 : Int64), z.2.1, z.2.2.1, z.2.2.2.1, z.2.2.2.2.1, z.2.2.2.2.2)).2))) else (if lg_cmp ((vp_updL (vp_updL (vp_updL (vp_updL (vp_updL z.1 (0 : Int32).toNatClampNeg (1008673 : Int64)) (1 : Int32).toNatClampNeg (1008673 : Int64)) (2 : Int32).toNatClampNeg (1008673 : Int64)) (3 : Int32).toNatClampNeg (1008673 : Int64)) (4 : Int32).toNatClampNeg (1008673 : Int64)) (5 : Int32).toNatClampNeg) (1008673 : Int64) = 0 then (if (m_X0_putSpan (0 : Int32) (0 : Int32) (0 : Int32) (0 : Int32) (vp_updL (vp_updL (vp_updL (vp_updL (vp_updL z.1 (0 : Int32).toNatClampNeg (1008673 : Int64)) (1 : Int32).toNatClampNeg (1008673 : Int64)) (2 : Int32).toNatClampNeg (1008673 : Int64)) (3 : Int32).toNatClampNeg (1008673 : Int64)) (4 : Int32).toNatClampNeg (1008673 : Int64), z.2.1, z.2.2.1, z.2.2.2.1, z.2.2.2.2.1, z.2.2.2.2.2)).1 = 0 then (if (m_X0_putSpan (1 : Int32) (0 : Int32) (0 : Int32) (0 : Int32) ((m_X0_putSpan (0 : Int32) (0 : Int32) (0 : Int32) (0 : Int32) (vp_updL (vp_updL (vp_updL (vp_updL (vp_updL z.1 (0 : Int32).toNatClampNeg (1008673 : Int64)) (1 : Int32).toNatClampNeg (1008673 : Int64)) (2 : Int32).toNatClampNeg (1008673 : Int64)) (3 : Int32).toNatClampNeg (1008673 : Int64)) (4 : Int32).toNatClampNeg (1008673 : Int64), z.2.1, z.2.2.1, z.2.2.2.1, z.2.2.2.2.1, z.2.2.2.2.2)).2)).1 = 0 then (0, (5 : Int32), (m_X0_putSpan (1 : Int32) (0 : Int32) (0 : Int32) (0 : Int32) ((m_X0_putSpan (0 : Int32) (0 : Int32) (0 : Int32) (0 : Int32) (vp_updL (vp_updL (vp_updL (vp_updL (vp_updL z.1 (0 : Int32).toNatClampNeg (1008673 : Int64)) (1 : Int32).toNatClampNeg (1008673 : Int64)) (2 : Int32).toNatClampNeg (1008673 : Int64)) (3 : Int32).toNatClampNeg (1008673 : Int64)) (4 : Int32).toNatClampNeg (1008673 : Int64), z.2.1, z.2.2.1, z.2.2.2.1, z.2.2.2.2.1, z.2.2.2.2.2)).2)).2) else ((m_X0_putSpan (1 : Int32) (0 : Int32) (0 : Int32) (0 : Int32) ((m_X0_putSpan (0 : Int32) (0 : Int32) (0 : Int32) (0 : Int32) (vp_updL (vp_updL (vp_updL (vp_updL (vp_updL z.1 (0 : Int32).toNatClampNeg (1008673 : Int64)) (1 : Int32).toNatClampNeg (1008673 : Int64)) (2 : Int32).toNatClampNeg (1008673 : Int64)) (3 : Int32).toNatClampNeg (1008673 : Int64)) (4 : Int32).toNatClampNeg (1008673 : Int64), z.2.1, z.2.2.1, z.2.2.2.1, z.2.2.2.2.1, z.2.2.2.2.2)).2)).1, 0, (m_X0_putSpan (1 : Int32) (0 : Int32) (0 : Int32) (0 : Int32) ((m_X0_putSpan (0 : Int32) (0 : Int32) (0 : Int32) (0 : Int32) (vp_updL (vp_updL (vp_updL (vp_updL (vp_updL z.1 (0 : Int32).toNatClampNeg (1008673 : Int64)) (1 : Int32).toNatClampNeg (1008673 : Int64)) (2 : Int32).toNatClampNeg (1008673 : Int64)) (3 : Int32).toNatClampNeg (1008673 : Int64)) (4 : Int32).toNatClampNeg (1008673 : Int64), z.2.1, z.2.2.1, z.2.2.2.1, z.2.2.2.2.1, z.2.2.2.2.2)).2)).2)) else ((m_X0_putSpan (0 : Int32) (0 : Int32) (0 : Int32) (0 : Int32) (vp_updL (vp_updL (vp_updL (vp_updL (vp_updL z.1 (0 : Int32).toNatClampNeg (1008673 : Int64)) (1 : Int32).toNatClampNeg (1008673 : Int64)) (2 : Int32).toNatClampNeg (1008673 : Int64)) (3 : Int32).toNatClampNeg (1008673 : Int64)) (4 : Int32).toNatClampNeg (1008673 : Int64), z.2.1, z.2.2.1, z.2.2.2.1, z.2.2.2.2.1, z.2.2.2.2.2)).1, 0, (m_X0_putSpan (0 : Int32) (0 : Int32) (0 : Int32) (0 : Int32) (vp_updL (vp_updL (vp_updL (vp_updL (vp_updL z.1 (0 : Int32).toNatClampNeg (1008673 : Int64)) (1 : Int32).toNatClampNeg (1008673 : Int64)) (2 : Int32).toNatClampNeg (1008673 : Int64)) (3 : Int32).toNatClampNeg (1008673 : Int64)) (4 : Int32).toNatClampNeg (1008673 : Int64), z.2.1, z.2.2.1, z.2.2.2.1, z.2.2.2.2.1, z.2.2.2.2.2)).2)) else (if (m_X0_putSpan (0 : Int32) (0 : Int32) (0 : Int32) (0 : Int32) (vp_updL (vp_updL (vp_updL (vp_updL (vp_updL (vp_updL z.1 (0 : Int32).toNatClampNeg (1008673 : Int64)) (1 : Int32).toNatClampNeg (1008673 : Int64)) (2 : Int32).toNatClampNeg (1008673 : Int64)) (3 : Int32).toNatClampNeg (1008673 : Int64)) (4 : Int32).toNatClampNeg (1008673 : Int64)) (5 : Int32).toNatClampNeg (1008673 : Int64), z.2.1, z.2.2.1, z.2.2.2.1, z.2.2.2.2.1, z.2.2.2.2.2)).1 = 0 then (if (m_X0_putSpan (1 : Int32) (0 : Int32) (0 : Int32) (0 : Int32) ((m_X0_putSpan (0 : Int32) (0 : Int32) (0 : Int32) (0 : Int32) (vp_updL (vp_updL (vp_updL (vp_updL (vp_updL (vp_updL z.1 (0 : Int32).toNatClampNeg (1008673 : Int64)) (1 : Int32).toNatClampNeg (1008673 : Int64)) (2 : Int32).toNatClampNeg (1008673 : Int64)) (3 : Int32).toNatClampNeg (1008673 : Int64)) (4 : Int32).toNatClampNeg (1008673 : Int64)) (5 : Int32).toNatClampNeg (1008673 : Int64), z.2.1, z.2.2.1, z.2.2.2.1, z.2.2.2.2.1, z.2.2.2.2.2)).2)).1 = 0 then (0, (6 : Int32), (m_X0_putSpan (1 : Int32) (0 : Int32) (0 : Int32) (0 : Int32) ((m_X0_putSpan (0 : Int32) (0 : Int32) (0 : Int32) (0 : Int32) (vp_updL (vp_updL (vp_updL (vp_updL (vp_updL (vp_updL z.1 (0 : Int32).toNatClampNeg (1008673 : Int64)) (1 : Int32).toNatClampNeg (1008673 : Int64)) (2 : Int32).toNatClampNeg (1008673 : Int64)) (3 : Int32).toNatClampNeg (1008673 : Int64)) (4 : Int32).toNatClampNeg (1008673 : Int64)) (5 : Int32).toNatClampNeg (1008673 : Int64), z.2.1, z.2.2.1, z.2.2.2.1, z.2.2.2.2.1, z.2.2.2.2.2)).2)).2) else ((m_X0_putSpan (1 : Int32) (0 : Int32) (0 : Int32) (0 : Int32) ((m_X0_putSpan (0 : Int32) (0 : Int32) (0 : Int32) (0 : Int32) (vp_updL (vp_updL (vp_updL (vp_updL (vp_updL (vp_updL z.1 (0 : Int32).toNatClampNeg (1008673 : Int64)) (1 : Int32).toNatClampNeg (1008673 : Int64)) (2 : Int32).toNatClampNeg (1008673 : Int64)) (3 : Int32).toNatClampNeg (1008673 : Int64)) (4 : Int32).toNatClampNeg (1008673 : Int64)) (5 : Int32).toNatClampNeg (1008673 : Int64), z.2.1, z.2.2.1, z.2.2.2.1, z.2.2.2.2.1, z.2.2.2.2.2)).2)).1, 0, (m_X0_putSpan (1 : Int32) (0 : Int32) (0 : Int32) (0 : Int32) ((m_X0_putSpan (0 : Int32) (0 : Int32) (0 : Int32) (0 : Int32) (vp_updL (vp_updL (vp_updL (vp_updL (vp_updL (vp_updL z.1 (0 : Int32).toNatClampNeg (1008673 : Int64)) (1 : Int32).toNatClampNeg (1008673 : Int64)) (2 : Int32).toNatClampNeg (1008673 : Int64)) (3 : Int32).toNatClampNeg (1008673 : Int64)) (4 : Int32).toNatClampNeg (1008673 : Int64)) (5 : Int32).toNatClampNeg (1008673 : Int64), z.2.1, z.2.2.1, z.2.2.2.1, z.2.2.2.2.1, z.2.2.2.2.2)).2)).2)) else ((m_X0_putSpan (0 : Int32) (0 : Int32) (0 : Int32) (0 : Int32) (vp_updL (vp_updL (vp_updL (vp_updL (vp_updL (vp_updL z.1 (0 : Int32).toNatClampNeg (1008673 : Int64)) (1 : Int32).toNatClampNeg (1008673 : Int64)) (2 : Int32).toNatClampNeg (1008673 : Int64)) (3 : Int32).toNatClampNeg (1008673 : Int64)) (4 : Int32).toNatClampNeg (1008673 : Int64)) (5 : Int32).toNatClampNeg (1008673 : Int64), z.2.1, z.2.2.1, z.2.2.2.1, z.2.2.2.2.1, z.2.2.2.2.2)).1, 0, (m_X0_putSpan (0 : Int32) (0 : Int32) (0 : Int32) (0 : Int32) (vp_updL (vp_updL (vp_updL (vp_updL (vp_updL (vp_updL z.1 (0 : Int32).toNatClampNeg (1008673 : Int64)) (1 : Int32).toNatClampNeg (1008673 : Int64)) (2 : Int32).toNatClampNeg (1008673 : Int64)) (3 : Int32).toNatClampNeg (1008673 : Int64)) (4 : Int32).toNatClampNeg (1008673 : Int64)) (5 : Int32).toNatClampNeg (1008673 : Int64), z.2.1, z.2.2.1, z.2.2.2.1, z.2.2.2.2.1, z.2.2.2.2.2)).2))))))))
theorem kk_X0_reset : pK yX0_reset wsX0_reset cX0_reset 3 (some .int) 0 := ⟨⟨_, rfl⟩, by decide +kernel, by decide +kernel, by decide +kernel⟩
set_option maxRecDepth 100000 in
set_option maxHeartbeats 4000000 in
theorem c_X0_reset (l : Launch) (hl9 : l.stackTraces = false) (k : Kx) (a : CA) (hD : cD k a)  (z : CS) : cM l k a yX0_reset wsX0_reset 8 164 2 12 [] z (some (.int (m_X0_reset z).2.1)) (m_X0_reset z).1 (m_X0_reset z).2.2 := by
  intro sz
  refine vx_ofW (cc := cX0_reset) (maxL := 3) (ret := (some .int)) (by decide) rfl ?_
  intro p e s m args below meth c s₁ B hml hEx hv
  obtain ⟨rfl, rfl, hGx, hP⟩ := hv
  have hx := B.exec
  have hb := B.bytes
  have hr := B.returns
  have hts := atoms_spec (ws := wsX0_reset) B.pre
  have hown : s.vm.findClass RX0 = some m.cls := findClass_of_methodNamed B.named
  have hlocks := B.notSynchronized
  have htg : ∀ w ∈ GL, w.before _ s = true := fun w h => hts w (List.mem_cons_of_mem _ h)
  have hC : CallFix p m c cX0_reset 3 s _ wsX0_reset RX0 := ⟨hx, hb, hml, hown, hts⟩
  have hS : va_S (cA a s.heap.size) s.heap s.heap [] := va_S.rf
  have hl := lv_entry ([.ref a.1]) (n := 3) (Nat.le_of_ble_eq_true rfl)
  rw [lg_entry_eq]
  generalize (lg_sl ([.ref a.1]) ++ List.replicate (3 - (lg_sl ([.ref a.1])).length) Slot.unset).toArray = ls at hl ⊢
  have hl : lv_has ls 3 [(0, .ref a.1)] := hl
  have hm : m_X0_reset z = m_X0_reset z := rfl
  refine lv_iconst (v := 0) hx hb dX0_reset_0 (by decide) ?_
  refine lv_istore_n (lv' := [(1, .int (0 : Int32)), (0, .ref a.1)]) hx hb dX0_reset_1 rfl hl (by decide) rfl (fun ls hl => ?_)
  refine lv_iconst (v := 0) hx hb dX0_reset_2 (by decide) ?_
  refine lv_istore_n (lv' := [(2, .int (0 : Int32)), (1, .int (0 : Int32)), (0, .ref a.1)]) hx hb dX0_reset_3 rfl hl (by decide) rfl (fun ls hl => ?_)
  refine lv_iload_n hx hb dX0_reset_4 rfl (lv_at hl 0 rfl) ?_
  refine lv_aload_n hx hb dX0_reset_5 rfl (lv_at hl 2 rfl) ?_
  refine va_get (D := kD k) (ci := 2) (v := .ref a.2.1) (C := RX0) (T := TX0) (N := 6) hx hb htg inG_X0 hown hGx.1 hP 0 rfl rfl 0 (by decide) (htg _ w_57) (fun _ h9 => h9) rfl dX0_reset_6 ?_
  refine va_alen (D := kD k) (v := 6) hx hb hGx.1 hP 1 0 rfl rfl (show Int32.ofNat 6 = 6 by decide) dX0_reset_9 ?_
  refine lv_icmp_ge (tgt := 44) hx hb dX0_reset_10 (by decide) (fun h => absurd h (by decide)) (fun _ => ?_)
  refine lv_aload_n hx hb dX0_reset_13 rfl (lv_at hl 2 rfl) ?_
  refine va_get (D := kD k) (ci := 2) (v := .ref a.2.1) (C := RX0) (T := TX0) (N := 6) hx hb htg inG_X0 hown hGx.1 hP 0 rfl rfl 0 (by decide) (htg _ w_57) (fun _ h9 => h9) rfl dX0_reset_14 ?_
  refine lv_iload_n hx hb dX0_reset_17 rfl (lv_at hl 0 rfl) ?_
  refine va_lald (D := kD k) hx hb hGx.1 hP 1 0 rfl rfl (show ¬ ((0 : Int32) < 0 ∨ 6 ≤ ((0 : Int32)).toNatClampNeg) by decide) dX0_reset_18 ?_
  refine lv_ldc2 hx hb hown (htg _ w_56) dX0_reset_19 ?_
  refine W.lcmp hx hb dX0_reset_22 ?_
  refine lv_if_eq (tgt := 38) hx hb dX0_reset_23 (by decide) (fun h_1 => ?_) (fun h_1 => ?_)
  · have hm := hm.trans (if_pos h_1)
    refine lv_iinc (v := (1 : Int32)) (lv' := [(2, .int (1 : Int32)), (1, .int (0 : Int32)), (0, .ref a.1)]) hx hb dX0_reset_38 hl (k := 0) rfl (by decide) (by decide) rfl (fun ls hl => ?_)
    refine lv_goto (tgt := 4) hx hb dX0_reset_41 (by decide) ?_
    refine lv_iload_n hx hb dX0_reset_4 rfl (lv_at hl 0 rfl) ?_
    refine lv_aload_n hx hb dX0_reset_5 rfl (lv_at hl 2 rfl) ?_
    refine va_get (D := kD k) (ci := 2) (v := .ref a.2.1) (C := RX0) (T := TX0) (N := 6) hx hb htg inG_X0 hown hGx.1 hP 0 rfl rfl 0 (by decide) (htg _ w_57) (fun _ h9 => h9) rfl dX0_reset_6 ?_
    refine va_alen (D := kD k) (v := 6) hx hb hGx.1 hP 1 0 rfl rfl (show Int32.ofNat 6 = 6 by decide) dX0_reset_9 ?_
    refine lv_icmp_ge (tgt := 44) hx hb dX0_reset_10 (by decide) (fun h => absurd h (by decide)) (fun _ => ?_)
    refine lv_aload_n hx hb dX0_reset_13 rfl (lv_at hl 2 rfl) ?_
    refine va_get (D := kD k) (ci := 2) (v := .ref a.2.1) (C := RX0) (T := TX0) (N := 6) hx hb htg inG_X0 hown hGx.1 hP 0 rfl rfl 0 (by decide) (htg _ w_57) (fun _ h9 => h9) rfl dX0_reset_14 ?_
    refine lv_iload_n hx hb dX0_reset_17 rfl (lv_at hl 0 rfl) ?_
    refine va_lald (D := kD k) hx hb hGx.1 hP 1 0 rfl rfl (show ¬ ((1 : Int32) < 0 ∨ 6 ≤ ((1 : Int32)).toNatClampNeg) by decide) dX0_reset_18 ?_
    refine lv_ldc2 hx hb hown (htg _ w_56) dX0_reset_19 ?_
    refine W.lcmp hx hb dX0_reset_22 ?_
    refine lv_if_eq (tgt := 38) hx hb dX0_reset_23 (by decide) (fun h_2 => ?_) (fun h_2 => ?_)
    · have hm := hm.trans (if_pos h_2)
      refine lv_iinc (v := (2 : Int32)) (lv' := [(2, .int (2 : Int32)), (1, .int (0 : Int32)), (0, .ref a.1)]) hx hb dX0_reset_38 hl (k := 0) rfl (by decide) (by decide) rfl (fun ls hl => ?_)
      refine lv_goto (tgt := 4) hx hb dX0_reset_41 (by decide) ?_
      refine lv_iload_n hx hb dX0_reset_4 rfl (lv_at hl 0 rfl) ?_
      refine lv_aload_n hx hb dX0_reset_5 rfl (lv_at hl 2 rfl) ?_
      refine va_get (D := kD k) (ci := 2) (v := .ref a.2.1) (C := RX0) (T := TX0) (N := 6) hx hb htg inG_X0 hown hGx.1 hP 0 rfl rfl 0 (by decide) (htg _ w_57) (fun _ h9 => h9) rfl dX0_reset_6 ?_
      refine va_alen (D := kD k) (v := 6) hx hb hGx.1 hP 1 0 rfl rfl (show Int32.ofNat 6 = 6 by decide) dX0_reset_9 ?_
      refine lv_icmp_ge (tgt := 44) hx hb dX0_reset_10 (by decide) (fun h => absurd h (by decide)) (fun _ => ?_)
      refine lv_aload_n hx hb dX0_reset_13 rfl (lv_at hl 2 rfl) ?_
      refine va_get (D := kD k) (ci := 2) (v := .ref a.2.1) (C := RX0) (T := TX0) (N := 6) hx hb htg inG_X0 hown hGx.1 hP 0 rfl rfl 0 (by decide) (htg _ w_57) (fun _ h9 => h9) rfl dX0_reset_14 ?_
      refine lv_iload_n hx hb dX0_reset_17 rfl (lv_at hl 0 rfl) ?_
      refine va_lald (D := kD k) hx hb hGx.1 hP 1 0 rfl rfl (show ¬ ((2 : Int32) < 0 ∨ 6 ≤ ((2 : Int32)).toNatClampNeg) by decide) dX0_reset_18 ?_
      refine lv_ldc2 hx hb hown (htg _ w_56) dX0_reset_19 ?_
      refine W.lcmp hx hb dX0_reset_22 ?_
      refine lv_if_eq (tgt := 38) hx hb dX0_reset_23 (by decide) (fun h_3 => ?_) (fun h_3 => ?_)
      · have hm := hm.trans (if_pos h_3)
        refine lv_iinc (v := (3 : Int32)) (lv' := [(2, .int (3 : Int32)), (1, .int (0 : Int32)), (0, .ref a.1)]) hx hb dX0_reset_38 hl (k := 0) rfl (by decide) (by decide) rfl (fun ls hl => ?_)
        refine lv_goto (tgt := 4) hx hb dX0_reset_41 (by decide) ?_
        refine lv_iload_n hx hb dX0_reset_4 rfl (lv_at hl 0 rfl) ?_
        refine lv_aload_n hx hb dX0_reset_5 rfl (lv_at hl 2 rfl) ?_
        refine va_get (D := kD k) (ci := 2) (v := .ref a.2.1) (C := RX0) (T := TX0) (N := 6) hx hb htg inG_X0 hown hGx.1 hP 0 rfl rfl 0 (by decide) (htg _ w_57) (fun _ h9 => h9) rfl dX0_reset_6 ?_
        refine va_alen (D := kD k) (v := 6) hx hb hGx.1 hP 1 0 rfl rfl (show Int32.ofNat 6 = 6 by decide) dX0_reset_9 ?_
        refine lv_icmp_ge (tgt := 44) hx hb dX0_reset_10 (by decide) (fun h => absurd h (by decide)) (fun _ => ?_)
        refine lv_aload_n hx hb dX0_reset_13 rfl (lv_at hl 2 rfl) ?_
        refine va_get (D := kD k) (ci := 2) (v := .ref a.2.1) (C := RX0) (T := TX0) (N := 6) hx hb htg inG_X0 hown hGx.1 hP 0 rfl rfl 0 (by decide) (htg _ w_57) (fun _ h9 => h9) rfl dX0_reset_14 ?_
        refine lv_iload_n hx hb dX0_reset_17 rfl (lv_at hl 0 rfl) ?_
        refine va_lald (D := kD k) hx hb hGx.1 hP 1 0 rfl rfl (show ¬ ((3 : Int32) < 0 ∨ 6 ≤ ((3 : Int32)).toNatClampNeg) by decide) dX0_reset_18 ?_
        refine lv_ldc2 hx hb hown (htg _ w_56) dX0_reset_19 ?_
        refine W.lcmp hx hb dX0_reset_22 ?_
        refine lv_if_eq (tgt := 38) hx hb dX0_reset_23 (by decide) (fun h_4 => ?_) (fun h_4 => ?_)
        · have hm := hm.trans (if_pos h_4)
          refine lv_iinc (v := (4 : Int32)) (lv' := [(2, .int (4 : Int32)), (1, .int (0 : Int32)), (0, .ref a.1)]) hx hb dX0_reset_38 hl (k := 0) rfl (by decide) (by decide) rfl (fun ls hl => ?_)
          refine lv_goto (tgt := 4) hx hb dX0_reset_41 (by decide) ?_
          refine lv_iload_n hx hb dX0_reset_4 rfl (lv_at hl 0 rfl) ?_
          refine lv_aload_n hx hb dX0_reset_5 rfl (lv_at hl 2 rfl) ?_
          refine va_get (D := kD k) (ci := 2) (v := .ref a.2.1) (C := RX0) (T := TX0) (N := 6) hx hb htg inG_X0 hown hGx.1 hP 0 rfl rfl 0 (by decide) (htg _ w_57) (fun _ h9 => h9) rfl dX0_reset_6 ?_
          refine va_alen (D := kD k) (v := 6) hx hb hGx.1 hP 1 0 rfl rfl (show Int32.ofNat 6 = 6 by decide) dX0_reset_9 ?_
          refine lv_icmp_ge (tgt := 44) hx hb dX0_reset_10 (by decide) (fun h => absurd h (by decide)) (fun _ => ?_)
          refine lv_aload_n hx hb dX0_reset_13 rfl (lv_at hl 2 rfl) ?_
          refine va_get (D := kD k) (ci := 2) (v := .ref a.2.1) (C := RX0) (T := TX0) (N := 6) hx hb htg inG_X0 hown hGx.1 hP 0 rfl rfl 0 (by decide) (htg _ w_57) (fun _ h9 => h9) rfl dX0_reset_14 ?_
          refine lv_iload_n hx hb dX0_reset_17 rfl (lv_at hl 0 rfl) ?_
          refine va_lald (D := kD k) hx hb hGx.1 hP 1 0 rfl rfl (show ¬ ((4 : Int32) < 0 ∨ 6 ≤ ((4 : Int32)).toNatClampNeg) by decide) dX0_reset_18 ?_
          refine lv_ldc2 hx hb hown (htg _ w_56) dX0_reset_19 ?_
          refine W.lcmp hx hb dX0_reset_22 ?_
          refine lv_if_eq (tgt := 38) hx hb dX0_reset_23 (by decide) (fun h_5 => ?_) (fun h_5 => ?_)
          · have hm := hm.trans (if_pos h_5)
            refine lv_iinc (v := (5 : Int32)) (lv' := [(2, .int (5 : Int32)), (1, .int (0 : Int32)), (0, .ref a.1)]) hx hb dX0_reset_38 hl (k := 0) rfl (by decide) (by decide) rfl (fun ls hl => ?_)
            refine lv_goto (tgt := 4) hx hb dX0_reset_41 (by decide) ?_
            refine lv_iload_n hx hb dX0_reset_4 rfl (lv_at hl 0 rfl) ?_
            refine lv_aload_n hx hb dX0_reset_5 rfl (lv_at hl 2 rfl) ?_
            refine va_get (D := kD k) (ci := 2) (v := .ref a.2.1) (C := RX0) (T := TX0) (N := 6) hx hb htg inG_X0 hown hGx.1 hP 0 rfl rfl 0 (by decide) (htg _ w_57) (fun _ h9 => h9) rfl dX0_reset_6 ?_
            refine va_alen (D := kD k) (v := 6) hx hb hGx.1 hP 1 0 rfl rfl (show Int32.ofNat 6 = 6 by decide) dX0_reset_9 ?_
            refine lv_icmp_ge (tgt := 44) hx hb dX0_reset_10 (by decide) (fun h => absurd h (by decide)) (fun _ => ?_)
            refine lv_aload_n hx hb dX0_reset_13 rfl (lv_at hl 2 rfl) ?_
            refine va_get (D := kD k) (ci := 2) (v := .ref a.2.1) (C := RX0) (T := TX0) (N := 6) hx hb htg inG_X0 hown hGx.1 hP 0 rfl rfl 0 (by decide) (htg _ w_57) (fun _ h9 => h9) rfl dX0_reset_14 ?_
            refine lv_iload_n hx hb dX0_reset_17 rfl (lv_at hl 0 rfl) ?_
            refine va_lald (D := kD k) hx hb hGx.1 hP 1 0 rfl rfl (show ¬ ((5 : Int32) < 0 ∨ 6 ≤ ((5 : Int32)).toNatClampNeg) by decide) dX0_reset_18 ?_
            refine lv_ldc2 hx hb hown (htg _ w_56) dX0_reset_19 ?_
            refine W.lcmp hx hb dX0_reset_22 ?_
            refine lv_if_eq (tgt := 38) hx hb dX0_reset_23 (by decide) (fun h_6 => ?_) (fun h_6 => ?_)
            · have hm := hm.trans (if_pos h_6)
              refine lv_iinc (v := (6 : Int32)) (lv' := [(2, .int (6 : Int32)), (1, .int (0 : Int32)), (0, .ref a.1)]) hx hb dX0_reset_38 hl (k := 0) rfl (by decide) (by decide) rfl (fun ls hl => ?_)
              refine lv_goto (tgt := 4) hx hb dX0_reset_41 (by decide) ?_
              refine lv_iload_n hx hb dX0_reset_4 rfl (lv_at hl 0 rfl) ?_
              refine lv_aload_n hx hb dX0_reset_5 rfl (lv_at hl 2 rfl) ?_
              refine va_get (D := kD k) (ci := 2) (v := .ref a.2.1) (C := RX0) (T := TX0) (N := 6) hx hb htg inG_X0 hown hGx.1 hP 0 rfl rfl 0 (by decide) (htg _ w_57) (fun _ h9 => h9) rfl dX0_reset_6 ?_
              refine va_alen (D := kD k) (v := 6) hx hb hGx.1 hP 1 0 rfl rfl (show Int32.ofNat 6 = 6 by decide) dX0_reset_9 ?_
              refine lv_icmp_ge (tgt := 44) hx hb dX0_reset_10 (by decide) (fun _ => ?_) (fun h => absurd h (by decide))
              refine lv_iconst (v := 0) hx hb dX0_reset_44 (by decide) ?_
              refine lv_istore_n (lv' := [(2, .int (0 : Int32)), (1, .int (0 : Int32)), (0, .ref a.1)]) hx hb dX0_reset_45 rfl hl (by decide) rfl (fun ls hl => ?_)
              refine lv_iload_n hx hb dX0_reset_46 rfl (lv_at hl 0 rfl) ?_
              refine lv_iconst (v := 2) hx hb dX0_reset_47 (by decide) ?_
              refine lv_icmp_ge (tgt := 65) hx hb dX0_reset_48 (by decide) (fun h => absurd h (by decide)) (fun _ => ?_)
              refine lv_aload_n hx hb dX0_reset_51 rfl (lv_at hl 2 rfl) ?_
              refine lv_iload_n hx hb dX0_reset_52 rfl (lv_at hl 0 rfl) ?_
              refine lv_iconst (v := 0) hx hb dX0_reset_53 (by decide) ?_
              refine lv_iconst (v := 0) hx hb dX0_reset_54 (by decide) ?_
              refine lv_iconst (v := 0) hx hb dX0_reset_55 (by decide) ?_
              refine cc_V hC hGx hD hEx hlocks (c_X0_putSpan l hl9 k a hD (0 : Int32) (0 : Int32) (0 : Int32) (0 : Int32) z) (gV w_82 w_83 w_6 w_26 w_84) kk_X0_putSpan rfl ⟨Nat.le_of_ble_eq_true rfl, Nat.le_of_ble_eq_true rfl⟩ ⟨Nat.le_of_ble_eq_true rfl, Nat.le_of_ble_eq_true rfl⟩ ⟨Nat.le_of_ble_eq_true rfl, Nat.le_of_ble_eq_true rfl⟩ hP hS hl.1 rfl rfl (Nat.le_of_ble_eq_true rfl) dX0_reset_56 (fun h_7 => ?_) (fun h_7 H locs hP hS => ?_)
              · have hm : m_X0_reset z = ((m_X0_putSpan (0 : Int32) (0 : Int32) (0 : Int32) (0 : Int32) z).1, 0, (m_X0_putSpan (0 : Int32) (0 : Int32) (0 : Int32) (0 : Int32) z).2) := hm.trans (if_neg h_7)
                exact ⟨by rw [hm], by rw [hm]⟩
              · have hm := hm.trans (if_pos h_7)
                refine lv_iinc (v := (1 : Int32)) (lv' := [(2, .int (1 : Int32)), (1, .int (0 : Int32)), (0, .ref a.1)]) hx hb dX0_reset_59 hl (k := 0) rfl (by decide) (by decide) rfl (fun ls hl => ?_)
                refine lv_goto (tgt := 46) hx hb dX0_reset_62 (by decide) ?_
                refine lv_iload_n hx hb dX0_reset_46 rfl (lv_at hl 0 rfl) ?_
                refine lv_iconst (v := 2) hx hb dX0_reset_47 (by decide) ?_
                refine lv_icmp_ge (tgt := 65) hx hb dX0_reset_48 (by decide) (fun h => absurd h (by decide)) (fun _ => ?_)
                refine lv_aload_n hx hb dX0_reset_51 rfl (lv_at hl 2 rfl) ?_
                refine lv_iload_n hx hb dX0_reset_52 rfl (lv_at hl 0 rfl) ?_
                refine lv_iconst (v := 0) hx hb dX0_reset_53 (by decide) ?_
                refine lv_iconst (v := 0) hx hb dX0_reset_54 (by decide) ?_
                refine lv_iconst (v := 0) hx hb dX0_reset_55 (by decide) ?_
                refine cc_V hC hGx hD hEx hlocks (c_X0_putSpan l hl9 k a hD (1 : Int32) (0 : Int32) (0 : Int32) (0 : Int32) ((m_X0_putSpan (0 : Int32) (0 : Int32) (0 : Int32) (0 : Int32) z).2)) (gV w_82 w_83 w_6 w_26 w_84) kk_X0_putSpan rfl ⟨Nat.le_of_ble_eq_true rfl, Nat.le_of_ble_eq_true rfl⟩ ⟨Nat.le_of_ble_eq_true rfl, Nat.le_of_ble_eq_true rfl⟩ ⟨Nat.le_of_ble_eq_true rfl, Nat.le_of_ble_eq_true rfl⟩ hP hS hl.1 rfl rfl (Nat.le_of_ble_eq_true rfl) dX0_reset_56 (fun h_8 => ?_) (fun h_8 H locs hP hS => ?_)
                · have hm : m_X0_reset z = ((m_X0_putSpan (1 : Int32) (0 : Int32) (0 : Int32) (0 : Int32) ((m_X0_putSpan (0 : Int32) (0 : Int32) (0 : Int32) (0 : Int32) z).2)).1, 0, (m_X0_putSpan (1 : Int32) (0 : Int32) (0 : Int32) (0 : Int32) ((m_X0_putSpan (0 : Int32) (0 : Int32) (0 : Int32) (0 : Int32) z).2)).2) := hm.trans (if_neg h_8)
                  exact ⟨by rw [hm], by rw [hm]⟩
                · have hm := hm.trans (if_pos h_8)
                  refine lv_iinc (v := (2 : Int32)) (lv' := [(2, .int (2 : Int32)), (1, .int (0 : Int32)), (0, .ref a.1)]) hx hb dX0_reset_59 hl (k := 0) rfl (by decide) (by decide) rfl (fun ls hl => ?_)
                  refine lv_goto (tgt := 46) hx hb dX0_reset_62 (by decide) ?_
                  refine lv_iload_n hx hb dX0_reset_46 rfl (lv_at hl 0 rfl) ?_
                  refine lv_iconst (v := 2) hx hb dX0_reset_47 (by decide) ?_
                  refine lv_icmp_ge (tgt := 65) hx hb dX0_reset_48 (by decide) (fun _ => ?_) (fun h => absurd h (by decide))
                  refine lv_iload_n hx hb dX0_reset_65 rfl (lv_at hl 1 rfl) ?_
                  have hm : m_X0_reset z = (0, (0 : Int32), (m_X0_putSpan (1 : Int32) (0 : Int32) (0 : Int32) (0 : Int32) ((m_X0_putSpan (0 : Int32) (0 : Int32) (0 : Int32) (0 : Int32) z).2)).2) := hm
                  exact c_iret (E := (0 : Int32)) hx hb hr hlocks (by rw [hm]) (by rw [hm]) (by rw [hm]) hP hS ⟨Nat.le_of_ble_eq_true rfl, Nat.le_of_ble_eq_true rfl⟩ dX0_reset_66
            · have hm := hm.trans (if_neg h_6)
              refine lv_iinc (v := (1 : Int32)) (lv' := [(1, .int (1 : Int32)), (2, .int (5 : Int32)), (0, .ref a.1)]) hx hb dX0_reset_26 hl (k := 1) rfl (by decide) (by decide) rfl (fun ls hl => ?_)
              refine lv_aload_n hx hb dX0_reset_29 rfl (lv_at hl 2 rfl) ?_
              refine va_get (D := kD k) (ci := 2) (v := .ref a.2.1) (C := RX0) (T := TX0) (N := 6) hx hb htg inG_X0 hown hGx.1 hP 0 rfl rfl 0 (by decide) (htg _ w_57) (fun _ h9 => h9) rfl dX0_reset_30 ?_
              refine lv_iload_n hx hb dX0_reset_33 rfl (lv_at hl 1 rfl) ?_
              refine lv_ldc2 hx hb hown (htg _ w_56) dX0_reset_34 ?_
              refine va_last (D := kD k) hx hb hGx.1 hP (hD.own _ _) hS 1 0 rfl rfl (show ¬ ((5 : Int32) < 0 ∨ 6 ≤ ((5 : Int32)).toNatClampNeg) by decide) dX0_reset_37 (fun H locs hP1 _ hS => ?_)
              have hP : va_P (kD k) vwCl (cW k a (vp_updL z.1 (5 : Int32).toNatClampNeg (1008673 : Int64), z.2.1, z.2.2.1, z.2.2.2.1, z.2.2.2.2.1, z.2.2.2.2.2)) H := hP1
              refine lv_iinc (v := (6 : Int32)) (lv' := [(2, .int (6 : Int32)), (1, .int (1 : Int32)), (0, .ref a.1)]) hx hb dX0_reset_38 hl (k := 1) rfl (by decide) (by decide) rfl (fun ls hl => ?_)
              refine lv_goto (tgt := 4) hx hb dX0_reset_41 (by decide) ?_
              refine lv_iload_n hx hb dX0_reset_4 rfl (lv_at hl 0 rfl) ?_
              refine lv_aload_n hx hb dX0_reset_5 rfl (lv_at hl 2 rfl) ?_
              refine va_get (D := kD k) (ci := 2) (v := .ref a.2.1) (C := RX0) (T := TX0) (N := 6) hx hb htg inG_X0 hown hGx.1 hP 0 rfl rfl 0 (by decide) (htg _ w_57) (fun _ h9 => h9) rfl dX0_reset_6 ?_
              refine va_alen (D := kD k) (v := 6) hx hb hGx.1 hP 1 0 rfl rfl (show Int32.ofNat 6 = 6 by decide) dX0_reset_9 ?_
              refine lv_icmp_ge (tgt := 44) hx hb dX0_reset_10 (by decide) (fun _ => ?_) (fun h => absurd h (by decide))
              refine lv_iconst (v := 0) hx hb dX0_reset_44 (by decide) ?_
              refine lv_istore_n (lv' := [(2, .int (0 : Int32)), (1, .int (1 : Int32)), (0, .ref a.1)]) hx hb dX0_reset_45 rfl hl (by decide) rfl (fun ls hl => ?_)
              refine lv_iload_n hx hb dX0_reset_46 rfl (lv_at hl 0 rfl) ?_
              refine lv_iconst (v := 2) hx hb dX0_reset_47 (by decide) ?_
              refine lv_icmp_ge (tgt := 65) hx hb dX0_reset_48 (by decide) (fun h => absurd h (by decide)) (fun _ => ?_)
              refine lv_aload_n hx hb dX0_reset_51 rfl (lv_at hl 2 rfl) ?_
              refine lv_iload_n hx hb dX0_reset_52 rfl (lv_at hl 0 rfl) ?_
              refine lv_iconst (v := 0) hx hb dX0_reset_53 (by decide) ?_
              refine lv_iconst (v := 0) hx hb dX0_reset_54 (by decide) ?_
              refine lv_iconst (v := 0) hx hb dX0_reset_55 (by decide) ?_
              refine cc_V hC hGx hD hEx hlocks (c_X0_putSpan l hl9 k a hD (0 : Int32) (0 : Int32) (0 : Int32) (0 : Int32) (vp_updL z.1 (5 : Int32).toNatClampNeg (1008673 : Int64), z.2.1, z.2.2.1, z.2.2.2.1, z.2.2.2.2.1, z.2.2.2.2.2)) (gV w_82 w_83 w_6 w_26 w_84) kk_X0_putSpan rfl ⟨Nat.le_of_ble_eq_true rfl, Nat.le_of_ble_eq_true rfl⟩ ⟨Nat.le_of_ble_eq_true rfl, Nat.le_of_ble_eq_true rfl⟩ ⟨Nat.le_of_ble_eq_true rfl, Nat.le_of_ble_eq_true rfl⟩ hP hS hl.1 rfl rfl (Nat.le_of_ble_eq_true rfl) dX0_reset_56 (fun h_9 => ?_) (fun h_9 H locs hP hS => ?_)
              · have hm : m_X0_reset z = ((m_X0_putSpan (0 : Int32) (0 : Int32) (0 : Int32) (0 : Int32) (vp_updL z.1 (5 : Int32).toNatClampNeg (1008673 : Int64), z.2.1, z.2.2.1, z.2.2.2.1, z.2.2.2.2.1, z.2.2.2.2.2)).1, 0, (m_X0_putSpan (0 : Int32) (0 : Int32) (0 : Int32) (0 : Int32) (vp_updL z.1 (5 : Int32).toNatClampNeg (1008673 : Int64), z.2.1, z.2.2.1, z.2.2.2.1, z.2.2.2.2.1, z.2.2.2.2.2)).2) := hm.trans (if_neg h_9)
                exact ⟨by rw [hm], by rw [hm]⟩
              · have hm := hm.trans (if_pos h_9)
                refine lv_iinc (v := (1 : Int32)) (lv' := [(2, .int (1 : Int32)), (1, .int (1 : Int32)), (0, .ref a.1)]) hx hb dX0_reset_59 hl (k := 0) rfl (by decide) (by decide) rfl (fun ls hl => ?_)
                refine lv_goto (tgt := 46) hx hb dX0_reset_62 (by decide) ?_
                refine lv_iload_n hx hb dX0_reset_46 rfl (lv_at hl 0 rfl) ?_
                refine lv_iconst (v := 2) hx hb dX0_reset_47 (by decide) ?_
                refine lv_icmp_ge (tgt := 65) hx hb dX0_reset_48 (by decide) (fun h => absurd h (by decide)) (fun _ => ?_)
                refine lv_aload_n hx hb dX0_reset_51 rfl (lv_at hl 2 rfl) ?_
                refine lv_iload_n hx hb dX0_reset_52 rfl (lv_at hl 0 rfl) ?_
                refine lv_iconst (v := 0) hx hb dX0_reset_53 (by decide) ?_
                refine lv_iconst (v := 0) hx hb dX0_reset_54 (by decide) ?_
                refine lv_iconst (v := 0) hx hb dX0_reset_55 (by decide) ?_
                refine cc_V hC hGx hD hEx hlocks (c_X0_putSpan l hl9 k a hD (1 : Int32) (0 : Int32) (0 : Int32) (0 : Int32) ((m_X0_putSpan (0 : Int32) (0 : Int32) (0 : Int32) (0 : Int32) (vp_updL z.1 (5 : Int32).toNatClampNeg (1008673 : Int64), z.2.1, z.2.2.1, z.2.2.2.1, z.2.2.2.2.1, z.2.2.2.2.2)).2)) (gV w_82 w_83 w_6 w_26 w_84) kk_X0_putSpan rfl ⟨Nat.le_of_ble_eq_true rfl, Nat.le_of_ble_eq_true rfl⟩ ⟨Nat.le_of_ble_eq_true rfl, Nat.le_of_ble_eq_true rfl⟩ ⟨Nat.le_of_ble_eq_true rfl, Nat.le_of_ble_eq_true rfl⟩ hP hS hl.1 rfl rfl (Nat.le_of_ble_eq_true rfl) dX0_reset_56 (fun h_10 => ?_) (fun h_10 H locs hP hS => ?_)
                · have hm : m_X0_reset z = ((m_X0_putSpan (1 : Int32) (0 : Int32) (0 : Int32) (0 : Int32) ((m_X0_putSpan (0 : Int32) (0 : Int32) (0 : Int32) (0 : Int32) (vp_updL z.1 (5 : Int32).toNatClampNeg (1008673 : Int64), z.2.1, z.2.2.1, z.2.2.2.1, z.2.2.2.2.1, z.2.2.2.2.2)).2)).1, 0, (m_X0_putSpan (1 : Int32) (0 : Int32) (0 : Int32) (0 : Int32) ((m_X0_putSpan (0 : Int32) (0 : Int32) (0 : Int32) (0 : Int32) (vp_updL z.1 (5 : Int32).toNatClampNeg (1008673 : Int64), z.2.1, z.2.2.1, z.2.2.2.1, z.2.2.2.2.1, z.2.2.2.2.2)).2)).2) := hm.trans (if_neg h_10)
                  exact ⟨by rw [hm], by rw [hm]⟩
                · have hm := hm.trans (if_pos h_10)
                  refine lv_iinc (v := (2 : Int32)) (lv' := [(2, .int (2 : Int32)), (1, .int (1 : Int32)), (0, .ref a.1)]) hx hb dX0_reset_59 hl (k := 0) rfl (by decide) (by decide) rfl (fun ls hl => ?_)
                  refine lv_goto (tgt := 46) hx hb dX0_reset_62 (by decide) ?_
                  refine lv_iload_n hx hb dX0_reset_46 rfl (lv_at hl 0 rfl) ?_
                  refine lv_iconst (v := 2) hx hb dX0_reset_47 (by decide) ?_
                  refine lv_icmp_ge (tgt := 65) hx hb dX0_reset_48 (by decide) (fun _ => ?_) (fun h => absurd h (by decide))
                  refine lv_iload_n hx hb dX0_reset_65 rfl (lv_at hl 1 rfl) ?_
                  have hm : m_X0_reset z = (0, (1 : Int32), (m_X0_putSpan (1 : Int32) (0 : Int32) (0 : Int32) (0 : Int32) ((m_X0_putSpan (0 : Int32) (0 : Int32) (0 : Int32) (0 : Int32) (vp_updL z.1 (5 : Int32).toNatClampNeg (1008673 : Int64), z.2.1, z.2.2.1, z.2.2.2.1, z.2.2.2.2.1, z.2.2.2.2.2)).2)).2) := hm
                  exact c_iret (E := (1 : Int32)) hx hb hr hlocks (by rw [hm]) (by rw [hm]) (by rw [hm]) hP hS ⟨Nat.le_of_ble_eq_true rfl, Nat.le_of_ble_eq_true rfl⟩ dX0_reset_66
          · have hm := hm.trans (if_neg h_5)
            refine lv_iinc (v := (1 : Int32)) (lv' := [(1, .int (1 : Int32)), (2, .int (4 : Int32)), (0, .ref a.1)]) hx hb dX0_reset_26 hl (k := 1) rfl (by decide) (by decide) rfl (fun ls hl => ?_)
            refine lv_aload_n hx hb dX0_reset_29 rfl (lv_at hl 2 rfl) ?_
            refine va_get (D := kD k) (ci := 2) (v := .ref a.2.1) (C := RX0) (T := TX0) (N := 6) hx hb htg inG_X0 hown hGx.1 hP 0 rfl rfl 0 (by decide) (htg _ w_57) (fun _ h9 => h9) rfl dX0_reset_30 ?_
            refine lv_iload_n hx hb dX0_reset_33 rfl (lv_at hl 1 rfl) ?_
            refine lv_ldc2 hx hb hown (htg _ w_56) dX0_reset_34 ?_
            refine va_last (D := kD k) hx hb hGx.1 hP (hD.own _ _) hS 1 0 rfl rfl (show ¬ ((4 : Int32) < 0 ∨ 6 ≤ ((4 : Int32)).toNatClampNeg) by decide) dX0_reset_37 (fun H locs hP1 _ hS => ?_)
            have hP : va_P (kD k) vwCl (cW k a (vp_updL z.1 (4 : Int32).toNatClampNeg (1008673 : Int64), z.2.1, z.2.2.1, z.2.2.2.1, z.2.2.2.2.1, z.2.2.2.2.2)) H := hP1
            refine lv_iinc (v := (5 : Int32)) (lv' := [(2, .int (5 : Int32)), (1, .int (1 : Int32)), (0, .ref a.1)]) hx hb dX0_reset_38 hl (k := 1) rfl (by decide) (by decide) rfl (fun ls hl => ?_)
            refine lv_goto (tgt := 4) hx hb dX0_reset_41 (by decide) ?_
            refine lv_iload_n hx hb dX0_reset_4 rfl (lv_at hl 0 rfl) ?_
            refine lv_aload_n hx hb dX0_reset_5 rfl (lv_at hl 2 rfl) ?_
            refine va_get (D := kD k) (ci := 2) (v := .ref a.2.1) (C := RX0) (T := TX0) (N := 6) hx hb htg inG_X0 hown hGx.1 hP 0 rfl rfl 0 (by decide) (htg _ w_57) (fun _ h9 => h9) rfl dX0_reset_6 ?_
            refine va_alen (D := kD k) (v := 6) hx hb hGx.1 hP 1 0 rfl rfl (show Int32.ofNat 6 = 6 by decide) dX0_reset_9 ?_
            refine lv_icmp_ge (tgt := 44) hx hb dX0_reset_10 (by decide) (fun h => absurd h (by decide)) (fun _ => ?_)
            refine lv_aload_n hx hb dX0_reset_13 rfl (lv_at hl 2 rfl) ?_
            refine va_get (D := kD k) (ci := 2) (v := .ref a.2.1) (C := RX0) (T := TX0) (N := 6) hx hb htg inG_X0 hown hGx.1 hP 0 rfl rfl 0 (by decide) (htg _ w_57) (fun _ h9 => h9) rfl dX0_reset_14 ?_
            refine lv_iload_n hx hb dX0_reset_17 rfl (lv_at hl 0 rfl) ?_
            refine va_lald (D := kD k) hx hb hGx.1 hP 1 0 rfl rfl (show ¬ ((5 : Int32) < 0 ∨ 6 ≤ ((5 : Int32)).toNatClampNeg) by decide) dX0_reset_18 ?_
            refine lv_ldc2 hx hb hown (htg _ w_56) dX0_reset_19 ?_
            refine W.lcmp hx hb dX0_reset_22 ?_
            refine lv_if_eq (tgt := 38) hx hb dX0_reset_23 (by decide) (fun h_11 => ?_) (fun h_11 => ?_)
            · have hm := hm.trans (if_pos h_11)
              refine lv_iinc (v := (6 : Int32)) (lv' := [(2, .int (6 : Int32)), (1, .int (1 : Int32)), (0, .ref a.1)]) hx hb dX0_reset_38 hl (k := 0) rfl (by decide) (by decide) rfl (fun ls hl => ?_)
              refine lv_goto (tgt := 4) hx hb dX0_reset_41 (by decide) ?_
              refine lv_iload_n hx hb dX0_reset_4 rfl (lv_at hl 0 rfl) ?_
              refine lv_aload_n hx hb dX0_reset_5 rfl (lv_at hl 2 rfl) ?_
              refine va_get (D := kD k) (ci := 2) (v := .ref a.2.1) (C := RX0) (T := TX0) (N := 6) hx hb htg inG_X0 hown hGx.1 hP 0 rfl rfl 0 (by decide) (htg _ w_57) (fun _ h9 => h9) rfl dX0_reset_6 ?_
              refine va_alen (D := kD k) (v := 6) hx hb hGx.1 hP 1 0 rfl rfl (show Int32.ofNat 6 = 6 by decide) dX0_reset_9 ?_
              refine lv_icmp_ge (tgt := 44) hx hb dX0_reset_10 (by decide) (fun _ => ?_) (fun h => absurd h (by decide))
              refine lv_iconst (v := 0) hx hb dX0_reset_44 (by decide) ?_
              refine lv_istore_n (lv' := [(2, .int (0 : Int32)), (1, .int (1 : Int32)), (0, .ref a.1)]) hx hb dX0_reset_45 rfl hl (by decide) rfl (fun ls hl => ?_)
              refine lv_iload_n hx hb dX0_reset_46 rfl (lv_at hl 0 rfl) ?_
              refine lv_iconst (v := 2) hx hb dX0_reset_47 (by decide) ?_
              refine lv_icmp_ge (tgt := 65) hx hb dX0_reset_48 (by decide) (fun h => absurd h (by decide)) (fun _ => ?_)
              refine lv_aload_n hx hb dX0_reset_51 rfl (lv_at hl 2 rfl) ?_
              refine lv_iload_n hx hb dX0_reset_52 rfl (lv_at hl 0 rfl) ?_
              refine lv_iconst (v := 0) hx hb dX0_reset_53 (by decide) ?_
              refine lv_iconst (v := 0) hx hb dX0_reset_54 (by decide) ?_
              refine lv_iconst (v := 0) hx hb dX0_reset_55 (by decide) ?_
              refine cc_V hC hGx hD hEx hlocks (c_X0_putSpan l hl9 k a hD (0 : Int32) (0 : Int32) (0 : Int32) (0 : Int32) (vp_updL z.1 (4 : Int32).toNatClampNeg (1008673 : Int64), z.2.1, z.2.2.1, z.2.2.2.1, z.2.2.2.2.1, z.2.2.2.2.2)) (gV w_82 w_83 w_6 w_26 w_84) kk_X0_putSpan rfl ⟨Nat.le_of_ble_eq_true rfl, Nat.le_of_ble_eq_true rfl⟩ ⟨Nat.le_of_ble_eq_true rfl, Nat.le_of_ble_eq_true rfl⟩ ⟨Nat.le_of_ble_eq_true rfl, Nat.le_of_ble_eq_true rfl⟩ hP hS hl.1 rfl rfl (Nat.le_of_ble_eq_true rfl) dX0_reset_56 (fun h_12 => ?_) (fun h_12 H locs hP hS => ?_)
              · have hm : m_X0_reset z = ((m_X0_putSpan (0 : Int32) (0 : Int32) (0 : Int32) (0 : Int32) (vp_updL z.1 (4 : Int32).toNatClampNeg (1008673 : Int64), z.2.1, z.2.2.1, z.2.2.2.1, z.2.2.2.2.1, z.2.2.2.2.2)).1, 0, (m_X0_putSpan (0 : Int32) (0 : Int32) (0 : Int32) (0 : Int32) (vp_updL z.1 (4 : Int32).toNatClampNeg (1008673 : Int64), z.2.1, z.2.2.1, z.2.2.2.1, z.2.2.2.2.1, z.2.2.2.2.2)).2) := hm.trans (if_neg h_12)
                exact ⟨by rw [hm], by rw [hm]⟩
              · have hm := hm.trans (if_pos h_12)
                refine lv_iinc (v := (1 : Int32)) (lv' := [(2, .int (1 : Int32)), (1, .int (1 : Int32)), (0, .ref a.1)]) hx hb dX0_reset_59 hl (k := 0) rfl (by decide) (by decide) rfl (fun ls hl => ?_)
                refine lv_goto (tgt := 46) hx hb dX0_reset_62 (by decide) ?_
                refine lv_iload_n hx hb dX0_reset_46 rfl (lv_at hl 0 rfl) ?_
                refine lv_iconst (v := 2) hx hb dX0_reset_47 (by decide) ?_
                refine lv_icmp_ge (tgt := 65) hx hb dX0_reset_48 (by decide) (fun h => absurd h (by decide)) (fun _ => ?_)
                refine lv_aload_n hx hb dX0_reset_51 rfl (lv_at hl 2 rfl) ?_
                refine lv_iload_n hx hb dX0_reset_52 rfl (lv_at hl 0 rfl) ?_
                refine lv_iconst (v := 0) hx hb dX0_reset_53 (by decide) ?_
                refine lv_iconst (v := 0) hx hb dX0_reset_54 (by decide) ?_
                refine lv_iconst (v := 0) hx hb dX0_reset_55 (by decide) ?_
                refine cc_V hC hGx hD hEx hlocks (c_X0_putSpan l hl9 k a hD (1 : Int32) (0 : Int32) (0 : Int32) (0 : Int32) ((m_X0_putSpan (0 : Int32) (0 : Int32) (0 : Int32) (0 : Int32) (vp_updL z.1 (4 : Int32).toNatClampNeg (1008673 : Int64), z.2.1, z.2.2.1, z.2.2.2.1, z.2.2.2.2.1, z.2.2.2.2.2)).2)) (gV w_82 w_83 w_6 w_26 w_84) kk_X0_putSpan rfl ⟨Nat.le_of_ble_eq_true rfl, Nat.le_of_ble_eq_true rfl⟩ ⟨Nat.le_of_ble_eq_true rfl, Nat.le_of_ble_eq_true rfl⟩ ⟨Nat.le_of_ble_eq_true rfl, Nat.le_of_ble_eq_true rfl⟩ hP hS hl.1 rfl rfl (Nat.le_of_ble_eq_true rfl) dX0_reset_56 (fun h_13 => ?_) (fun h_13 H locs hP hS => ?_)
                · have hm : m_X0_reset z = ((m_X0_putSpan (1 : Int32) (0 : Int32) (0 : Int32) (0 : Int32) ((m_X0_putSpan (0 : Int32) (0 : Int32) (0 : Int32) (0 : Int32) (vp_updL z.1 (4 : Int32).toNatClampNeg (1008673 : Int64), z.2.1, z.2.2.1, z.2.2.2.1, z.2.2.2.2.1, z.2.2.2.2.2)).2)).1, 0, (m_X0_putSpan (1 : Int32) (0 : Int32) (0 : Int32) (0 : Int32) ((m_X0_putSpan (0 : Int32) (0 : Int32) (0 : Int32) (0 : Int32) (vp_updL z.1 (4 : Int32).toNatClampNeg (1008673 : Int64), z.2.1, z.2.2.1, z.2.2.2.1, z.2.2.2.2.1, z.2.2.2.2.2)).2)).2) := hm.trans (if_neg h_13)
                  exact ⟨by rw [hm], by rw [hm]⟩
                · have hm := hm.trans (if_pos h_13)
                  refine lv_iinc (v := (2 : Int32)) (lv' := [(2, .int (2 : Int32)), (1, .int (1 : Int32)), (0, .ref a.1)]) hx hb dX0_reset_59 hl (k := 0) rfl (by decide) (by decide) rfl (fun ls hl => ?_)
                  refine lv_goto (tgt := 46) hx hb dX0_reset_62 (by decide) ?_
                  refine lv_iload_n hx hb dX0_reset_46 rfl (lv_at hl 0 rfl) ?_
                  refine lv_iconst (v := 2) hx hb dX0_reset_47 (by decide) ?_
                  refine lv_icmp_ge (tgt := 65) hx hb dX0_reset_48 (by decide) (fun _ => ?_) (fun h => absurd h (by decide))
                  refine lv_iload_n hx hb dX0_reset_65 rfl (lv_at hl 1 rfl) ?_
                  have hm : m_X0_reset z = (0, (1 : Int32), (m_X0_putSpan (1 : Int32) (0 : Int32) (0 : Int32) (0 : Int32) ((m_X0_putSpan (0 : Int32) (0 : Int32) (0 : Int32) (0 : Int32) (vp_updL z.1 (4 : Int32).toNatClampNeg (1008673 : Int64), z.2.1, z.2.2.1, z.2.2.2.1, z.2.2.2.2.1, z.2.2.2.2.2)).2)).2) := hm
                  exact c_iret (E := (1 : Int32)) hx hb hr hlocks (by rw [hm]) (by rw [hm]) (by rw [hm]) hP hS ⟨Nat.le_of_ble_eq_true rfl, Nat.le_of_ble_eq_true rfl⟩ dX0_reset_66
            · have hm := hm.trans (if_neg h_11)
              refine lv_iinc (v := (2 : Int32)) (lv' := [(1, .int (2 : Int32)), (2, .int (5 : Int32)), (0, .ref a.1)]) hx hb dX0_reset_26 hl (k := 1) rfl (by decide) (by decide) rfl (fun ls hl => ?_)
              refine lv_aload_n hx hb dX0_reset_29 rfl (lv_at hl 2 rfl) ?_
              refine va_get (D := kD k) (ci := 2) (v := .ref a.2.1) (C := RX0) (T := TX0) (N := 6) hx hb htg inG_X0 hown hGx.1 hP 0 rfl rfl 0 (by decide) (htg _ w_57) (fun _ h9 => h9) rfl dX0_reset_30 ?_
              refine lv_iload_n hx hb dX0_reset_33 rfl (lv_at hl 1 rfl) ?_
              refine lv_ldc2 hx hb hown (htg _ w_56) dX0_reset_34 ?_
              refine va_last (D := kD k) hx hb hGx.1 hP (hD.own _ _) hS 1 0 rfl rfl (show ¬ ((5 : Int32) < 0 ∨ 6 ≤ ((5 : Int32)).toNatClampNeg) by decide) dX0_reset_37 (fun H locs hP1 _ hS => ?_)
              have hP : va_P (kD k) vwCl (cW k a (vp_updL (vp_updL z.1 (4 : Int32).toNatClampNeg (1008673 : Int64)) (5 : Int32).toNatClampNeg (1008673 : Int64), z.2.1, z.2.2.1, z.2.2.2.1, z.2.2.2.2.1, z.2.2.2.2.2)) H := hP1
              refine lv_iinc (v := (6 : Int32)) (lv' := [(2, .int (6 : Int32)), (1, .int (2 : Int32)), (0, .ref a.1)]) hx hb dX0_reset_38 hl (k := 1) rfl (by decide) (by decide) rfl (fun ls hl => ?_)
              refine lv_goto (tgt := 4) hx hb dX0_reset_41 (by decide) ?_
              refine lv_iload_n hx hb dX0_reset_4 rfl (lv_at hl 0 rfl) ?_
              refine lv_aload_n hx hb dX0_reset_5 rfl (lv_at hl 2 rfl) ?_
              refine va_get (D := kD k) (ci := 2) (v := .ref a.2.1) (C := RX0) (T := TX0) (N := 6) hx hb htg inG_X0 hown hGx.1 hP 0 rfl rfl 0 (by decide) (htg _ w_57) (fun _ h9 => h9) rfl dX0_reset_6 ?_
              refine va_alen (D := kD k) (v := 6) hx hb hGx.1 hP 1 0 rfl rfl (show Int32.ofNat 6 = 6 by decide) dX0_reset_9 ?_
              refine lv_icmp_ge (tgt := 44) hx hb dX0_reset_10 (by decide) (fun _ => ?_) (fun h => absurd h (by decide))
              refine lv_iconst (v := 0) hx hb dX0_reset_44 (by decide) ?_
              refine lv_istore_n (lv' := [(2, .int (0 : Int32)), (1, .int (2 : Int32)), (0, .ref a.1)]) hx hb dX0_reset_45 rfl hl (by decide) rfl (fun ls hl => ?_)
              refine lv_iload_n hx hb dX0_reset_46 rfl (lv_at hl 0 rfl) ?_
              refine lv_iconst (v := 2) hx hb dX0_reset_47 (by decide) ?_
              refine lv_icmp_ge (tgt := 65) hx hb dX0_reset_48 (by decide) (fun h => absurd h (by decide)) (fun _ => ?_)
              refine lv_aload_n hx hb dX0_reset_51 rfl (lv_at hl 2 rfl) ?_
              refine lv_iload_n hx hb dX0_reset_52 rfl (lv_at hl 0 rfl) ?_
              refine lv_iconst (v := 0) hx hb dX0_reset_53 (by decide) ?_
              refine lv_iconst (v := 0) hx hb dX0_reset_54 (by decide) ?_
              refine lv_iconst (v := 0) hx hb dX0_reset_55 (by decide) ?_
              refine cc_V hC hGx hD hEx hlocks (c_X0_putSpan l hl9 k a hD (0 : Int32) (0 : Int32) (0 : Int32) (0 : Int32) (vp_updL (vp_updL z.1 (4 : Int32).toNatClampNeg (1008673 : Int64)) (5 : Int32).toNatClampNeg (1008673 : Int64), z.2.1, z.2.2.1, z.2.2.2.1, z.2.2.2.2.1, z.2.2.2.2.2)) (gV w_82 w_83 w_6 w_26 w_84) kk_X0_putSpan rfl ⟨Nat.le_of_ble_eq_true rfl, Nat.le_of_ble_eq_true rfl⟩ ⟨Nat.le_of_ble_eq_true rfl, Nat.le_of_ble_eq_true rfl⟩ ⟨Nat.le_of_ble_eq_true rfl, Nat.le_of_ble_eq_true rfl⟩ hP hS hl.1 rfl rfl (Nat.le_of_ble_eq_true rfl) dX0_reset_56 (fun h_14 => ?_) (fun h_14 H locs hP hS => ?_)
              · have hm : m_X0_reset z = ((m_X0_putSpan (0 : Int32) (0 : Int32) (0 : Int32) (0 : Int32) (vp_updL (vp_updL z.1 (4 : Int32).toNatClampNeg (1008673 : Int64)) (5 : Int32).toNatClampNeg (1008673 : Int64), z.2.1, z.2.2.1, z.2.2.2.1, z.2.2.2.2.1, z.2.2.2.2.2)).1, 0, (m_X0_putSpan (0 : Int32) (0 : Int32) (0 : Int32) (0 : Int32) (vp_updL (vp_updL z.1 (4 : Int32).toNatClampNeg (1008673 : Int64)) (5 : Int32).toNatClampNeg (1008673 : Int64), z.2.1, z.2.2.1, z.2.2.2.1, z.2.2.2.2.1, z.2.2.2.2.2)).2) := hm.trans (if_neg h_14)
                exact ⟨by rw [hm], by rw [hm]⟩
              · have hm := hm.trans (if_pos h_14)
                refine lv_iinc (v := (1 : Int32)) (lv' := [(2, .int (1 : Int32)), (1, .int (2 : Int32)), (0, .ref a.1)]) hx hb dX0_reset_59 hl (k := 0) rfl (by decide) (by decide) rfl (fun ls hl => ?_)
                refine lv_goto (tgt := 46) hx hb dX0_reset_62 (by decide) ?_
                refine lv_iload_n hx hb dX0_reset_46 rfl (lv_at hl 0 rfl) ?_
                refine lv_iconst (v := 2) hx hb dX0_reset_47 (by decide) ?_
                refine lv_icmp_ge (tgt := 65) hx hb dX0_reset_48 (by decide) (fun h => absurd h (by decide)) (fun _ => ?_)
                refine lv_aload_n hx hb dX0_reset_51 rfl (lv_at hl 2 rfl) ?_
                refine lv_iload_n hx hb dX0_reset_52 rfl (lv_at hl 0 rfl) ?_
                refine lv_iconst (v := 0) hx hb dX0_reset_53 (by decide) ?_
                refine lv_iconst (v := 0) hx hb dX0_reset_54 (by decide) ?_
                refine lv_iconst (v := 0) hx hb dX0_reset_55 (by decide) ?_
                refine cc_V hC hGx hD hEx hlocks (c_X0_putSpan l hl9 k a hD (1 : Int32) (0 : Int32) (0 : Int32) (0 : Int32) ((m_X0_putSpan (0 : Int32) (0 : Int32) (0 : Int32) (0 : Int32) (vp_updL (vp_updL z.1 (4 : Int32).toNatClampNeg (1008673 : Int64)) (5 : Int32).toNatClampNeg (1008673 : Int64), z.2.1, z.2.2.1, z.2.2.2.1, z.2.2.2.2.1, z.2.2.2.2.2)).2)) (gV w_82 w_83 w_6 w_26 w_84) kk_X0_putSpan rfl ⟨Nat.le_of_ble_eq_true rfl, Nat.le_of_ble_eq_true rfl⟩ ⟨Nat.le_of_ble_eq_true rfl, Nat.le_of_ble_eq_true rfl⟩ ⟨Nat.le_of_ble_eq_true rfl, Nat.le_of_ble_eq_true rfl⟩ hP hS hl.1 rfl rfl (Nat.le_of_ble_eq_true rfl) dX0_reset_56 (fun h_15 => ?_) (fun h_15 H locs hP hS => ?_)
                · have hm : m_X0_reset z = ((m_X0_putSpan (1 : Int32) (0 : Int32) (0 : Int32) (0 : Int32) ((m_X0_putSpan (0 : Int32) (0 : Int32) (0 : Int32) (0 : Int32) (vp_updL (vp_updL z.1 (4 : Int32).toNatClampNeg (1008673 : Int64)) (5 : Int32).toNatClampNeg (1008673 : Int64), z.2.1, z.2.2.1, z.2.2.2.1, z.2.2.2.2.1, z.2.2.2.2.2)).2)).1, 0, (m_X0_putSpan (1 : Int32) (0 : Int32) (0 : Int32) (0 : Int32) ((m_X0_putSpan (0 : Int32) (0 : Int32) (0 : Int32) (0 : Int32) (vp_updL (vp_updL z.1 (4 : Int32).toNatClampNeg (1008673 : Int64)) (5 : Int32).toNatClampNeg (1008673 : Int64), z.2.1, z.2.2.1, z.2.2.2.1, z.2.2.2.2.1, z.2.2.2.2.2)).2)).2) := hm.trans (if_neg h_15)
                  exact ⟨by rw [hm], by rw [hm]⟩
                · have hm := hm.trans (if_pos h_15)
                  refine lv_iinc (v := (2 : Int32)) (lv' := [(2, .int (2 : Int32)), (1, .int (2 : Int32)), (0, .ref a.1)]) hx hb dX0_reset_59 hl (k := 0) rfl (by decide) (by decide) rfl (fun ls hl => ?_)
                  refine lv_goto (tgt := 46) hx hb dX0_reset_62 (by decide) ?_
                  refine lv_iload_n hx hb dX0_reset_46 rfl (lv_at hl 0 rfl) ?_
                  refine lv_iconst (v := 2) hx hb dX0_reset_47 (by decide) ?_
                  refine lv_icmp_ge (tgt := 65) hx hb dX0_reset_48 (by decide) (fun _ => ?_) (fun h => absurd h (by decide))
                  refine lv_iload_n hx hb dX0_reset_65 rfl (lv_at hl 1 rfl) ?_
                  have hm : m_X0_reset z = (0, (2 : Int32), (m_X0_putSpan (1 : Int32) (0 : Int32) (0 : Int32) (0 : Int32) ((m_X0_putSpan (0 : Int32) (0 : Int32) (0 : Int32) (0 : Int32) (vp_updL (vp_updL z.1 (4 : Int32).toNatClampNeg (1008673 : Int64)) (5 : Int32).toNatClampNeg (1008673 : Int64), z.2.1, z.2.2.1, z.2.2.2.1, z.2.2.2.2.1, z.2.2.2.2.2)).2)).2) := hm
                  exact c_iret (E := (2 : Int32)) hx hb hr hlocks (by rw [hm]) (by rw [hm]) (by rw [hm]) hP hS ⟨Nat.le_of_ble_eq_true rfl, Nat.le_of_ble_eq_true rfl⟩ dX0_reset_66
        · have hm := hm.trans (if_neg h_4)
          refine lv_iinc (v := (1 : Int32)) (lv' := [(1, .int (1 : Int32)), (2, .int (3 : Int32)), (0, .ref a.1)]) hx hb dX0_reset_26 hl (k := 1) rfl (by decide) (by decide) rfl (fun ls hl => ?_)
          refine lv_aload_n hx hb dX0_reset_29 rfl (lv_at hl 2 rfl) ?_
          refine va_get (D := kD k) (ci := 2) (v := .ref a.2.1) (C := RX0) (T := TX0) (N := 6) hx hb htg inG_X0 hown hGx.1 hP 0 rfl rfl 0 (by decide) (htg _ w_57) (fun _ h9 => h9) rfl dX0_reset_30 ?_
          refine lv_iload_n hx hb dX0_reset_33 rfl (lv_at hl 1 rfl) ?_
          refine lv_ldc2 hx hb hown (htg _ w_56) dX0_reset_34 ?_
          refine va_last (D := kD k) hx hb hGx.1 hP (hD.own _ _) hS 1 0 rfl rfl (show ¬ ((3 : Int32) < 0 ∨ 6 ≤ ((3 : Int32)).toNatClampNeg) by decide) dX0_reset_37 (fun H locs hP1 _ hS => ?_)
          have hP : va_P (kD k) vwCl (cW k a (vp_updL z.1 (3 : Int32).toNatClampNeg (1008673 : Int64), z.2.1, z.2.2.1, z.2.2.2.1, z.2.2.2.2.1, z.2.2.2.2.2)) H := hP1
          refine lv_iinc (v := (4 : Int32)) (lv' := [(2, .int (4 : Int32)), (1, .int (1 : Int32)), (0, .ref a.1)]) hx hb dX0_reset_38 hl (k := 1) rfl (by decide) (by decide) rfl (fun ls hl => ?_)
          refine lv_goto (tgt := 4) hx hb dX0_reset_41 (by decide) ?_
          refine lv_iload_n hx hb dX0_reset_4 rfl (lv_at hl 0 rfl) ?_
          refine lv_aload_n hx hb dX0_reset_5 rfl (lv_at hl 2 rfl) ?_
          refine va_get (D := kD k) (ci := 2) (v := .ref a.2.1) (C := RX0) (T := TX0) (N := 6) hx hb htg inG_X0 hown hGx.1 hP 0 rfl rfl 0 (by decide) (htg _ w_57) (fun _ h9 => h9) rfl dX0_reset_6 ?_
          refine va_alen (D := kD k) (v := 6) hx hb hGx.1 hP 1 0 rfl rfl (show Int32.ofNat 6 = 6 by decide) dX0_reset_9 ?_
          refine lv_icmp_ge (tgt := 44) hx hb dX0_reset_10 (by decide) (fun h => absurd h (by decide)) (fun _ => ?_)
          refine lv_aload_n hx hb dX0_reset_13 rfl (lv_at hl 2 rfl) ?_
          refine va_get (D := kD k) (ci := 2) (v := .ref a.2.1) (C := RX0) (T := TX0) (N := 6) hx hb htg inG_X0 hown hGx.1 hP 0 rfl rfl 0 (by decide) (htg _ w_57) (fun _ h9 => h9) rfl dX0_reset_14 ?_
          refine lv_iload_n hx hb dX0_reset_17 rfl (lv_at hl 0 rfl) ?_
          refine va_lald (D := kD k) hx hb hGx.1 hP 1 0 rfl rfl (show ¬ ((4 : Int32) < 0 ∨ 6 ≤ ((4 : Int32)).toNatClampNeg) by decide) dX0_reset_18 ?_
          refine lv_ldc2 hx hb hown (htg _ w_56) dX0_reset_19 ?_
          refine W.lcmp hx hb dX0_reset_22 ?_
          refine lv_if_eq (tgt := 38) hx hb dX0_reset_23 (by decide) (fun h_16 => ?_) (fun h_16 => ?_)
          · have hm := hm.trans (if_pos h_16)
            refine lv_iinc (v := (5 : Int32)) (lv' := [(2, .int (5 : Int32)), (1, .int (1 : Int32)), (0, .ref a.1)]) hx hb dX0_reset_38 hl (k := 0) rfl (by decide) (by decide) rfl (fun ls hl => ?_)
            refine lv_goto (tgt := 4) hx hb dX0_reset_41 (by decide) ?_
            refine lv_iload_n hx hb dX0_reset_4 rfl (lv_at hl 0 rfl) ?_
            refine lv_aload_n hx hb dX0_reset_5 rfl (lv_at hl 2 rfl) ?_
            refine va_get (D := kD k) (ci := 2) (v := .ref a.2.1) (C := RX0) (T := TX0) (N := 6) hx hb htg inG_X0 hown hGx.1 hP 0 rfl rfl 0 (by decide) (htg _ w_57) (fun _ h9 => h9) rfl dX0_reset_6 ?_
            refine va_alen (D := kD k) (v := 6) hx hb hGx.1 hP 1 0 rfl rfl (show Int32.ofNat 6 = 6 by decide) dX0_reset_9 ?_
            refine lv_icmp_ge (tgt := 44) hx hb dX0_reset_10 (by decide) (fun h => absurd h (by decide)) (fun _ => ?_)
            refine lv_aload_n hx hb dX0_reset_13 rfl (lv_at hl 2 rfl) ?_
            refine va_get (D := kD k) (ci := 2) (v := .ref a.2.1) (C := RX0) (T := TX0) (N := 6) hx hb htg inG_X0 hown hGx.1 hP 0 rfl rfl 0 (by decide) (htg _ w_57) (fun _ h9 => h9) rfl dX0_reset_14 ?_
            refine lv_iload_n hx hb dX0_reset_17 rfl (lv_at hl 0 rfl) ?_
            refine va_lald (D := kD k) hx hb hGx.1 hP 1 0 rfl rfl (show ¬ ((5 : Int32) < 0 ∨ 6 ≤ ((5 : Int32)).toNatClampNeg) by decide) dX0_reset_18 ?_
            refine lv_ldc2 hx hb hown (htg _ w_56) dX0_reset_19 ?_
            refine W.lcmp hx hb dX0_reset_22 ?_
            refine lv_if_eq (tgt := 38) hx hb dX0_reset_23 (by decide) (fun h_17 => ?_) (fun h_17 => ?_)
            · have hm := hm.trans (if_pos h_17)
              refine lv_iinc (v := (6 : Int32)) (lv' := [(2, .int (6 : Int32)), (1, .int (1 : Int32)), (0, .ref a.1)]) hx hb dX0_reset_38 hl (k := 0) rfl (by decide) (by decide) rfl (fun ls hl => ?_)
              refine lv_goto (tgt := 4) hx hb dX0_reset_41 (by decide) ?_
              refine lv_iload_n hx hb dX0_reset_4 rfl (lv_at hl 0 rfl) ?_
              refine lv_aload_n hx hb dX0_reset_5 rfl (lv_at hl 2 rfl) ?_
              refine va_get (D := kD k) (ci := 2) (v := .ref a.2.1) (C := RX0) (T := TX0) (N := 6) hx hb htg inG_X0 hown hGx.1 hP 0 rfl rfl 0 (by decide) (htg _ w_57) (fun _ h9 => h9) rfl dX0_reset_6 ?_
              refine va_alen (D := kD k) (v := 6) hx hb hGx.1 hP 1 0 rfl rfl (show Int32.ofNat 6 = 6 by decide) dX0_reset_9 ?_
              refine lv_icmp_ge (tgt := 44) hx hb dX0_reset_10 (by decide) (fun _ => ?_) (fun h => absurd h (by decide))
              refine lv_iconst (v := 0) hx hb dX0_reset_44 (by decide) ?_
              refine lv_istore_n (lv' := [(2, .int (0 : Int32)), (1, .int (1 : Int32)), (0, .ref a.1)]) hx hb dX0_reset_45 rfl hl (by decide) rfl (fun ls hl => ?_)
              refine lv_iload_n hx hb dX0_reset_46 rfl (lv_at hl 0 rfl) ?_
              refine lv_iconst (v := 2) hx hb dX0_reset_47 (by decide) ?_
              refine lv_icmp_ge (tgt := 65) hx hb dX0_reset_48 (by decide) (fun h => absurd h (by decide)) (fun _ => ?_)
              refine lv_aload_n hx hb dX0_reset_51 rfl (lv_at hl 2 rfl) ?_
              refine lv_iload_n hx hb dX0_reset_52 rfl (lv_at hl 0 rfl) ?_
              refine lv_iconst (v := 0) hx hb dX0_reset_53 (by decide) ?_
              refine lv_iconst (v := 0) hx hb dX0_reset_54 (by decide) ?_
              refine lv_iconst (v := 0) hx hb dX0_reset_55 (by decide) ?_
              refine cc_V hC hGx hD hEx hlocks (c_X0_putSpan l hl9 k a hD (0 : Int32) (0 : Int32) (0 : Int32) (0 : Int32) (vp_updL z.1 (3 : Int32).toNatClampNeg (1008673 : Int64), z.2.1, z.2.2.1, z.2.2.2.1, z.2.2.2.2.1, z.2.2.2.2.2)) (gV w_82 w_83 w_6 w_26 w_84) kk_X0_putSpan rfl ⟨Nat.le_of_ble_eq_true rfl, Nat.le_of_ble_eq_true rfl⟩ ⟨Nat.le_of_ble_eq_true rfl, Nat.le_of_ble_eq_true rfl⟩ ⟨Nat.le_of_ble_eq_true rfl, Nat.le_of_ble_eq_true rfl⟩ hP hS hl.1 rfl rfl (Nat.le_of_ble_eq_true rfl) dX0_reset_56 (fun h_18 => ?_) (fun h_18 H locs hP hS => ?_)
              · have hm : m_X0_reset z = ((m_X0_putSpan (0 : Int32) (0 : Int32) (0 : Int32) (0 : Int32) (vp_updL z.1 (3 : Int32).toNatClampNeg (1008673 : Int64), z.2.1, z.2.2.1, z.2.2.2.1, z.2.2.2.2.1, z.2.2.2.2.2)).1, 0, (m_X0_putSpan (0 : Int32) (0 : Int32) (0 : Int32) (0 : Int32) (vp_updL z.1 (3 : Int32).toNatClampNeg (1008673 : Int64), z.2.1, z.2.2.1, z.2.2.2.1, z.2.2.2.2.1, z.2.2.2.2.2)).2) := hm.trans (if_neg h_18)
                exact ⟨by rw [hm], by rw [hm]⟩
              · have hm := hm.trans (if_pos h_18)
                refine lv_iinc (v := (1 : Int32)) (lv' := [(2, .int (1 : Int32)), (1, .int (1 : Int32)), (0, .ref a.1)]) hx hb dX0_reset_59 hl (k := 0) rfl (by decide) (by decide) rfl (fun ls hl => ?_)
                refine lv_goto (tgt := 46) hx hb dX0_reset_62 (by decide) ?_
                refine lv_iload_n hx hb dX0_reset_46 rfl (lv_at hl 0 rfl) ?_
                refine lv_iconst (v := 2) hx hb dX0_reset_47 (by decide) ?_
                refine lv_icmp_ge (tgt := 65) hx hb dX0_reset_48 (by decide) (fun h => absurd h (by decide)) (fun _ => ?_)
                refine lv_aload_n hx hb dX0_reset_51 rfl (lv_at hl 2 rfl) ?_
                refine lv_iload_n hx hb dX0_reset_52 rfl (lv_at hl 0 rfl) ?_
                refine lv_iconst (v := 0) hx hb dX0_reset_53 (by decide) ?_
                refine lv_iconst (v := 0) hx hb dX0_reset_54 (by decide) ?_
                refine lv_iconst (v := 0) hx hb dX0_reset_55 (by decide) ?_
                refine cc_V hC hGx hD hEx hlocks (c_X0_putSpan l hl9 k a hD (1 : Int32) (0 : Int32) (0 : Int32) (0 : Int32) ((m_X0_putSpan (0 : Int32) (0 : Int32) (0 : Int32) (0 : Int32) (vp_updL z.1 (3 : Int32).toNatClampNeg (1008673 : Int64), z.2.1, z.2.2.1, z.2.2.2.1, z.2.2.2.2.1, z.2.2.2.2.2)).2)) (gV w_82 w_83 w_6 w_26 w_84) kk_X0_putSpan rfl ⟨Nat.le_of_ble_eq_true rfl, Nat.le_of_ble_eq_true rfl⟩ ⟨Nat.le_of_ble_eq_true rfl, Nat.le_of_ble_eq_true rfl⟩ ⟨Nat.le_of_ble_eq_true rfl, Nat.le_of_ble_eq_true rfl⟩ hP hS hl.1 rfl rfl (Nat.le_of_ble_eq_true rfl) dX0_reset_56 (fun h_19 => ?_) (fun h_19 H locs hP hS => ?_)
                · have hm : m_X0_reset z = ((m_X0_putSpan (1 : Int32) (0 : Int32) (0 : Int32) (0 : Int32) ((m_X0_putSpan (0 : Int32) (0 : Int32) (0 : Int32) (0 : Int32) (vp_updL z.1 (3 : Int32).toNatClampNeg (1008673 : Int64), z.2.1, z.2.2.1, z.2.2.2.1, z.2.2.2.2.1, z.2.2.2.2.2)).2)).1, 0, (m_X0_putSpan (1 : Int32) (0 : Int32) (0 : Int32) (0 : Int32) ((m_X0_putSpan (0 : Int32) (0 : Int32) (0 : Int32) (0 : Int32) (vp_updL z.1 (3 : Int32).toNatClampNeg (1008673 : Int64), z.2.1, z.2.2.1, z.2.2.2.1, z.2.2.2.2.1, z.2.2.2.2.2)).2)).2) := hm.trans (if_neg h_19)
                  exact ⟨by rw [hm], by rw [hm]⟩
                · have hm := hm.trans (if_pos h_19)
                  refine lv_iinc (v := (2 : Int32)) (lv' := [(2, .int (2 : Int32)), (1, .int (1 : Int32)), (0, .ref a.1)]) hx hb dX0_reset_59 hl (k := 0) rfl (by decide) (by decide) rfl (fun ls hl => ?_)
                  refine lv_goto (tgt := 46) hx hb dX0_reset_62 (by decide) ?_
                  refine lv_iload_n hx hb dX0_reset_46 rfl (lv_at hl 0 rfl) ?_
                  refine lv_iconst (v := 2) hx hb dX0_reset_47 (by decide) ?_
                  refine lv_icmp_ge (tgt := 65) hx hb dX0_reset_48 (by decide) (fun _ => ?_) (fun h => absurd h (by decide))
                  refine lv_iload_n hx hb dX0_reset_65 rfl (lv_at hl 1 rfl) ?_
                  have hm : m_X0_reset z = (0, (1 : Int32), (m_X0_putSpan (1 : Int32) (0 : Int32) (0 : Int32) (0 : Int32) ((m_X0_putSpan (0 : Int32) (0 : Int32) (0 : Int32) (0 : Int32) (vp_updL z.1 (3 : Int32).toNatClampNeg (1008673 : Int64), z.2.1, z.2.2.1, z.2.2.2.1, z.2.2.2.2.1, z.2.2.2.2.2)).2)).2) := hm
                  exact c_iret (E := (1 : Int32)) hx hb hr hlocks (by rw [hm]) (by rw [hm]) (by rw [hm]) hP hS ⟨Nat.le_of_ble_eq_true rfl, Nat.le_of_ble_eq_true rfl⟩ dX0_reset_66
            · have hm := hm.trans (if_neg h_17)
              refine lv_iinc (v := (2 : Int32)) (lv' := [(1, .int (2 : Int32)), (2, .int (5 : Int32)), (0, .ref a.1)]) hx hb dX0_reset_26 hl (k := 1) rfl (by decide) (by decide) rfl (fun ls hl => ?_)
              refine lv_aload_n hx hb dX0_reset_29 rfl (lv_at hl 2 rfl) ?_
              refine va_get (D := kD k) (ci := 2) (v := .ref a.2.1) (C := RX0) (T := TX0) (N := 6) hx hb htg inG_X0 hown hGx.1 hP 0 rfl rfl 0 (by decide) (htg _ w_57) (fun _ h9 => h9) rfl dX0_reset_30 ?_
              refine lv_iload_n hx hb dX0_reset_33 rfl (lv_at hl 1 rfl) ?_
              refine lv_ldc2 hx hb hown (htg _ w_56) dX0_reset_34 ?_
              refine va_last (D := kD k) hx hb hGx.1 hP (hD.own _ _) hS 1 0 rfl rfl (show ¬ ((5 : Int32) < 0 ∨ 6 ≤ ((5 : Int32)).toNatClampNeg) by decide) dX0_reset_37 (fun H locs hP1 _ hS => ?_)
              have hP : va_P (kD k) vwCl (cW k a (vp_updL (vp_updL z.1 (3 : Int32).toNatClampNeg (1008673 : Int64)) (5 : Int32).toNatClampNeg (1008673 : Int64), z.2.1, z.2.2.1, z.2.2.2.1, z.2.2.2.2.1, z.2.2.2.2.2)) H := hP1
              refine lv_iinc (v := (6 : Int32)) (lv' := [(2, .int (6 : Int32)), (1, .int (2 : Int32)), (0, .ref a.1)]) hx hb dX0_reset_38 hl (k := 1) rfl (by decide) (by decide) rfl (fun ls hl => ?_)
              refine lv_goto (tgt := 4) hx hb dX0_reset_41 (by decide) ?_
              refine lv_iload_n hx hb dX0_reset_4 rfl (lv_at hl 0 rfl) ?_
              refine lv_aload_n hx hb dX0_reset_5 rfl (lv_at hl 2 rfl) ?_
              refine va_get (D := kD k) (ci := 2) (v := .ref a.2.1) (C := RX0) (T := TX0) (N := 6) hx hb htg inG_X0 hown hGx.1 hP 0 rfl rfl 0 (by decide) (htg _ w_57) (fun _ h9 => h9) rfl dX0_reset_6 ?_
              refine va_alen (D := kD k) (v := 6) hx hb hGx.1 hP 1 0 rfl rfl (show Int32.ofNat 6 = 6 by decide) dX0_reset_9 ?_
              refine lv_icmp_ge (tgt := 44) hx hb dX0_reset_10 (by decide) (fun _ => ?_) (fun h => absurd h (by decide))
              refine lv_iconst (v := 0) hx hb dX0_reset_44 (by decide) ?_
              refine lv_istore_n (lv' := [(2, .int (0 : Int32)), (1, .int (2 : Int32)), (0, .ref a.1)]) hx hb dX0_reset_45 rfl hl (by decide) rfl (fun ls hl => ?_)
              refine lv_iload_n hx hb dX0_reset_46 rfl (lv_at hl 0 rfl) ?_
              refine lv_iconst (v := 2) hx hb dX0_reset_47 (by decide) ?_
              refine lv_icmp_ge (tgt := 65) hx hb dX0_reset_48 (by decide) (fun h => absurd h (by decide)) (fun _ => ?_)
              refine lv_aload_n hx hb dX0_reset_51 rfl (lv_at hl 2 rfl) ?_
              refine lv_iload_n hx hb dX0_reset_52 rfl (lv_at hl 0 rfl) ?_
              refine lv_iconst (v := 0) hx hb dX0_reset_53 (by decide) ?_
              refine lv_iconst (v := 0) hx hb dX0_reset_54 (by decide) ?_
              refine lv_iconst (v := 0) hx hb dX0_reset_55 (by decide) ?_
              refine cc_V hC hGx hD hEx hlocks (c_X0_putSpan l hl9 k a hD (0 : Int32) (0 : Int32) (0 : Int32) (0 : Int32) (vp_updL (vp_updL z.1 (3 : Int32).toNatClampNeg (1008673 : Int64)) (5 : Int32).toNatClampNeg (1008673 : Int64), z.2.1, z.2.2.1, z.2.2.2.1, z.2.2.2.2.1, z.2.2.2.2.2)) (gV w_82 w_83 w_6 w_26 w_84) kk_X0_putSpan rfl ⟨Nat.le_of_ble_eq_true rfl, Nat.le_of_ble_eq_true rfl⟩ ⟨Nat.le_of_ble_eq_true rfl, Nat.le_of_ble_eq_true rfl⟩ ⟨Nat.le_of_ble_eq_true rfl, Nat.le_of_ble_eq_true rfl⟩ hP hS hl.1 rfl rfl (Nat.le_of_ble_eq_true rfl) dX0_reset_56 (fun h_20 => ?_) (fun h_20 H locs hP hS => ?_)
              · have hm : m_X0_reset z = ((m_X0_putSpan (0 : Int32) (0 : Int32) (0 : Int32) (0 : Int32) (vp_updL (vp_updL z.1 (3 : Int32).toNatClampNeg (1008673 : Int64)) (5 : Int32).toNatClampNeg (1008673 : Int64), z.2.1, z.2.2.1, z.2.2.2.1, z.2.2.2.2.1, z.2.2.2.2.2)).1, 0, (m_X0_putSpan (0 : Int32) (0 : Int32) (0 : Int32) (0 : Int32) (vp_updL (vp_updL z.1 (3 : Int32).toNatClampNeg (1008673 : Int64)) (5 : Int32).toNatClampNeg (1008673 : Int64), z.2.1, z.2.2.1, z.2.2.2.1, z.2.2.2.2.1, z.2.2.2.2.2)).2) := hm.trans (if_neg h_20)
                exact ⟨by rw [hm], by rw [hm]⟩
              · have hm := hm.trans (if_pos h_20)
                refine lv_iinc (v := (1 : Int32)) (lv' := [(2, .int (1 : Int32)), (1, .int (2 : Int32)), (0, .ref a.1)]) hx hb dX0_reset_59 hl (k := 0) rfl (by decide) (by decide) rfl (fun ls hl => ?_)
                refine lv_goto (tgt := 46) hx hb dX0_reset_62 (by decide) ?_
                refine lv_iload_n hx hb dX0_reset_46 rfl (lv_at hl 0 rfl) ?_
                refine lv_iconst (v := 2) hx hb dX0_reset_47 (by decide) ?_
                refine lv_icmp_ge (tgt := 65) hx hb dX0_reset_48 (by decide) (fun h => absurd h (by decide)) (fun _ => ?_)
                refine lv_aload_n hx hb dX0_reset_51 rfl (lv_at hl 2 rfl) ?_
                refine lv_iload_n hx hb dX0_reset_52 rfl (lv_at hl 0 rfl) ?_
                refine lv_iconst (v := 0) hx hb dX0_reset_53 (by decide) ?_
                refine lv_iconst (v := 0) hx hb dX0_reset_54 (by decide) ?_
                refine lv_iconst (v := 0) hx hb dX0_reset_55 (by decide) ?_
                refine cc_V hC hGx hD hEx hlocks (c_X0_putSpan l hl9 k a hD (1 : Int32) (0 : Int32) (0 : Int32) (0 : Int32) ((m_X0_putSpan (0 : Int32) (0 : Int32) (0 : Int32) (0 : Int32) (vp_updL (vp_updL z.1 (3 : Int32).toNatClampNeg (1008673 : Int64)) (5 : Int32).toNatClampNeg (1008673 : Int64), z.2.1, z.2.2.1, z.2.2.2.1, z.2.2.2.2.1, z.2.2.2.2.2)).2)) (gV w_82 w_83 w_6 w_26 w_84) kk_X0_putSpan rfl ⟨Nat.le_of_ble_eq_true rfl, Nat.le_of_ble_eq_true rfl⟩ ⟨Nat.le_of_ble_eq_true rfl, Nat.le_of_ble_eq_true rfl⟩ ⟨Nat.le_of_ble_eq_true rfl, Nat.le_of_ble_eq_true rfl⟩ hP hS hl.1 rfl rfl (Nat.le_of_ble_eq_true rfl) dX0_reset_56 (fun h_21 => ?_) (fun h_21 H locs hP hS => ?_)
                · have hm : m_X0_reset z = ((m_X0_putSpan (1 : Int32) (0 : Int32) (0 : Int32) (0 : Int32) ((m_X0_putSpan (0 : Int32) (0 : Int32) (0 : Int32) (0 : Int32) (vp_updL (vp_updL z.1 (3 : Int32).toNatClampNeg (1008673 : Int64)) (5 : Int32).toNatClampNeg (1008673 : Int64), z.2.1, z.2.2.1, z.2.2.2.1, z.2.2.2.2.1, z.2.2.2.2.2)).2)).1, 0, (m_X0_putSpan (1 : Int32) (0 : Int32) (0 : Int32) (0 : Int32) ((m_X0_putSpan (0 : Int32) (0 : Int32) (0 : Int32) (0 : Int32) (vp_updL (vp_updL z.1 (3 : Int32).toNatClampNeg (1008673 : Int64)) (5 : Int32).toNatClampNeg (1008673 : Int64), z.2.1, z.2.2.1, z.2.2.2.1, z.2.2.2.2.1, z.2.2.2.2.2)).2)).2) := hm.trans (if_neg h_21)
                  exact ⟨by rw [hm], by rw [hm]⟩
                · have hm := hm.trans (if_pos h_21)
                  refine lv_iinc (v := (2 : Int32)) (lv' := [(2, .int (2 : Int32)), (1, .int (2 : Int32)), (0, .ref a.1)]) hx hb dX0_reset_59 hl (k := 0) rfl (by decide) (by decide) rfl (fun ls hl => ?_)
                  refine lv_goto (tgt := 46) hx hb dX0_reset_62 (by decide) ?_
                  refine lv_iload_n hx hb dX0_reset_46 rfl (lv_at hl 0 rfl) ?_
                  refine lv_iconst (v := 2) hx hb dX0_reset_47 (by decide) ?_
                  refine lv_icmp_ge (tgt := 65) hx hb dX0_reset_48 (by decide) (fun _ => ?_) (fun h => absurd h (by decide))
                  refine lv_iload_n hx hb dX0_reset_65 rfl (lv_at hl 1 rfl) ?_
                  have hm : m_X0_reset z = (0, (2 : Int32), (m_X0_putSpan (1 : Int32) (0 : Int32) (0 : Int32) (0 : Int32) ((m_X0_putSpan (0 : Int32) (0 : Int32) (0 : Int32) (0 : Int32) (vp_updL (vp_updL z.1 (3 : Int32).toNatClampNeg (1008673 : Int64)) (5 : Int32).toNatClampNeg (1008673 : Int64), z.2.1, z.2.2.1, z.2.2.2.1, z.2.2.2.2.1, z.2.2.2.2.2)).2)).2) := hm
                  exact c_iret (E := (2 : Int32)) hx hb hr hlocks (by rw [hm]) (by rw [hm]) (by rw [hm]) hP hS ⟨Nat.le_of_ble_eq_true rfl, Nat.le_of_ble_eq_true rfl⟩ dX0_reset_66
          · have hm := hm.trans (if_neg h_16)
            refine lv_iinc (v := (2 : Int32)) (lv' := [(1, .int (2 : Int32)), (2, .int (4 : Int32)), (0, .ref a.1)]) hx hb dX0_reset_26 hl (k := 1) rfl (by decide) (by decide) rfl (fun ls hl => ?_)
            refine lv_aload_n hx hb dX0_reset_29 rfl (lv_at hl 2 rfl) ?_
            refine va_get (D := kD k) (ci := 2) (v := .ref a.2.1) (C := RX0) (T := TX0) (N := 6) hx hb htg inG_X0 hown hGx.1 hP 0 rfl rfl 0 (by decide) (htg _ w_57) (fun _ h9 => h9) rfl dX0_reset_30 ?_
            refine lv_iload_n hx hb dX0_reset_33 rfl (lv_at hl 1 rfl) ?_
            refine lv_ldc2 hx hb hown (htg _ w_56) dX0_reset_34 ?_
            refine va_last (D := kD k) hx hb hGx.1 hP (hD.own _ _) hS 1 0 rfl rfl (show ¬ ((4 : Int32) < 0 ∨ 6 ≤ ((4 : Int32)).toNatClampNeg) by decide) dX0_reset_37 (fun H locs hP1 _ hS => ?_)
            have hP : va_P (kD k) vwCl (cW k a (vp_updL (vp_updL z.1 (3 : Int32).toNatClampNeg (1008673 : Int64)) (4 : Int32).toNatClampNeg (1008673 : Int64), z.2.1, z.2.2.1, z.2.2.2.1, z.2.2.2.2.1, z.2.2.2.2.2)) H := hP1
            refine lv_iinc (v := (5 : Int32)) (lv' := [(2, .int (5 : Int32)), (1, .int (2 : Int32)), (0, .ref a.1)]) hx hb dX0_reset_38 hl (k := 1) rfl (by decide) (by decide) rfl (fun ls hl => ?_)
            refine lv_goto (tgt := 4) hx hb dX0_reset_41 (by decide) ?_
            refine lv_iload_n hx hb dX0_reset_4 rfl (lv_at hl 0 rfl) ?_
            refine lv_aload_n hx hb dX0_reset_5 rfl (lv_at hl 2 rfl) ?_
            refine va_get (D := kD k) (ci := 2) (v := .ref a.2.1) (C := RX0) (T := TX0) (N := 6) hx hb htg inG_X0 hown hGx.1 hP 0 rfl rfl 0 (by decide) (htg _ w_57) (fun _ h9 => h9) rfl dX0_reset_6 ?_
            refine va_alen (D := kD k) (v := 6) hx hb hGx.1 hP 1 0 rfl rfl (show Int32.ofNat 6 = 6 by decide) dX0_reset_9 ?_
            refine lv_icmp_ge (tgt := 44) hx hb dX0_reset_10 (by decide) (fun h => absurd h (by decide)) (fun _ => ?_)
            refine lv_aload_n hx hb dX0_reset_13 rfl (lv_at hl 2 rfl) ?_
            refine va_get (D := kD k) (ci := 2) (v := .ref a.2.1) (C := RX0) (T := TX0) (N := 6) hx hb htg inG_X0 hown hGx.1 hP 0 rfl rfl 0 (by decide) (htg _ w_57) (fun _ h9 => h9) rfl dX0_reset_14 ?_
            refine lv_iload_n hx hb dX0_reset_17 rfl (lv_at hl 0 rfl) ?_
            refine va_lald (D := kD k) hx hb hGx.1 hP 1 0 rfl rfl (show ¬ ((5 : Int32) < 0 ∨ 6 ≤ ((5 : Int32)).toNatClampNeg) by decide) dX0_reset_18 ?_
            refine lv_ldc2 hx hb hown (htg _ w_56) dX0_reset_19 ?_
            refine W.lcmp hx hb dX0_reset_22 ?_
            refine lv_if_eq (tgt := 38) hx hb dX0_reset_23 (by decide) (fun h_22 => ?_) (fun h_22 => ?_)
            · have hm := hm.trans (if_pos h_22)
              refine lv_iinc (v := (6 : Int32)) (lv' := [(2, .int (6 : Int32)), (1, .int (2 : Int32)), (0, .ref a.1)]) hx hb dX0_reset_38 hl (k := 0) rfl (by decide) (by decide) rfl (fun ls hl => ?_)
              refine lv_goto (tgt := 4) hx hb dX0_reset_41 (by decide) ?_
              refine lv_iload_n hx hb dX0_reset_4 rfl (lv_at hl 0 rfl) ?_
              refine lv_aload_n hx hb dX0_reset_5 rfl (lv_at hl 2 rfl) ?_
              refine va_get (D := kD k) (ci := 2) (v := .ref a.2.1) (C := RX0) (T := TX0) (N := 6) hx hb htg inG_X0 hown hGx.1 hP 0 rfl rfl 0 (by decide) (htg _ w_57) (fun _ h9 => h9) rfl dX0_reset_6 ?_
              refine va_alen (D := kD k) (v := 6) hx hb hGx.1 hP 1 0 rfl rfl (show Int32.ofNat 6 = 6 by decide) dX0_reset_9 ?_
              refine lv_icmp_ge (tgt := 44) hx hb dX0_reset_10 (by decide) (fun _ => ?_) (fun h => absurd h (by decide))
              refine lv_iconst (v := 0) hx hb dX0_reset_44 (by decide) ?_
              refine lv_istore_n (lv' := [(2, .int (0 : Int32)), (1, .int (2 : Int32)), (0, .ref a.1)]) hx hb dX0_reset_45 rfl hl (by decide) rfl (fun ls hl => ?_)
              refine lv_iload_n hx hb dX0_reset_46 rfl (lv_at hl 0 rfl) ?_
              refine lv_iconst (v := 2) hx hb dX0_reset_47 (by decide) ?_
              refine lv_icmp_ge (tgt := 65) hx hb dX0_reset_48 (by decide) (fun h => absurd h (by decide)) (fun _ => ?_)
              refine lv_aload_n hx hb dX0_reset_51 rfl (lv_at hl 2 rfl) ?_
              refine lv_iload_n hx hb dX0_reset_52 rfl (lv_at hl 0 rfl) ?_
              refine lv_iconst (v := 0) hx hb dX0_reset_53 (by decide) ?_
              refine lv_iconst (v := 0) hx hb dX0_reset_54 (by decide) ?_
              refine lv_iconst (v := 0) hx hb dX0_reset_55 (by decide) ?_
              refine cc_V hC hGx hD hEx hlocks (c_X0_putSpan l hl9 k a hD (0 : Int32) (0 : Int32) (0 : Int32) (0 : Int32) (vp_updL (vp_updL z.1 (3 : Int32).toNatClampNeg (1008673 : Int64)) (4 : Int32).toNatClampNeg (1008673 : Int64), z.2.1, z.2.2.1, z.2.2.2.1, z.2.2.2.2.1, z.2.2.2.2.2)) (gV w_82 w_83 w_6 w_26 w_84) kk_X0_putSpan rfl ⟨Nat.le_of_ble_eq_true rfl, Nat.le_of_ble_eq_true rfl⟩ ⟨Nat.le_of_ble_eq_true rfl, Nat.le_of_ble_eq_true rfl⟩ ⟨Nat.le_of_ble_eq_true rfl, Nat.le_of_ble_eq_true rfl⟩ hP hS hl.1 rfl rfl (Nat.le_of_ble_eq_true rfl) dX0_reset_56 (fun h_23 => ?_) (fun h_23 H locs hP hS => ?_)
              · have hm : m_X0_reset z = ((m_X0_putSpan (0 : Int32) (0 : Int32) (0 : Int32) (0 : Int32) (vp_updL (vp_updL z.1 (3 : Int32).toNatClampNeg (1008673 : Int64)) (4 : Int32).toNatClampNeg (1008673 : Int64), z.2.1, z.2.2.1, z.2.2.2.1, z.2.2.2.2.1, z.2.2.2.2.2)).1, 0, (m_X0_putSpan (0 : Int32) (0 : Int32) (0 : Int32) (0 : Int32) (vp_updL (vp_updL z.1 (3 : Int32).toNatClampNeg (1008673 : Int64)) (4 : Int32).toNatClampNeg (1008673 : Int64), z.2.1, z.2.2.1, z.2.2.2.1, z.2.2.2.2.1, z.2.2.2.2.2)).2) := hm.trans (if_neg h_23)
                exact ⟨by rw [hm], by rw [hm]⟩
              · have hm := hm.trans (if_pos h_23)
                refine lv_iinc (v := (1 : Int32)) (lv' := [(2, .int (1 : Int32)), (1, .int (2 : Int32)), (0, .ref a.1)]) hx hb dX0_reset_59 hl (k := 0) rfl (by decide) (by decide) rfl (fun ls hl => ?_)
                refine lv_goto (tgt := 46) hx hb dX0_reset_62 (by decide) ?_
                refine lv_iload_n hx hb dX0_reset_46 rfl (lv_at hl 0 rfl) ?_
                refine lv_iconst (v := 2) hx hb dX0_reset_47 (by decide) ?_
                refine lv_icmp_ge (tgt := 65) hx hb dX0_reset_48 (by decide) (fun h => absurd h (by decide)) (fun _ => ?_)
                refine lv_aload_n hx hb dX0_reset_51 rfl (lv_at hl 2 rfl) ?_
                refine lv_iload_n hx hb dX0_reset_52 rfl (lv_at hl 0 rfl) ?_
                refine lv_iconst (v := 0) hx hb dX0_reset_53 (by decide) ?_
                refine lv_iconst (v := 0) hx hb dX0_reset_54 (by decide) ?_
                refine lv_iconst (v := 0) hx hb dX0_reset_55 (by decide) ?_
                refine cc_V hC hGx hD hEx hlocks (c_X0_putSpan l hl9 k a hD (1 : Int32) (0 : Int32) (0 : Int32) (0 : Int32) ((m_X0_putSpan (0 : Int32) (0 : Int32) (0 : Int32) (0 : Int32) (vp_updL (vp_updL z.1 (3 : Int32).toNatClampNeg (1008673 : Int64)) (4 : Int32).toNatClampNeg (1008673 : Int64), z.2.1, z.2.2.1, z.2.2.2.1, z.2.2.2.2.1, z.2.2.2.2.2)).2)) (gV w_82 w_83 w_6 w_26 w_84) kk_X0_putSpan rfl ⟨Nat.le_of_ble_eq_true rfl, Nat.le_of_ble_eq_true rfl⟩ ⟨Nat.le_of_ble_eq_true rfl, Nat.le_of_ble_eq_true rfl⟩ ⟨Nat.le_of_ble_eq_true rfl, Nat.le_of_ble_eq_true rfl⟩ hP hS hl.1 rfl rfl (Nat.le_of_ble_eq_true rfl) dX0_reset_56 (fun h_24 => ?_) (fun h_24 H locs hP hS => ?_)
                · have hm : m_X0_reset z = ((m_X0_putSpan (1 : Int32) (0 : Int32) (0 : Int32) (0 : Int32) ((m_X0_putSpan (0 : Int32) (0 : Int32) (0 : Int32) (0 : Int32) (vp_updL (vp_updL z.1 (3 : Int32).toNatClampNeg (1008673 : Int64)) (4 : Int32).toNatClampNeg (1008673 : Int64), z.2.1, z.2.2.1, z.2.2.2.1, z.2.2.2.2.1, z.2.2.2.2.2)).2)).1, 0, (m_X0_putSpan (1 : Int32) (0 : Int32) (0 : Int32) (0 : Int32) ((m_X0_putSpan (0 : Int32) (0 : Int32) (0 : Int32) (0 : Int32) (vp_updL (vp_updL z.1 (3 : Int32).toNatClampNeg (1008673 : Int64)) (4 : Int32).toNatClampNeg (1008673 : Int64), z.2.1, z.2.2.1, z.2.2.2.1, z.2.2.2.2.1, z.2.2.2.2.2)).2)).2) := hm.trans (if_neg h_24)
                  exact ⟨by rw [hm], by rw [hm]⟩
                · have hm := hm.trans (if_pos h_24)
                  refine lv_iinc (v := (2 : Int32)) (lv' := [(2, .int (2 : Int32)), (1, .int (2 : Int32)), (0, .ref a.1)]) hx hb dX0_reset_59 hl (k := 0) rfl (by decide) (by decide) rfl (fun ls hl => ?_)
                  refine lv_goto (tgt := 46) hx hb dX0_reset_62 (by decide) ?_
                  refine lv_iload_n hx hb dX0_reset_46 rfl (lv_at hl 0 rfl) ?_
                  refine lv_iconst (v := 2) hx hb dX0_reset_47 (by decide) ?_
                  refine lv_icmp_ge (tgt := 65) hx hb dX0_reset_48 (by decide) (fun _ => ?_) (fun h => absurd h (by decide))
                  refine lv_iload_n hx hb dX0_reset_65 rfl (lv_at hl 1 rfl) ?_
                  have hm : m_X0_reset z = (0, (2 : Int32), (m_X0_putSpan (1 : Int32) (0 : Int32) (0 : Int32) (0 : Int32) ((m_X0_putSpan (0 : Int32) (0 : Int32) (0 : Int32) (0 : Int32) (vp_updL (vp_updL z.1 (3 : Int32).toNatClampNeg (1008673 : Int64)) (4 : Int32).toNatClampNeg (1008673 : Int64), z.2.1, z.2.2.1, z.2.2.2.1, z.2.2.2.2.1, z.2.2.2.2.2)).2)).2) := hm
                  exact c_iret (E := (2 : Int32)) hx hb hr hlocks (by rw [hm]) (by rw [hm]) (by rw [hm]) hP hS ⟨Nat.le_of_ble_eq_true rfl, Nat.le_of_ble_eq_true rfl⟩ dX0_reset_66
            · have hm := hm.trans (if_neg h_22)
              refine lv_iinc (v := (3 : Int32)) (lv' := [(1, .int (3 : Int32)), (2, .int (5 : Int32)), (0, .ref a.1)]) hx hb dX0_reset_26 hl (k := 1) rfl (by decide) (by decide) rfl (fun ls hl => ?_)
              refine lv_aload_n hx hb dX0_reset_29 rfl (lv_at hl 2 rfl) ?_
              refine va_get (D := kD k) (ci := 2) (v := .ref a.2.1) (C := RX0) (T := TX0) (N := 6) hx hb htg inG_X0 hown hGx.1 hP 0 rfl rfl 0 (by decide) (htg _ w_57) (fun _ h9 => h9) rfl dX0_reset_30 ?_
              refine lv_iload_n hx hb dX0_reset_33 rfl (lv_at hl 1 rfl) ?_
              refine lv_ldc2 hx hb hown (htg _ w_56) dX0_reset_34 ?_
              refine va_last (D := kD k) hx hb hGx.1 hP (hD.own _ _) hS 1 0 rfl rfl (show ¬ ((5 : Int32) < 0 ∨ 6 ≤ ((5 : Int32)).toNatClampNeg) by decide) dX0_reset_37 (fun H locs hP1 _ hS => ?_)
              have hP : va_P (kD k) vwCl (cW k a (vp_updL (vp_updL (vp_updL z.1 (3 : Int32).toNatClampNeg (1008673 : Int64)) (4 : Int32).toNatClampNeg (1008673 : Int64)) (5 : Int32).toNatClampNeg (1008673 : Int64), z.2.1, z.2.2.1, z.2.2.2.1, z.2.2.2.2.1, z.2.2.2.2.2)) H := hP1
              refine lv_iinc (v := (6 : Int32)) (lv' := [(2, .int (6 : Int32)), (1, .int (3 : Int32)), (0, .ref a.1)]) hx hb dX0_reset_38 hl (k := 1) rfl (by decide) (by decide) rfl (fun ls hl => ?_)
              refine lv_goto (tgt := 4) hx hb dX0_reset_41 (by decide) ?_
              refine lv_iload_n hx hb dX0_reset_4 rfl (lv_at hl 0 rfl) ?_
              refine lv_aload_n hx hb dX0_reset_5 rfl (lv_at hl 2 rfl) ?_
              refine va_get (D := kD k) (ci := 2) (v := .ref a.2.1) (C := RX0) (T := TX0) (N := 6) hx hb htg inG_X0 hown hGx.1 hP 0 rfl rfl 0 (by decide) (htg _ w_57) (fun _ h9 => h9) rfl dX0_reset_6 ?_
              refine va_alen (D := kD k) (v := 6) hx hb hGx.1 hP 1 0 rfl rfl (show Int32.ofNat 6 = 6 by decide) dX0_reset_9 ?_
              refine lv_icmp_ge (tgt := 44) hx hb dX0_reset_10 (by decide) (fun _ => ?_) (fun h => absurd h (by decide))
              refine lv_iconst (v := 0) hx hb dX0_reset_44 (by decide) ?_
              refine lv_istore_n (lv' := [(2, .int (0 : Int32)), (1, .int (3 : Int32)), (0, .ref a.1)]) hx hb dX0_reset_45 rfl hl (by decide) rfl (fun ls hl => ?_)
              refine lv_iload_n hx hb dX0_reset_46 rfl (lv_at hl 0 rfl) ?_
              refine lv_iconst (v := 2) hx hb dX0_reset_47 (by decide) ?_
              refine lv_icmp_ge (tgt := 65) hx hb dX0_reset_48 (by decide) (fun h => absurd h (by decide)) (fun _ => ?_)
              refine lv_aload_n hx hb dX0_reset_51 rfl (lv_at hl 2 rfl) ?_
              refine lv_iload_n hx hb dX0_reset_52 rfl (lv_at hl 0 rfl) ?_
              refine lv_iconst (v := 0) hx hb dX0_reset_53 (by decide) ?_
              refine lv_iconst (v := 0) hx hb dX0_reset_54 (by decide) ?_
              refine lv_iconst (v := 0) hx hb dX0_reset_55 (by decide) ?_
              refine cc_V hC hGx hD hEx hlocks (c_X0_putSpan l hl9 k a hD (0 : Int32) (0 : Int32) (0 : Int32) (0 : Int32) (vp_updL (vp_updL (vp_updL z.1 (3 : Int32).toNatClampNeg (1008673 : Int64)) (4 : Int32).toNatClampNeg (1008673 : Int64)) (5 : Int32).toNatClampNeg (1008673 : Int64), z.2.1, z.2.2.1, z.2.2.2.1, z.2.2.2.2.1, z.2.2.2.2.2)) (gV w_82 w_83 w_6 w_26 w_84) kk_X0_putSpan rfl ⟨Nat.le_of_ble_eq_true rfl, Nat.le_of_ble_eq_true rfl⟩ ⟨Nat.le_of_ble_eq_true rfl, Nat.le_of_ble_eq_true rfl⟩ ⟨Nat.le_of_ble_eq_true rfl, Nat.le_of_ble_eq_true rfl⟩ hP hS hl.1 rfl rfl (Nat.le_of_ble_eq_true rfl) dX0_reset_56 (fun h_25 => ?_) (fun h_25 H locs hP hS => ?_)
              · have hm : m_X0_reset z = ((m_X0_putSpan (0 : Int32) (0 : Int32) (0 : Int32) (0 : Int32) (vp_updL (vp_updL (vp_updL z.1 (3 : Int32).toNatClampNeg (1008673 : Int64)) (4 : Int32).toNatClampNeg (1008673 : Int64)) (5 : Int32).toNatClampNeg (1008673 : Int64), z.2.1, z.2.2.1, z.2.2.2.1, z.2.2.2.2.1, z.2.2.2.2.2)).1, 0, (m_X0_putSpan (0 : Int32) (0 : Int32) (0 : Int32) (0 : Int32) (vp_updL (vp_updL (vp_updL z.1 (3 : Int32).toNatClampNeg (1008673 : Int64)) (4 : Int32).toNatClampNeg (1008673 : Int64)) (5 : Int32).toNatClampNeg (1008673 : Int64), z.2.1, z.2.2.1, z.2.2.2.1, z.2.2.2.2.1, z.2.2.2.2.2)).2) := hm.trans (if_neg h_25)
                exact ⟨by rw [hm], by rw [hm]⟩
              · have hm := hm.trans (if_pos h_25)
                refine lv_iinc (v := (1 : Int32)) (lv' := [(2, .int (1 : Int32)), (1, .int (3 : Int32)), (0, .ref a.1)]) hx hb dX0_reset_59 hl (k := 0) rfl (by decide) (by decide) rfl (fun ls hl => ?_)
                refine lv_goto (tgt := 46) hx hb dX0_reset_62 (by decide) ?_
                refine lv_iload_n hx hb dX0_reset_46 rfl (lv_at hl 0 rfl) ?_
                refine lv_iconst (v := 2) hx hb dX0_reset_47 (by decide) ?_
                refine lv_icmp_ge (tgt := 65) hx hb dX0_reset_48 (by decide) (fun h => absurd h (by decide)) (fun _ => ?_)
                refine lv_aload_n hx hb dX0_reset_51 rfl (lv_at hl 2 rfl) ?_
                refine lv_iload_n hx hb dX0_reset_52 rfl (lv_at hl 0 rfl) ?_
                refine lv_iconst (v := 0) hx hb dX0_reset_53 (by decide) ?_
                refine lv_iconst (v := 0) hx hb dX0_reset_54 (by decide) ?_
                refine lv_iconst (v := 0) hx hb dX0_reset_55 (by decide) ?_
                refine cc_V hC hGx hD hEx hlocks (c_X0_putSpan l hl9 k a hD (1 : Int32) (0 : Int32) (0 : Int32) (0 : Int32) ((m_X0_putSpan (0 : Int32) (0 : Int32) (0 : Int32) (0 : Int32) (vp_updL (vp_updL (vp_updL z.1 (3 : Int32).toNatClampNeg (1008673 : Int64)) (4 : Int32).toNatClampNeg (1008673 : Int64)) (5 : Int32).toNatClampNeg (1008673 : Int64), z.2.1, z.2.2.1, z.2.2.2.1, z.2.2.2.2.1, z.2.2.2.2.2)).2)) (gV w_82 w_83 w_6 w_26 w_84) kk_X0_putSpan rfl ⟨Nat.le_of_ble_eq_true rfl, Nat.le_of_ble_eq_true rfl⟩ ⟨Nat.le_of_ble_eq_true rfl, Nat.le_of_ble_eq_true rfl⟩ ⟨Nat.le_of_ble_eq_true rfl, Nat.le_of_ble_eq_true rfl⟩ hP hS hl.1 rfl rfl (Nat.le_of_ble_eq_true rfl) dX0_reset_56 (fun h_26 => ?_) (fun h_26 H locs hP hS => ?_)
                · have hm : m_X0_reset z = ((m_X0_putSpan (1 : Int32) (0 : Int32) (0 : Int32) (0 : Int32) ((m_X0_putSpan (0 : Int32) (0 : Int32) (0 : Int32) (0 : Int32) (vp_updL (vp_updL (vp_updL z.1 (3 : Int32).toNatClampNeg (1008673 : Int64)) (4 : Int32).toNatClampNeg (1008673 : Int64)) (5 : Int32).toNatClampNeg (1008673 : Int64), z.2.1, z.2.2.1, z.2.2.2.1, z.2.2.2.2.1, z.2.2.2.2.2)).2)).1, 0, (m_X0_putSpan (1 : Int32) (0 : Int32) (0 : Int32) (0 : Int32) ((m_X0_putSpan (0 : Int32) (0 : Int32) (0 : Int32) (0 : Int32) (vp_updL (vp_updL (vp_updL z.1 (3 : Int32).toNatClampNeg (1008673 : Int64)) (4 : Int32).toNatClampNeg (1008673 : Int64)) (5 : Int32).toNatClampNeg (1008673 : Int64), z.2.1, z.2.2.1, z.2.2.2.1, z.2.2.2.2.1, z.2.2.2.2.2)).2)).2) := hm.trans (if_neg h_26)
                  exact ⟨by rw [hm], by rw [hm]⟩
                · have hm := hm.trans (if_pos h_26)
                  refine lv_iinc (v := (2 : Int32)) (lv' := [(2, .int (2 : Int32)), (1, .int (3 : Int32)), (0, .ref a.1)]) hx hb dX0_reset_59 hl (k := 0) rfl (by decide) (by decide) rfl (fun ls hl => ?_)
                  refine lv_goto (tgt := 46) hx hb dX0_reset_62 (by decide) ?_
                  refine lv_iload_n hx hb dX0_reset_46 rfl (lv_at hl 0 rfl) ?_
                  refine lv_iconst (v := 2) hx hb dX0_reset_47 (by decide) ?_
                  refine lv_icmp_ge (tgt := 65) hx hb dX0_reset_48 (by decide) (fun _ => ?_) (fun h => absurd h (by decide))
                  refine lv_iload_n hx hb dX0_reset_65 rfl (lv_at hl 1 rfl) ?_
                  have hm : m_X0_reset z = (0, (3 : Int32), (m_X0_putSpan (1 : Int32) (0 : Int32) (0 : Int32) (0 : Int32) ((m_X0_putSpan (0 : Int32) (0 : Int32) (0 : Int32) (0 : Int32) (vp_updL (vp_updL (vp_updL z.1 (3 : Int32).toNatClampNeg (1008673 : Int64)) (4 : Int32).toNatClampNeg (1008673 : Int64)) (5 : Int32).toNatClampNeg (1008673 : Int64), z.2.1, z.2.2.1, z.2.2.2.1, z.2.2.2.2.1, z.2.2.2.2.2)).2)).2) := hm
                  exact c_iret (E := (3 : Int32)) hx hb hr hlocks (by rw [hm]) (by rw [hm]) (by rw [hm]) hP hS ⟨Nat.le_of_ble_eq_true rfl, Nat.le_of_ble_eq_true rfl⟩ dX0_reset_66
      · have hm := hm.trans (if_neg h_3)
        refine lv_iinc (v := (1 : Int32)) (lv' := [(1, .int (1 : Int32)), (2, .int (2 : Int32)), (0, .ref a.1)]) hx hb dX0_reset_26 hl (k := 1) rfl (by decide) (by decide) rfl (fun ls hl => ?_)
        refine lv_aload_n hx hb dX0_reset_29 rfl (lv_at hl 2 rfl) ?_
        refine va_get (D := kD k) (ci := 2) (v := .ref a.2.1) (C := RX0) (T := TX0) (N := 6) hx hb htg inG_X0 hown hGx.1 hP 0 rfl rfl 0 (by decide) (htg _ w_57) (fun _ h9 => h9) rfl dX0_reset_30 ?_
        refine lv_iload_n hx hb dX0_reset_33 rfl (lv_at hl 1 rfl) ?_
        refine lv_ldc2 hx hb hown (htg _ w_56) dX0_reset_34 ?_
        refine va_last (D := kD k) hx hb hGx.1 hP (hD.own _ _) hS 1 0 rfl rfl (show ¬ ((2 : Int32) < 0 ∨ 6 ≤ ((2 : Int32)).toNatClampNeg) by decide) dX0_reset_37 (fun H locs hP1 _ hS => ?_)
        have hP : va_P (kD k) vwCl (cW k a (vp_updL z.1 (2 : Int32).toNatClampNeg (1008673 : Int64), z.2.1, z.2.2.1, z.2.2.2.1, z.2.2.2.2.1, z.2.2.2.2.2)) H := hP1
        refine lv_iinc (v := (3 : Int32)) (lv' := [(2, .int (3 : Int32)), (1, .int (1 : Int32)), (0, .ref a.1)]) hx hb dX0_reset_38 hl (k := 1) rfl (by decide) (by decide) rfl (fun ls hl => ?_)
        refine lv_goto (tgt := 4) hx hb dX0_reset_41 (by decide) ?_
        refine lv_iload_n hx hb dX0_reset_4 rfl (lv_at hl 0 rfl) ?_
        refine lv_aload_n hx hb dX0_reset_5 rfl (lv_at hl 2 rfl) ?_
        refine va_get (D := kD k) (ci := 2) (v := .ref a.2.1) (C := RX0) (T := TX0) (N := 6) hx hb htg inG_X0 hown hGx.1 hP 0 rfl rfl 0 (by decide) (htg _ w_57) (fun _ h9 => h9) rfl dX0_reset_6 ?_
        refine va_alen (D := kD k) (v := 6) hx hb hGx.1 hP 1 0 rfl rfl (show Int32.ofNat 6 = 6 by decide) dX0_reset_9 ?_
        refine lv_icmp_ge (tgt := 44) hx hb dX0_reset_10 (by decide) (fun h => absurd h (by decide)) (fun _ => ?_)
        refine lv_aload_n hx hb dX0_reset_13 rfl (lv_at hl 2 rfl) ?_
        refine va_get (D := kD k) (ci := 2) (v := .ref a.2.1) (C := RX0) (T := TX0) (N := 6) hx hb htg inG_X0 hown hGx.1 hP 0 rfl rfl 0 (by decide) (htg _ w_57) (fun _ h9 => h9) rfl dX0_reset_14 ?_
        refine lv_iload_n hx hb dX0_reset_17 rfl (lv_at hl 0 rfl) ?_
        refine va_lald (D := kD k) hx hb hGx.1 hP 1 0 rfl rfl (show ¬ ((3 : Int32) < 0 ∨ 6 ≤ ((3 : Int32)).toNatClampNeg) by decide) dX0_reset_18 ?_
        refine lv_ldc2 hx hb hown (htg _ w_56) dX0_reset_19 ?_
        refine W.lcmp hx hb dX0_reset_22 ?_
        refine lv_if_eq (tgt := 38) hx hb dX0_reset_23 (by decide) (fun h_27 => ?_) (fun h_27 => ?_)
        · have hm := hm.trans (if_pos h_27)
          refine lv_iinc (v := (4 : Int32)) (lv' := [(2, .int (4 : Int32)), (1, .int (1 : Int32)), (0, .ref a.1)]) hx hb dX0_reset_38 hl (k := 0) rfl (by decide) (by decide) rfl (fun ls hl => ?_)
          refine lv_goto (tgt := 4) hx hb dX0_reset_41 (by decide) ?_
          refine lv_iload_n hx hb dX0_reset_4 rfl (lv_at hl 0 rfl) ?_
          refine lv_aload_n hx hb dX0_reset_5 rfl (lv_at hl 2 rfl) ?_
          refine va_get (D := kD k) (ci := 2) (v := .ref a.2.1) (C := RX0) (T := TX0) (N := 6) hx hb htg inG_X0 hown hGx.1 hP 0 rfl rfl 0 (by decide) (htg _ w_57) (fun _ h9 => h9) rfl dX0_reset_6 ?_
          refine va_alen (D := kD k) (v := 6) hx hb hGx.1 hP 1 0 rfl rfl (show Int32.ofNat 6 = 6 by decide) dX0_reset_9 ?_
          refine lv_icmp_ge (tgt := 44) hx hb dX0_reset_10 (by decide) (fun h => absurd h (by decide)) (fun _ => ?_)
          refine lv_aload_n hx hb dX0_reset_13 rfl (lv_at hl 2 rfl) ?_
          refine va_get (D := kD k) (ci := 2) (v := .ref a.2.1) (C := RX0) (T := TX0) (N := 6) hx hb htg inG_X0 hown hGx.1 hP 0 rfl rfl 0 (by decide) (htg _ w_57) (fun _ h9 => h9) rfl dX0_reset_14 ?_
          refine lv_iload_n hx hb dX0_reset_17 rfl (lv_at hl 0 rfl) ?_
          refine va_lald (D := kD k) hx hb hGx.1 hP 1 0 rfl rfl (show ¬ ((4 : Int32) < 0 ∨ 6 ≤ ((4 : Int32)).toNatClampNeg) by decide) dX0_reset_18 ?_
          refine lv_ldc2 hx hb hown (htg _ w_56) dX0_reset_19 ?_
          refine W.lcmp hx hb dX0_reset_22 ?_
          refine lv_if_eq (tgt := 38) hx hb dX0_reset_23 (by decide) (fun h_28 => ?_) (fun h_28 => ?_)
          · have hm := hm.trans (if_pos h_28)
            refine lv_iinc (v := (5 : Int32)) (lv' := [(2, .int (5 : Int32)), (1, .int (1 : Int32)), (0, .ref a.1)]) hx hb dX0_reset_38 hl (k := 0) rfl (by decide) (by decide) rfl (fun ls hl => ?_)
            refine lv_goto (tgt := 4) hx hb dX0_reset_41 (by decide) ?_
            refine lv_iload_n hx hb dX0_reset_4 rfl (lv_at hl 0 rfl) ?_
            refine lv_aload_n hx hb dX0_reset_5 rfl (lv_at hl 2 rfl) ?_
            refine va_get (D := kD k) (ci := 2) (v := .ref a.2.1) (C := RX0) (T := TX0) (N := 6) hx hb htg inG_X0 hown hGx.1 hP 0 rfl rfl 0 (by decide) (htg _ w_57) (fun _ h9 => h9) rfl dX0_reset_6 ?_
            refine va_alen (D := kD k) (v := 6) hx hb hGx.1 hP 1 0 rfl rfl (show Int32.ofNat 6 = 6 by decide) dX0_reset_9 ?_
            refine lv_icmp_ge (tgt := 44) hx hb dX0_reset_10 (by decide) (fun h => absurd h (by decide)) (fun _ => ?_)
            refine lv_aload_n hx hb dX0_reset_13 rfl (lv_at hl 2 rfl) ?_
            refine va_get (D := kD k) (ci := 2) (v := .ref a.2.1) (C := RX0) (T := TX0) (N := 6) hx hb htg inG_X0 hown hGx.1 hP 0 rfl rfl 0 (by decide) (htg _ w_57) (fun _ h9 => h9) rfl dX0_reset_14 ?_
            refine lv_iload_n hx hb dX0_reset_17 rfl (lv_at hl 0 rfl) ?_
            refine va_lald (D := kD k) hx hb hGx.1 hP 1 0 rfl rfl (show ¬ ((5 : Int32) < 0 ∨ 6 ≤ ((5 : Int32)).toNatClampNeg) by decide) dX0_reset_18 ?_
            refine lv_ldc2 hx hb hown (htg _ w_56) dX0_reset_19 ?_
            refine W.lcmp hx hb dX0_reset_22 ?_
            refine lv_if_eq (tgt := 38) hx hb dX0_reset_23 (by decide) (fun h_29 => ?_) (fun h_29 => ?_)
            · have hm := hm.trans (if_pos h_29)
              refine lv_iinc (v := (6 : Int32)) (lv' := [(2, .int (6 : Int32)), (1, .int (1 : Int32)), (0, .ref a.1)]) hx hb dX0_reset_38 hl (k := 0) rfl (by decide) (by decide) rfl (fun ls hl => ?_)
              refine lv_goto (tgt := 4) hx hb dX0_reset_41 (by decide) ?_
              refine lv_iload_n hx hb dX0_reset_4 rfl (lv_at hl 0 rfl) ?_
              refine lv_aload_n hx hb dX0_reset_5 rfl (lv_at hl 2 rfl) ?_
              refine va_get (D := kD k) (ci := 2) (v := .ref a.2.1) (C := RX0) (T := TX0) (N := 6) hx hb htg inG_X0 hown hGx.1 hP 0 rfl rfl 0 (by decide) (htg _ w_57) (fun _ h9 => h9) rfl dX0_reset_6 ?_
              refine va_alen (D := kD k) (v := 6) hx hb hGx.1 hP 1 0 rfl rfl (show Int32.ofNat 6 = 6 by decide) dX0_reset_9 ?_
              refine lv_icmp_ge (tgt := 44) hx hb dX0_reset_10 (by decide) (fun _ => ?_) (fun h => absurd h (by decide))
              refine lv_iconst (v := 0) hx hb dX0_reset_44 (by decide) ?_
              refine lv_istore_n (lv' := [(2, .int (0 : Int32)), (1, .int (1 : Int32)), (0, .ref a.1)]) hx hb dX0_reset_45 rfl hl (by decide) rfl (fun ls hl => ?_)
              refine lv_iload_n hx hb dX0_reset_46 rfl (lv_at hl 0 rfl) ?_
              refine lv_iconst (v := 2) hx hb dX0_reset_47 (by decide) ?_
              refine lv_icmp_ge (tgt := 65) hx hb dX0_reset_48 (by decide) (fun h => absurd h (by decide)) (fun _ => ?_)
              refine lv_aload_n hx hb dX0_reset_51 rfl (lv_at hl 2 rfl) ?_
              refine lv_iload_n hx hb dX0_reset_52 rfl (lv_at hl 0 rfl) ?_
              refine lv_iconst (v := 0) hx hb dX0_reset_53 (by decide) ?_
              refine lv_iconst (v := 0) hx hb dX0_reset_54 (by decide) ?_
              refine lv_iconst (v := 0) hx hb dX0_reset_55 (by decide) ?_
              refine cc_V hC hGx hD hEx hlocks (c_X0_putSpan l hl9 k a hD (0 : Int32) (0 : Int32) (0 : Int32) (0 : Int32) (vp_updL z.1 (2 : Int32).toNatClampNeg (1008673 : Int64), z.2.1, z.2.2.1, z.2.2.2.1, z.2.2.2.2.1, z.2.2.2.2.2)) (gV w_82 w_83 w_6 w_26 w_84) kk_X0_putSpan rfl ⟨Nat.le_of_ble_eq_true rfl, Nat.le_of_ble_eq_true rfl⟩ ⟨Nat.le_of_ble_eq_true rfl, Nat.le_of_ble_eq_true rfl⟩ ⟨Nat.le_of_ble_eq_true rfl, Nat.le_of_ble_eq_true rfl⟩ hP hS hl.1 rfl rfl (Nat.le_of_ble_eq_true rfl) dX0_reset_56 (fun h_30 => ?_) (fun h_30 H locs hP hS => ?_)
              · have hm : m_X0_reset z = ((m_X0_putSpan (0 : Int32) (0 : Int32) (0 : Int32) (0 : Int32) (vp_updL z.1 (2 : Int32).toNatClampNeg (1008673 : Int64), z.2.1, z.2.2.1, z.2.2.2.1, z.2.2.2.2.1, z.2.2.2.2.2)).1, 0, (m_X0_putSpan (0 : Int32) (0 : Int32) (0 : Int32) (0 : Int32) (vp_updL z.1 (2 : Int32).toNatClampNeg (1008673 : Int64), z.2.1, z.2.2.1, z.2.2.2.1, z.2.2.2.2.1, z.2.2.2.2.2)).2) := hm.trans (if_neg h_30)
                exact ⟨by rw [hm], by rw [hm]⟩
              · have hm := hm.trans (if_pos h_30)
                refine lv_iinc (v := (1 : Int32)) (lv' := [(2, .int (1 : Int32)), (1, .int (1 : Int32)), (0, .ref a.1)]) hx hb dX0_reset_59 hl (k := 0) rfl (by decide) (by decide) rfl (fun ls hl => ?_)
                refine lv_goto (tgt := 46) hx hb dX0_reset_62 (by decide) ?_
                refine lv_iload_n hx hb dX0_reset_46 rfl (lv_at hl 0 rfl) ?_
                refine lv_iconst (v := 2) hx hb dX0_reset_47 (by decide) ?_
                refine lv_icmp_ge (tgt := 65) hx hb dX0_reset_48 (by decide) (fun h => absurd h (by decide)) (fun _ => ?_)
                refine lv_aload_n hx hb dX0_reset_51 rfl (lv_at hl 2 rfl) ?_
                refine lv_iload_n hx hb dX0_reset_52 rfl (lv_at hl 0 rfl) ?_
                refine lv_iconst (v := 0) hx hb dX0_reset_53 (by decide) ?_
                refine lv_iconst (v := 0) hx hb dX0_reset_54 (by decide) ?_
                refine lv_iconst (v := 0) hx hb dX0_reset_55 (by decide) ?_
                refine cc_V hC hGx hD hEx hlocks (c_X0_putSpan l hl9 k a hD (1 : Int32) (0 : Int32) (0 : Int32) (0 : Int32) ((m_X0_putSpan (0 : Int32) (0 : Int32) (0 : Int32) (0 : Int32) (vp_updL z.1 (2 : Int32).toNatClampNeg (1008673 : Int64), z.2.1, z.2.2.1, z.2.2.2.1, z.2.2.2.2.1, z.2.2.2.2.2)).2)) (gV w_82 w_83 w_6 w_26 w_84) kk_X0_putSpan rfl ⟨Nat.le_of_ble_eq_true rfl, Nat.le_of_ble_eq_true rfl⟩ ⟨Nat.le_of_ble_eq_true rfl, Nat.le_of_ble_eq_true rfl⟩ ⟨Nat.le_of_ble_eq_true rfl, Nat.le_of_ble_eq_true rfl⟩ hP hS hl.1 rfl rfl (Nat.le_of_ble_eq_true rfl) dX0_reset_56 (fun h_31 => ?_) (fun h_31 H locs hP hS => ?_)
                · have hm : m_X0_reset z = ((m_X0_putSpan (1 : Int32) (0 : Int32) (0 : Int32) (0 : Int32) ((m_X0_putSpan (0 : Int32) (0 : Int32) (0 : Int32) (0 : Int32) (vp_updL z.1 (2 : Int32).toNatClampNeg (1008673 : Int64), z.2.1, z.2.2.1, z.2.2.2.1, z.2.2.2.2.1, z.2.2.2.2.2)).2)).1, 0, (m_X0_putSpan (1 : Int32) (0 : Int32) (0 : Int32) (0 : Int32) ((m_X0_putSpan (0 : Int32) (0 : Int32) (0 : Int32) (0 : Int32) (vp_updL z.1 (2 : Int32).toNatClampNeg (1008673 : Int64), z.2.1, z.2.2.1, z.2.2.2.1, z.2.2.2.2.1, z.2.2.2.2.2)).2)).2) := hm.trans (if_neg h_31)
                  exact ⟨by rw [hm], by rw [hm]⟩
                · have hm := hm.trans (if_pos h_31)
                  refine lv_iinc (v := (2 : Int32)) (lv' := [(2, .int (2 : Int32)), (1, .int (1 : Int32)), (0, .ref a.1)]) hx hb dX0_reset_59 hl (k := 0) rfl (by decide) (by decide) rfl (fun ls hl => ?_)
                  refine lv_goto (tgt := 46) hx hb dX0_reset_62 (by decide) ?_
                  refine lv_iload_n hx hb dX0_reset_46 rfl (lv_at hl 0 rfl) ?_
                  refine lv_iconst (v := 2) hx hb dX0_reset_47 (by decide) ?_
                  refine lv_icmp_ge (tgt := 65) hx hb dX0_reset_48 (by decide) (fun _ => ?_) (fun h => absurd h (by decide))
                  refine lv_iload_n hx hb dX0_reset_65 rfl (lv_at hl 1 rfl) ?_
                  have hm : m_X0_reset z = (0, (1 : Int32), (m_X0_putSpan (1 : Int32) (0 : Int32) (0 : Int32) (0 : Int32) ((m_X0_putSpan (0 : Int32) (0 : Int32) (0 : Int32) (0 : Int32) (vp_updL z.1 (2 : Int32).toNatClampNeg (1008673 : Int64), z.2.1, z.2.2.1, z.2.2.2.1, z.2.2.2.2.1, z.2.2.2.2.2)).2)).2) := hm
                  exact c_iret (E := (1 : Int32)) hx hb hr hlocks (by rw [hm]) (by rw [hm]) (by rw [hm]) hP hS ⟨Nat.le_of_ble_eq_true rfl, Nat.le_of_ble_eq_true rfl⟩ dX0_reset_66
            · have hm := hm.trans (if_neg h_29)
              refine lv_iinc (v := (2 : Int32)) (lv' := [(1, .int (2 : Int32)), (2, .int (5 : Int32)), (0, .ref a.1)]) hx hb dX0_reset_26 hl (k := 1) rfl (by decide) (by decide) rfl (fun ls hl => ?_)
              refine lv_aload_n hx hb dX0_reset_29 rfl (lv_at hl 2 rfl) ?_
              refine va_get (D := kD k) (ci := 2) (v := .ref a.2.1) (C := RX0) (T := TX0) (N := 6) hx hb htg inG_X0 hown hGx.1 hP 0 rfl rfl 0 (by decide) (htg _ w_57) (fun _ h9 => h9) rfl dX0_reset_30 ?_
              refine lv_iload_n hx hb dX0_reset_33 rfl (lv_at hl 1 rfl) ?_
              refine lv_ldc2 hx hb hown (htg _ w_56) dX0_reset_34 ?_
              refine va_last (D := kD k) hx hb hGx.1 hP (hD.own _ _) hS 1 0 rfl rfl (show ¬ ((5 : Int32) < 0 ∨ 6 ≤ ((5 : Int32)).toNatClampNeg) by decide) dX0_reset_37 (fun H locs hP1 _ hS => ?_)
              have hP : va_P (kD k) vwCl (cW k a (vp_updL (vp_updL z.1 (2 : Int32).toNatClampNeg (1008673 : Int64)) (5 : Int32).toNatClampNeg (1008673 : Int64), z.2.1, z.2.2.1, z.2.2.2.1, z.2.2.2.2.1, z.2.2.2.2.2)) H := hP1
              refine lv_iinc (v := (6 : Int32)) (lv' := [(2, .int (6 : Int32)), (1, .int (2 : Int32)), (0, .ref a.1)]) hx hb dX0_reset_38 hl (k := 1) rfl (by decide) (by decide) rfl (fun ls hl => ?_)
              refine lv_goto (tgt := 4) hx hb dX0_reset_41 (by decide) ?_
              refine lv_iload_n hx hb dX0_reset_4 rfl (lv_at hl 0 rfl) ?_
              refine lv_aload_n hx hb dX0_reset_5 rfl (lv_at hl 2 rfl) ?_
              refine va_get (D := kD k) (ci := 2) (v := .ref a.2.1) (C := RX0) (T := TX0) (N := 6) hx hb htg inG_X0 hown hGx.1 hP 0 rfl rfl 0 (by decide) (htg _ w_57) (fun _ h9 => h9) rfl dX0_reset_6 ?_
              refine va_alen (D := kD k) (v := 6) hx hb hGx.1 hP 1 0 rfl rfl (show Int32.ofNat 6 = 6 by decide) dX0_reset_9 ?_
              refine lv_icmp_ge (tgt := 44) hx hb dX0_reset_10 (by decide) (fun _ => ?_) (fun h => absurd h (by decide))
              refine lv_iconst (v := 0) hx hb dX0_reset_44 (by decide) ?_
              refine lv_istore_n (lv' := [(2, .int (0 : Int32)), (1, .int (2 : Int32)), (0, .ref a.1)]) hx hb dX0_reset_45 rfl hl (by decide) rfl (fun ls hl => ?_)
              refine lv_iload_n hx hb dX0_reset_46 rfl (lv_at hl 0 rfl) ?_
              refine lv_iconst (v := 2) hx hb dX0_reset_47 (by decide) ?_
              refine lv_icmp_ge (tgt := 65) hx hb dX0_reset_48 (by decide) (fun h => absurd h (by decide)) (fun _ => ?_)
              refine lv_aload_n hx hb dX0_reset_51 rfl (lv_at hl 2 rfl) ?_
              refine lv_iload_n hx hb dX0_reset_52 rfl (lv_at hl 0 rfl) ?_
              refine lv_iconst (v := 0) hx hb dX0_reset_53 (by decide) ?_
              refine lv_iconst (v := 0) hx hb dX0_reset_54 (by decide) ?_
              refine lv_iconst (v := 0) hx hb dX0_reset_55 (by decide) ?_
              refine cc_V hC hGx hD hEx hlocks (c_X0_putSpan l hl9 k a hD (0 : Int32) (0 : Int32) (0 : Int32) (0 : Int32) (vp_updL (vp_updL z.1 (2 : Int32).toNatClampNeg (1008673 : Int64)) (5 : Int32).toNatClampNeg (1008673 : Int64), z.2.1, z.2.2.1, z.2.2.2.1, z.2.2.2.2.1, z.2.2.2.2.2)) (gV w_82 w_83 w_6 w_26 w_84) kk_X0_putSpan rfl ⟨Nat.le_of_ble_eq_true rfl, Nat.le_of_ble_eq_true rfl⟩ ⟨Nat.le_of_ble_eq_true rfl, Nat.le_of_ble_eq_true rfl⟩ ⟨Nat.le_of_ble_eq_true rfl, Nat.le_of_ble_eq_true rfl⟩ hP hS hl.1 rfl rfl (Nat.le_of_ble_eq_true rfl) dX0_reset_56 (fun h_32 => ?_) (fun h_32 H locs hP hS => ?_)
              · have hm : m_X0_reset z = ((m_X0_putSpan (0 : Int32) (0 : Int32) (0 : Int32) (0 : Int32) (vp_updL (vp_updL z.1 (2 : Int32).toNatClampNeg (1008673 : Int64)) (5 : Int32).toNatClampNeg (1008673 : Int64), z.2.1, z.2.2.1, z.2.2.2.1, z.2.2.2.2.1, z.2.2.2.2.2)).1, 0, (m_X0_putSpan (0 : Int32) (0 : Int32) (0 : Int32) (0 : Int32) (vp_updL (vp_updL z.1 (2 : Int32).toNatClampNeg (1008673 : Int64)) (5 : Int32).toNatClampNeg (1008673 : Int64), z.2.1, z.2.2.1, z.2.2.2.1, z.2.2.2.2.1, z.2.2.2.2.2)).2) := hm.trans (if_neg h_32)
                exact ⟨by rw [hm], by rw [hm]⟩
              · have hm := hm.trans (if_pos h_32)
                refine lv_iinc (v := (1 : Int32)) (lv' := [(2, .int (1 : Int32)), (1, .int (2 : Int32)), (0, .ref a.1)]) hx hb dX0_reset_59 hl (k := 0) rfl (by decide) (by decide) rfl (fun ls hl => ?_)
                refine lv_goto (tgt := 46) hx hb dX0_reset_62 (by decide) ?_
                refine lv_iload_n hx hb dX0_reset_46 rfl (lv_at hl 0 rfl) ?_
                refine lv_iconst (v := 2) hx hb dX0_reset_47 (by decide) ?_
                refine lv_icmp_ge (tgt := 65) hx hb dX0_reset_48 (by decide) (fun h => absurd h (by decide)) (fun _ => ?_)
                refine lv_aload_n hx hb dX0_reset_51 rfl (lv_at hl 2 rfl) ?_
                refine lv_iload_n hx hb dX0_reset_52 rfl (lv_at hl 0 rfl) ?_
                refine lv_iconst (v := 0) hx hb dX0_reset_53 (by decide) ?_
                refine lv_iconst (v := 0) hx hb dX0_reset_54 (by decide) ?_
                refine lv_iconst (v := 0) hx hb dX0_reset_55 (by decide) ?_
                refine cc_V hC hGx hD hEx hlocks (c_X0_putSpan l hl9 k a hD (1 : Int32) (0 : Int32) (0 : Int32) (0 : Int32) ((m_X0_putSpan (0 : Int32) (0 : Int32) (0 : Int32) (0 : Int32) (vp_updL (vp_updL z.1 (2 : Int32).toNatClampNeg (1008673 : Int64)) (5 : Int32).toNatClampNeg (1008673 : Int64), z.2.1, z.2.2.1, z.2.2.2.1, z.2.2.2.2.1, z.2.2.2.2.2)).2)) (gV w_82 w_83 w_6 w_26 w_84) kk_X0_putSpan rfl ⟨Nat.le_of_ble_eq_true rfl, Nat.le_of_ble_eq_true rfl⟩ ⟨Nat.le_of_ble_eq_true rfl, Nat.le_of_ble_eq_true rfl⟩ ⟨Nat.le_of_ble_eq_true rfl, Nat.le_of_ble_eq_true rfl⟩ hP hS hl.1 rfl rfl (Nat.le_of_ble_eq_true rfl) dX0_reset_56 (fun h_33 => ?_) (fun h_33 H locs hP hS => ?_)
                · have hm : m_X0_reset z = ((m_X0_putSpan (1 : Int32) (0 : Int32) (0 : Int32) (0 : Int32) ((m_X0_putSpan (0 : Int32) (0 : Int32) (0 : Int32) (0 : Int32) (vp_updL (vp_updL z.1 (2 : Int32).toNatClampNeg (1008673 : Int64)) (5 : Int32).toNatClampNeg (1008673 : Int64), z.2.1, z.2.2.1, z.2.2.2.1, z.2.2.2.2.1, z.2.2.2.2.2)).2)).1, 0, (m_X0_putSpan (1 : Int32) (0 : Int32) (0 : Int32) (0 : Int32) ((m_X0_putSpan (0 : Int32) (0 : Int32) (0 : Int32) (0 : Int32) (vp_updL (vp_updL z.1 (2 : Int32).toNatClampNeg (1008673 : Int64)) (5 : Int32).toNatClampNeg (1008673 : Int64), z.2.1, z.2.2.1, z.2.2.2.1, z.2.2.2.2.1, z.2.2.2.2.2)).2)).2) := hm.trans (if_neg h_33)
                  exact ⟨by rw [hm], by rw [hm]⟩
                · have hm := hm.trans (if_pos h_33)
                  refine lv_iinc (v := (2 : Int32)) (lv' := [(2, .int (2 : Int32)), (1, .int (2 : Int32)), (0, .ref a.1)]) hx hb dX0_reset_59 hl (k := 0) rfl (by decide) (by decide) rfl (fun ls hl => ?_)
                  refine lv_goto (tgt := 46) hx hb dX0_reset_62 (by decide) ?_
                  refine lv_iload_n hx hb dX0_reset_46 rfl (lv_at hl 0 rfl) ?_
                  refine lv_iconst (v := 2) hx hb dX0_reset_47 (by decide) ?_
                  refine lv_icmp_ge (tgt := 65) hx hb dX0_reset_48 (by decide) (fun _ => ?_) (fun h => absurd h (by decide))
                  refine lv_iload_n hx hb dX0_reset_65 rfl (lv_at hl 1 rfl) ?_
                  have hm : m_X0_reset z = (0, (2 : Int32), (m_X0_putSpan (1 : Int32) (0 : Int32) (0 : Int32) (0 : Int32) ((m_X0_putSpan (0 : Int32) (0 : Int32) (0 : Int32) (0 : Int32) (vp_updL (vp_updL z.1 (2 : Int32).toNatClampNeg (1008673 : Int64)) (5 : Int32).toNatClampNeg (1008673 : Int64), z.2.1, z.2.2.1, z.2.2.2.1, z.2.2.2.2.1, z.2.2.2.2.2)).2)).2) := hm
                  exact c_iret (E := (2 : Int32)) hx hb hr hlocks (by rw [hm]) (by rw [hm]) (by rw [hm]) hP hS ⟨Nat.le_of_ble_eq_true rfl, Nat.le_of_ble_eq_true rfl⟩ dX0_reset_66
          · have hm := hm.trans (if_neg h_28)
            refine lv_iinc (v := (2 : Int32)) (lv' := [(1, .int (2 : Int32)), (2, .int (4 : Int32)), (0, .ref a.1)]) hx hb dX0_reset_26 hl (k := 1) rfl (by decide) (by decide) rfl (fun ls hl => ?_)
            refine lv_aload_n hx hb dX0_reset_29 rfl (lv_at hl 2 rfl) ?_
            refine va_get (D := kD k) (ci := 2) (v := .ref a.2.1) (C := RX0) (T := TX0) (N := 6) hx hb htg inG_X0 hown hGx.1 hP 0 rfl rfl 0 (by decide) (htg _ w_57) (fun _ h9 => h9) rfl dX0_reset_30 ?_
            refine lv_iload_n hx hb dX0_reset_33 rfl (lv_at hl 1 rfl) ?_
            refine lv_ldc2 hx hb hown (htg _ w_56) dX0_reset_34 ?_
            refine va_last (D := kD k) hx hb hGx.1 hP (hD.own _ _) hS 1 0 rfl rfl (show ¬ ((4 : Int32) < 0 ∨ 6 ≤ ((4 : Int32)).toNatClampNeg) by decide) dX0_reset_37 (fun H locs hP1 _ hS => ?_)
            have hP : va_P (kD k) vwCl (cW k a (vp_updL (vp_updL z.1 (2 : Int32).toNatClampNeg (1008673 : Int64)) (4 : Int32).toNatClampNeg (1008673 : Int64), z.2.1, z.2.2.1, z.2.2.2.1, z.2.2.2.2.1, z.2.2.2.2.2)) H := hP1
            refine lv_iinc (v := (5 : Int32)) (lv' := [(2, .int (5 : Int32)), (1, .int (2 : Int32)), (0, .ref a.1)]) hx hb dX0_reset_38 hl (k := 1) rfl (by decide) (by decide) rfl (fun ls hl => ?_)
            refine lv_goto (tgt := 4) hx hb dX0_reset_41 (by decide) ?_
            refine lv_iload_n hx hb dX0_reset_4 rfl (lv_at hl 0 rfl) ?_
            refine lv_aload_n hx hb dX0_reset_5 rfl (lv_at hl 2 rfl) ?_
            refine va_get (D := kD k) (ci := 2) (v := .ref a.2.1) (C := RX0) (T := TX0) (N := 6) hx hb htg inG_X0 hown hGx.1 hP 0 rfl rfl 0 (by decide) (htg _ w_57) (fun _ h9 => h9) rfl dX0_reset_6 ?_
            refine va_alen (D := kD k) (v := 6) hx hb hGx.1 hP 1 0 rfl rfl (show Int32.ofNat 6 = 6 by decide) dX0_reset_9 ?_
            refine lv_icmp_ge (tgt := 44) hx hb dX0_reset_10 (by decide) (fun h => absurd h (by decide)) (fun _ => ?_)
            refine lv_aload_n hx hb dX0_reset_13 rfl (lv_at hl 2 rfl) ?_
            refine va_get (D := kD k) (ci := 2) (v := .ref a.2.1) (C := RX0) (T := TX0) (N := 6) hx hb htg inG_X0 hown hGx.1 hP 0 rfl rfl 0 (by decide) (htg _ w_57) (fun _ h9 => h9) rfl dX0_reset_14 ?_
            refine lv_iload_n hx hb dX0_reset_17 rfl (lv_at hl 0 rfl) ?_
            refine va_lald (D := kD k) hx hb hGx.1 hP 1 0 rfl rfl (show ¬ ((5 : Int32) < 0 ∨ 6 ≤ ((5 : Int32)).toNatClampNeg) by decide) dX0_reset_18 ?_
            refine lv_ldc2 hx hb hown (htg _ w_56) dX0_reset_19 ?_
            refine W.lcmp hx hb dX0_reset_22 ?_
            refine lv_if_eq (tgt := 38) hx hb dX0_reset_23 (by decide) (fun h_34 => ?_) (fun h_34 => ?_)
            · have hm := hm.trans (if_pos h_34)
              refine lv_iinc (v := (6 : Int32)) (lv' := [(2, .int (6 : Int32)), (1, .int (2 : Int32)), (0, .ref a.1)]) hx hb dX0_reset_38 hl (k := 0) rfl (by decide) (by decide) rfl (fun ls hl => ?_)
              refine lv_goto (tgt := 4) hx hb dX0_reset_41 (by decide) ?_
              refine lv_iload_n hx hb dX0_reset_4 rfl (lv_at hl 0 rfl) ?_
              refine lv_aload_n hx hb dX0_reset_5 rfl (lv_at hl 2 rfl) ?_
              refine va_get (D := kD k) (ci := 2) (v := .ref a.2.1) (C := RX0) (T := TX0) (N := 6) hx hb htg inG_X0 hown hGx.1 hP 0 rfl rfl 0 (by decide) (htg _ w_57) (fun _ h9 => h9) rfl dX0_reset_6 ?_
              refine va_alen (D := kD k) (v := 6) hx hb hGx.1 hP 1 0 rfl rfl (show Int32.ofNat 6 = 6 by decide) dX0_reset_9 ?_
              refine lv_icmp_ge (tgt := 44) hx hb dX0_reset_10 (by decide) (fun _ => ?_) (fun h => absurd h (by decide))
              refine lv_iconst (v := 0) hx hb dX0_reset_44 (by decide) ?_
              refine lv_istore_n (lv' := [(2, .int (0 : Int32)), (1, .int (2 : Int32)), (0, .ref a.1)]) hx hb dX0_reset_45 rfl hl (by decide) rfl (fun ls hl => ?_)
              refine lv_iload_n hx hb dX0_reset_46 rfl (lv_at hl 0 rfl) ?_
              refine lv_iconst (v := 2) hx hb dX0_reset_47 (by decide) ?_
              refine lv_icmp_ge (tgt := 65) hx hb dX0_reset_48 (by decide) (fun h => absurd h (by decide)) (fun _ => ?_)
              refine lv_aload_n hx hb dX0_reset_51 rfl (lv_at hl 2 rfl) ?_
              refine lv_iload_n hx hb dX0_reset_52 rfl (lv_at hl 0 rfl) ?_
              refine lv_iconst (v := 0) hx hb dX0_reset_53 (by decide) ?_
              refine lv_iconst (v := 0) hx hb dX0_reset_54 (by decide) ?_
              refine lv_iconst (v := 0) hx hb dX0_reset_55 (by decide) ?_
              refine cc_V hC hGx hD hEx hlocks (c_X0_putSpan l hl9 k a hD (0 : Int32) (0 : Int32) (0 : Int32) (0 : Int32) (vp_updL (vp_updL z.1 (2 : Int32).toNatClampNeg (1008673 : Int64)) (4 : Int32).toNatClampNeg (1008673 : Int64), z.2.1, z.2.2.1, z.2.2.2.1, z.2.2.2.2.1, z.2.2.2.2.2)) (gV w_82 w_83 w_6 w_26 w_84) kk_X0_putSpan rfl ⟨Nat.le_of_ble_eq_true rfl, Nat.le_of_ble_eq_true rfl⟩ ⟨Nat.le_of_ble_eq_true rfl, Nat.le_of_ble_eq_true rfl⟩ ⟨Nat.le_of_ble_eq_true rfl, Nat.le_of_ble_eq_true rfl⟩ hP hS hl.1 rfl rfl (Nat.le_of_ble_eq_true rfl) dX0_reset_56 (fun h_35 => ?_) (fun h_35 H locs hP hS => ?_)
              · have hm : m_X0_reset z = ((m_X0_putSpan (0 : Int32) (0 : Int32) (0 : Int32) (0 : Int32) (vp_updL (vp_updL z.1 (2 : Int32).toNatClampNeg (1008673 : Int64)) (4 : Int32).toNatClampNeg (1008673 : Int64), z.2.1, z.2.2.1, z.2.2.2.1, z.2.2.2.2.1, z.2.2.2.2.2)).1, 0, (m_X0_putSpan (0 : Int32) (0 : Int32) (0 : Int32) (0 : Int32) (vp_updL (vp_updL z.1 (2 : Int32).toNatClampNeg (1008673 : Int64)) (4 : Int32).toNatClampNeg (1008673 : Int64), z.2.1, z.2.2.1, z.2.2.2.1, z.2.2.2.2.1, z.2.2.2.2.2)).2) := hm.trans (if_neg h_35)
                exact ⟨by rw [hm], by rw [hm]⟩
              · have hm := hm.trans (if_pos h_35)
                refine lv_iinc (v := (1 : Int32)) (lv' := [(2, .int (1 : Int32)), (1, .int (2 : Int32)), (0, .ref a.1)]) hx hb dX0_reset_59 hl (k := 0) rfl (by decide) (by decide) rfl (fun ls hl => ?_)
                refine lv_goto (tgt := 46) hx hb dX0_reset_62 (by decide) ?_
                refine lv_iload_n hx hb dX0_reset_46 rfl (lv_at hl 0 rfl) ?_
                refine lv_iconst (v := 2) hx hb dX0_reset_47 (by decide) ?_
                refine lv_icmp_ge (tgt := 65) hx hb dX0_reset_48 (by decide) (fun h => absurd h (by decide)) (fun _ => ?_)
                refine lv_aload_n hx hb dX0_reset_51 rfl (lv_at hl 2 rfl) ?_
                refine lv_iload_n hx hb dX0_reset_52 rfl (lv_at hl 0 rfl) ?_
                refine lv_iconst (v := 0) hx hb dX0_reset_53 (by decide) ?_
                refine lv_iconst (v := 0) hx hb dX0_reset_54 (by decide) ?_
                refine lv_iconst (v := 0) hx hb dX0_reset_55 (by decide) ?_
                refine cc_V hC hGx hD hEx hlocks (c_X0_putSpan l hl9 k a hD (1 : Int32) (0 : Int32) (0 : Int32) (0 : Int32) ((m_X0_putSpan (0 : Int32) (0 : Int32) (0 : Int32) (0 : Int32) (vp_updL (vp_updL z.1 (2 : Int32).toNatClampNeg (1008673 : Int64)) (4 : Int32).toNatClampNeg (1008673 : Int64), z.2.1, z.2.2.1, z.2.2.2.1, z.2.2.2.2.1, z.2.2.2.2.2)).2)) (gV w_82 w_83 w_6 w_26 w_84) kk_X0_putSpan rfl ⟨Nat.le_of_ble_eq_true rfl, Nat.le_of_ble_eq_true rfl⟩ ⟨Nat.le_of_ble_eq_true rfl, Nat.le_of_ble_eq_true rfl⟩ ⟨Nat.le_of_ble_eq_true rfl, Nat.le_of_ble_eq_true rfl⟩ hP hS hl.1 rfl rfl (Nat.le_of_ble_eq_true rfl) dX0_reset_56 (fun h_36 => ?_) (fun h_36 H locs hP hS => ?_)
                · have hm : m_X0_reset z = ((m_X0_putSpan (1 : Int32) (0 : Int32) (0 : Int32) (0 : Int32) ((m_X0_putSpan (0 : Int32) (0 : Int32) (0 : Int32) (0 : Int32) (vp_updL (vp_updL z.1 (2 : Int32).toNatClampNeg (1008673 : Int64)) (4 : Int32).toNatClampNeg (1008673 : Int64), z.2.1, z.2.2.1, z.2.2.2.1, z.2.2.2.2.1, z.2.2.2.2.2)).2)).1, 0, (m_X0_putSpan (1 : Int32) (0 : Int32) (0 : Int32) (0 : Int32) ((m_X0_putSpan (0 : Int32) (0 : Int32) (0 : Int32) (0 : Int32) (vp_updL (vp_updL z.1 (2 : Int32).toNatClampNeg (1008673 : Int64)) (4 : Int32).toNatClampNeg (1008673 : Int64), z.2.1, z.2.2.1, z.2.2.2.1, z.2.2.2.2.1, z.2.2.2.2.2)).2)).2) := hm.trans (if_neg h_36)
                  exact ⟨by rw [hm], by rw [hm]⟩
                · have hm := hm.trans (if_pos h_36)
                  refine lv_iinc (v := (2 : Int32)) (lv' := [(2, .int (2 : Int32)), (1, .int (2 : Int32)), (0, .ref a.1)]) hx hb dX0_reset_59 hl (k := 0) rfl (by decide) (by decide) rfl (fun ls hl => ?_)
                  refine lv_goto (tgt := 46) hx hb dX0_reset_62 (by decide) ?_
                  refine lv_iload_n hx hb dX0_reset_46 rfl (lv_at hl 0 rfl) ?_
                  refine lv_iconst (v := 2) hx hb dX0_reset_47 (by decide) ?_
                  refine lv_icmp_ge (tgt := 65) hx hb dX0_reset_48 (by decide) (fun _ => ?_) (fun h => absurd h (by decide))
                  refine lv_iload_n hx hb dX0_reset_65 rfl (lv_at hl 1 rfl) ?_
                  have hm : m_X0_reset z = (0, (2 : Int32), (m_X0_putSpan (1 : Int32) (0 : Int32) (0 : Int32) (0 : Int32) ((m_X0_putSpan (0 : Int32) (0 : Int32) (0 : Int32) (0 : Int32) (vp_updL (vp_updL z.1 (2 : Int32).toNatClampNeg (1008673 : Int64)) (4 : Int32).toNatClampNeg (1008673 : Int64), z.2.1, z.2.2.1, z.2.2.2.1, z.2.2.2.2.1, z.2.2.2.2.2)).2)).2) := hm
                  exact c_iret (E := (2 : Int32)) hx hb hr hlocks (by rw [hm]) (by rw [hm]) (by rw [hm]) hP hS ⟨Nat.le_of_ble_eq_true rfl, Nat.le_of_ble_eq_true rfl⟩ dX0_reset_66
            · have hm := hm.trans (if_neg h_34)
              refine lv_iinc (v := (3 : Int32)) (lv' := [(1, .int (3 : Int32)), (2, .int (5 : Int32)), (0, .ref a.1)]) hx hb dX0_reset_26 hl (k := 1) rfl (by decide) (by decide) rfl (fun ls hl => ?_)
              refine lv_aload_n hx hb dX0_reset_29 rfl (lv_at hl 2 rfl) ?_
              refine va_get (D := kD k) (ci := 2) (v := .ref a.2.1) (C := RX0) (T := TX0) (N := 6) hx hb htg inG_X0 hown hGx.1 hP 0 rfl rfl 0 (by decide) (htg _ w_57) (fun _ h9 => h9) rfl dX0_reset_30 ?_
              refine lv_iload_n hx hb dX0_reset_33 rfl (lv_at hl 1 rfl) ?_
              refine lv_ldc2 hx hb hown (htg _ w_56) dX0_reset_34 ?_
              refine va_last (D := kD k) hx hb hGx.1 hP (hD.own _ _) hS 1 0 rfl rfl (show ¬ ((5 : Int32) < 0 ∨ 6 ≤ ((5 : Int32)).toNatClampNeg) by decide) dX0_reset_37 (fun H locs hP1 _ hS => ?_)
              have hP : va_P (kD k) vwCl (cW k a (vp_updL (vp_updL (vp_updL z.1 (2 : Int32).toNatClampNeg (1008673 : Int64)) (4 : Int32).toNatClampNeg (1008673 : Int64)) (5 : Int32).toNatClampNeg (1008673 : Int64), z.2.1, z.2.2.1, z.2.2.2.1, z.2.2.2.2.1, z.2.2.2.2.2)) H := hP1
              refine lv_iinc (v := (6 : Int32)) (lv' := [(2, .int (6 : Int32)), (1, .int (3 : Int32)), (0, .ref a.1)]) hx hb dX0_reset_38 hl (k := 1) rfl (by decide) (by decide) rfl (fun ls hl => ?_)
              refine lv_goto (tgt := 4) hx hb dX0_reset_41 (by decide) ?_
              refine lv_iload_n hx hb dX0_reset_4 rfl (lv_at hl 0 rfl) ?_
              refine lv_aload_n hx hb dX0_reset_5 rfl (lv_at hl 2 rfl) ?_
              refine va_get (D := kD k) (ci := 2) (v := .ref a.2.1) (C := RX0) (T := TX0) (N := 6) hx hb htg inG_X0 hown hGx.1 hP 0 rfl rfl 0 (by decide) (htg _ w_57) (fun _ h9 => h9) rfl dX0_reset_6 ?_
              refine va_alen (D := kD k) (v := 6) hx hb hGx.1 hP 1 0 rfl rfl (show Int32.ofNat 6 = 6 by decide) dX0_reset_9 ?_
              refine lv_icmp_ge (tgt := 44) hx hb dX0_reset_10 (by decide) (fun _ => ?_) (fun h => absurd h (by decide))
              refine lv_iconst (v := 0) hx hb dX0_reset_44 (by decide) ?_
              refine lv_istore_n (lv' := [(2, .int (0 : Int32)), (1, .int (3 : Int32)), (0, .ref a.1)]) hx hb dX0_reset_45 rfl hl (by decide) rfl (fun ls hl => ?_)
              refine lv_iload_n hx hb dX0_reset_46 rfl (lv_at hl 0 rfl) ?_
              refine lv_iconst (v := 2) hx hb dX0_reset_47 (by decide) ?_
              refine lv_icmp_ge (tgt := 65) hx hb dX0_reset_48 (by decide) (fun h => absurd h (by decide)) (fun _ => ?_)
              refine lv_aload_n hx hb dX0_reset_51 rfl (lv_at hl 2 rfl) ?_
              refine lv_iload_n hx hb dX0_reset_52 rfl (lv_at hl 0 rfl) ?_
              refine lv_iconst (v := 0) hx hb dX0_reset_53 (by decide) ?_
              refine lv_iconst (v := 0) hx hb dX0_reset_54 (by decide) ?_
              refine lv_iconst (v := 0) hx hb dX0_reset_55 (by decide) ?_
              refine cc_V hC hGx hD hEx hlocks (c_X0_putSpan l hl9 k a hD (0 : Int32) (0 : Int32) (0 : Int32) (0 : Int32) (vp_updL (vp_updL (vp_updL z.1 (2 : Int32).toNatClampNeg (1008673 : Int64)) (4 : Int32).toNatClampNeg (1008673 : Int64)) (5 : Int32).toNatClampNeg (1008673 : Int64), z.2.1, z.2.2.1, z.2.2.2.1, z.2.2.2.2.1, z.2.2.2.2.2)) (gV w_82 w_83 w_6 w_26 w_84) kk_X0_putSpan rfl ⟨Nat.le_of_ble_eq_true rfl, Nat.le_of_ble_eq_true rfl⟩ ⟨Nat.le_of_ble_eq_true rfl, Nat.le_of_ble_eq_true rfl⟩ ⟨Nat.le_of_ble_eq_true rfl, Nat.le_of_ble_eq_true rfl⟩ hP hS hl.1 rfl rfl (Nat.le_of_ble_eq_true rfl) dX0_reset_56 (fun h_37 => ?_) (fun h_37 H locs hP hS => ?_)
              · have hm : m_X0_reset z = ((m_X0_putSpan (0 : Int32) (0 : Int32) (0 : Int32) (0 : Int32) (vp_updL (vp_updL (vp_updL z.1 (2 : Int32).toNatClampNeg (1008673 : Int64)) (4 : Int32).toNatClampNeg (1008673 : Int64)) (5 : Int32).toNatClampNeg (1008673 : Int64), z.2.1, z.2.2.1, z.2.2.2.1, z.2.2.2.2.1, z.2.2.2.2.2)).1, 0, (m_X0_putSpan (0 : Int32) (0 : Int32) (0 : Int32) (0 : Int32) (vp_updL (vp_updL (vp_updL z.1 (2 : Int32).toNatClampNeg (1008673 : Int64)) (4 : Int32).toNatClampNeg (1008673 : Int64)) (5 : Int32).toNatClampNeg (1008673 : Int64), z.2.1, z.2.2.1, z.2.2.2.1, z.2.2.2.2.1, z.2.2.2.2.2)).2) := hm.trans (if_neg h_37)
                exact ⟨by rw [hm], by rw [hm]⟩
              · have hm := hm.trans (if_pos h_37)
                refine lv_iinc (v := (1 : Int32)) (lv' := [(2, .int (1 : Int32)), (1, .int (3 : Int32)), (0, .ref a.1)]) hx hb dX0_reset_59 hl (k := 0) rfl (by decide) (by decide) rfl (fun ls hl => ?_)
                refine lv_goto (tgt := 46) hx hb dX0_reset_62 (by decide) ?_
                refine lv_iload_n hx hb dX0_reset_46 rfl (lv_at hl 0 rfl) ?_
                refine lv_iconst (v := 2) hx hb dX0_reset_47 (by decide) ?_
                refine lv_icmp_ge (tgt := 65) hx hb dX0_reset_48 (by decide) (fun h => absurd h (by decide)) (fun _ => ?_)
                refine lv_aload_n hx hb dX0_reset_51 rfl (lv_at hl 2 rfl) ?_
                refine lv_iload_n hx hb dX0_reset_52 rfl (lv_at hl 0 rfl) ?_
                refine lv_iconst (v := 0) hx hb dX0_reset_53 (by decide) ?_
                refine lv_iconst (v := 0) hx hb dX0_reset_54 (by decide) ?_
                refine lv_iconst (v := 0) hx hb dX0_reset_55 (by decide) ?_
                refine cc_V hC hGx hD hEx hlocks (c_X0_putSpan l hl9 k a hD (1 : Int32) (0 : Int32) (0 : Int32) (0 : Int32) ((m_X0_putSpan (0 : Int32) (0 : Int32) (0 : Int32) (0 : Int32) (vp_updL (vp_updL (vp_updL z.1 (2 : Int32).toNatClampNeg (1008673 : Int64)) (4 : Int32).toNatClampNeg (1008673 : Int64)) (5 : Int32).toNatClampNeg (1008673 : Int64), z.2.1, z.2.2.1, z.2.2.2.1, z.2.2.2.2.1, z.2.2.2.2.2)).2)) (gV w_82 w_83 w_6 w_26 w_84) kk_X0_putSpan rfl ⟨Nat.le_of_ble_eq_true rfl, Nat.le_of_ble_eq_true rfl⟩ ⟨Nat.le_of_ble_eq_true rfl, Nat.le_of_ble_eq_true rfl⟩ ⟨Nat.le_of_ble_eq_true rfl, Nat.le_of_ble_eq_true rfl⟩ hP hS hl.1 rfl rfl (Nat.le_of_ble_eq_true rfl) dX0_reset_56 (fun h_38 => ?_) (fun h_38 H locs hP hS => ?_)
                · have hm : m_X0_reset z = ((m_X0_putSpan (1 : Int32) (0 : Int32) (0 : Int32) (0 : Int32) ((m_X0_putSpan (0 : Int32) (0 : Int32) (0 : Int32) (0 : Int32) (vp_updL (vp_updL (vp_updL z.1 (2 : Int32).toNatClampNeg (1008673 : Int64)) (4 : Int32).toNatClampNeg (1008673 : Int64)) (5 : Int32).toNatClampNeg (1008673 : Int64), z.2.1, z.2.2.1, z.2.2.2.1, z.2.2.2.2.1, z.2.2.2.2.2)).2)).1, 0, (m_X0_putSpan (1 : Int32) (0 : Int32) (0 : Int32) (0 : Int32) ((m_X0_putSpan (0 : Int32) (0 : Int32) (0 : Int32) (0 : Int32) (vp_updL (vp_updL (vp_updL z.1 (2 : Int32).toNatClampNeg (1008673 : Int64)) (4 : Int32).toNatClampNeg (1008673 : Int64)) (5 : Int32).toNatClampNeg (1008673 : Int64), z.2.1, z.2.2.1, z.2.2.2.1, z.2.2.2.2.1, z.2.2.2.2.2)).2)).2) := hm.trans (if_neg h_38)
                  exact ⟨by rw [hm], by rw [hm]⟩
                · have hm := hm.trans (if_pos h_38)
                  refine lv_iinc (v := (2 : Int32)) (lv' := [(2, .int (2 : Int32)), (1, .int (3 : Int32)), (0, .ref a.1)]) hx hb dX0_reset_59 hl (k := 0) rfl (by decide) (by decide) rfl (fun ls hl => ?_)
                  refine lv_goto (tgt := 46) hx hb dX0_reset_62 (by decide) ?_
                  refine lv_iload_n hx hb dX0_reset_46 rfl (lv_at hl 0 rfl) ?_
                  refine lv_iconst (v := 2) hx hb dX0_reset_47 (by decide) ?_
                  refine lv_icmp_ge (tgt := 65) hx hb dX0_reset_48 (by decide) (fun _ => ?_) (fun h => absurd h (by decide))
                  refine lv_iload_n hx hb dX0_reset_65 rfl (lv_at hl 1 rfl) ?_
                  have hm : m_X0_reset z = (0, (3 : Int32), (m_X0_putSpan (1 : Int32) (0 : Int32) (0 : Int32) (0 : Int32) ((m_X0_putSpan (0 : Int32) (0 : Int32) (0 : Int32) (0 : Int32) (vp_updL (vp_updL (vp_updL z.1 (2 : Int32).toNatClampNeg (1008673 : Int64)) (4 : Int32).toNatClampNeg (1008673 : Int64)) (5 : Int32).toNatClampNeg (1008673 : Int64), z.2.1, z.2.2.1, z.2.2.2.1, z.2.2.2.2.1, z.2.2.2.2.2)).2)).2) := hm
                  exact c_iret (E := (3 : Int32)) hx hb hr hlocks (by rw [hm]) (by rw [hm]) (by rw [hm]) hP hS ⟨Nat.le_of_ble_eq_true rfl, Nat.le_of_ble_eq_true rfl⟩ dX0_reset_66
        · have hm := hm.trans (if_neg h_27)
          refine lv_iinc (v := (2 : Int32)) (lv' := [(1, .int (2 : Int32)), (2, .int (3 : Int32)), (0, .ref a.1)]) hx hb dX0_reset_26 hl (k := 1) rfl (by decide) (by decide) rfl (fun ls hl => ?_)
          refine lv_aload_n hx hb dX0_reset_29 rfl (lv_at hl 2 rfl) ?_
          refine va_get (D := kD k) (ci := 2) (v := .ref a.2.1) (C := RX0) (T := TX0) (N := 6) hx hb htg inG_X0 hown hGx.1 hP 0 rfl rfl 0 (by decide) (htg _ w_57) (fun _ h9 => h9) rfl dX0_reset_30 ?_
          refine lv_iload_n hx hb dX0_reset_33 rfl (lv_at hl 1 rfl) ?_
          refine lv_ldc2 hx hb hown (htg _ w_56) dX0_reset_34 ?_
          refine va_last (D := kD k) hx hb hGx.1 hP (hD.own _ _) hS 1 0 rfl rfl (show ¬ ((3 : Int32) < 0 ∨ 6 ≤ ((3 : Int32)).toNatClampNeg) by decide) dX0_reset_37 (fun H locs hP1 _ hS => ?_)
          have hP : va_P (kD k) vwCl (cW k a (vp_updL (vp_updL z.1 (2 : Int32).toNatClampNeg (1008673 : Int64)) (3 : Int32).toNatClampNeg (1008673 : Int64), z.2.1, z.2.2.1, z.2.2.2.1, z.2.2.2.2.1, z.2.2.2.2.2)) H := hP1
          refine lv_iinc (v := (4 : Int32)) (lv' := [(2, .int (4 : Int32)), (1, .int (2 : Int32)), (0, .ref a.1)]) hx hb dX0_reset_38 hl (k := 1) rfl (by decide) (by decide) rfl (fun ls hl => ?_)
          refine lv_goto (tgt := 4) hx hb dX0_reset_41 (by decide) ?_
          refine lv_iload_n hx hb dX0_reset_4 rfl (lv_at hl 0 rfl) ?_
          refine lv_aload_n hx hb dX0_reset_5 rfl (lv_at hl 2 rfl) ?_
          refine va_get (D := kD k) (ci := 2) (v := .ref a.2.1) (C := RX0) (T := TX0) (N := 6) hx hb htg inG_X0 hown hGx.1 hP 0 rfl rfl 0 (by decide) (htg _ w_57) (fun _ h9 => h9) rfl dX0_reset_6 ?_
          refine va_alen (D := kD k) (v := 6) hx hb hGx.1 hP 1 0 rfl rfl (show Int32.ofNat 6 = 6 by decide) dX0_reset_9 ?_
          refine lv_icmp_ge (tgt := 44) hx hb dX0_reset_10 (by decide) (fun h => absurd h (by decide)) (fun _ => ?_)
          refine lv_aload_n hx hb dX0_reset_13 rfl (lv_at hl 2 rfl) ?_
          refine va_get (D := kD k) (ci := 2) (v := .ref a.2.1) (C := RX0) (T := TX0) (N := 6) hx hb htg inG_X0 hown hGx.1 hP 0 rfl rfl 0 (by decide) (htg _ w_57) (fun _ h9 => h9) rfl dX0_reset_14 ?_
          refine lv_iload_n hx hb dX0_reset_17 rfl (lv_at hl 0 rfl) ?_
          refine va_lald (D := kD k) hx hb hGx.1 hP 1 0 rfl rfl (show ¬ ((4 : Int32) < 0 ∨ 6 ≤ ((4 : Int32)).toNatClampNeg) by decide) dX0_reset_18 ?_
          refine lv_ldc2 hx hb hown (htg _ w_56) dX0_reset_19 ?_
          refine W.lcmp hx hb dX0_reset_22 ?_
          refine lv_if_eq (tgt := 38) hx hb dX0_reset_23 (by decide) (fun h_39 => ?_) (fun h_39 => ?_)
          · have hm := hm.trans (if_pos h_39)
            refine lv_iinc (v := (5 : Int32)) (lv' := [(2, .int (5 : Int32)), (1, .int (2 : Int32)), (0, .ref a.1)]) hx hb dX0_reset_38 hl (k := 0) rfl (by decide) (by decide) rfl (fun ls hl => ?_)
            refine lv_goto (tgt := 4) hx hb dX0_reset_41 (by decide) ?_
            refine lv_iload_n hx hb dX0_reset_4 rfl (lv_at hl 0 rfl) ?_
            refine lv_aload_n hx hb dX0_reset_5 rfl (lv_at hl 2 rfl) ?_
            refine va_get (D := kD k) (ci := 2) (v := .ref a.2.1) (C := RX0) (T := TX0) (N := 6) hx hb htg inG_X0 hown hGx.1 hP 0 rfl rfl 0 (by decide) (htg _ w_57) (fun _ h9 => h9) rfl dX0_reset_6 ?_
            refine va_alen (D := kD k) (v := 6) hx hb hGx.1 hP 1 0 rfl rfl (show Int32.ofNat 6 = 6 by decide) dX0_reset_9 ?_
            refine lv_icmp_ge (tgt := 44) hx hb dX0_reset_10 (by decide) (fun h => absurd h (by decide)) (fun _ => ?_)
            refine lv_aload_n hx hb dX0_reset_13 rfl (lv_at hl 2 rfl) ?_
            refine va_get (D := kD k) (ci := 2) (v := .ref a.2.1) (C := RX0) (T := TX0) (N := 6) hx hb htg inG_X0 hown hGx.1 hP 0 rfl rfl 0 (by decide) (htg _ w_57) (fun _ h9 => h9) rfl dX0_reset_14 ?_
            refine lv_iload_n hx hb dX0_reset_17 rfl (lv_at hl 0 rfl) ?_
            refine va_lald (D := kD k) hx hb hGx.1 hP 1 0 rfl rfl (show ¬ ((5 : Int32) < 0 ∨ 6 ≤ ((5 : Int32)).toNatClampNeg) by decide) dX0_reset_18 ?_
            refine lv_ldc2 hx hb hown (htg _ w_56) dX0_reset_19 ?_
            refine W.lcmp hx hb dX0_reset_22 ?_
            refine lv_if_eq (tgt := 38) hx hb dX0_reset_23 (by decide) (fun h_40 => ?_) (fun h_40 => ?_)
            · have hm := hm.trans (if_pos h_40)
              refine lv_iinc (v := (6 : Int32)) (lv' := [(2, .int (6 : Int32)), (1, .int (2 : Int32)), (0, .ref a.1)]) hx hb dX0_reset_38 hl (k := 0) rfl (by decide) (by decide) rfl (fun ls hl => ?_)
              refine lv_goto (tgt := 4) hx hb dX0_reset_41 (by decide) ?_
              refine lv_iload_n hx hb dX0_reset_4 rfl (lv_at hl 0 rfl) ?_
              refine lv_aload_n hx hb dX0_reset_5 rfl (lv_at hl 2 rfl) ?_
              refine va_get (D := kD k) (ci := 2) (v := .ref a.2.1) (C := RX0) (T := TX0) (N := 6) hx hb htg inG_X0 hown hGx.1 hP 0 rfl rfl 0 (by decide) (htg _ w_57) (fun _ h9 => h9) rfl dX0_reset_6 ?_
              refine va_alen (D := kD k) (v := 6) hx hb hGx.1 hP 1 0 rfl rfl (show Int32.ofNat 6 = 6 by decide) dX0_reset_9 ?_
              refine lv_icmp_ge (tgt := 44) hx hb dX0_reset_10 (by decide) (fun _ => ?_) (fun h => absurd h (by decide))
              refine lv_iconst (v := 0) hx hb dX0_reset_44 (by decide) ?_
              refine lv_istore_n (lv' := [(2, .int (0 : Int32)), (1, .int (2 : Int32)), (0, .ref a.1)]) hx hb dX0_reset_45 rfl hl (by decide) rfl (fun ls hl => ?_)
              refine lv_iload_n hx hb dX0_reset_46 rfl (lv_at hl 0 rfl) ?_
              refine lv_iconst (v := 2) hx hb dX0_reset_47 (by decide) ?_
              refine lv_icmp_ge (tgt := 65) hx hb dX0_reset_48 (by decide) (fun h => absurd h (by decide)) (fun _ => ?_)
              refine lv_aload_n hx hb dX0_reset_51 rfl (lv_at hl 2 rfl) ?_
              refine lv_iload_n hx hb dX0_reset_52 rfl (lv_at hl 0 rfl) ?_
              refine lv_iconst (v := 0) hx hb dX0_reset_53 (by decide) ?_
              refine lv_iconst (v := 0) hx hb dX0_reset_54 (by decide) ?_
              refine lv_iconst (v := 0) hx hb dX0_reset_55 (by decide) ?_
              refine cc_V hC hGx hD hEx hlocks (c_X0_putSpan l hl9 k a hD (0 : Int32) (0 : Int32) (0 : Int32) (0 : Int32) (vp_updL (vp_updL z.1 (2 : Int32).toNatClampNeg (1008673 : Int64)) (3 : Int32).toNatClampNeg (1008673 : Int64), z.2.1, z.2.2.1, z.2.2.2.1, z.2.2.2.2.1, z.2.2.2.2.2)) (gV w_82 w_83 w_6 w_26 w_84) kk_X0_putSpan rfl ⟨Nat.le_of_ble_eq_true rfl, Nat.le_of_ble_eq_true rfl⟩ ⟨Nat.le_of_ble_eq_true rfl, Nat.le_of_ble_eq_true rfl⟩ ⟨Nat.le_of_ble_eq_true rfl, Nat.le_of_ble_eq_true rfl⟩ hP hS hl.1 rfl rfl (Nat.le_of_ble_eq_true rfl) dX0_reset_56 (fun h_41 => ?_) (fun h_41 H locs hP hS => ?_)
              · have hm : m_X0_reset z = ((m_X0_putSpan (0 : Int32) (0 : Int32) (0 : Int32) (0 : Int32) (vp_updL (vp_updL z.1 (2 : Int32).toNatClampNeg (1008673 : Int64)) (3 : Int32).toNatClampNeg (1008673 : Int64), z.2.1, z.2.2.1, z.2.2.2.1, z.2.2.2.2.1, z.2.2.2.2.2)).1, 0, (m_X0_putSpan (0 : Int32) (0 : Int32) (0 : Int32) (0 : Int32) (vp_updL (vp_updL z.1 (2 : Int32).toNatClampNeg (1008673 : Int64)) (3 : Int32).toNatClampNeg (1008673 : Int64), z.2.1, z.2.2.1, z.2.2.2.1, z.2.2.2.2.1, z.2.2.2.2.2)).2) := hm.trans (if_neg h_41)
                exact ⟨by rw [hm], by rw [hm]⟩
              · have hm := hm.trans (if_pos h_41)
                refine lv_iinc (v := (1 : Int32)) (lv' := [(2, .int (1 : Int32)), (1, .int (2 : Int32)), (0, .ref a.1)]) hx hb dX0_reset_59 hl (k := 0) rfl (by decide) (by decide) rfl (fun ls hl => ?_)
                refine lv_goto (tgt := 46) hx hb dX0_reset_62 (by decide) ?_
                refine lv_iload_n hx hb dX0_reset_46 rfl (lv_at hl 0 rfl) ?_
                refine lv_iconst (v := 2) hx hb dX0_reset_47 (by decide) ?_
                refine lv_icmp_ge (tgt := 65) hx hb dX0_reset_48 (by decide) (fun h => absurd h (by decide)) (fun _ => ?_)
                refine lv_aload_n hx hb dX0_reset_51 rfl (lv_at hl 2 rfl) ?_
                refine lv_iload_n hx hb dX0_reset_52 rfl (lv_at hl 0 rfl) ?_
                refine lv_iconst (v := 0) hx hb dX0_reset_53 (by decide) ?_
                refine lv_iconst (v := 0) hx hb dX0_reset_54 (by decide) ?_
                refine lv_iconst (v := 0) hx hb dX0_reset_55 (by decide) ?_
                refine cc_V hC hGx hD hEx hlocks (c_X0_putSpan l hl9 k a hD (1 : Int32) (0 : Int32) (0 : Int32) (0 : Int32) ((m_X0_putSpan (0 : Int32) (0 : Int32) (0 : Int32) (0 : Int32) (vp_updL (vp_updL z.1 (2 : Int32).toNatClampNeg (1008673 : Int64)) (3 : Int32).toNatClampNeg (1008673 : Int64), z.2.1, z.2.2.1, z.2.2.2.1, z.2.2.2.2.1, z.2.2.2.2.2)).2)) (gV w_82 w_83 w_6 w_26 w_84) kk_X0_putSpan rfl ⟨Nat.le_of_ble_eq_true rfl, Nat.le_of_ble_eq_true rfl⟩ ⟨Nat.le_of_ble_eq_true rfl, Nat.le_of_ble_eq_true rfl⟩ ⟨Nat.le_of_ble_eq_true rfl, Nat.le_of_ble_eq_true rfl⟩ hP hS hl.1 rfl rfl (Nat.le_of_ble_eq_true rfl) dX0_reset_56 (fun h_42 => ?_) (fun h_42 H locs hP hS => ?_)
                · have hm : m_X0_reset z = ((m_X0_putSpan (1 : Int32) (0 : Int32) (0 : Int32) (0 : Int32) ((m_X0_putSpan (0 : Int32) (0 : Int32) (0 : Int32) (0 : Int32) (vp_updL (vp_updL z.1 (2 : Int32).toNatClampNeg (1008673 : Int64)) (3 : Int32).toNatClampNeg (1008673 : Int64), z.2.1, z.2.2.1, z.2.2.2.1, z.2.2.2.2.1, z.2.2.2.2.2)).2)).1, 0, (m_X0_putSpan (1 : Int32) (0 : Int32) (0 : Int32) (0 : Int32) ((m_X0_putSpan (0 : Int32) (0 : Int32) (0 : Int32) (0 : Int32) (vp_updL (vp_updL z.1 (2 : Int32).toNatClampNeg (1008673 : Int64)) (3 : Int32).toNatClampNeg (1008673 : Int64), z.2.1, z.2.2.1, z.2.2.2.1, z.2.2.2.2.1, z.2.2.2.2.2)).2)).2) := hm.trans (if_neg h_42)
                  exact ⟨by rw [hm], by rw [hm]⟩
                · have hm := hm.trans (if_pos h_42)
                  refine lv_iinc (v := (2 : Int32)) (lv' := [(2, .int (2 : Int32)), (1, .int (2 : Int32)), (0, .ref a.1)]) hx hb dX0_reset_59 hl (k := 0) rfl (by decide) (by decide) rfl (fun ls hl => ?_)
                  refine lv_goto (tgt := 46) hx hb dX0_reset_62 (by decide) ?_
                  refine lv_iload_n hx hb dX0_reset_46 rfl (lv_at hl 0 rfl) ?_
                  refine lv_iconst (v := 2) hx hb dX0_reset_47 (by decide) ?_
                  refine lv_icmp_ge (tgt := 65) hx hb dX0_reset_48 (by decide) (fun _ => ?_) (fun h => absurd h (by decide))
                  refine lv_iload_n hx hb dX0_reset_65 rfl (lv_at hl 1 rfl) ?_
                  have hm : m_X0_reset z = (0, (2 : Int32), (m_X0_putSpan (1 : Int32) (0 : Int32) (0 : Int32) (0 : Int32) ((m_X0_putSpan (0 : Int32) (0 : Int32) (0 : Int32) (0 : Int32) (vp_updL (vp_updL z.1 (2 : Int32).toNatClampNeg (1008673 : Int64)) (3 : Int32).toNatClampNeg (1008673 : Int64), z.2.1, z.2.2.1, z.2.2.2.1, z.2.2.2.2.1, z.2.2.2.2.2)).2)).2) := hm
                  exact c_iret (E := (2 : Int32)) hx hb hr hlocks (by rw [hm]) (by rw [hm]) (by rw [hm]) hP hS ⟨Nat.le_of_ble_eq_true rfl, Nat.le_of_ble_eq_true rfl⟩ dX0_reset_66
            · have hm := hm.trans (if_neg h_40)
              refine lv_iinc (v := (3 : Int32)) (lv' := [(1, .int (3 : Int32)), (2, .int (5 : Int32)), (0, .ref a.1)]) hx hb dX0_reset_26 hl (k := 1) rfl (by decide) (by decide) rfl (fun ls hl => ?_)
              refine lv_aload_n hx hb dX0_reset_29 rfl (lv_at hl 2 rfl) ?_
              refine va_get (D := kD k) (ci := 2) (v := .ref a.2.1) (C := RX0) (T := TX0) (N := 6) hx hb htg inG_X0 hown hGx.1 hP 0 rfl rfl 0 (by decide) (htg _ w_57) (fun _ h9 => h9) rfl dX0_reset_30 ?_
              refine lv_iload_n hx hb dX0_reset_33 rfl (lv_at hl 1 rfl) ?_
              refine lv_ldc2 hx hb hown (htg _ w_56) dX0_reset_34 ?_
              refine va_last (D := kD k) hx hb hGx.1 hP (hD.own _ _) hS 1 0 rfl rfl (show ¬ ((5 : Int32) < 0 ∨ 6 ≤ ((5 : Int32)).toNatClampNeg) by decide) dX0_reset_37 (fun H locs hP1 _ hS => ?_)
              have hP : va_P (kD k) vwCl (cW k a (vp_updL (vp_updL (vp_updL z.1 (2 : Int32).toNatClampNeg (1008673 : Int64)) (3 : Int32).toNatClampNeg (1008673 : Int64)) (5 : Int32).toNatClampNeg (1008673 : Int64), z.2.1, z.2.2.1, z.2.2.2.1, z.2.2.2.2.1, z.2.2.2.2.2)) H := hP1
              refine lv_iinc (v := (6 : Int32)) (lv' := [(2, .int (6 : Int32)), (1, .int (3 : Int32)), (0, .ref a.1)]) hx hb dX0_reset_38 hl (k := 1) rfl (by decide) (by decide) rfl (fun ls hl => ?_)
              refine lv_goto (tgt := 4) hx hb dX0_reset_41 (by decide) ?_
              refine lv_iload_n hx hb dX0_reset_4 rfl (lv_at hl 0 rfl) ?_
              refine lv_aload_n hx hb dX0_reset_5 rfl (lv_at hl 2 rfl) ?_
              refine va_get (D := kD k) (ci := 2) (v := .ref a.2.1) (C := RX0) (T := TX0) (N := 6) hx hb htg inG_X0 hown hGx.1 hP 0 rfl rfl 0 (by decide) (htg _ w_57) (fun _ h9 => h9) rfl dX0_reset_6 ?_
              refine va_alen (D := kD k) (v := 6) hx hb hGx.1 hP 1 0 rfl rfl (show Int32.ofNat 6 = 6 by decide) dX0_reset_9 ?_
              refine lv_icmp_ge (tgt := 44) hx hb dX0_reset_10 (by decide) (fun _ => ?_) (fun h => absurd h (by decide))
              refine lv_iconst (v := 0) hx hb dX0_reset_44 (by decide) ?_
              refine lv_istore_n (lv' := [(2, .int (0 : Int32)), (1, .int (3 : Int32)), (0, .ref a.1)]) hx hb dX0_reset_45 rfl hl (by decide) rfl (fun ls hl => ?_)
              refine lv_iload_n hx hb dX0_reset_46 rfl (lv_at hl 0 rfl) ?_
              refine lv_iconst (v := 2) hx hb dX0_reset_47 (by decide) ?_
              refine lv_icmp_ge (tgt := 65) hx hb dX0_reset_48 (by decide) (fun h => absurd h (by decide)) (fun _ => ?_)
              refine lv_aload_n hx hb dX0_reset_51 rfl (lv_at hl 2 rfl) ?_
              refine lv_iload_n hx hb dX0_reset_52 rfl (lv_at hl 0 rfl) ?_
              refine lv_iconst (v := 0) hx hb dX0_reset_53 (by decide) ?_
              refine lv_iconst (v := 0) hx hb dX0_reset_54 (by decide) ?_
              refine lv_iconst (v := 0) hx hb dX0_reset_55 (by decide) ?_
              refine cc_V hC hGx hD hEx hlocks (c_X0_putSpan l hl9 k a hD (0 : Int32) (0 : Int32) (0 : Int32) (0 : Int32) (vp_updL (vp_updL (vp_updL z.1 (2 : Int32).toNatClampNeg (1008673 : Int64)) (3 : Int32).toNatClampNeg (1008673 : Int64)) (5 : Int32).toNatClampNeg (1008673 : Int64), z.2.1, z.2.2.1, z.2.2.2.1, z.2.2.2.2.1, z.2.2.2.2.2)) (gV w_82 w_83 w_6 w_26 w_84) kk_X0_putSpan rfl ⟨Nat.le_of_ble_eq_true rfl, Nat.le_of_ble_eq_true rfl⟩ ⟨Nat.le_of_ble_eq_true rfl, Nat.le_of_ble_eq_true rfl⟩ ⟨Nat.le_of_ble_eq_true rfl, Nat.le_of_ble_eq_true rfl⟩ hP hS hl.1 rfl rfl (Nat.le_of_ble_eq_true rfl) dX0_reset_56 (fun h_43 => ?_) (fun h_43 H locs hP hS => ?_)
              · have hm : m_X0_reset z = ((m_X0_putSpan (0 : Int32) (0 : Int32) (0 : Int32) (0 : Int32) (vp_updL (vp_updL (vp_updL z.1 (2 : Int32).toNatClampNeg (1008673 : Int64)) (3 : Int32).toNatClampNeg (1008673 : Int64)) (5 : Int32).toNatClampNeg (1008673 : Int64), z.2.1, z.2.2.1, z.2.2.2.1, z.2.2.2.2.1, z.2.2.2.2.2)).1, 0, (m_X0_putSpan (0 : Int32) (0 : Int32) (0 : Int32) (0 : Int32) (vp_updL (vp_updL (vp_updL z.1 (2 : Int32).toNatClampNeg (1008673 : Int64)) (3 : Int32).toNatClampNeg (1008673 : Int64)) (5 : Int32).toNatClampNeg (1008673 : Int64), z.2.1, z.2.2.1, z.2.2.2.1, z.2.2.2.2.1, z.2.2.2.2.2)).2) := hm.trans (if_neg h_43)
                exact ⟨by rw [hm], by rw [hm]⟩
              · have hm := hm.trans (if_pos h_43)
                refine lv_iinc (v := (1 : Int32)) (lv' := [(2, .int (1 : Int32)), (1, .int (3 : Int32)), (0, .ref a.1)]) hx hb dX0_reset_59 hl (k := 0) rfl (by decide) (by decide) rfl (fun ls hl => ?_)
                refine lv_goto (tgt := 46) hx hb dX0_reset_62 (by decide) ?_
                refine lv_iload_n hx hb dX0_reset_46 rfl (lv_at hl 0 rfl) ?_
                refine lv_iconst (v := 2) hx hb dX0_reset_47 (by decide) ?_
                refine lv_icmp_ge (tgt := 65) hx hb dX0_reset_48 (by decide) (fun h => absurd h (by decide)) (fun _ => ?_)
                refine lv_aload_n hx hb dX0_reset_51 rfl (lv_at hl 2 rfl) ?_
                refine lv_iload_n hx hb dX0_reset_52 rfl (lv_at hl 0 rfl) ?_
                refine lv_iconst (v := 0) hx hb dX0_reset_53 (by decide) ?_
                refine lv_iconst (v := 0) hx hb dX0_reset_54 (by decide) ?_
                refine lv_iconst (v := 0) hx hb dX0_reset_55 (by decide) ?_
                refine cc_V hC hGx hD hEx hlocks (c_X0_putSpan l hl9 k a hD (1 : Int32) (0 : Int32) (0 : Int32) (0 : Int32) ((m_X0_putSpan (0 : Int32) (0 : Int32) (0 : Int32) (0 : Int32) (vp_updL (vp_updL (vp_updL z.1 (2 : Int32).toNatClampNeg (1008673 : Int64)) (3 : Int32).toNatClampNeg (1008673 : Int64)) (5 : Int32).toNatClampNeg (1008673 : Int64), z.2.1, z.2.2.1, z.2.2.2.1, z.2.2.2.2.1, z.2.2.2.2.2)).2)) (gV w_82 w_83 w_6 w_26 w_84) kk_X0_putSpan rfl ⟨Nat.le_of_ble_eq_true rfl, Nat.le_of_ble_eq_true rfl⟩ ⟨Nat.le_of_ble_eq_true rfl, Nat.le_of_ble_eq_true rfl⟩ ⟨Nat.le_of_ble_eq_true rfl, Nat.le_of_ble_eq_true rfl⟩ hP hS hl.1 rfl rfl (Nat.le_of_ble_eq_true rfl) dX0_reset_56 (fun h_44 => ?_) (fun h_44 H locs hP hS => ?_)
                · have hm : m_X0_reset z = ((m_X0_putSpan (1 : Int32) (0 : Int32) (0 : Int32) (0 : Int32) ((m_X0_putSpan (0 : Int32) (0 : Int32) (0 : Int32) (0 : Int32) (vp_updL (vp_updL (vp_updL z.1 (2 : Int32).toNatClampNeg (1008673 : Int64)) (3 : Int32).toNatClampNeg (1008673 : Int64)) (5 : Int32).toNatClampNeg (1008673 : Int64), z.2.1, z.2.2.1, z.2.2.2.1, z.2.2.2.2.1, z.2.2.2.2.2)).2)).1, 0, (m_X0_putSpan (1 : Int32) (0 : Int32) (0 : Int32) (0 : Int32) ((m_X0_putSpan (0 : Int32) (0 : Int32) (0 : Int32) (0 : Int32) (vp_updL (vp_updL (vp_updL z.1 (2 : Int32).toNatClampNeg (1008673 : Int64)) (3 : Int32).toNatClampNeg (1008673 : Int64)) (5 : Int32).toNatClampNeg (1008673 : Int64), z.2.1, z.2.2.1, z.2.2.2.1, z.2.2.2.2.1, z.2.2.2.2.2)).2)).2) := hm.trans (if_neg h_44)
                  exact ⟨by rw [hm], by rw [hm]⟩
                · have hm := hm.trans (if_pos h_44)
                  refine lv_iinc (v := (2 : Int32)) (lv' := [(2, .int (2 : Int32)), (1, .int (3 : Int32)), (0, .ref a.1)]) hx hb dX0_reset_59 hl (k := 0) rfl (by decide) (by decide) rfl (fun ls hl => ?_)
                  refine lv_goto (tgt := 46) hx hb dX0_reset_62 (by decide) ?_
                  refine lv_iload_n hx hb dX0_reset_46 rfl (lv_at hl 0 rfl) ?_
                  refine lv_iconst (v := 2) hx hb dX0_reset_47 (by decide) ?_
                  refine lv_icmp_ge (tgt := 65) hx hb dX0_reset_48 (by decide) (fun _ => ?_) (fun h => absurd h (by decide))
                  refine lv_iload_n hx hb dX0_reset_65 rfl (lv_at hl 1 rfl) ?_
                  have hm : m_X0_reset z = (0, (3 : Int32), (m_X0_putSpan (1 : Int32) (0 : Int32) (0 : Int32) (0 : Int32) ((m_X0_putSpan (0 : Int32) (0 : Int32) (0 : Int32) (0 : Int32) (vp_updL (vp_updL (vp_updL z.1 (2 : Int32).toNatClampNeg (1008673 : Int64)) (3 : Int32).toNatClampNeg (1008673 : Int64)) (5 : Int32).toNatClampNeg (1008673 : Int64), z.2.1, z.2.2.1, z.2.2.2.1, z.2.2.2.2.1, z.2.2.2.2.2)).2)).2) := hm
                  exact c_iret (E := (3 : Int32)) hx hb hr hlocks (by rw [hm]) (by rw [hm]) (by rw [hm]) hP hS ⟨Nat.le_of_ble_eq_true rfl, Nat.le_of_ble_eq_true rfl⟩ dX0_reset_66
          · have hm := hm.trans (if_neg h_39)
            refine lv_iinc (v := (3 : Int32)) (lv' := [(1, .int (3 : Int32)), (2, .int (4 : Int32)), (0, .ref a.1)]) hx hb dX0_reset_26 hl (k := 1) rfl (by decide) (by decide) rfl (fun ls hl => ?_)
            refine lv_aload_n hx hb dX0_reset_29 rfl (lv_at hl 2 rfl) ?_
            refine va_get (D := kD k) (ci := 2) (v := .ref a.2.1) (C := RX0) (T := TX0) (N := 6) hx hb htg inG_X0 hown hGx.1 hP 0 rfl rfl 0 (by decide) (htg _ w_57) (fun _ h9 => h9) rfl dX0_reset_30 ?_
            refine lv_iload_n hx hb dX0_reset_33 rfl (lv_at hl 1 rfl) ?_
            refine lv_ldc2 hx hb hown (htg _ w_56) dX0_reset_34 ?_
            refine va_last (D := kD k) hx hb hGx.1 hP (hD.own _ _) hS 1 0 rfl rfl (show ¬ ((4 : Int32) < 0 ∨ 6 ≤ ((4 : Int32)).toNatClampNeg) by decide) dX0_reset_37 (fun H locs hP1 _ hS => ?_)
            have hP : va_P (kD k) vwCl (cW k a (vp_updL (vp_updL (vp_updL z.1 (2 : Int32).toNatClampNeg (1008673 : Int64)) (3 : Int32).toNatClampNeg (1008673 : Int64)) (4 : Int32).toNatClampNeg (1008673 : Int64), z.2.1, z.2.2.1, z.2.2.2.1, z.2.2.2.2.1, z.2.2.2.2.2)) H := hP1
            refine lv_iinc (v := (5 : Int32)) (lv' := [(2, .int (5 : Int32)), (1, .int (3 : Int32)), (0, .ref a.1)]) hx hb dX0_reset_38 hl (k := 1) rfl (by decide) (by decide) rfl (fun ls hl => ?_)
            refine lv_goto (tgt := 4) hx hb dX0_reset_41 (by decide) ?_
            refine lv_iload_n hx hb dX0_reset_4 rfl (lv_at hl 0 rfl) ?_
            refine lv_aload_n hx hb dX0_reset_5 rfl (lv_at hl 2 rfl) ?_
            refine va_get (D := kD k) (ci := 2) (v := .ref a.2.1) (C := RX0) (T := TX0) (N := 6) hx hb htg inG_X0 hown hGx.1 hP 0 rfl rfl 0 (by decide) (htg _ w_57) (fun _ h9 => h9) rfl dX0_reset_6 ?_
            refine va_alen (D := kD k) (v := 6) hx hb hGx.1 hP 1 0 rfl rfl (show Int32.ofNat 6 = 6 by decide) dX0_reset_9 ?_
            refine lv_icmp_ge (tgt := 44) hx hb dX0_reset_10 (by decide) (fun h => absurd h (by decide)) (fun _ => ?_)
            refine lv_aload_n hx hb dX0_reset_13 rfl (lv_at hl 2 rfl) ?_
            refine va_get (D := kD k) (ci := 2) (v := .ref a.2.1) (C := RX0) (T := TX0) (N := 6) hx hb htg inG_X0 hown hGx.1 hP 0 rfl rfl 0 (by decide) (htg _ w_57) (fun _ h9 => h9) rfl dX0_reset_14 ?_
            refine lv_iload_n hx hb dX0_reset_17 rfl (lv_at hl 0 rfl) ?_
            refine va_lald (D := kD k) hx hb hGx.1 hP 1 0 rfl rfl (show ¬ ((5 : Int32) < 0 ∨ 6 ≤ ((5 : Int32)).toNatClampNeg) by decide) dX0_reset_18 ?_
            refine lv_ldc2 hx hb hown (htg _ w_56) dX0_reset_19 ?_
            refine W.lcmp hx hb dX0_reset_22 ?_
            refine lv_if_eq (tgt := 38) hx hb dX0_reset_23 (by decide) (fun h_45 => ?_) (fun h_45 => ?_)
            · have hm := hm.trans (if_pos h_45)
              refine lv_iinc (v := (6 : Int32)) (lv' := [(2, .int (6 : Int32)), (1, .int (3 : Int32)), (0, .ref a.1)]) hx hb dX0_reset_38 hl (k := 0) rfl (by decide) (by decide) rfl (fun ls hl => ?_)
              refine lv_goto (tgt := 4) hx hb dX0_reset_41 (by decide) ?_
              refine lv_iload_n hx hb dX0_reset_4 rfl (lv_at hl 0 rfl) ?_
              refine lv_aload_n hx hb dX0_reset_5 rfl (lv_at hl 2 rfl) ?_
              refine va_get (D := kD k) (ci := 2) (v := .ref a.2.1) (C := RX0) (T := TX0) (N := 6) hx hb htg inG_X0 hown hGx.1 hP 0 rfl rfl 0 (by decide) (htg _ w_57) (fun _ h9 => h9) rfl dX0_reset_6 ?_
              refine va_alen (D := kD k) (v := 6) hx hb hGx.1 hP 1 0 rfl rfl (show Int32.ofNat 6 = 6 by decide) dX0_reset_9 ?_
              refine lv_icmp_ge (tgt := 44) hx hb dX0_reset_10 (by decide) (fun _ => ?_) (fun h => absurd h (by decide))
              refine lv_iconst (v := 0) hx hb dX0_reset_44 (by decide) ?_
              refine lv_istore_n (lv' := [(2, .int (0 : Int32)), (1, .int (3 : Int32)), (0, .ref a.1)]) hx hb dX0_reset_45 rfl hl (by decide) rfl (fun ls hl => ?_)
              refine lv_iload_n hx hb dX0_reset_46 rfl (lv_at hl 0 rfl) ?_
              refine lv_iconst (v := 2) hx hb dX0_reset_47 (by decide) ?_
              refine lv_icmp_ge (tgt := 65) hx hb dX0_reset_48 (by decide) (fun h => absurd h (by decide)) (fun _ => ?_)
              refine lv_aload_n hx hb dX0_reset_51 rfl (lv_at hl 2 rfl) ?_
              refine lv_iload_n hx hb dX0_reset_52 rfl (lv_at hl 0 rfl) ?_
              refine lv_iconst (v := 0) hx hb dX0_reset_53 (by decide) ?_
              refine lv_iconst (v := 0) hx hb dX0_reset_54 (by decide) ?_
              refine lv_iconst (v := 0) hx hb dX0_reset_55 (by decide) ?_
              refine cc_V hC hGx hD hEx hlocks (c_X0_putSpan l hl9 k a hD (0 : Int32) (0 : Int32) (0 : Int32) (0 : Int32) (vp_updL (vp_updL (vp_updL z.1 (2 : Int32).toNatClampNeg (1008673 : Int64)) (3 : Int32).toNatClampNeg (1008673 : Int64)) (4 : Int32).toNatClampNeg (1008673 : Int64), z.2.1, z.2.2.1, z.2.2.2.1, z.2.2.2.2.1, z.2.2.2.2.2)) (gV w_82 w_83 w_6 w_26 w_84) kk_X0_putSpan rfl ⟨Nat.le_of_ble_eq_true rfl, Nat.le_of_ble_eq_true rfl⟩ ⟨Nat.le_of_ble_eq_true rfl, Nat.le_of_ble_eq_true rfl⟩ ⟨Nat.le_of_ble_eq_true rfl, Nat.le_of_ble_eq_true rfl⟩ hP hS hl.1 rfl rfl (Nat.le_of_ble_eq_true rfl) dX0_reset_56 (fun h_46 => ?_) (fun h_46 H locs hP hS => ?_)
              · have hm : m_X0_reset z = ((m_X0_putSpan (0 : Int32) (0 : Int32) (0 : Int32) (0 : Int32) (vp_updL (vp_updL (vp_updL z.1 (2 : Int32).toNatClampNeg (1008673 : Int64)) (3 : Int32).toNatClampNeg (1008673 : Int64)) (4 : Int32).toNatClampNeg (1008673 : Int64), z.2.1, z.2.2.1, z.2.2.2.1, z.2.2.2.2.1, z.2.2.2.2.2)).1, 0, (m_X0_putSpan (0 : Int32) (0 : Int32) (0 : Int32) (0 : Int32) (vp_updL (vp_updL (vp_updL z.1 (2 : Int32).toNatClampNeg (1008673 : Int64)) (3 : Int32).toNatClampNeg (1008673 : Int64)) (4 : Int32).toNatClampNeg (1008673 : Int64), z.2.1, z.2.2.1, z.2.2.2.1, z.2.2.2.2.1, z.2.2.2.2.2)).2) := hm.trans (if_neg h_46)
                exact ⟨by rw [hm], by rw [hm]⟩
              · have hm := hm.trans (if_pos h_46)
                refine lv_iinc (v := (1 : Int32)) (lv' := [(2, .int (1 : Int32)), (1, .int (3 : Int32)), (0, .ref a.1)]) hx hb dX0_reset_59 hl (k := 0) rfl (by decide) (by decide) rfl (fun ls hl => ?_)
                refine lv_goto (tgt := 46) hx hb dX0_reset_62 (by decide) ?_
                refine lv_iload_n hx hb dX0_reset_46 rfl (lv_at hl 0 rfl) ?_
                refine lv_iconst (v := 2) hx hb dX0_reset_47 (by decide) ?_
                refine lv_icmp_ge (tgt := 65) hx hb dX0_reset_48 (by decide) (fun h => absurd h (by decide)) (fun _ => ?_)
                refine lv_aload_n hx hb dX0_reset_51 rfl (lv_at hl 2 rfl) ?_
                refine lv_iload_n hx hb dX0_reset_52 rfl (lv_at hl 0 rfl) ?_
                refine lv_iconst (v := 0) hx hb dX0_reset_53 (by decide) ?_
                refine lv_iconst (v := 0) hx hb dX0_reset_54 (by decide) ?_
                refine lv_iconst (v := 0) hx hb dX0_reset_55 (by decide) ?_
                refine cc_V hC hGx hD hEx hlocks (c_X0_putSpan l hl9 k a hD (1 : Int32) (0 : Int32) (0 : Int32) (0 : Int32) ((m_X0_putSpan (0 : Int32) (0 : Int32) (0 : Int32) (0 : Int32) (vp_updL (vp_updL (vp_updL z.1 (2 : Int32).toNatClampNeg (1008673 : Int64)) (3 : Int32).toNatClampNeg (1008673 : Int64)) (4 : Int32).toNatClampNeg (1008673 : Int64), z.2.1, z.2.2.1, z.2.2.2.1, z.2.2.2.2.1, z.2.2.2.2.2)).2)) (gV w_82 w_83 w_6 w_26 w_84) kk_X0_putSpan rfl ⟨Nat.le_of_ble_eq_true rfl, Nat.le_of_ble_eq_true rfl⟩ ⟨Nat.le_of_ble_eq_true rfl, Nat.le_of_ble_eq_true rfl⟩ ⟨Nat.le_of_ble_eq_true rfl, Nat.le_of_ble_eq_true rfl⟩ hP hS hl.1 rfl rfl (Nat.le_of_ble_eq_true rfl) dX0_reset_56 (fun h_47 => ?_) (fun h_47 H locs hP hS => ?_)
                · have hm : m_X0_reset z = ((m_X0_putSpan (1 : Int32) (0 : Int32) (0 : Int32) (0 : Int32) ((m_X0_putSpan (0 : Int32) (0 : Int32) (0 : Int32) (0 : Int32) (vp_updL (vp_updL (vp_updL z.1 (2 : Int32).toNatClampNeg (1008673 : Int64)) (3 : Int32).toNatClampNeg (1008673 : Int64)) (4 : Int32).toNatClampNeg (1008673 : Int64), z.2.1, z.2.2.1, z.2.2.2.1, z.2.2.2.2.1, z.2.2.2.2.2)).2)).1, 0, (m_X0_putSpan (1 : Int32) (0 : Int32) (0 : Int32) (0 : Int32) ((m_X0_putSpan (0 : Int32) (0 : Int32) (0 : Int32) (0 : Int32) (vp_updL (vp_updL (vp_updL z.1 (2 : Int32).toNatClampNeg (1008673 : Int64)) (3 : Int32).toNatClampNeg (1008673 : Int64)) (4 : Int32).toNatClampNeg (1008673 : Int64), z.2.1, z.2.2.1, z.2.2.2.1, z.2.2.2.2.1, z.2.2.2.2.2)).2)).2) := hm.trans (if_neg h_47)
                  exact ⟨by rw [hm], by rw [hm]⟩
                · have hm := hm.trans (if_pos h_47)
                  refine lv_iinc (v := (2 : Int32)) (lv' := [(2, .int (2 : Int32)), (1, .int (3 : Int32)), (0, .ref a.1)]) hx hb dX0_reset_59 hl (k := 0) rfl (by decide) (by decide) rfl (fun ls hl => ?_)
                  refine lv_goto (tgt := 46) hx hb dX0_reset_62 (by decide) ?_
                  refine lv_iload_n hx hb dX0_reset_46 rfl (lv_at hl 0 rfl) ?_
                  refine lv_iconst (v := 2) hx hb dX0_reset_47 (by decide) ?_
                  refine lv_icmp_ge (tgt := 65) hx hb dX0_reset_48 (by decide) (fun _ => ?_) (fun h => absurd h (by decide))
                  refine lv_iload_n hx hb dX0_reset_65 rfl (lv_at hl 1 rfl) ?_
                  have hm : m_X0_reset z = (0, (3 : Int32), (m_X0_putSpan (1 : Int32) (0 : Int32) (0 : Int32) (0 : Int32) ((m_X0_putSpan (0 : Int32) (0 : Int32) (0 : Int32) (0 : Int32) (vp_updL (vp_updL (vp_updL z.1 (2 : Int32).toNatClampNeg (1008673 : Int64)) (3 : Int32).toNatClampNeg (1008673 : Int64)) (4 : Int32).toNatClampNeg (1008673 : Int64), z.2.1, z.2.2.1, z.2.2.2.1, z.2.2.2.2.1, z.2.2.2.2.2)).2)).2) := hm
                  exact c_iret (E := (3 : Int32)) hx hb hr hlocks (by rw [hm]) (by rw [hm]) (by rw [hm]) hP hS ⟨Nat.le_of_ble_eq_true rfl, Nat.le_of_ble_eq_true rfl⟩ dX0_reset_66
            · have hm := hm.trans (if_neg h_45)
              refine lv_iinc (v := (4 : Int32)) (lv' := [(1, .int (4 : Int32)), (2, .int (5 : Int32)), (0, .ref a.1)]) hx hb dX0_reset_26 hl (k := 1) rfl (by decide) (by decide) rfl (fun ls hl => ?_)
              refine lv_aload_n hx hb dX0_reset_29 rfl (lv_at hl 2 rfl) ?_
              refine va_get (D := kD k) (ci := 2) (v := .ref a.2.1) (C := RX0) (T := TX0) (N := 6) hx hb htg inG_X0 hown hGx.1 hP 0 rfl rfl 0 (by decide) (htg _ w_57) (fun _ h9 => h9) rfl dX0_reset_30 ?_
              refine lv_iload_n hx hb dX0_reset_33 rfl (lv_at hl 1 rfl) ?_
              refine lv_ldc2 hx hb hown (htg _ w_56) dX0_reset_34 ?_
              refine va_last (D := kD k) hx hb hGx.1 hP (hD.own _ _) hS 1 0 rfl rfl (show ¬ ((5 : Int32) < 0 ∨ 6 ≤ ((5 : Int32)).toNatClampNeg) by decide) dX0_reset_37 (fun H locs hP1 _ hS => ?_)
              have hP : va_P (kD k) vwCl (cW k a (vp_updL (vp_updL (vp_updL (vp_updL z.1 (2 : Int32).toNatClampNeg (1008673 : Int64)) (3 : Int32).toNatClampNeg (1008673 : Int64)) (4 : Int32).toNatClampNeg (1008673 : Int64)) (5 : Int32).toNatClampNeg (1008673 : Int64), z.2.1, z.2.2.1, z.2.2.2.1, z.2.2.2.2.1, z.2.2.2.2.2)) H := hP1
              refine lv_iinc (v := (6 : Int32)) (lv' := [(2, .int (6 : Int32)), (1, .int (4 : Int32)), (0, .ref a.1)]) hx hb dX0_reset_38 hl (k := 1) rfl (by decide) (by decide) rfl (fun ls hl => ?_)
              refine lv_goto (tgt := 4) hx hb dX0_reset_41 (by decide) ?_
              refine lv_iload_n hx hb dX0_reset_4 rfl (lv_at hl 0 rfl) ?_
              refine lv_aload_n hx hb dX0_reset_5 rfl (lv_at hl 2 rfl) ?_
              refine va_get (D := kD k) (ci := 2) (v := .ref a.2.1) (C := RX0) (T := TX0) (N := 6) hx hb htg inG_X0 hown hGx.1 hP 0 rfl rfl 0 (by decide) (htg _ w_57) (fun _ h9 => h9) rfl dX0_reset_6 ?_
              refine va_alen (D := kD k) (v := 6) hx hb hGx.1 hP 1 0 rfl rfl (show Int32.ofNat 6 = 6 by decide) dX0_reset_9 ?_
              refine lv_icmp_ge (tgt := 44) hx hb dX0_reset_10 (by decide) (fun _ => ?_) (fun h => absurd h (by decide))
              refine lv_iconst (v := 0) hx hb dX0_reset_44 (by decide) ?_
              refine lv_istore_n (lv' := [(2, .int (0 : Int32)), (1, .int (4 : Int32)), (0, .ref a.1)]) hx hb dX0_reset_45 rfl hl (by decide) rfl (fun ls hl => ?_)
              refine lv_iload_n hx hb dX0_reset_46 rfl (lv_at hl 0 rfl) ?_
              refine lv_iconst (v := 2) hx hb dX0_reset_47 (by decide) ?_
              refine lv_icmp_ge (tgt := 65) hx hb dX0_reset_48 (by decide) (fun h => absurd h (by decide)) (fun _ => ?_)
              refine lv_aload_n hx hb dX0_reset_51 rfl (lv_at hl 2 rfl) ?_
              refine lv_iload_n hx hb dX0_reset_52 rfl (lv_at hl 0 rfl) ?_
              refine lv_iconst (v := 0) hx hb dX0_reset_53 (by decide) ?_
              refine lv_iconst (v := 0) hx hb dX0_reset_54 (by decide) ?_
              refine lv_iconst (v := 0) hx hb dX0_reset_55 (by decide) ?_
              refine cc_V hC hGx hD hEx hlocks (c_X0_putSpan l hl9 k a hD (0 : Int32) (0 : Int32) (0 : Int32) (0 : Int32) (vp_updL (vp_updL (vp_updL (vp_updL z.1 (2 : Int32).toNatClampNeg (1008673 : Int64)) (3 : Int32).toNatClampNeg (1008673 : Int64)) (4 : Int32).toNatClampNeg (1008673 : Int64)) (5 : Int32).toNatClampNeg (1008673 : Int64), z.2.1, z.2.2.1, z.2.2.2.1, z.2.2.2.2.1, z.2.2.2.2.2)) (gV w_82 w_83 w_6 w_26 w_84) kk_X0_putSpan rfl ⟨Nat.le_of_ble_eq_true rfl, Nat.le_of_ble_eq_true rfl⟩ ⟨Nat.le_of_ble_eq_true rfl, Nat.le_of_ble_eq_true rfl⟩ ⟨Nat.le_of_ble_eq_true rfl, Nat.le_of_ble_eq_true rfl⟩ hP hS hl.1 rfl rfl (Nat.le_of_ble_eq_true rfl) dX0_reset_56 (fun h_48 => ?_) (fun h_48 H locs hP hS => ?_)
              · have hm : m_X0_reset z = ((m_X0_putSpan (0 : Int32) (0 : Int32) (0 : Int32) (0 : Int32) (vp_updL (vp_updL (vp_updL (vp_updL z.1 (2 : Int32).toNatClampNeg (1008673 : Int64)) (3 : Int32).toNatClampNeg (1008673 : Int64)) (4 : Int32).toNatClampNeg (1008673 : Int64)) (5 : Int32).toNatClampNeg (1008673 : Int64), z.2.1, z.2.2.1, z.2.2.2.1, z.2.2.2.2.1, z.2.2.2.2.2)).1, 0, (m_X0_putSpan (0 : Int32) (0 : Int32) (0 : Int32) (0 : Int32) (vp_updL (vp_updL (vp_updL (vp_updL z.1 (2 : Int32).toNatClampNeg (1008673 : Int64)) (3 : Int32).toNatClampNeg (1008673 : Int64)) (4 : Int32).toNatClampNeg (1008673 : Int64)) (5 : Int32).toNatClampNeg (1008673 : Int64), z.2.1, z.2.2.1, z.2.2.2.1, z.2.2.2.2.1, z.2.2.2.2.2)).2) := hm.trans (if_neg h_48)
                exact ⟨by rw [hm], by rw [hm]⟩
              · have hm := hm.trans (if_pos h_48)
                refine lv_iinc (v := (1 : Int32)) (lv' := [(2, .int (1 : Int32)), (1, .int (4 : Int32)), (0, .ref a.1)]) hx hb dX0_reset_59 hl (k := 0) rfl (by decide) (by decide) rfl (fun ls hl => ?_)
                refine lv_goto (tgt := 46) hx hb dX0_reset_62 (by decide) ?_
                refine lv_iload_n hx hb dX0_reset_46 rfl (lv_at hl 0 rfl) ?_
                refine lv_iconst (v := 2) hx hb dX0_reset_47 (by decide) ?_
                refine lv_icmp_ge (tgt := 65) hx hb dX0_reset_48 (by decide) (fun h => absurd h (by decide)) (fun _ => ?_)
                refine lv_aload_n hx hb dX0_reset_51 rfl (lv_at hl 2 rfl) ?_
                refine lv_iload_n hx hb dX0_reset_52 rfl (lv_at hl 0 rfl) ?_
                refine lv_iconst (v := 0) hx hb dX0_reset_53 (by decide) ?_
                refine lv_iconst (v := 0) hx hb dX0_reset_54 (by decide) ?_
                refine lv_iconst (v := 0) hx hb dX0_reset_55 (by decide) ?_
                refine cc_V hC hGx hD hEx hlocks (c_X0_putSpan l hl9 k a hD (1 : Int32) (0 : Int32) (0 : Int32) (0 : Int32) ((m_X0_putSpan (0 : Int32) (0 : Int32) (0 : Int32) (0 : Int32) (vp_updL (vp_updL (vp_updL (vp_updL z.1 (2 : Int32).toNatClampNeg (1008673 : Int64)) (3 : Int32).toNatClampNeg (1008673 : Int64)) (4 : Int32).toNatClampNeg (1008673 : Int64)) (5 : Int32).toNatClampNeg (1008673 : Int64), z.2.1, z.2.2.1, z.2.2.2.1, z.2.2.2.2.1, z.2.2.2.2.2)).2)) (gV w_82 w_83 w_6 w_26 w_84) kk_X0_putSpan rfl ⟨Nat.le_of_ble_eq_true rfl, Nat.le_of_ble_eq_true rfl⟩ ⟨Nat.le_of_ble_eq_true rfl, Nat.le_of_ble_eq_true rfl⟩ ⟨Nat.le_of_ble_eq_true rfl, Nat.le_of_ble_eq_true rfl⟩ hP hS hl.1 rfl rfl (Nat.le_of_ble_eq_true rfl) dX0_reset_56 (fun h_49 => ?_) (fun h_49 H locs hP hS => ?_)
                · have hm : m_X0_reset z = ((m_X0_putSpan (1 : Int32) (0 : Int32) (0 : Int32) (0 : Int32) ((m_X0_putSpan (0 : Int32) (0 : Int32) (0 : Int32) (0 : Int32) (vp_updL (vp_updL (vp_updL (vp_updL z.1 (2 : Int32).toNatClampNeg (1008673 : Int64)) (3 : Int32).toNatClampNeg (1008673 : Int64)) (4 : Int32).toNatClampNeg (1008673 : Int64)) (5 : Int32).toNatClampNeg (1008673 : Int64), z.2.1, z.2.2.1, z.2.2.2.1, z.2.2.2.2.1, z.2.2.2.2.2)).2)).1, 0, (m_X0_putSpan (1 : Int32) (0 : Int32) (0 : Int32) (0 : Int32) ((m_X0_putSpan (0 : Int32) (0 : Int32) (0 : Int32) (0 : Int32) (vp_updL (vp_updL (vp_updL (vp_updL z.1 (2 : Int32).toNatClampNeg (1008673 : Int64)) (3 : Int32).toNatClampNeg (1008673 : Int64)) (4 : Int32).toNatClampNeg (1008673 : Int64)) (5 : Int32).toNatClampNeg (1008673 : Int64), z.2.1, z.2.2.1, z.2.2.2.1, z.2.2.2.2.1, z.2.2.2.2.2)).2)).2) := hm.trans (if_neg h_49)
                  exact ⟨by rw [hm], by rw [hm]⟩
                · have hm := hm.trans (if_pos h_49)
                  refine lv_iinc (v := (2 : Int32)) (lv' := [(2, .int (2 : Int32)), (1, .int (4 : Int32)), (0, .ref a.1)]) hx hb dX0_reset_59 hl (k := 0) rfl (by decide) (by decide) rfl (fun ls hl => ?_)
                  refine lv_goto (tgt := 46) hx hb dX0_reset_62 (by decide) ?_
                  refine lv_iload_n hx hb dX0_reset_46 rfl (lv_at hl 0 rfl) ?_
                  refine lv_iconst (v := 2) hx hb dX0_reset_47 (by decide) ?_
                  refine lv_icmp_ge (tgt := 65) hx hb dX0_reset_48 (by decide) (fun _ => ?_) (fun h => absurd h (by decide))
                  refine lv_iload_n hx hb dX0_reset_65 rfl (lv_at hl 1 rfl) ?_
                  have hm : m_X0_reset z = (0, (4 : Int32), (m_X0_putSpan (1 : Int32) (0 : Int32) (0 : Int32) (0 : Int32) ((m_X0_putSpan (0 : Int32) (0 : Int32) (0 : Int32) (0 : Int32) (vp_updL (vp_updL (vp_updL (vp_updL z.1 (2 : Int32).toNatClampNeg (1008673 : Int64)) (3 : Int32).toNatClampNeg (1008673 : Int64)) (4 : Int32).toNatClampNeg (1008673 : Int64)) (5 : Int32).toNatClampNeg (1008673 : Int64), z.2.1, z.2.2.1, z.2.2.2.1, z.2.2.2.2.1, z.2.2.2.2.2)).2)).2) := hm
                  exact c_iret (E := (4 : Int32)) hx hb hr hlocks (by rw [hm]) (by rw [hm]) (by rw [hm]) hP hS ⟨Nat.le_of_ble_eq_true rfl, Nat.le_of_ble_eq_true rfl⟩ dX0_reset_66
    · have hm := hm.trans (if_neg h_2)
      refine lv_iinc (v := (1 : Int32)) (lv' := [(1, .int (1 : Int32)), (2, .int (1 : Int32)), (0, .ref a.1)]) hx hb dX0_reset_26 hl (k := 1) rfl (by decide) (by decide) rfl (fun ls hl => ?_)
      refine lv_aload_n hx hb dX0_reset_29 rfl (lv_at hl 2 rfl) ?_
      refine va_get (D := kD k) (ci := 2) (v := .ref a.2.1) (C := RX0) (T := TX0) (N := 6) hx hb htg inG_X0 hown hGx.1 hP 0 rfl rfl 0 (by decide) (htg _ w_57) (fun _ h9 => h9) rfl dX0_reset_30 ?_
      refine lv_iload_n hx hb dX0_reset_33 rfl (lv_at hl 1 rfl) ?_
      refine lv_ldc2 hx hb hown (htg _ w_56) dX0_reset_34 ?_
      refine va_last (D := kD k) hx hb hGx.1 hP (hD.own _ _) hS 1 0 rfl rfl (show ¬ ((1 : Int32) < 0 ∨ 6 ≤ ((1 : Int32)).toNatClampNeg) by decide) dX0_reset_37 (fun H locs hP1 _ hS => ?_)
      have hP : va_P (kD k) vwCl (cW k a (vp_updL z.1 (1 : Int32).toNatClampNeg (1008673 : Int64), z.2.1, z.2.2.1, z.2.2.2.1, z.2.2.2.2.1, z.2.2.2.2.2)) H := hP1
      refine lv_iinc (v := (2 : Int32)) (lv' := [(2, .int (2 : Int32)), (1, .int (1 : Int32)), (0, .ref a.1)]) hx hb dX0_reset_38 hl (k := 1) rfl (by decide) (by decide) rfl (fun ls hl => ?_)
      refine lv_goto (tgt := 4) hx hb dX0_reset_41 (by decide) ?_
      refine lv_iload_n hx hb dX0_reset_4 rfl (lv_at hl 0 rfl) ?_
      refine lv_aload_n hx hb dX0_reset_5 rfl (lv_at hl 2 rfl) ?_
      refine va_get (D := kD k) (ci := 2) (v := .ref a.2.1) (C := RX0) (T := TX0) (N := 6) hx hb htg inG_X0 hown hGx.1 hP 0 rfl rfl 0 (by decide) (htg _ w_57) (fun _ h9 => h9) rfl dX0_reset_6 ?_
      refine va_alen (D := kD k) (v := 6) hx hb hGx.1 hP 1 0 rfl rfl (show Int32.ofNat 6 = 6 by decide) dX0_reset_9 ?_
      refine lv_icmp_ge (tgt := 44) hx hb dX0_reset_10 (by decide) (fun h => absurd h (by decide)) (fun _ => ?_)
      refine lv_aload_n hx hb dX0_reset_13 rfl (lv_at hl 2 rfl) ?_
      refine va_get (D := kD k) (ci := 2) (v := .ref a.2.1) (C := RX0) (T := TX0) (N := 6) hx hb htg inG_X0 hown hGx.1 hP 0 rfl rfl 0 (by decide) (htg _ w_57) (fun _ h9 => h9) rfl dX0_reset_14 ?_
      refine lv_iload_n hx hb dX0_reset_17 rfl (lv_at hl 0 rfl) ?_
      refine va_lald (D := kD k) hx hb hGx.1 hP 1 0 rfl rfl (show ¬ ((2 : Int32) < 0 ∨ 6 ≤ ((2 : Int32)).toNatClampNeg) by decide) dX0_reset_18 ?_
      refine lv_ldc2 hx hb hown (htg _ w_56) dX0_reset_19 ?_
      refine W.lcmp hx hb dX0_reset_22 ?_
      refine lv_if_eq (tgt := 38) hx hb dX0_reset_23 (by decide) (fun h_50 => ?_) (fun h_50 => ?_)
      · have hm := hm.trans (if_pos h_50)
        refine lv_iinc (v := (3 : Int32)) (lv' := [(2, .int (3 : Int32)), (1, .int (1 : Int32)), (0, .ref a.1)]) hx hb dX0_reset_38 hl (k := 0) rfl (by decide) (by decide) rfl (fun ls hl => ?_)
        refine lv_goto (tgt := 4) hx hb dX0_reset_41 (by decide) ?_
        refine lv_iload_n hx hb dX0_reset_4 rfl (lv_at hl 0 rfl) ?_
        refine lv_aload_n hx hb dX0_reset_5 rfl (lv_at hl 2 rfl) ?_
        refine va_get (D := kD k) (ci := 2) (v := .ref a.2.1) (C := RX0) (T := TX0) (N := 6) hx hb htg inG_X0 hown hGx.1 hP 0 rfl rfl 0 (by decide) (htg _ w_57) (fun _ h9 => h9) rfl dX0_reset_6 ?_
        refine va_alen (D := kD k) (v := 6) hx hb hGx.1 hP 1 0 rfl rfl (show Int32.ofNat 6 = 6 by decide) dX0_reset_9 ?_
        refine lv_icmp_ge (tgt := 44) hx hb dX0_reset_10 (by decide) (fun h => absurd h (by decide)) (fun _ => ?_)
        refine lv_aload_n hx hb dX0_reset_13 rfl (lv_at hl 2 rfl) ?_
        refine va_get (D := kD k) (ci := 2) (v := .ref a.2.1) (C := RX0) (T := TX0) (N := 6) hx hb htg inG_X0 hown hGx.1 hP 0 rfl rfl 0 (by decide) (htg _ w_57) (fun _ h9 => h9) rfl dX0_reset_14 ?_
        refine lv_iload_n hx hb dX0_reset_17 rfl (lv_at hl 0 rfl) ?_
        refine va_lald (D := kD k) hx hb hGx.1 hP 1 0 rfl rfl (show ¬ ((3 : Int32) < 0 ∨ 6 ≤ ((3 : Int32)).toNatClampNeg) by decide) dX0_reset_18 ?_
        refine lv_ldc2 hx hb hown (htg _ w_56) dX0_reset_19 ?_
        refine W.lcmp hx hb dX0_reset_22 ?_
        refine lv_if_eq (tgt := 38) hx hb dX0_reset_23 (by decide) (fun h_51 => ?_) (fun h_51 => ?_)
        · have hm := hm.trans (if_pos h_51)
          refine lv_iinc (v := (4 : Int32)) (lv' := [(2, .int (4 : Int32)), (1, .int (1 : Int32)), (0, .ref a.1)]) hx hb dX0_reset_38 hl (k := 0) rfl (by decide) (by decide) rfl (fun ls hl => ?_)
          refine lv_goto (tgt := 4) hx hb dX0_reset_41 (by decide) ?_
          refine lv_iload_n hx hb dX0_reset_4 rfl (lv_at hl 0 rfl) ?_
          refine lv_aload_n hx hb dX0_reset_5 rfl (lv_at hl 2 rfl) ?_
          refine va_get (D := kD k) (ci := 2) (v := .ref a.2.1) (C := RX0) (T := TX0) (N := 6) hx hb htg inG_X0 hown hGx.1 hP 0 rfl rfl 0 (by decide) (htg _ w_57) (fun _ h9 => h9) rfl dX0_reset_6 ?_
          refine va_alen (D := kD k) (v := 6) hx hb hGx.1 hP 1 0 rfl rfl (show Int32.ofNat 6 = 6 by decide) dX0_reset_9 ?_
          refine lv_icmp_ge (tgt := 44) hx hb dX0_reset_10 (by decide) (fun h => absurd h (by decide)) (fun _ => ?_)
          refine lv_aload_n hx hb dX0_reset_13 rfl (lv_at hl 2 rfl) ?_
          refine va_get (D := kD k) (ci := 2) (v := .ref a.2.1) (C := RX0) (T := TX0) (N := 6) hx hb htg inG_X0 hown hGx.1 hP 0 rfl rfl 0 (by decide) (htg _ w_57) (fun _ h9 => h9) rfl dX0_reset_14 ?_
          refine lv_iload_n hx hb dX0_reset_17 rfl (lv_at hl 0 rfl) ?_
          refine va_lald (D := kD k) hx hb hGx.1 hP 1 0 rfl rfl (show ¬ ((4 : Int32) < 0 ∨ 6 ≤ ((4 : Int32)).toNatClampNeg) by decide) dX0_reset_18 ?_
          refine lv_ldc2 hx hb hown (htg _ w_56) dX0_reset_19 ?_
          refine W.lcmp hx hb dX0_reset_22 ?_
          refine lv_if_eq (tgt := 38) hx hb dX0_reset_23 (by decide) (fun h_52 => ?_) (fun h_52 => ?_)
          · have hm := hm.trans (if_pos h_52)
            refine lv_iinc (v := (5 : Int32)) (lv' := [(2, .int (5 : Int32)), (1, .int (1 : Int32)), (0, .ref a.1)]) hx hb dX0_reset_38 hl (k := 0) rfl (by decide) (by decide) rfl (fun ls hl => ?_)
            refine lv_goto (tgt := 4) hx hb dX0_reset_41 (by decide) ?_
            refine lv_iload_n hx hb dX0_reset_4 rfl (lv_at hl 0 rfl) ?_
            refine lv_aload_n hx hb dX0_reset_5 rfl (lv_at hl 2 rfl) ?_
            refine va_get (D := kD k) (ci := 2) (v := .ref a.2.1) (C := RX0) (T := TX0) (N := 6) hx hb htg inG_X0 hown hGx.1 hP 0 rfl rfl 0 (by decide) (htg _ w_57) (fun _ h9 => h9) rfl dX0_reset_6 ?_
            refine va_alen (D := kD k) (v := 6) hx hb hGx.1 hP 1 0 rfl rfl (show Int32.ofNat 6 = 6 by decide) dX0_reset_9 ?_
            refine lv_icmp_ge (tgt := 44) hx hb dX0_reset_10 (by decide) (fun h => absurd h (by decide)) (fun _ => ?_)
            refine lv_aload_n hx hb dX0_reset_13 rfl (lv_at hl 2 rfl) ?_
            refine va_get (D := kD k) (ci := 2) (v := .ref a.2.1) (C := RX0) (T := TX0) (N := 6) hx hb htg inG_X0 hown hGx.1 hP 0 rfl rfl 0 (by decide) (htg _ w_57) (fun _ h9 => h9) rfl dX0_reset_14 ?_
            refine lv_iload_n hx hb dX0_reset_17 rfl (lv_at hl 0 rfl) ?_
            refine va_lald (D := kD k) hx hb hGx.1 hP 1 0 rfl rfl (show ¬ ((5 : Int32) < 0 ∨ 6 ≤ ((5 : Int32)).toNatClampNeg) by decide) dX0_reset_18 ?_
            refine lv_ldc2 hx hb hown (htg _ w_56) dX0_reset_19 ?_
            refine W.lcmp hx hb dX0_reset_22 ?_
            refine lv_if_eq (tgt := 38) hx hb dX0_reset_23 (by decide) (fun h_53 => ?_) (fun h_53 => ?_)
            · have hm := hm.trans (if_pos h_53)
              refine lv_iinc (v := (6 : Int32)) (lv' := [(2, .int (6 : Int32)), (1, .int (1 : Int32)), (0, .ref a.1)]) hx hb dX0_reset_38 hl (k := 0) rfl (by decide) (by decide) rfl (fun ls hl => ?_)
              refine lv_goto (tgt := 4) hx hb dX0_reset_41 (by decide) ?_
              refine lv_iload_n hx hb dX0_reset_4 rfl (lv_at hl 0 rfl) ?_
              refine lv_aload_n hx hb dX0_reset_5 rfl (lv_at hl 2 rfl) ?_
              refine va_get (D := kD k) (ci := 2) (v := .ref a.2.1) (C := RX0) (T := TX0) (N := 6) hx hb htg inG_X0 hown hGx.1 hP 0 rfl rfl 0 (by decide) (htg _ w_57) (fun _ h9 => h9) rfl dX0_reset_6 ?_
              refine va_alen (D := kD k) (v := 6) hx hb hGx.1 hP 1 0 rfl rfl (show Int32.ofNat 6 = 6 by decide) dX0_reset_9 ?_
              refine lv_icmp_ge (tgt := 44) hx hb dX0_reset_10 (by decide) (fun _ => ?_) (fun h => absurd h (by decide))
              refine lv_iconst (v := 0) hx hb dX0_reset_44 (by decide) ?_
              refine lv_istore_n (lv' := [(2, .int (0 : Int32)), (1, .int (1 : Int32)), (0, .ref a.1)]) hx hb dX0_reset_45 rfl hl (by decide) rfl (fun ls hl => ?_)
              refine lv_iload_n hx hb dX0_reset_46 rfl (lv_at hl 0 rfl) ?_
              refine lv_iconst (v := 2) hx hb dX0_reset_47 (by decide) ?_
              refine lv_icmp_ge (tgt := 65) hx hb dX0_reset_48 (by decide) (fun h => absurd h (by decide)) (fun _ => ?_)
              refine lv_aload_n hx hb dX0_reset_51 rfl (lv_at hl 2 rfl) ?_
              refine lv_iload_n hx hb dX0_reset_52 rfl (lv_at hl 0 rfl) ?_
              refine lv_iconst (v := 0) hx hb dX0_reset_53 (by decide) ?_
              refine lv_iconst (v := 0) hx hb dX0_reset_54 (by decide) ?_
              refine lv_iconst (v := 0) hx hb dX0_reset_55 (by decide) ?_
              refine cc_V hC hGx hD hEx hlocks (c_X0_putSpan l hl9 k a hD (0 : Int32) (0 : Int32) (0 : Int32) (0 : Int32) (vp_updL z.1 (1 : Int32).toNatClampNeg (1008673 : Int64), z.2.1, z.2.2.1, z.2.2.2.1, z.2.2.2.2.1, z.2.2.2.2.2)) (gV w_82 w_83 w_6 w_26 w_84) kk_X0_putSpan rfl ⟨Nat.le_of_ble_eq_true rfl, Nat.le_of_ble_eq_true rfl⟩ ⟨Nat.le_of_ble_eq_true rfl, Nat.le_of_ble_eq_true rfl⟩ ⟨Nat.le_of_ble_eq_true rfl, Nat.le_of_ble_eq_true rfl⟩ hP hS hl.1 rfl rfl (Nat.le_of_ble_eq_true rfl) dX0_reset_56 (fun h_54 => ?_) (fun h_54 H locs hP hS => ?_)
              · have hm : m_X0_reset z = ((m_X0_putSpan (0 : Int32) (0 : Int32) (0 : Int32) (0 : Int32) (vp_updL z.1 (1 : Int32).toNatClampNeg (1008673 : Int64), z.2.1, z.2.2.1, z.2.2.2.1, z.2.2.2.2.1, z.2.2.2.2.2)).1, 0, (m_X0_putSpan (0 : Int32) (0 : Int32) (0 : Int32) (0 : Int32) (vp_updL z.1 (1 : Int32).toNatClampNeg (1008673 : Int64), z.2.1, z.2.2.1, z.2.2.2.1, z.2.2.2.2.1, z.2.2.2.2.2)).2) := hm.trans (if_neg h_54)
                exact ⟨by rw [hm], by rw [hm]⟩
              · have hm := hm.trans (if_pos h_54)
                refine lv_iinc (v := (1 : Int32)) (lv' := [(2, .int (1 : Int32)), (1, .int (1 : Int32)), (0, .ref a.1)]) hx hb dX0_reset_59 hl (k := 0) rfl (by decide) (by decide) rfl (fun ls hl => ?_)
                refine lv_goto (tgt := 46) hx hb dX0_reset_62 (by decide) ?_
                refine lv_iload_n hx hb dX0_reset_46 rfl (lv_at hl 0 rfl) ?_
                refine lv_iconst (v := 2) hx hb dX0_reset_47 (by decide) ?_
                refine lv_icmp_ge (tgt := 65) hx hb dX0_reset_48 (by decide) (fun h => absurd h (by decide)) (fun _ => ?_)
                refine lv_aload_n hx hb dX0_reset_51 rfl (lv_at hl 2 rfl) ?_
                refine lv_iload_n hx hb dX0_reset_52 rfl (lv_at hl 0 rfl) ?_
                refine lv_iconst (v := 0) hx hb dX0_reset_53 (by decide) ?_
                refine lv_iconst (v := 0) hx hb dX0_reset_54 (by decide) ?_
                refine lv_iconst (v := 0) hx hb dX0_reset_55 (by decide) ?_
                refine cc_V hC hGx hD hEx hlocks (c_X0_putSpan l hl9 k a hD (1 : Int32) (0 : Int32) (0 : Int32) (0 : Int32) ((m_X0_putSpan (0 : Int32) (0 : Int32) (0 : Int32) (0 : Int32) (vp_updL z.1 (1 : Int32).toNatClampNeg (1008673 : Int64), z.2.1, z.2.2.1, z.2.2.2.1, z.2.2.2.2.1, z.2.2.2.2.2)).2)) (gV w_82 w_83 w_6 w_26 w_84) kk_X0_putSpan rfl ⟨Nat.le_of_ble_eq_true rfl, Nat.le_of_ble_eq_true rfl⟩ ⟨Nat.le_of_ble_eq_true rfl, Nat.le_of_ble_eq_true rfl⟩ ⟨Nat.le_of_ble_eq_true rfl, Nat.le_of_ble_eq_true rfl⟩ hP hS hl.1 rfl rfl (Nat.le_of_ble_eq_true rfl) dX0_reset_56 (fun h_55 => ?_) (fun h_55 H locs hP hS => ?_)
                · have hm : m_X0_reset z = ((m_X0_putSpan (1 : Int32) (0 : Int32) (0 : Int32) (0 : Int32) ((m_X0_putSpan (0 : Int32) (0 : Int32) (0 : Int32) (0 : Int32) (vp_updL z.1 (1 : Int32).toNatClampNeg (1008673 : Int64), z.2.1, z.2.2.1, z.2.2.2.1, z.2.2.2.2.1, z.2.2.2.2.2)).2)).1, 0, (m_X0_putSpan (1 : Int32) (0 : Int32) (0 : Int32) (0 : Int32) ((m_X0_putSpan (0 : Int32) (0 : Int32) (0 : Int32) (0 : Int32) (vp_updL z.1 (1 : Int32).toNatClampNeg (1008673 : Int64), z.2.1, z.2.2.1, z.2.2.2.1, z.2.2.2.2.1, z.2.2.2.2.2)).2)).2) := hm.trans (if_neg h_55)
                  exact ⟨by rw [hm], by rw [hm]⟩
                · have hm := hm.trans (if_pos h_55)
                  refine lv_iinc (v := (2 : Int32)) (lv' := [(2, .int (2 : Int32)), (1, .int (1 : Int32)), (0, .ref a.1)]) hx hb dX0_reset_59 hl (k := 0) rfl (by decide) (by decide) rfl (fun ls hl => ?_)
                  refine lv_goto (tgt := 46) hx hb dX0_reset_62 (by decide) ?_
                  refine lv_iload_n hx hb dX0_reset_46 rfl (lv_at hl 0 rfl) ?_
                  refine lv_iconst (v := 2) hx hb dX0_reset_47 (by decide) ?_
                  refine lv_icmp_ge (tgt := 65) hx hb dX0_reset_48 (by decide) (fun _ => ?_) (fun h => absurd h (by decide))
                  refine lv_iload_n hx hb dX0_reset_65 rfl (lv_at hl 1 rfl) ?_
                  have hm : m_X0_reset z = (0, (1 : Int32), (m_X0_putSpan (1 : Int32) (0 : Int32) (0 : Int32) (0 : Int32) ((m_X0_putSpan (0 : Int32) (0 : Int32) (0 : Int32) (0 : Int32) (vp_updL z.1 (1 : Int32).toNatClampNeg (1008673 : Int64), z.2.1, z.2.2.1, z.2.2.2.1, z.2.2.2.2.1, z.2.2.2.2.2)).2)).2) := hm
                  exact c_iret (E := (1 : Int32)) hx hb hr hlocks (by rw [hm]) (by rw [hm]) (by rw [hm]) hP hS ⟨Nat.le_of_ble_eq_true rfl, Nat.le_of_ble_eq_true rfl⟩ dX0_reset_66
            · have hm := hm.trans (if_neg h_53)
              refine lv_iinc (v := (2 : Int32)) (lv' := [(1, .int (2 : Int32)), (2, .int (5 : Int32)), (0, .ref a.1)]) hx hb dX0_reset_26 hl (k := 1) rfl (by decide) (by decide) rfl (fun ls hl => ?_)
              refine lv_aload_n hx hb dX0_reset_29 rfl (lv_at hl 2 rfl) ?_
              refine va_get (D := kD k) (ci := 2) (v := .ref a.2.1) (C := RX0) (T := TX0) (N := 6) hx hb htg inG_X0 hown hGx.1 hP 0 rfl rfl 0 (by decide) (htg _ w_57) (fun _ h9 => h9) rfl dX0_reset_30 ?_
              refine lv_iload_n hx hb dX0_reset_33 rfl (lv_at hl 1 rfl) ?_
              refine lv_ldc2 hx hb hown (htg _ w_56) dX0_reset_34 ?_
              refine va_last (D := kD k) hx hb hGx.1 hP (hD.own _ _) hS 1 0 rfl rfl (show ¬ ((5 : Int32) < 0 ∨ 6 ≤ ((5 : Int32)).toNatClampNeg) by decide) dX0_reset_37 (fun H locs hP1 _ hS => ?_)
              have hP : va_P (kD k) vwCl (cW k a (vp_updL (vp_updL z.1 (1 : Int32).toNatClampNeg (1008673 : Int64)) (5 : Int32).toNatClampNeg (1008673 : Int64), z.2.1, z.2.2.1, z.2.2.2.1, z.2.2.2.2.1, z.2.2.2.2.2)) H := hP1
              refine lv_iinc (v := (6 : Int32)) (lv' := [(2, .int (6 : Int32)), (1, .int (2 : Int32)), (0, .ref a.1)]) hx hb dX0_reset_38 hl (k := 1) rfl (by decide) (by decide) rfl (fun ls hl => ?_)
              refine lv_goto (tgt := 4) hx hb dX0_reset_41 (by decide) ?_
              refine lv_iload_n hx hb dX0_reset_4 rfl (lv_at hl 0 rfl) ?_
              refine lv_aload_n hx hb dX0_reset_5 rfl (lv_at hl 2 rfl) ?_
              refine va_get (D := kD k) (ci := 2) (v := .ref a.2.1) (C := RX0) (T := TX0) (N := 6) hx hb htg inG_X0 hown hGx.1 hP 0 rfl rfl 0 (by decide) (htg _ w_57) (fun _ h9 => h9) rfl dX0_reset_6 ?_
              refine va_alen (D := kD k) (v := 6) hx hb hGx.1 hP 1 0 rfl rfl (show Int32.ofNat 6 = 6 by decide) dX0_reset_9 ?_
              refine lv_icmp_ge (tgt := 44) hx hb dX0_reset_10 (by decide) (fun _ => ?_) (fun h => absurd h (by decide))
              refine lv_iconst (v := 0) hx hb dX0_reset_44 (by decide) ?_
              refine lv_istore_n (lv' := [(2, .int (0 : Int32)), (1, .int (2 : Int32)), (0, .ref a.1)]) hx hb dX0_reset_45 rfl hl (by decide) rfl (fun ls hl => ?_)
              refine lv_iload_n hx hb dX0_reset_46 rfl (lv_at hl 0 rfl) ?_
              refine lv_iconst (v := 2) hx hb dX0_reset_47 (by decide) ?_
              refine lv_icmp_ge (tgt := 65) hx hb dX0_reset_48 (by decide) (fun h => absurd h (by decide)) (fun _ => ?_)
              refine lv_aload_n hx hb dX0_reset_51 rfl (lv_at hl 2 rfl) ?_
              refine lv_iload_n hx hb dX0_reset_52 rfl (lv_at hl 0 rfl) ?_
              refine lv_iconst (v := 0) hx hb dX0_reset_53 (by decide) ?_
              refine lv_iconst (v := 0) hx hb dX0_reset_54 (by decide) ?_
              refine lv_iconst (v := 0) hx hb dX0_reset_55 (by decide) ?_
              refine cc_V hC hGx hD hEx hlocks (c_X0_putSpan l hl9 k a hD (0 : Int32) (0 : Int32) (0 : Int32) (0 : Int32) (vp_updL (vp_updL z.1 (1 : Int32).toNatClampNeg (1008673 : Int64)) (5 : Int32).toNatClampNeg (1008673 : Int64), z.2.1, z.2.2.1, z.2.2.2.1, z.2.2.2.2.1, z.2.2.2.2.2)) (gV w_82 w_83 w_6 w_26 w_84) kk_X0_putSpan rfl ⟨Nat.le_of_ble_eq_true rfl, Nat.le_of_ble_eq_true rfl⟩ ⟨Nat.le_of_ble_eq_true rfl, Nat.le_of_ble_eq_true rfl⟩ ⟨Nat.le_of_ble_eq_true rfl, Nat.le_of_ble_eq_true rfl⟩ hP hS hl.1 rfl rfl (Nat.le_of_ble_eq_true rfl) dX0_reset_56 (fun h_56 => ?_) (fun h_56 H locs hP hS => ?_)
              · have hm : m_X0_reset z = ((m_X0_putSpan (0 : Int32) (0 : Int32) (0 : Int32) (0 : Int32) (vp_updL (vp_updL z.1 (1 : Int32).toNatClampNeg (1008673 : Int64)) (5 : Int32).toNatClampNeg (1008673 : Int64), z.2.1, z.2.2.1, z.2.2.2.1, z.2.2.2.2.1, z.2.2.2.2.2)).1, 0, (m_X0_putSpan (0 : Int32) (0 : Int32) (0 : Int32) (0 : Int32) (vp_updL (vp_updL z.1 (1 : Int32).toNatClampNeg (1008673 : Int64)) (5 : Int32).toNatClampNeg (1008673 : Int64), z.2.1, z.2.2.1, z.2.2.2.1, z.2.2.2.2.1, z.2.2.2.2.2)).2) := hm.trans (if_neg h_56)
                exact ⟨by rw [hm], by rw [hm]⟩
              · have hm := hm.trans (if_pos h_56)
                refine lv_iinc (v := (1 : Int32)) (lv' := [(2, .int (1 : Int32)), (1, .int (2 : Int32)), (0, .ref a.1)]) hx hb dX0_reset_59 hl (k := 0) rfl (by decide) (by decide) rfl (fun ls hl => ?_)
                refine lv_goto (tgt := 46) hx hb dX0_reset_62 (by decide) ?_
                refine lv_iload_n hx hb dX0_reset_46 rfl (lv_at hl 0 rfl) ?_
                refine lv_iconst (v := 2) hx hb dX0_reset_47 (by decide) ?_
                refine lv_icmp_ge (tgt := 65) hx hb dX0_reset_48 (by decide) (fun h => absurd h (by decide)) (fun _ => ?_)
                refine lv_aload_n hx hb dX0_reset_51 rfl (lv_at hl 2 rfl) ?_
                refine lv_iload_n hx hb dX0_reset_52 rfl (lv_at hl 0 rfl) ?_
                refine lv_iconst (v := 0) hx hb dX0_reset_53 (by decide) ?_
                refine lv_iconst (v := 0) hx hb dX0_reset_54 (by decide) ?_
                refine lv_iconst (v := 0) hx hb dX0_reset_55 (by decide) ?_
                refine cc_V hC hGx hD hEx hlocks (c_X0_putSpan l hl9 k a hD (1 : Int32) (0 : Int32) (0 : Int32) (0 : Int32) ((m_X0_putSpan (0 : Int32) (0 : Int32) (0 : Int32) (0 : Int32) (vp_updL (vp_updL z.1 (1 : Int32).toNatClampNeg (1008673 : Int64)) (5 : Int32).toNatClampNeg (1008673 : Int64), z.2.1, z.2.2.1, z.2.2.2.1, z.2.2.2.2.1, z.2.2.2.2.2)).2)) (gV w_82 w_83 w_6 w_26 w_84) kk_X0_putSpan rfl ⟨Nat.le_of_ble_eq_true rfl, Nat.le_of_ble_eq_true rfl⟩ ⟨Nat.le_of_ble_eq_true rfl, Nat.le_of_ble_eq_true rfl⟩ ⟨Nat.le_of_ble_eq_true rfl, Nat.le_of_ble_eq_true rfl⟩ hP hS hl.1 rfl rfl (Nat.le_of_ble_eq_true rfl) dX0_reset_56 (fun h_57 => ?_) (fun h_57 H locs hP hS => ?_)
                · have hm : m_X0_reset z = ((m_X0_putSpan (1 : Int32) (0 : Int32) (0 : Int32) (0 : Int32) ((m_X0_putSpan (0 : Int32) (0 : Int32) (0 : Int32) (0 : Int32) (vp_updL (vp_updL z.1 (1 : Int32).toNatClampNeg (1008673 : Int64)) (5 : Int32).toNatClampNeg (1008673 : Int64), z.2.1, z.2.2.1, z.2.2.2.1, z.2.2.2.2.1, z.2.2.2.2.2)).2)).1, 0, (m_X0_putSpan (1 : Int32) (0 : Int32) (0 : Int32) (0 : Int32) ((m_X0_putSpan (0 : Int32) (0 : Int32) (0 : Int32) (0 : Int32) (vp_updL (vp_updL z.1 (1 : Int32).toNatClampNeg (1008673 : Int64)) (5 : Int32).toNatClampNeg (1008673 : Int64), z.2.1, z.2.2.1, z.2.2.2.1, z.2.2.2.2.1, z.2.2.2.2.2)).2)).2) := hm.trans (if_neg h_57)
                  exact ⟨by rw [hm], by rw [hm]⟩
                · have hm := hm.trans (if_pos h_57)
                  refine lv_iinc (v := (2 : Int32)) (lv' := [(2, .int (2 : Int32)), (1, .int (2 : Int32)), (0, .ref a.1)]) hx hb dX0_reset_59 hl (k := 0) rfl (by decide) (by decide) rfl (fun ls hl => ?_)
                  refine lv_goto (tgt := 46) hx hb dX0_reset_62 (by decide) ?_
                  refine lv_iload_n hx hb dX0_reset_46 rfl (lv_at hl 0 rfl) ?_
                  refine lv_iconst (v := 2) hx hb dX0_reset_47 (by decide) ?_
                  refine lv_icmp_ge (tgt := 65) hx hb dX0_reset_48 (by decide) (fun _ => ?_) (fun h => absurd h (by decide))
                  refine lv_iload_n hx hb dX0_reset_65 rfl (lv_at hl 1 rfl) ?_
                  have hm : m_X0_reset z = (0, (2 : Int32), (m_X0_putSpan (1 : Int32) (0 : Int32) (0 : Int32) (0 : Int32) ((m_X0_putSpan (0 : Int32) (0 : Int32) (0 : Int32) (0 : Int32) (vp_updL (vp_updL z.1 (1 : Int32).toNatClampNeg (1008673 : Int64)) (5 : Int32).toNatClampNeg (1008673 : Int64), z.2.1, z.2.2.1, z.2.2.2.1, z.2.2.2.2.1, z.2.2.2.2.2)).2)).2) := hm
                  exact c_iret (E := (2 : Int32)) hx hb hr hlocks (by rw [hm]) (by rw [hm]) (by rw [hm]) hP hS ⟨Nat.le_of_ble_eq_true rfl, Nat.le_of_ble_eq_true rfl⟩ dX0_reset_66
          · have hm := hm.trans (if_neg h_52)
            refine lv_iinc (v := (2 : Int32)) (lv' := [(1, .int (2 : Int32)), (2, .int (4 : Int32)), (0, .ref a.1)]) hx hb dX0_reset_26 hl (k := 1) rfl (by decide) (by decide) rfl (fun ls hl => ?_)
            refine lv_aload_n hx hb dX0_reset_29 rfl (lv_at hl 2 rfl) ?_
            refine va_get (D := kD k) (ci := 2) (v := .ref a.2.1) (C := RX0) (T := TX0) (N := 6) hx hb htg inG_X0 hown hGx.1 hP 0 rfl rfl 0 (by decide) (htg _ w_57) (fun _ h9 => h9) rfl dX0_reset_30 ?_
            refine lv_iload_n hx hb dX0_reset_33 rfl (lv_at hl 1 rfl) ?_
            refine lv_ldc2 hx hb hown (htg _ w_56) dX0_reset_34 ?_
            refine va_last (D := kD k) hx hb hGx.1 hP (hD.own _ _) hS 1 0 rfl rfl (show ¬ ((4 : Int32) < 0 ∨ 6 ≤ ((4 : Int32)).toNatClampNeg) by decide) dX0_reset_37 (fun H locs hP1 _ hS => ?_)
            have hP : va_P (kD k) vwCl (cW k a (vp_updL (vp_updL z.1 (1 : Int32).toNatClampNeg (1008673 : Int64)) (4 : Int32).toNatClampNeg (1008673 : Int64), z.2.1, z.2.2.1, z.2.2.2.1, z.2.2.2.2.1, z.2.2.2.2.2)) H := hP1
            refine lv_iinc (v := (5 : Int32)) (lv' := [(2, .int (5 : Int32)), (1, .int (2 : Int32)), (0, .ref a.1)]) hx hb dX0_reset_38 hl (k := 1) rfl (by decide) (by decide) rfl (fun ls hl => ?_)
            refine lv_goto (tgt := 4) hx hb dX0_reset_41 (by decide) ?_
            refine lv_iload_n hx hb dX0_reset_4 rfl (lv_at hl 0 rfl) ?_
            refine lv_aload_n hx hb dX0_reset_5 rfl (lv_at hl 2 rfl) ?_
            refine va_get (D := kD k) (ci := 2) (v := .ref a.2.1) (C := RX0) (T := TX0) (N := 6) hx hb htg inG_X0 hown hGx.1 hP 0 rfl rfl 0 (by decide) (htg _ w_57) (fun _ h9 => h9) rfl dX0_reset_6 ?_
            refine va_alen (D := kD k) (v := 6) hx hb hGx.1 hP 1 0 rfl rfl (show Int32.ofNat 6 = 6 by decide) dX0_reset_9 ?_
            refine lv_icmp_ge (tgt := 44) hx hb dX0_reset_10 (by decide) (fun h => absurd h (by decide)) (fun _ => ?_)
            refine lv_aload_n hx hb dX0_reset_13 rfl (lv_at hl 2 rfl) ?_
            refine va_get (D := kD k) (ci := 2) (v := .ref a.2.1) (C := RX0) (T := TX0) (N := 6) hx hb htg inG_X0 hown hGx.1 hP 0 rfl rfl 0 (by decide) (htg _ w_57) (fun _ h9 => h9) rfl dX0_reset_14 ?_
            refine lv_iload_n hx hb dX0_reset_17 rfl (lv_at hl 0 rfl) ?_
            refine va_lald (D := kD k) hx hb hGx.1 hP 1 0 rfl rfl (show ¬ ((5 : Int32) < 0 ∨ 6 ≤ ((5 : Int32)).toNatClampNeg) by decide) dX0_reset_18 ?_
            refine lv_ldc2 hx hb hown (htg _ w_56) dX0_reset_19 ?_
            refine W.lcmp hx hb dX0_reset_22 ?_
            refine lv_if_eq (tgt := 38) hx hb dX0_reset_23 (by decide) (fun h_58 => ?_) (fun h_58 => ?_)
            · have hm := hm.trans (if_pos h_58)
              refine lv_iinc (v := (6 : Int32)) (lv' := [(2, .int (6 : Int32)), (1, .int (2 : Int32)), (0, .ref a.1)]) hx hb dX0_reset_38 hl (k := 0) rfl (by decide) (by decide) rfl (fun ls hl => ?_)
              refine lv_goto (tgt := 4) hx hb dX0_reset_41 (by decide) ?_
              refine lv_iload_n hx hb dX0_reset_4 rfl (lv_at hl 0 rfl) ?_
              refine lv_aload_n hx hb dX0_reset_5 rfl (lv_at hl 2 rfl) ?_
              refine va_get (D := kD k) (ci := 2) (v := .ref a.2.1) (C := RX0) (T := TX0) (N := 6) hx hb htg inG_X0 hown hGx.1 hP 0 rfl rfl 0 (by decide) (htg _ w_57) (fun _ h9 => h9) rfl dX0_reset_6 ?_
              refine va_alen (D := kD k) (v := 6) hx hb hGx.1 hP 1 0 rfl rfl (show Int32.ofNat 6 = 6 by decide) dX0_reset_9 ?_
              refine lv_icmp_ge (tgt := 44) hx hb dX0_reset_10 (by decide) (fun _ => ?_) (fun h => absurd h (by decide))
              refine lv_iconst (v := 0) hx hb dX0_reset_44 (by decide) ?_
              refine lv_istore_n (lv' := [(2, .int (0 : Int32)), (1, .int (2 : Int32)), (0, .ref a.1)]) hx hb dX0_reset_45 rfl hl (by decide) rfl (fun ls hl => ?_)
              refine lv_iload_n hx hb dX0_reset_46 rfl (lv_at hl 0 rfl) ?_
              refine lv_iconst (v := 2) hx hb dX0_reset_47 (by decide) ?_
              refine lv_icmp_ge (tgt := 65) hx hb dX0_reset_48 (by decide) (fun h => absurd h (by decide)) (fun _ => ?_)
              refine lv_aload_n hx hb dX0_reset_51 rfl (lv_at hl 2 rfl) ?_
              refine lv_iload_n hx hb dX0_reset_52 rfl (lv_at hl 0 rfl) ?_
              refine lv_iconst (v := 0) hx hb dX0_reset_53 (by decide) ?_
              refine lv_iconst (v := 0) hx hb dX0_reset_54 (by decide) ?_
              refine lv_iconst (v := 0) hx hb dX0_reset_55 (by decide) ?_
              refine cc_V hC hGx hD hEx hlocks (c_X0_putSpan l hl9 k a hD (0 : Int32) (0 : Int32) (0 : Int32) (0 : Int32) (vp_updL (vp_updL z.1 (1 : Int32).toNatClampNeg (1008673 : Int64)) (4 : Int32).toNatClampNeg (1008673 : Int64), z.2.1, z.2.2.1, z.2.2.2.1, z.2.2.2.2.1, z.2.2.2.2.2)) (gV w_82 w_83 w_6 w_26 w_84) kk_X0_putSpan rfl ⟨Nat.le_of_ble_eq_true rfl, Nat.le_of_ble_eq_true rfl⟩ ⟨Nat.le_of_ble_eq_true rfl, Nat.le_of_ble_eq_true rfl⟩ ⟨Nat.le_of_ble_eq_true rfl, Nat.le_of_ble_eq_true rfl⟩ hP hS hl.1 rfl rfl (Nat.le_of_ble_eq_true rfl) dX0_reset_56 (fun h_59 => ?_) (fun h_59 H locs hP hS => ?_)
              · have hm : m_X0_reset z = ((m_X0_putSpan (0 : Int32) (0 : Int32) (0 : Int32) (0 : Int32) (vp_updL (vp_updL z.1 (1 : Int32).toNatClampNeg (1008673 : Int64)) (4 : Int32).toNatClampNeg (1008673 : Int64), z.2.1, z.2.2.1, z.2.2.2.1, z.2.2.2.2.1, z.2.2.2.2.2)).1, 0, (m_X0_putSpan (0 : Int32) (0 : Int32) (0 : Int32) (0 : Int32) (vp_updL (vp_updL z.1 (1 : Int32).toNatClampNeg (1008673 : Int64)) (4 : Int32).toNatClampNeg (1008673 : Int64), z.2.1, z.2.2.1, z.2.2.2.1, z.2.2.2.2.1, z.2.2.2.2.2)).2) := hm.trans (if_neg h_59)
                exact ⟨by rw [hm], by rw [hm]⟩
              · have hm := hm.trans (if_pos h_59)
                refine lv_iinc (v := (1 : Int32)) (lv' := [(2, .int (1 : Int32)), (1, .int (2 : Int32)), (0, .ref a.1)]) hx hb dX0_reset_59 hl (k := 0) rfl (by decide) (by decide) rfl (fun ls hl => ?_)
                refine lv_goto (tgt := 46) hx hb dX0_reset_62 (by decide) ?_
                refine lv_iload_n hx hb dX0_reset_46 rfl (lv_at hl 0 rfl) ?_
                refine lv_iconst (v := 2) hx hb dX0_reset_47 (by decide) ?_
                refine lv_icmp_ge (tgt := 65) hx hb dX0_reset_48 (by decide) (fun h => absurd h (by decide)) (fun _ => ?_)
                refine lv_aload_n hx hb dX0_reset_51 rfl (lv_at hl 2 rfl) ?_
                refine lv_iload_n hx hb dX0_reset_52 rfl (lv_at hl 0 rfl) ?_
                refine lv_iconst (v := 0) hx hb dX0_reset_53 (by decide) ?_
                refine lv_iconst (v := 0) hx hb dX0_reset_54 (by decide) ?_
                refine lv_iconst (v := 0) hx hb dX0_reset_55 (by decide) ?_
                refine cc_V hC hGx hD hEx hlocks (c_X0_putSpan l hl9 k a hD (1 : Int32) (0 : Int32) (0 : Int32) (0 : Int32) ((m_X0_putSpan (0 : Int32) (0 : Int32) (0 : Int32) (0 : Int32) (vp_updL (vp_updL z.1 (1 : Int32).toNatClampNeg (1008673 : Int64)) (4 : Int32).toNatClampNeg (1008673 : Int64), z.2.1, z.2.2.1, z.2.2.2.1, z.2.2.2.2.1, z.2.2.2.2.2)).2)) (gV w_82 w_83 w_6 w_26 w_84) kk_X0_putSpan rfl ⟨Nat.le_of_ble_eq_true rfl, Nat.le_of_ble_eq_true rfl⟩ ⟨Nat.le_of_ble_eq_true rfl, Nat.le_of_ble_eq_true rfl⟩ ⟨Nat.le_of_ble_eq_true rfl, Nat.le_of_ble_eq_true rfl⟩ hP hS hl.1 rfl rfl (Nat.le_of_ble_eq_true rfl) dX0_reset_56 (fun h_60 => ?_) (fun h_60 H locs hP hS => ?_)
                · have hm : m_X0_reset z = ((m_X0_putSpan (1 : Int32) (0 : Int32) (0 : Int32) (0 : Int32) ((m_X0_putSpan (0 : Int32) (0 : Int32) (0 : Int32) (0 : Int32) (vp_updL (vp_updL z.1 (1 : Int32).toNatClampNeg (1008673 : Int64)) (4 : Int32).toNatClampNeg (1008673 : Int64), z.2.1, z.2.2.1, z.2.2.2.1, z.2.2.2.2.1, z.2.2.2.2.2)).2)).1, 0, (m_X0_putSpan (1 : Int32) (0 : Int32) (0 : Int32) (0 : Int32) ((m_X0_putSpan (0 : Int32) (0 : Int32) (0 : Int32) (0 : Int32) (vp_updL (vp_updL z.1 (1 : Int32).toNatClampNeg (1008673 : Int64)) (4 : Int32).toNatClampNeg (1008673 : Int64), z.2.1, z.2.2.1, z.2.2.2.1, z.2.2.2.2.1, z.2.2.2.2.2)).2)).2) := hm.trans (if_neg h_60)
                  exact ⟨by rw [hm], by rw [hm]⟩
                · have hm := hm.trans (if_pos h_60)
                  refine lv_iinc (v := (2 : Int32)) (lv' := [(2, .int (2 : Int32)), (1, .int (2 : Int32)), (0, .ref a.1)]) hx hb dX0_reset_59 hl (k := 0) rfl (by decide) (by decide) rfl (fun ls hl => ?_)
                  refine lv_goto (tgt := 46) hx hb dX0_reset_62 (by decide) ?_
                  refine lv_iload_n hx hb dX0_reset_46 rfl (lv_at hl 0 rfl) ?_
                  refine lv_iconst (v := 2) hx hb dX0_reset_47 (by decide) ?_
                  refine lv_icmp_ge (tgt := 65) hx hb dX0_reset_48 (by decide) (fun _ => ?_) (fun h => absurd h (by decide))
                  refine lv_iload_n hx hb dX0_reset_65 rfl (lv_at hl 1 rfl) ?_
                  have hm : m_X0_reset z = (0, (2 : Int32), (m_X0_putSpan (1 : Int32) (0 : Int32) (0 : Int32) (0 : Int32) ((m_X0_putSpan (0 : Int32) (0 : Int32) (0 : Int32) (0 : Int32) (vp_updL (vp_updL z.1 (1 : Int32).toNatClampNeg (1008673 : Int64)) (4 : Int32).toNatClampNeg (1008673 : Int64), z.2.1, z.2.2.1, z.2.2.2.1, z.2.2.2.2.1, z.2.2.2.2.2)).2)).2) := hm
                  exact c_iret (E := (2 : Int32)) hx hb hr hlocks (by rw [hm]) (by rw [hm]) (by rw [hm]) hP hS ⟨Nat.le_of_ble_eq_true rfl, Nat.le_of_ble_eq_true rfl⟩ dX0_reset_66
            · have hm := hm.trans (if_neg h_58)
              refine lv_iinc (v := (3 : Int32)) (lv' := [(1, .int (3 : Int32)), (2, .int (5 : Int32)), (0, .ref a.1)]) hx hb dX0_reset_26 hl (k := 1) rfl (by decide) (by decide) rfl (fun ls hl => ?_)
              refine lv_aload_n hx hb dX0_reset_29 rfl (lv_at hl 2 rfl) ?_
              refine va_get (D := kD k) (ci := 2) (v := .ref a.2.1) (C := RX0) (T := TX0) (N := 6) hx hb htg inG_X0 hown hGx.1 hP 0 rfl rfl 0 (by decide) (htg _ w_57) (fun _ h9 => h9) rfl dX0_reset_30 ?_
              refine lv_iload_n hx hb dX0_reset_33 rfl (lv_at hl 1 rfl) ?_
              refine lv_ldc2 hx hb hown (htg _ w_56) dX0_reset_34 ?_
              refine va_last (D := kD k) hx hb hGx.1 hP (hD.own _ _) hS 1 0 rfl rfl (show ¬ ((5 : Int32) < 0 ∨ 6 ≤ ((5 : Int32)).toNatClampNeg) by decide) dX0_reset_37 (fun H locs hP1 _ hS => ?_)
              have hP : va_P (kD k) vwCl (cW k a (vp_updL (vp_updL (vp_updL z.1 (1 : Int32).toNatClampNeg (1008673 : Int64)) (4 : Int32).toNatClampNeg (1008673 : Int64)) (5 : Int32).toNatClampNeg (1008673 : Int64), z.2.1, z.2.2.1, z.2.2.2.1, z.2.2.2.2.1, z.2.2.2.2.2)) H := hP1
              refine lv_iinc (v := (6 : Int32)) (lv' := [(2, .int (6 : Int32)), (1, .int (3 : Int32)), (0, .ref a.1)]) hx hb dX0_reset_38 hl (k := 1) rfl (by decide) (by decide) rfl (fun ls hl => ?_)
              refine lv_goto (tgt := 4) hx hb dX0_reset_41 (by decide) ?_
              refine lv_iload_n hx hb dX0_reset_4 rfl (lv_at hl 0 rfl) ?_
              refine lv_aload_n hx hb dX0_reset_5 rfl (lv_at hl 2 rfl) ?_
              refine va_get (D := kD k) (ci := 2) (v := .ref a.2.1) (C := RX0) (T := TX0) (N := 6) hx hb htg inG_X0 hown hGx.1 hP 0 rfl rfl 0 (by decide) (htg _ w_57) (fun _ h9 => h9) rfl dX0_reset_6 ?_
              refine va_alen (D := kD k) (v := 6) hx hb hGx.1 hP 1 0 rfl rfl (show Int32.ofNat 6 = 6 by decide) dX0_reset_9 ?_
              refine lv_icmp_ge (tgt := 44) hx hb dX0_reset_10 (by decide) (fun _ => ?_) (fun h => absurd h (by decide))
              refine lv_iconst (v := 0) hx hb dX0_reset_44 (by decide) ?_
              refine lv_istore_n (lv' := [(2, .int (0 : Int32)), (1, .int (3 : Int32)), (0, .ref a.1)]) hx hb dX0_reset_45 rfl hl (by decide) rfl (fun ls hl => ?_)
              refine lv_iload_n hx hb dX0_reset_46 rfl (lv_at hl 0 rfl) ?_
              refine lv_iconst (v := 2) hx hb dX0_reset_47 (by decide) ?_
              refine lv_icmp_ge (tgt := 65) hx hb dX0_reset_48 (by decide) (fun h => absurd h (by decide)) (fun _ => ?_)
              refine lv_aload_n hx hb dX0_reset_51 rfl (lv_at hl 2 rfl) ?_
              refine lv_iload_n hx hb dX0_reset_52 rfl (lv_at hl 0 rfl) ?_
              refine lv_iconst (v := 0) hx hb dX0_reset_53 (by decide) ?_
              refine lv_iconst (v := 0) hx hb dX0_reset_54 (by decide) ?_
              refine lv_iconst (v := 0) hx hb dX0_reset_55 (by decide) ?_
              refine cc_V hC hGx hD hEx hlocks (c_X0_putSpan l hl9 k a hD (0 : Int32) (0 : Int32) (0 : Int32) (0 : Int32) (vp_updL (vp_updL (vp_updL z.1 (1 : Int32).toNatClampNeg (1008673 : Int64)) (4 : Int32).toNatClampNeg (1008673 : Int64)) (5 : Int32).toNatClampNeg (1008673 : Int64), z.2.1, z.2.2.1, z.2.2.2.1, z.2.2.2.2.1, z.2.2.2.2.2)) (gV w_82 w_83 w_6 w_26 w_84) kk_X0_putSpan rfl ⟨Nat.le_of_ble_eq_true rfl, Nat.le_of_ble_eq_true rfl⟩ ⟨Nat.le_of_ble_eq_true rfl, Nat.le_of_ble_eq_true rfl⟩ ⟨Nat.le_of_ble_eq_true rfl, Nat.le_of_ble_eq_true rfl⟩ hP hS hl.1 rfl rfl (Nat.le_of_ble_eq_true rfl) dX0_reset_56 (fun h_61 => ?_) (fun h_61 H locs hP hS => ?_)
              · have hm : m_X0_reset z = ((m_X0_putSpan (0 : Int32) (0 : Int32) (0 : Int32) (0 : Int32) (vp_updL (vp_updL (vp_updL z.1 (1 : Int32).toNatClampNeg (1008673 : Int64)) (4 : Int32).toNatClampNeg (1008673 : Int64)) (5 : Int32).toNatClampNeg (1008673 : Int64), z.2.1, z.2.2.1, z.2.2.2.1, z.2.2.2.2.1, z.2.2.2.2.2)).1, 0, (m_X0_putSpan (0 : Int32) (0 : Int32) (0 : Int32) (0 : Int32) (vp_updL (vp_updL (vp_updL z.1 (1 : Int32).toNatClampNeg (1008673 : Int64)) (4 : Int32).toNatClampNeg (1008673 : Int64)) (5 : Int32).toNatClampNeg (1008673 : Int64), z.2.1, z.2.2.1, z.2.2.2.1, z.2.2.2.2.1, z.2.2.2.2.2)).2) := hm.trans (if_neg h_61)
                exact ⟨by rw [hm], by rw [hm]⟩
              · have hm := hm.trans (if_pos h_61)
                refine lv_iinc (v := (1 : Int32)) (lv' := [(2, .int (1 : Int32)), (1, .int (3 : Int32)), (0, .ref a.1)]) hx hb dX0_reset_59 hl (k := 0) rfl (by decide) (by decide) rfl (fun ls hl => ?_)
                refine lv_goto (tgt := 46) hx hb dX0_reset_62 (by decide) ?_
                refine lv_iload_n hx hb dX0_reset_46 rfl (lv_at hl 0 rfl) ?_
                refine lv_iconst (v := 2) hx hb dX0_reset_47 (by decide) ?_
                refine lv_icmp_ge (tgt := 65) hx hb dX0_reset_48 (by decide) (fun h => absurd h (by decide)) (fun _ => ?_)
                refine lv_aload_n hx hb dX0_reset_51 rfl (lv_at hl 2 rfl) ?_
                refine lv_iload_n hx hb dX0_reset_52 rfl (lv_at hl 0 rfl) ?_
                refine lv_iconst (v := 0) hx hb dX0_reset_53 (by decide) ?_
                refine lv_iconst (v := 0) hx hb dX0_reset_54 (by decide) ?_
                refine lv_iconst (v := 0) hx hb dX0_reset_55 (by decide) ?_
                refine cc_V hC hGx hD hEx hlocks (c_X0_putSpan l hl9 k a hD (1 : Int32) (0 : Int32) (0 : Int32) (0 : Int32) ((m_X0_putSpan (0 : Int32) (0 : Int32) (0 : Int32) (0 : Int32) (vp_updL (vp_updL (vp_updL z.1 (1 : Int32).toNatClampNeg (1008673 : Int64)) (4 : Int32).toNatClampNeg (1008673 : Int64)) (5 : Int32).toNatClampNeg (1008673 : Int64), z.2.1, z.2.2.1, z.2.2.2.1, z.2.2.2.2.1, z.2.2.2.2.2)).2)) (gV w_82 w_83 w_6 w_26 w_84) kk_X0_putSpan rfl ⟨Nat.le_of_ble_eq_true rfl, Nat.le_of_ble_eq_true rfl⟩ ⟨Nat.le_of_ble_eq_true rfl, Nat.le_of_ble_eq_true rfl⟩ ⟨Nat.le_of_ble_eq_true rfl, Nat.le_of_ble_eq_true rfl⟩ hP hS hl.1 rfl rfl (Nat.le_of_ble_eq_true rfl) dX0_reset_56 (fun h_62 => ?_) (fun h_62 H locs hP hS => ?_)
                · have hm : m_X0_reset z = ((m_X0_putSpan (1 : Int32) (0 : Int32) (0 : Int32) (0 : Int32) ((m_X0_putSpan (0 : Int32) (0 : Int32) (0 : Int32) (0 : Int32) (vp_updL (vp_updL (vp_updL z.1 (1 : Int32).toNatClampNeg (1008673 : Int64)) (4 : Int32).toNatClampNeg (1008673 : Int64)) (5 : Int32).toNatClampNeg (1008673 : Int64), z.2.1, z.2.2.1, z.2.2.2.1, z.2.2.2.2.1, z.2.2.2.2.2)).2)).1, 0, (m_X0_putSpan (1 : Int32) (0 : Int32) (0 : Int32) (0 : Int32) ((m_X0_putSpan (0 : Int32) (0 : Int32) (0 : Int32) (0 : Int32) (vp_updL (vp_updL (vp_updL z.1 (1 : Int32).toNatClampNeg (1008673 : Int64)) (4 : Int32).toNatClampNeg (1008673 : Int64)) (5 : Int32).toNatClampNeg (1008673 : Int64), z.2.1, z.2.2.1, z.2.2.2.1, z.2.2.2.2.1, z.2.2.2.2.2)).2)).2) := hm.trans (if_neg h_62)
                  exact ⟨by rw [hm], by rw [hm]⟩
                · have hm := hm.trans (if_pos h_62)
                  refine lv_iinc (v := (2 : Int32)) (lv' := [(2, .int (2 : Int32)), (1, .int (3 : Int32)), (0, .ref a.1)]) hx hb dX0_reset_59 hl (k := 0) rfl (by decide) (by decide) rfl (fun ls hl => ?_)
                  refine lv_goto (tgt := 46) hx hb dX0_reset_62 (by decide) ?_
                  refine lv_iload_n hx hb dX0_reset_46 rfl (lv_at hl 0 rfl) ?_
                  refine lv_iconst (v := 2) hx hb dX0_reset_47 (by decide) ?_
                  refine lv_icmp_ge (tgt := 65) hx hb dX0_reset_48 (by decide) (fun _ => ?_) (fun h => absurd h (by decide))
                  refine lv_iload_n hx hb dX0_reset_65 rfl (lv_at hl 1 rfl) ?_
                  have hm : m_X0_reset z = (0, (3 : Int32), (m_X0_putSpan (1 : Int32) (0 : Int32) (0 : Int32) (0 : Int32) ((m_X0_putSpan (0 : Int32) (0 : Int32) (0 : Int32) (0 : Int32) (vp_updL (vp_updL (vp_updL z.1 (1 : Int32).toNatClampNeg (1008673 : Int64)) (4 : Int32).toNatClampNeg (1008673 : Int64)) (5 : Int32).toNatClampNeg (1008673 : Int64), z.2.1, z.2.2.1, z.2.2.2.1, z.2.2.2.2.1, z.2.2.2.2.2)).2)).2) := hm
                  exact c_iret (E := (3 : Int32)) hx hb hr hlocks (by rw [hm]) (by rw [hm]) (by rw [hm]) hP hS ⟨Nat.le_of_ble_eq_true rfl, Nat.le_of_ble_eq_true rfl⟩ dX0_reset_66
        · have hm := hm.trans (if_neg h_51)
          refine lv_iinc (v := (2 : Int32)) (lv' := [(1, .int (2 : Int32)), (2, .int (3 : Int32)), (0, .ref a.1)]) hx hb dX0_reset_26 hl (k := 1) rfl (by decide) (by decide) rfl (fun ls hl => ?_)
          refine lv_aload_n hx hb dX0_reset_29 rfl (lv_at hl 2 rfl) ?_
          refine va_get (D := kD k) (ci := 2) (v := .ref a.2.1) (C := RX0) (T := TX0) (N := 6) hx hb htg inG_X0 hown hGx.1 hP 0 rfl rfl 0 (by decide) (htg _ w_57) (fun _ h9 => h9) rfl dX0_reset_30 ?_
          refine lv_iload_n hx hb dX0_reset_33 rfl (lv_at hl 1 rfl) ?_
          refine lv_ldc2 hx hb hown (htg _ w_56) dX0_reset_34 ?_
          refine va_last (D := kD k) hx hb hGx.1 hP (hD.own _ _) hS 1 0 rfl rfl (show ¬ ((3 : Int32) < 0 ∨ 6 ≤ ((3 : Int32)).toNatClampNeg) by decide) dX0_reset_37 (fun H locs hP1 _ hS => ?_)
          have hP : va_P (kD k) vwCl (cW k a (vp_updL (vp_updL z.1 (1 : Int32).toNatClampNeg (1008673 : Int64)) (3 : Int32).toNatClampNeg (1008673 : Int64), z.2.1, z.2.2.1, z.2.2.2.1, z.2.2.2.2.1, z.2.2.2.2.2)) H := hP1
          refine lv_iinc (v := (4 : Int32)) (lv' := [(2, .int (4 : Int32)), (1, .int (2 : Int32)), (0, .ref a.1)]) hx hb dX0_reset_38 hl (k := 1) rfl (by decide) (by decide) rfl (fun ls hl => ?_)
          refine lv_goto (tgt := 4) hx hb dX0_reset_41 (by decide) ?_
          refine lv_iload_n hx hb dX0_reset_4 rfl (lv_at hl 0 rfl) ?_
          refine lv_aload_n hx hb dX0_reset_5 rfl (lv_at hl 2 rfl) ?_
          refine va_get (D := kD k) (ci := 2) (v := .ref a.2.1) (C := RX0) (T := TX0) (N := 6) hx hb htg inG_X0 hown hGx.1 hP 0 rfl rfl 0 (by decide) (htg _ w_57) (fun _ h9 => h9) rfl dX0_reset_6 ?_
          refine va_alen (D := kD k) (v := 6) hx hb hGx.1 hP 1 0 rfl rfl (show Int32.ofNat 6 = 6 by decide) dX0_reset_9 ?_
          refine lv_icmp_ge (tgt := 44) hx hb dX0_reset_10 (by decide) (fun h => absurd h (by decide)) (fun _ => ?_)
          refine lv_aload_n hx hb dX0_reset_13 rfl (lv_at hl 2 rfl) ?_
          refine va_get (D := kD k) (ci := 2) (v := .ref a.2.1) (C := RX0) (T := TX0) (N := 6) hx hb htg inG_X0 hown hGx.1 hP 0 rfl rfl 0 (by decide) (htg _ w_57) (fun _ h9 => h9) rfl dX0_reset_14 ?_
          refine lv_iload_n hx hb dX0_reset_17 rfl (lv_at hl 0 rfl) ?_
          refine va_lald (D := kD k) hx hb hGx.1 hP 1 0 rfl rfl (show ¬ ((4 : Int32) < 0 ∨ 6 ≤ ((4 : Int32)).toNatClampNeg) by decide) dX0_reset_18 ?_
          refine lv_ldc2 hx hb hown (htg _ w_56) dX0_reset_19 ?_
          refine W.lcmp hx hb dX0_reset_22 ?_
          refine lv_if_eq (tgt := 38) hx hb dX0_reset_23 (by decide) (fun h_63 => ?_) (fun h_63 => ?_)
          · have hm := hm.trans (if_pos h_63)
            refine lv_iinc (v := (5 : Int32)) (lv' := [(2, .int (5 : Int32)), (1, .int (2 : Int32)), (0, .ref a.1)]) hx hb dX0_reset_38 hl (k := 0) rfl (by decide) (by decide) rfl (fun ls hl => ?_)
            refine lv_goto (tgt := 4) hx hb dX0_reset_41 (by decide) ?_
            refine lv_iload_n hx hb dX0_reset_4 rfl (lv_at hl 0 rfl) ?_
            refine lv_aload_n hx hb dX0_reset_5 rfl (lv_at hl 2 rfl) ?_
            refine va_get (D := kD k) (ci := 2) (v := .ref a.2.1) (C := RX0) (T := TX0) (N := 6) hx hb htg inG_X0 hown hGx.1 hP 0 rfl rfl 0 (by decide) (htg _ w_57) (fun _ h9 => h9) rfl dX0_reset_6 ?_
            refine va_alen (D := kD k) (v := 6) hx hb hGx.1 hP 1 0 rfl rfl (show Int32.ofNat 6 = 6 by decide) dX0_reset_9 ?_
            refine lv_icmp_ge (tgt := 44) hx hb dX0_reset_10 (by decide) (fun h => absurd h (by decide)) (fun _ => ?_)
            refine lv_aload_n hx hb dX0_reset_13 rfl (lv_at hl 2 rfl) ?_
            refine va_get (D := kD k) (ci := 2) (v := .ref a.2.1) (C := RX0) (T := TX0) (N := 6) hx hb htg inG_X0 hown hGx.1 hP 0 rfl rfl 0 (by decide) (htg _ w_57) (fun _ h9 => h9) rfl dX0_reset_14 ?_
            refine lv_iload_n hx hb dX0_reset_17 rfl (lv_at hl 0 rfl) ?_
            refine va_lald (D := kD k) hx hb hGx.1 hP 1 0 rfl rfl (show ¬ ((5 : Int32) < 0 ∨ 6 ≤ ((5 : Int32)).toNatClampNeg) by decide) dX0_reset_18 ?_
            refine lv_ldc2 hx hb hown (htg _ w_56) dX0_reset_19 ?_
            refine W.lcmp hx hb dX0_reset_22 ?_
            refine lv_if_eq (tgt := 38) hx hb dX0_reset_23 (by decide) (fun h_64 => ?_) (fun h_64 => ?_)
            · have hm := hm.trans (if_pos h_64)
              refine lv_iinc (v := (6 : Int32)) (lv' := [(2, .int (6 : Int32)), (1, .int (2 : Int32)), (0, .ref a.1)]) hx hb dX0_reset_38 hl (k := 0) rfl (by decide) (by decide) rfl (fun ls hl => ?_)
              refine lv_goto (tgt := 4) hx hb dX0_reset_41 (by decide) ?_
              refine lv_iload_n hx hb dX0_reset_4 rfl (lv_at hl 0 rfl) ?_
              refine lv_aload_n hx hb dX0_reset_5 rfl (lv_at hl 2 rfl) ?_
              refine va_get (D := kD k) (ci := 2) (v := .ref a.2.1) (C := RX0) (T := TX0) (N := 6) hx hb htg inG_X0 hown hGx.1 hP 0 rfl rfl 0 (by decide) (htg _ w_57) (fun _ h9 => h9) rfl dX0_reset_6 ?_
              refine va_alen (D := kD k) (v := 6) hx hb hGx.1 hP 1 0 rfl rfl (show Int32.ofNat 6 = 6 by decide) dX0_reset_9 ?_
              refine lv_icmp_ge (tgt := 44) hx hb dX0_reset_10 (by decide) (fun _ => ?_) (fun h => absurd h (by decide))
              refine lv_iconst (v := 0) hx hb dX0_reset_44 (by decide) ?_
              refine lv_istore_n (lv' := [(2, .int (0 : Int32)), (1, .int (2 : Int32)), (0, .ref a.1)]) hx hb dX0_reset_45 rfl hl (by decide) rfl (fun ls hl => ?_)
              refine lv_iload_n hx hb dX0_reset_46 rfl (lv_at hl 0 rfl) ?_
              refine lv_iconst (v := 2) hx hb dX0_reset_47 (by decide) ?_
              refine lv_icmp_ge (tgt := 65) hx hb dX0_reset_48 (by decide) (fun h => absurd h (by decide)) (fun _ => ?_)
              refine lv_aload_n hx hb dX0_reset_51 rfl (lv_at hl 2 rfl) ?_
              refine lv_iload_n hx hb dX0_reset_52 rfl (lv_at hl 0 rfl) ?_
              refine lv_iconst (v := 0) hx hb dX0_reset_53 (by decide) ?_
              refine lv_iconst (v := 0) hx hb dX0_reset_54 (by decide) ?_
              refine lv_iconst (v := 0) hx hb dX0_reset_55 (by decide) ?_
              refine cc_V hC hGx hD hEx hlocks (c_X0_putSpan l hl9 k a hD (0 : Int32) (0 : Int32) (0 : Int32) (0 : Int32) (vp_updL (vp_updL z.1 (1 : Int32).toNatClampNeg (1008673 : Int64)) (3 : Int32).toNatClampNeg (1008673 : Int64), z.2.1, z.2.2.1, z.2.2.2.1, z.2.2.2.2.1, z.2.2.2.2.2)) (gV w_82 w_83 w_6 w_26 w_84) kk_X0_putSpan rfl ⟨Nat.le_of_ble_eq_true rfl, Nat.le_of_ble_eq_true rfl⟩ ⟨Nat.le_of_ble_eq_true rfl, Nat.le_of_ble_eq_true rfl⟩ ⟨Nat.le_of_ble_eq_true rfl, Nat.le_of_ble_eq_true rfl⟩ hP hS hl.1 rfl rfl (Nat.le_of_ble_eq_true rfl) dX0_reset_56 (fun h_65 => ?_) (fun h_65 H locs hP hS => ?_)
              · have hm : m_X0_reset z = ((m_X0_putSpan (0 : Int32) (0 : Int32) (0 : Int32) (0 : Int32) (vp_updL (vp_updL z.1 (1 : Int32).toNatClampNeg (1008673 : Int64)) (3 : Int32).toNatClampNeg (1008673 : Int64), z.2.1, z.2.2.1, z.2.2.2.1, z.2.2.2.2.1, z.2.2.2.2.2)).1, 0, (m_X0_putSpan (0 : Int32) (0 : Int32) (0 : Int32) (0 : Int32) (vp_updL (vp_updL z.1 (1 : Int32).toNatClampNeg (1008673 : Int64)) (3 : Int32).toNatClampNeg (1008673 : Int64), z.2.1, z.2.2.1, z.2.2.2.1, z.2.2.2.2.1, z.2.2.2.2.2)).2) := hm.trans (if_neg h_65)
                exact ⟨by rw [hm], by rw [hm]⟩
              · have hm := hm.trans (if_pos h_65)
                refine lv_iinc (v := (1 : Int32)) (lv' := [(2, .int (1 : Int32)), (1, .int (2 : Int32)), (0, .ref a.1)]) hx hb dX0_reset_59 hl (k := 0) rfl (by decide) (by decide) rfl (fun ls hl => ?_)
                refine lv_goto (tgt := 46) hx hb dX0_reset_62 (by decide) ?_
                refine lv_iload_n hx hb dX0_reset_46 rfl (lv_at hl 0 rfl) ?_
                refine lv_iconst (v := 2) hx hb dX0_reset_47 (by decide) ?_
                refine lv_icmp_ge (tgt := 65) hx hb dX0_reset_48 (by decide) (fun h => absurd h (by decide)) (fun _ => ?_)
                refine lv_aload_n hx hb dX0_reset_51 rfl (lv_at hl 2 rfl) ?_
                refine lv_iload_n hx hb dX0_reset_52 rfl (lv_at hl 0 rfl) ?_
                refine lv_iconst (v := 0) hx hb dX0_reset_53 (by decide) ?_
                refine lv_iconst (v := 0) hx hb dX0_reset_54 (by decide) ?_
                refine lv_iconst (v := 0) hx hb dX0_reset_55 (by decide) ?_
                refine cc_V hC hGx hD hEx hlocks (c_X0_putSpan l hl9 k a hD (1 : Int32) (0 : Int32) (0 : Int32) (0 : Int32) ((m_X0_putSpan (0 : Int32) (0 : Int32) (0 : Int32) (0 : Int32) (vp_updL (vp_updL z.1 (1 : Int32).toNatClampNeg (1008673 : Int64)) (3 : Int32).toNatClampNeg (1008673 : Int64), z.2.1, z.2.2.1, z.2.2.2.1, z.2.2.2.2.1, z.2.2.2.2.2)).2)) (gV w_82 w_83 w_6 w_26 w_84) kk_X0_putSpan rfl ⟨Nat.le_of_ble_eq_true rfl, Nat.le_of_ble_eq_true rfl⟩ ⟨Nat.le_of_ble_eq_true rfl, Nat.le_of_ble_eq_true rfl⟩ ⟨Nat.le_of_ble_eq_true rfl, Nat.le_of_ble_eq_true rfl⟩ hP hS hl.1 rfl rfl (Nat.le_of_ble_eq_true rfl) dX0_reset_56 (fun h_66 => ?_) (fun h_66 H locs hP hS => ?_)
                · have hm : m_X0_reset z = ((m_X0_putSpan (1 : Int32) (0 : Int32) (0 : Int32) (0 : Int32) ((m_X0_putSpan (0 : Int32) (0 : Int32) (0 : Int32) (0 : Int32) (vp_updL (vp_updL z.1 (1 : Int32).toNatClampNeg (1008673 : Int64)) (3 : Int32).toNatClampNeg (1008673 : Int64), z.2.1, z.2.2.1, z.2.2.2.1, z.2.2.2.2.1, z.2.2.2.2.2)).2)).1, 0, (m_X0_putSpan (1 : Int32) (0 : Int32) (0 : Int32) (0 : Int32) ((m_X0_putSpan (0 : Int32) (0 : Int32) (0 : Int32) (0 : Int32) (vp_updL (vp_updL z.1 (1 : Int32).toNatClampNeg (1008673 : Int64)) (3 : Int32).toNatClampNeg (1008673 : Int64), z.2.1, z.2.2.1, z.2.2.2.1, z.2.2.2.2.1, z.2.2.2.2.2)).2)).2) := hm.trans (if_neg h_66)
                  exact ⟨by rw [hm], by rw [hm]⟩
                · have hm := hm.trans (if_pos h_66)
                  refine lv_iinc (v := (2 : Int32)) (lv' := [(2, .int (2 : Int32)), (1, .int (2 : Int32)), (0, .ref a.1)]) hx hb dX0_reset_59 hl (k := 0) rfl (by decide) (by decide) rfl (fun ls hl => ?_)
                  refine lv_goto (tgt := 46) hx hb dX0_reset_62 (by decide) ?_
                  refine lv_iload_n hx hb dX0_reset_46 rfl (lv_at hl 0 rfl) ?_
                  refine lv_iconst (v := 2) hx hb dX0_reset_47 (by decide) ?_
                  refine lv_icmp_ge (tgt := 65) hx hb dX0_reset_48 (by decide) (fun _ => ?_) (fun h => absurd h (by decide))
                  refine lv_iload_n hx hb dX0_reset_65 rfl (lv_at hl 1 rfl) ?_
                  have hm : m_X0_reset z = (0, (2 : Int32), (m_X0_putSpan (1 : Int32) (0 : Int32) (0 : Int32) (0 : Int32) ((m_X0_putSpan (0 : Int32) (0 : Int32) (0 : Int32) (0 : Int32) (vp_updL (vp_updL z.1 (1 : Int32).toNatClampNeg (1008673 : Int64)) (3 : Int32).toNatClampNeg (1008673 : Int64), z.2.1, z.2.2.1, z.2.2.2.1, z.2.2.2.2.1, z.2.2.2.2.2)).2)).2) := hm
                  exact c_iret (E := (2 : Int32)) hx hb hr hlocks (by rw [hm]) (by rw [hm]) (by rw [hm]) hP hS ⟨Nat.le_of_ble_eq_true rfl, Nat.le_of_ble_eq_true rfl⟩ dX0_reset_66
            · have hm := hm.trans (if_neg h_64)
              refine lv_iinc (v := (3 : Int32)) (lv' := [(1, .int (3 : Int32)), (2, .int (5 : Int32)), (0, .ref a.1)]) hx hb dX0_reset_26 hl (k := 1) rfl (by decide) (by decide) rfl (fun ls hl => ?_)
              refine lv_aload_n hx hb dX0_reset_29 rfl (lv_at hl 2 rfl) ?_
              refine va_get (D := kD k) (ci := 2) (v := .ref a.2.1) (C := RX0) (T := TX0) (N := 6) hx hb htg inG_X0 hown hGx.1 hP 0 rfl rfl 0 (by decide) (htg _ w_57) (fun _ h9 => h9) rfl dX0_reset_30 ?_
              refine lv_iload_n hx hb dX0_reset_33 rfl (lv_at hl 1 rfl) ?_
              refine lv_ldc2 hx hb hown (htg _ w_56) dX0_reset_34 ?_
              refine va_last (D := kD k) hx hb hGx.1 hP (hD.own _ _) hS 1 0 rfl rfl (show ¬ ((5 : Int32) < 0 ∨ 6 ≤ ((5 : Int32)).toNatClampNeg) by decide) dX0_reset_37 (fun H locs hP1 _ hS => ?_)
              have hP : va_P (kD k) vwCl (cW k a (vp_updL (vp_updL (vp_updL z.1 (1 : Int32).toNatClampNeg (1008673 : Int64)) (3 : Int32).toNatClampNeg (1008673 : Int64)) (5 : Int32).toNatClampNeg (1008673 : Int64), z.2.1, z.2.2.1, z.2.2.2.1, z.2.2.2.2.1, z.2.2.2.2.2)) H := hP1
              refine lv_iinc (v := (6 : Int32)) (lv' := [(2, .int (6 : Int32)), (1, .int (3 : Int32)), (0, .ref a.1)]) hx hb dX0_reset_38 hl (k := 1) rfl (by decide) (by decide) rfl (fun ls hl => ?_)
              refine lv_goto (tgt := 4) hx hb dX0_reset_41 (by decide) ?_
              refine lv_iload_n hx hb dX0_reset_4 rfl (lv_at hl 0 rfl) ?_
              refine lv_aload_n hx hb dX0_reset_5 rfl (lv_at hl 2 rfl) ?_
              refine va_get (D := kD k) (ci := 2) (v := .ref a.2.1) (C := RX0) (T := TX0) (N := 6) hx hb htg inG_X0 hown hGx.1 hP 0 rfl rfl 0 (by decide) (htg _ w_57) (fun _ h9 => h9) rfl dX0_reset_6 ?_
              refine va_alen (D := kD k) (v := 6) hx hb hGx.1 hP 1 0 rfl rfl (show Int32.ofNat 6 = 6 by decide) dX0_reset_9 ?_
              refine lv_icmp_ge (tgt := 44) hx hb dX0_reset_10 (by decide) (fun _ => ?_) (fun h => absurd h (by decide))
              refine lv_iconst (v := 0) hx hb dX0_reset_44 (by decide) ?_
              refine lv_istore_n (lv' := [(2, .int (0 : Int32)), (1, .int (3 : Int32)), (0, .ref a.1)]) hx hb dX0_reset_45 rfl hl (by decide) rfl (fun ls hl => ?_)
              refine lv_iload_n hx hb dX0_reset_46 rfl (lv_at hl 0 rfl) ?_
              refine lv_iconst (v := 2) hx hb dX0_reset_47 (by decide) ?_
              refine lv_icmp_ge (tgt := 65) hx hb dX0_reset_48 (by decide) (fun h => absurd h (by decide)) (fun _ => ?_)
              refine lv_aload_n hx hb dX0_reset_51 rfl (lv_at hl 2 rfl) ?_
              refine lv_iload_n hx hb dX0_reset_52 rfl (lv_at hl 0 rfl) ?_
              refine lv_iconst (v := 0) hx hb dX0_reset_53 (by decide) ?_
              refine lv_iconst (v := 0) hx hb dX0_reset_54 (by decide) ?_
              refine lv_iconst (v := 0) hx hb dX0_reset_55 (by decide) ?_
              refine cc_V hC hGx hD hEx hlocks (c_X0_putSpan l hl9 k a hD (0 : Int32) (0 : Int32) (0 : Int32) (0 : Int32) (vp_updL (vp_updL (vp_updL z.1 (1 : Int32).toNatClampNeg (1008673 : Int64)) (3 : Int32).toNatClampNeg (1008673 : Int64)) (5 : Int32).toNatClampNeg (1008673 : Int64), z.2.1, z.2.2.1, z.2.2.2.1, z.2.2.2.2.1, z.2.2.2.2.2)) (gV w_82 w_83 w_6 w_26 w_84) kk_X0_putSpan rfl ⟨Nat.le_of_ble_eq_true rfl, Nat.le_of_ble_eq_true rfl⟩ ⟨Nat.le_of_ble_eq_true rfl, Nat.le_of_ble_eq_true rfl⟩ ⟨Nat.le_of_ble_eq_true rfl, Nat.le_of_ble_eq_true rfl⟩ hP hS hl.1 rfl rfl (Nat.le_of_ble_eq_true rfl) dX0_reset_56 (fun h_67 => ?_) (fun h_67 H locs hP hS => ?_)
              · have hm : m_X0_reset z = ((m_X0_putSpan (0 : Int32) (0 : Int32) (0 : Int32) (0 : Int32) (vp_updL (vp_updL (vp_updL z.1 (1 : Int32).toNatClampNeg (1008673 : Int64)) (3 : Int32).toNatClampNeg (1008673 : Int64)) (5 : Int32).toNatClampNeg (1008673 : Int64), z.2.1, z.2.2.1, z.2.2.2.1, z.2.2.2.2.1, z.2.2.2.2.2)).1, 0, (m_X0_putSpan (0 : Int32) (0 : Int32) (0 : Int32) (0 : Int32) (vp_updL (vp_updL (vp_updL z.1 (1 : Int32).toNatClampNeg (1008673 : Int64)) (3 : Int32).toNatClampNeg (1008673 : Int64)) (5 : Int32).toNatClampNeg (1008673 : Int64), z.2.1, z.2.2.1, z.2.2.2.1, z.2.2.2.2.1, z.2.2.2.2.2)).2) := hm.trans (if_neg h_67)
                exact ⟨by rw [hm], by rw [hm]⟩
              · have hm := hm.trans (if_pos h_67)
                refine lv_iinc (v := (1 : Int32)) (lv' := [(2, .int (1 : Int32)), (1, .int (3 : Int32)), (0, .ref a.1)]) hx hb dX0_reset_59 hl (k := 0) rfl (by decide) (by decide) rfl (fun ls hl => ?_)
                refine lv_goto (tgt := 46) hx hb dX0_reset_62 (by decide) ?_
                refine lv_iload_n hx hb dX0_reset_46 rfl (lv_at hl 0 rfl) ?_
                refine lv_iconst (v := 2) hx hb dX0_reset_47 (by decide) ?_
                refine lv_icmp_ge (tgt := 65) hx hb dX0_reset_48 (by decide) (fun h => absurd h (by decide)) (fun _ => ?_)
                refine lv_aload_n hx hb dX0_reset_51 rfl (lv_at hl 2 rfl) ?_
                refine lv_iload_n hx hb dX0_reset_52 rfl (lv_at hl 0 rfl) ?_
                refine lv_iconst (v := 0) hx hb dX0_reset_53 (by decide) ?_
                refine lv_iconst (v := 0) hx hb dX0_reset_54 (by decide) ?_
                refine lv_iconst (v := 0) hx hb dX0_reset_55 (by decide) ?_
                refine cc_V hC hGx hD hEx hlocks (c_X0_putSpan l hl9 k a hD (1 : Int32) (0 : Int32) (0 : Int32) (0 : Int32) ((m_X0_putSpan (0 : Int32) (0 : Int32) (0 : Int32) (0 : Int32) (vp_updL (vp_updL (vp_updL z.1 (1 : Int32).toNatClampNeg (1008673 : Int64)) (3 : Int32).toNatClampNeg (1008673 : Int64)) (5 : Int32).toNatClampNeg (1008673 : Int64), z.2.1, z.2.2.1, z.2.2.2.1, z.2.2.2.2.1, z.2.2.2.2.2)).2)) (gV w_82 w_83 w_6 w_26 w_84) kk_X0_putSpan rfl ⟨Nat.le_of_ble_eq_true rfl, Nat.le_of_ble_eq_true rfl⟩ ⟨Nat.le_of_ble_eq_true rfl, Nat.le_of_ble_eq_true rfl⟩ ⟨Nat.le_of_ble_eq_true rfl, Nat.le_of_ble_eq_true rfl⟩ hP hS hl.1 rfl rfl (Nat.le_of_ble_eq_true rfl) dX0_reset_56 (fun h_68 => ?_) (fun h_68 H locs hP hS => ?_)
                · have hm : m_X0_reset z = ((m_X0_putSpan (1 : Int32) (0 : Int32) (0 : Int32) (0 : Int32) ((m_X0_putSpan (0 : Int32) (0 : Int32) (0 : Int32) (0 : Int32) (vp_updL (vp_updL (vp_updL z.1 (1 : Int32).toNatClampNeg (1008673 : Int64)) (3 : Int32).toNatClampNeg (1008673 : Int64)) (5 : Int32).toNatClampNeg (1008673 : Int64), z.2.1, z.2.2.1, z.2.2.2.1, z.2.2.2.2.1, z.2.2.2.2.2)).2)).1, 0, (m_X0_putSpan (1 : Int32) (0 : Int32) (0 : Int32) (0 : Int32) ((m_X0_putSpan (0 : Int32) (0 : Int32) (0 : Int32) (0 : Int32) (vp_updL (vp_updL (vp_updL z.1 (1 : Int32).toNatClampNeg (1008673 : Int64)) (3 : Int32).toNatClampNeg (1008673 : Int64)) (5 : Int32).toNatClampNeg (1008673 : Int64), z.2.1, z.2.2.1, z.2.2.2.1, z.2.2.2.2.1, z.2.2.2.2.2)).2)).2) := hm.trans (if_neg h_68)
                  exact ⟨by rw [hm], by rw [hm]⟩
                · have hm := hm.trans (if_pos h_68)
                  refine lv_iinc (v := (2 : Int32)) (lv' := [(2, .int (2 : Int32)), (1, .int (3 : Int32)), (0, .ref a.1)]) hx hb dX0_reset_59 hl (k := 0) rfl (by decide) (by decide) rfl (fun ls hl => ?_)
                  refine lv_goto (tgt := 46) hx hb dX0_reset_62 (by decide) ?_
                  refine lv_iload_n hx hb dX0_reset_46 rfl (lv_at hl 0 rfl) ?_
                  refine lv_iconst (v := 2) hx hb dX0_reset_47 (by decide) ?_
                  refine lv_icmp_ge (tgt := 65) hx hb dX0_reset_48 (by decide) (fun _ => ?_) (fun h => absurd h (by decide))
                  refine lv_iload_n hx hb dX0_reset_65 rfl (lv_at hl 1 rfl) ?_
                  have hm : m_X0_reset z = (0, (3 : Int32), (m_X0_putSpan (1 : Int32) (0 : Int32) (0 : Int32) (0 : Int32) ((m_X0_putSpan (0 : Int32) (0 : Int32) (0 : Int32) (0 : Int32) (vp_updL (vp_updL (vp_updL z.1 (1 : Int32).toNatClampNeg (1008673 : Int64)) (3 : Int32).toNatClampNeg (1008673 : Int64)) (5 : Int32).toNatClampNeg (1008673 : Int64), z.2.1, z.2.2.1, z.2.2.2.1, z.2.2.2.2.1, z.2.2.2.2.2)).2)).2) := hm
                  exact c_iret (E := (3 : Int32)) hx hb hr hlocks (by rw [hm]) (by rw [hm]) (by rw [hm]) hP hS ⟨Nat.le_of_ble_eq_true rfl, Nat.le_of_ble_eq_true rfl⟩ dX0_reset_66
          · have hm := hm.trans (if_neg h_63)
            refine lv_iinc (v := (3 : Int32)) (lv' := [(1, .int (3 : Int32)), (2, .int (4 : Int32)), (0, .ref a.1)]) hx hb dX0_reset_26 hl (k := 1) rfl (by decide) (by decide) rfl (fun ls hl => ?_)
            refine lv_aload_n hx hb dX0_reset_29 rfl (lv_at hl 2 rfl) ?_
            refine va_get (D := kD k) (ci := 2) (v := .ref a.2.1) (C := RX0) (T := TX0) (N := 6) hx hb htg inG_X0 hown hGx.1 hP 0 rfl rfl 0 (by decide) (htg _ w_57) (fun _ h9 => h9) rfl dX0_reset_30 ?_
            refine lv_iload_n hx hb dX0_reset_33 rfl (lv_at hl 1 rfl) ?_
            refine lv_ldc2 hx hb hown (htg _ w_56) dX0_reset_34 ?_
            refine va_last (D := kD k) hx hb hGx.1 hP (hD.own _ _) hS 1 0 rfl rfl (show ¬ ((4 : Int32) < 0 ∨ 6 ≤ ((4 : Int32)).toNatClampNeg) by decide) dX0_reset_37 (fun H locs hP1 _ hS => ?_)
            have hP : va_P (kD k) vwCl (cW k a (vp_updL (vp_updL (vp_updL z.1 (1 : Int32).toNatClampNeg (1008673 : Int64)) (3 : Int32).toNatClampNeg (1008673 : Int64)) (4 : Int32).toNatClampNeg (1008673 : Int64), z.2.1, z.2.2.1, z.2.2.2.1, z.2.2.2.2.1, z.2.2.2.2.2)) H := hP1
            refine lv_iinc (v := (5 : Int32)) (lv' := [(2, .int (5 : Int32)), (1, .int (3 : Int32)), (0, .ref a.1)]) hx hb dX0_reset_38 hl (k := 1) rfl (by decide) (by decide) rfl (fun ls hl => ?_)
            refine lv_goto (tgt := 4) hx hb dX0_reset_41 (by decide) ?_
            refine lv_iload_n hx hb dX0_reset_4 rfl (lv_at hl 0 rfl) ?_
            refine lv_aload_n hx hb dX0_reset_5 rfl (lv_at hl 2 rfl) ?_
            refine va_get (D := kD k) (ci := 2) (v := .ref a.2.1) (C := RX0) (T := TX0) (N := 6) hx hb htg inG_X0 hown hGx.1 hP 0 rfl rfl 0 (by decide) (htg _ w_57) (fun _ h9 => h9) rfl dX0_reset_6 ?_
            refine va_alen (D := kD k) (v := 6) hx hb hGx.1 hP 1 0 rfl rfl (show Int32.ofNat 6 = 6 by decide) dX0_reset_9 ?_
            refine lv_icmp_ge (tgt := 44) hx hb dX0_reset_10 (by decide) (fun h => absurd h (by decide)) (fun _ => ?_)
            refine lv_aload_n hx hb dX0_reset_13 rfl (lv_at hl 2 rfl) ?_
            refine va_get (D := kD k) (ci := 2) (v := .ref a.2.1) (C := RX0) (T := TX0) (N := 6) hx hb htg inG_X0 hown hGx.1 hP 0 rfl rfl 0 (by decide) (htg _ w_57) (fun _ h9 => h9) rfl dX0_reset_14 ?_
            refine lv_iload_n hx hb dX0_reset_17 rfl (lv_at hl 0 rfl) ?_
            refine va_lald (D := kD k) hx hb hGx.1 hP 1 0 rfl rfl (show ¬ ((5 : Int32) < 0 ∨ 6 ≤ ((5 : Int32)).toNatClampNeg) by decide) dX0_reset_18 ?_
            refine lv_ldc2 hx hb hown (htg _ w_56) dX0_reset_19 ?_
            refine W.lcmp hx hb dX0_reset_22 ?_
            refine lv_if_eq (tgt := 38) hx hb dX0_reset_23 (by decide) (fun h_69 => ?_) (fun h_69 => ?_)
            · have hm := hm.trans (if_pos h_69)
              refine lv_iinc (v := (6 : Int32)) (lv' := [(2, .int (6 : Int32)), (1, .int (3 : Int32)), (0, .ref a.1)]) hx hb dX0_reset_38 hl (k := 0) rfl (by decide) (by decide) rfl (fun ls hl => ?_)
              refine lv_goto (tgt := 4) hx hb dX0_reset_41 (by decide) ?_
              refine lv_iload_n hx hb dX0_reset_4 rfl (lv_at hl 0 rfl) ?_
              refine lv_aload_n hx hb dX0_reset_5 rfl (lv_at hl 2 rfl) ?_
              refine va_get (D := kD k) (ci := 2) (v := .ref a.2.1) (C := RX0) (T := TX0) (N := 6) hx hb htg inG_X0 hown hGx.1 hP 0 rfl rfl 0 (by decide) (htg _ w_57) (fun _ h9 => h9) rfl dX0_reset_6 ?_
              refine va_alen (D := kD k) (v := 6) hx hb hGx.1 hP 1 0 rfl rfl (show Int32.ofNat 6 = 6 by decide) dX0_reset_9 ?_
              refine lv_icmp_ge (tgt := 44) hx hb dX0_reset_10 (by decide) (fun _ => ?_) (fun h => absurd h (by decide))
              refine lv_iconst (v := 0) hx hb dX0_reset_44 (by decide) ?_
              refine lv_istore_n (lv' := [(2, .int (0 : Int32)), (1, .int (3 : Int32)), (0, .ref a.1)]) hx hb dX0_reset_45 rfl hl (by decide) rfl (fun ls hl => ?_)
              refine lv_iload_n hx hb dX0_reset_46 rfl (lv_at hl 0 rfl) ?_
              refine lv_iconst (v := 2) hx hb dX0_reset_47 (by decide) ?_
              refine lv_icmp_ge (tgt := 65) hx hb dX0_reset_48 (by decide) (fun h => absurd h (by decide)) (fun _ => ?_)
              refine lv_aload_n hx hb dX0_reset_51 rfl (lv_at hl 2 rfl) ?_
              refine lv_iload_n hx hb dX0_reset_52 rfl (lv_at hl 0 rfl) ?_
              refine lv_iconst (v := 0) hx hb dX0_reset_53 (by decide) ?_
              refine lv_iconst (v := 0) hx hb dX0_reset_54 (by decide) ?_
              refine lv_iconst (v := 0) hx hb dX0_reset_55 (by decide) ?_
              refine cc_V hC hGx hD hEx hlocks (c_X0_putSpan l hl9 k a hD (0 : Int32) (0 : Int32) (0 : Int32) (0 : Int32) (vp_updL (vp_updL (vp_updL z.1 (1 : Int32).toNatClampNeg (1008673 : Int64)) (3 : Int32).toNatClampNeg (1008673 : Int64)) (4 : Int32).toNatClampNeg (1008673 : Int64), z.2.1, z.2.2.1, z.2.2.2.1, z.2.2.2.2.1, z.2.2.2.2.2)) (gV w_82 w_83 w_6 w_26 w_84) kk_X0_putSpan rfl ⟨Nat.le_of_ble_eq_true rfl, Nat.le_of_ble_eq_true rfl⟩ ⟨Nat.le_of_ble_eq_true rfl, Nat.le_of_ble_eq_true rfl⟩ ⟨Nat.le_of_ble_eq_true rfl, Nat.le_of_ble_eq_true rfl⟩ hP hS hl.1 rfl rfl (Nat.le_of_ble_eq_true rfl) dX0_reset_56 (fun h_70 => ?_) (fun h_70 H locs hP hS => ?_)
              · have hm : m_X0_reset z = ((m_X0_putSpan (0 : Int32) (0 : Int32) (0 : Int32) (0 : Int32) (vp_updL (vp_updL (vp_updL z.1 (1 : Int32).toNatClampNeg (1008673 : Int64)) (3 : Int32).toNatClampNeg (1008673 : Int64)) (4 : Int32).toNatClampNeg (1008673 : Int64), z.2.1, z.2.2.1, z.2.2.2.1, z.2.2.2.2.1, z.2.2.2.2.2)).1, 0, (m_X0_putSpan (0 : Int32) (0 : Int32) (0 : Int32) (0 : Int32) (vp_updL (vp_updL (vp_updL z.1 (1 : Int32).toNatClampNeg (1008673 : Int64)) (3 : Int32).toNatClampNeg (1008673 : Int64)) (4 : Int32).toNatClampNeg (1008673 : Int64), z.2.1, z.2.2.1, z.2.2.2.1, z.2.2.2.2.1, z.2.2.2.2.2)).2) := hm.trans (if_neg h_70)
                exact ⟨by rw [hm], by rw [hm]⟩
              · have hm := hm.trans (if_pos h_70)
                refine lv_iinc (v := (1 : Int32)) (lv' := [(2, .int (1 : Int32)), (1, .int (3 : Int32)), (0, .ref a.1)]) hx hb dX0_reset_59 hl (k := 0) rfl (by decide) (by decide) rfl (fun ls hl => ?_)
                refine lv_goto (tgt := 46) hx hb dX0_reset_62 (by decide) ?_
                refine lv_iload_n hx hb dX0_reset_46 rfl (lv_at hl 0 rfl) ?_
                refine lv_iconst (v := 2) hx hb dX0_reset_47 (by decide) ?_
                refine lv_icmp_ge (tgt := 65) hx hb dX0_reset_48 (by decide) (fun h => absurd h (by decide)) (fun _ => ?_)
                refine lv_aload_n hx hb dX0_reset_51 rfl (lv_at hl 2 rfl) ?_
                refine lv_iload_n hx hb dX0_reset_52 rfl (lv_at hl 0 rfl) ?_
                refine lv_iconst (v := 0) hx hb dX0_reset_53 (by decide) ?_
                refine lv_iconst (v := 0) hx hb dX0_reset_54 (by decide) ?_
                refine lv_iconst (v := 0) hx hb dX0_reset_55 (by decide) ?_
                refine cc_V hC hGx hD hEx hlocks (c_X0_putSpan l hl9 k a hD (1 : Int32) (0 : Int32) (0 : Int32) (0 : Int32) ((m_X0_putSpan (0 : Int32) (0 : Int32) (0 : Int32) (0 : Int32) (vp_updL (vp_updL (vp_updL z.1 (1 : Int32).toNatClampNeg (1008673 : Int64)) (3 : Int32).toNatClampNeg (1008673 : Int64)) (4 : Int32).toNatClampNeg (1008673 : Int64), z.2.1, z.2.2.1, z.2.2.2.1, z.2.2.2.2.1, z.2.2.2.2.2)).2)) (gV w_82 w_83 w_6 w_26 w_84) kk_X0_putSpan rfl ⟨Nat.le_of_ble_eq_true rfl, Nat.le_of_ble_eq_true rfl⟩ ⟨Nat.le_of_ble_eq_true rfl, Nat.le_of_ble_eq_true rfl⟩ ⟨Nat.le_of_ble_eq_true rfl, Nat.le_of_ble_eq_true rfl⟩ hP hS hl.1 rfl rfl (Nat.le_of_ble_eq_true rfl) dX0_reset_56 (fun h_71 => ?_) (fun h_71 H locs hP hS => ?_)
                · have hm : m_X0_reset z = ((m_X0_putSpan (1 : Int32) (0 : Int32) (0 : Int32) (0 : Int32) ((m_X0_putSpan (0 : Int32) (0 : Int32) (0 : Int32) (0 : Int32) (vp_updL (vp_updL (vp_updL z.1 (1 : Int32).toNatClampNeg (1008673 : Int64)) (3 : Int32).toNatClampNeg (1008673 : Int64)) (4 : Int32).toNatClampNeg (1008673 : Int64), z.2.1, z.2.2.1, z.2.2.2.1, z.2.2.2.2.1, z.2.2.2.2.2)).2)).1, 0, (m_X0_putSpan (1 : Int32) (0 : Int32) (0 : Int32) (0 : Int32) ((m_X0_putSpan (0 : Int32) (0 : Int32) (0 : Int32) (0 : Int32) (vp_updL (vp_updL (vp_updL z.1 (1 : Int32).toNatClampNeg (1008673 : Int64)) (3 : Int32).toNatClampNeg (1008673 : Int64)) (4 : Int32).toNatClampNeg (1008673 : Int64), z.2.1, z.2.2.1, z.2.2.2.1, z.2.2.2.2.1, z.2.2.2.2.2)).2)).2) := hm.trans (if_neg h_71)
                  exact ⟨by rw [hm], by rw [hm]⟩
                · have hm := hm.trans (if_pos h_71)
                  refine lv_iinc (v := (2 : Int32)) (lv' := [(2, .int (2 : Int32)), (1, .int (3 : Int32)), (0, .ref a.1)]) hx hb dX0_reset_59 hl (k := 0) rfl (by decide) (by decide) rfl (fun ls hl => ?_)
                  refine lv_goto (tgt := 46) hx hb dX0_reset_62 (by decide) ?_
                  refine lv_iload_n hx hb dX0_reset_46 rfl (lv_at hl 0 rfl) ?_
                  refine lv_iconst (v := 2) hx hb dX0_reset_47 (by decide) ?_
                  refine lv_icmp_ge (tgt := 65) hx hb dX0_reset_48 (by decide) (fun _ => ?_) (fun h => absurd h (by decide))
                  refine lv_iload_n hx hb dX0_reset_65 rfl (lv_at hl 1 rfl) ?_
                  have hm : m_X0_reset z = (0, (3 : Int32), (m_X0_putSpan (1 : Int32) (0 : Int32) (0 : Int32) (0 : Int32) ((m_X0_putSpan (0 : Int32) (0 : Int32) (0 : Int32) (0 : Int32) (vp_updL (vp_updL (vp_updL z.1 (1 : Int32).toNatClampNeg (1008673 : Int64)) (3 : Int32).toNatClampNeg (1008673 : Int64)) (4 : Int32).toNatClampNeg (1008673 : Int64), z.2.1, z.2.2.1, z.2.2.2.1, z.2.2.2.2.1, z.2.2.2.2.2)).2)).2) := hm
                  exact c_iret (E := (3 : Int32)) hx hb hr hlocks (by rw [hm]) (by rw [hm]) (by rw [hm]) hP hS ⟨Nat.le_of_ble_eq_true rfl, Nat.le_of_ble_eq_true rfl⟩ dX0_reset_66
            · have hm := hm.trans (if_neg h_69)
              refine lv_iinc (v := (4 : Int32)) (lv' := [(1, .int (4 : Int32)), (2, .int (5 : Int32)), (0, .ref a.1)]) hx hb dX0_reset_26 hl (k := 1) rfl (by decide) (by decide) rfl (fun ls hl => ?_)
              refine lv_aload_n hx hb dX0_reset_29 rfl (lv_at hl 2 rfl) ?_
              refine va_get (D := kD k) (ci := 2) (v := .ref a.2.1) (C := RX0) (T := TX0) (N := 6) hx hb htg inG_X0 hown hGx.1 hP 0 rfl rfl 0 (by decide) (htg _ w_57) (fun _ h9 => h9) rfl dX0_reset_30 ?_
              refine lv_iload_n hx hb dX0_reset_33 rfl (lv_at hl 1 rfl) ?_
              refine lv_ldc2 hx hb hown (htg _ w_56) dX0_reset_34 ?_
              refine va_last (D := kD k) hx hb hGx.1 hP (hD.own _ _) hS 1 0 rfl rfl (show ¬ ((5 : Int32) < 0 ∨ 6 ≤ ((5 : Int32)).toNatClampNeg) by decide) dX0_reset_37 (fun H locs hP1 _ hS => ?_)
              have hP : va_P (kD k) vwCl (cW k a (vp_updL (vp_updL (vp_updL (vp_updL z.1 (1 : Int32).toNatClampNeg (1008673 : Int64)) (3 : Int32).toNatClampNeg (1008673 : Int64)) (4 : Int32).toNatClampNeg (1008673 : Int64)) (5 : Int32).toNatClampNeg (1008673 : Int64), z.2.1, z.2.2.1, z.2.2.2.1, z.2.2.2.2.1, z.2.2.2.2.2)) H := hP1
              refine lv_iinc (v := (6 : Int32)) (lv' := [(2, .int (6 : Int32)), (1, .int (4 : Int32)), (0, .ref a.1)]) hx hb dX0_reset_38 hl (k := 1) rfl (by decide) (by decide) rfl (fun ls hl => ?_)
              refine lv_goto (tgt := 4) hx hb dX0_reset_41 (by decide) ?_
              refine lv_iload_n hx hb dX0_reset_4 rfl (lv_at hl 0 rfl) ?_
              refine lv_aload_n hx hb dX0_reset_5 rfl (lv_at hl 2 rfl) ?_
              refine va_get (D := kD k) (ci := 2) (v := .ref a.2.1) (C := RX0) (T := TX0) (N := 6) hx hb htg inG_X0 hown hGx.1 hP 0 rfl rfl 0 (by decide) (htg _ w_57) (fun _ h9 => h9) rfl dX0_reset_6 ?_
              refine va_alen (D := kD k) (v := 6) hx hb hGx.1 hP 1 0 rfl rfl (show Int32.ofNat 6 = 6 by decide) dX0_reset_9 ?_
              refine lv_icmp_ge (tgt := 44) hx hb dX0_reset_10 (by decide) (fun _ => ?_) (fun h => absurd h (by decide))
              refine lv_iconst (v := 0) hx hb dX0_reset_44 (by decide) ?_
              refine lv_istore_n (lv' := [(2, .int (0 : Int32)), (1, .int (4 : Int32)), (0, .ref a.1)]) hx hb dX0_reset_45 rfl hl (by decide) rfl (fun ls hl => ?_)
              refine lv_iload_n hx hb dX0_reset_46 rfl (lv_at hl 0 rfl) ?_
              refine lv_iconst (v := 2) hx hb dX0_reset_47 (by decide) ?_
              refine lv_icmp_ge (tgt := 65) hx hb dX0_reset_48 (by decide) (fun h => absurd h (by decide)) (fun _ => ?_)
              refine lv_aload_n hx hb dX0_reset_51 rfl (lv_at hl 2 rfl) ?_
              refine lv_iload_n hx hb dX0_reset_52 rfl (lv_at hl 0 rfl) ?_
              refine lv_iconst (v := 0) hx hb dX0_reset_53 (by decide) ?_
              refine lv_iconst (v := 0) hx hb dX0_reset_54 (by decide) ?_
              refine lv_iconst (v := 0) hx hb dX0_reset_55 (by decide) ?_
              refine cc_V hC hGx hD hEx hlocks (c_X0_putSpan l hl9 k a hD (0 : Int32) (0 : Int32) (0 : Int32) (0 : Int32) (vp_updL (vp_updL (vp_updL (vp_updL z.1 (1 : Int32).toNatClampNeg (1008673 : Int64)) (3 : Int32).toNatClampNeg (1008673 : Int64)) (4 : Int32).toNatClampNeg (1008673 : Int64)) (5 : Int32).toNatClampNeg (1008673 : Int64), z.2.1, z.2.2.1, z.2.2.2.1, z.2.2.2.2.1, z.2.2.2.2.2)) (gV w_82 w_83 w_6 w_26 w_84) kk_X0_putSpan rfl ⟨Nat.le_of_ble_eq_true rfl, Nat.le_of_ble_eq_true rfl⟩ ⟨Nat.le_of_ble_eq_true rfl, Nat.le_of_ble_eq_true rfl⟩ ⟨Nat.le_of_ble_eq_true rfl, Nat.le_of_ble_eq_true rfl⟩ hP hS hl.1 rfl rfl (Nat.le_of_ble_eq_true rfl) dX0_reset_56 (fun h_72 => ?_) (fun h_72 H locs hP hS => ?_)
              · have hm : m_X0_reset z = ((m_X0_putSpan (0 : Int32) (0 : Int32) (0 : Int32) (0 : Int32) (vp_updL (vp_updL (vp_updL (vp_updL z.1 (1 : Int32).toNatClampNeg (1008673 : Int64)) (3 : Int32).toNatClampNeg (1008673 : Int64)) (4 : Int32).toNatClampNeg (1008673 : Int64)) (5 : Int32).toNatClampNeg (1008673 : Int64), z.2.1, z.2.2.1, z.2.2.2.1, z.2.2.2.2.1, z.2.2.2.2.2)).1, 0, (m_X0_putSpan (0 : Int32) (0 : Int32) (0 : Int32) (0 : Int32) (vp_updL (vp_updL (vp_updL (vp_updL z.1 (1 : Int32).toNatClampNeg (1008673 : Int64)) (3 : Int32).toNatClampNeg (1008673 : Int64)) (4 : Int32).toNatClampNeg (1008673 : Int64)) (5 : Int32).toNatClampNeg (1008673 : Int64), z.2.1, z.2.2.1, z.2.2.2.1, z.2.2.2.2.1, z.2.2.2.2.2)).2) := hm.trans (if_neg h_72)
                exact ⟨by rw [hm], by rw [hm]⟩
              · have hm := hm.trans (if_pos h_72)
                refine lv_iinc (v := (1 : Int32)) (lv' := [(2, .int (1 : Int32)), (1, .int (4 : Int32)), (0, .ref a.1)]) hx hb dX0_reset_59 hl (k := 0) rfl (by decide) (by decide) rfl (fun ls hl => ?_)
                refine lv_goto (tgt := 46) hx hb dX0_reset_62 (by decide) ?_
                refine lv_iload_n hx hb dX0_reset_46 rfl (lv_at hl 0 rfl) ?_
                refine lv_iconst (v := 2) hx hb dX0_reset_47 (by decide) ?_
                refine lv_icmp_ge (tgt := 65) hx hb dX0_reset_48 (by decide) (fun h => absurd h (by decide)) (fun _ => ?_)
                refine lv_aload_n hx hb dX0_reset_51 rfl (lv_at hl 2 rfl) ?_
                refine lv_iload_n hx hb dX0_reset_52 rfl (lv_at hl 0 rfl) ?_
                refine lv_iconst (v := 0) hx hb dX0_reset_53 (by decide) ?_
                refine lv_iconst (v := 0) hx hb dX0_reset_54 (by decide) ?_
                refine lv_iconst (v := 0) hx hb dX0_reset_55 (by decide) ?_
                refine cc_V hC hGx hD hEx hlocks (c_X0_putSpan l hl9 k a hD (1 : Int32) (0 : Int32) (0 : Int32) (0 : Int32) ((m_X0_putSpan (0 : Int32) (0 : Int32) (0 : Int32) (0 : Int32) (vp_updL (vp_updL (vp_updL (vp_updL z.1 (1 : Int32).toNatClampNeg (1008673 : Int64)) (3 : Int32).toNatClampNeg (1008673 : Int64)) (4 : Int32).toNatClampNeg (1008673 : Int64)) (5 : Int32).toNatClampNeg (1008673 : Int64), z.2.1, z.2.2.1, z.2.2.2.1, z.2.2.2.2.1, z.2.2.2.2.2)).2)) (gV w_82 w_83 w_6 w_26 w_84) kk_X0_putSpan rfl ⟨Nat.le_of_ble_eq_true rfl, Nat.le_of_ble_eq_true rfl⟩ ⟨Nat.le_of_ble_eq_true rfl, Nat.le_of_ble_eq_true rfl⟩ ⟨Nat.le_of_ble_eq_true rfl, Nat.le_of_ble_eq_true rfl⟩ hP hS hl.1 rfl rfl (Nat.le_of_ble_eq_true rfl) dX0_reset_56 (fun h_73 => ?_) (fun h_73 H locs hP hS => ?_)
                · have hm : m_X0_reset z = ((m_X0_putSpan (1 : Int32) (0 : Int32) (0 : Int32) (0 : Int32) ((m_X0_putSpan (0 : Int32) (0 : Int32) (0 : Int32) (0 : Int32) (vp_updL (vp_updL (vp_updL (vp_updL z.1 (1 : Int32).toNatClampNeg (1008673 : Int64)) (3 : Int32).toNatClampNeg (1008673 : Int64)) (4 : Int32).toNatClampNeg (1008673 : Int64)) (5 : Int32).toNatClampNeg (1008673 : Int64), z.2.1, z.2.2.1, z.2.2.2.1, z.2.2.2.2.1, z.2.2.2.2.2)).2)).1, 0, (m_X0_putSpan (1 : Int32) (0 : Int32) (0 : Int32) (0 : Int32) ((m_X0_putSpan (0 : Int32) (0 : Int32) (0 : Int32) (0 : Int32) (vp_updL (vp_updL (vp_updL (vp_updL z.1 (1 : Int32).toNatClampNeg (1008673 : Int64)) (3 : Int32).toNatClampNeg (1008673 : Int64)) (4 : Int32).toNatClampNeg (1008673 : Int64)) (5 : Int32).toNatClampNeg (1008673 : Int64), z.2.1, z.2.2.1, z.2.2.2.1, z.2.2.2.2.1, z.2.2.2.2.2)).2)).2) := hm.trans (if_neg h_73)
                  exact ⟨by rw [hm], by rw [hm]⟩
                · have hm := hm.trans (if_pos h_73)
                  refine lv_iinc (v := (2 : Int32)) (lv' := [(2, .int (2 : Int32)), (1, .int (4 : Int32)), (0, .ref a.1)]) hx hb dX0_reset_59 hl (k := 0) rfl (by decide) (by decide) rfl (fun ls hl => ?_)
                  refine lv_goto (tgt := 46) hx hb dX0_reset_62 (by decide) ?_
                  refine lv_iload_n hx hb dX0_reset_46 rfl (lv_at hl 0 rfl) ?_
                  refine lv_iconst (v := 2) hx hb dX0_reset_47 (by decide) ?_
                  refine lv_icmp_ge (tgt := 65) hx hb dX0_reset_48 (by decide) (fun _ => ?_) (fun h => absurd h (by decide))
                  refine lv_iload_n hx hb dX0_reset_65 rfl (lv_at hl 1 rfl) ?_
                  have hm : m_X0_reset z = (0, (4 : Int32), (m_X0_putSpan (1 : Int32) (0 : Int32) (0 : Int32) (0 : Int32) ((m_X0_putSpan (0 : Int32) (0 : Int32) (0 : Int32) (0 : Int32) (vp_updL (vp_updL (vp_updL (vp_updL z.1 (1 : Int32).toNatClampNeg (1008673 : Int64)) (3 : Int32).toNatClampNeg (1008673 : Int64)) (4 : Int32).toNatClampNeg (1008673 : Int64)) (5 : Int32).toNatClampNeg (1008673 : Int64), z.2.1, z.2.2.1, z.2.2.2.1, z.2.2.2.2.1, z.2.2.2.2.2)).2)).2) := hm
                  exact c_iret (E := (4 : Int32)) hx hb hr hlocks (by rw [hm]) (by rw [hm]) (by rw [hm]) hP hS ⟨Nat.le_of_ble_eq_true rfl, Nat.le_of_ble_eq_true rfl⟩ dX0_reset_66
      · have hm := hm.trans (if_neg h_50)
        refine lv_iinc (v := (2 : Int32)) (lv' := [(1, .int (2 : Int32)), (2, .int (2 : Int32)), (0, .ref a.1)]) hx hb dX0_reset_26 hl (k := 1) rfl (by decide) (by decide) rfl (fun ls hl => ?_)
        refine lv_aload_n hx hb dX0_reset_29 rfl (lv_at hl 2 rfl) ?_
        refine va_get (D := kD k) (ci := 2) (v := .ref a.2.1) (C := RX0) (T := TX0) (N := 6) hx hb htg inG_X0 hown hGx.1 hP 0 rfl rfl 0 (by decide) (htg _ w_57) (fun _ h9 => h9) rfl dX0_reset_30 ?_
        refine lv_iload_n hx hb dX0_reset_33 rfl (lv_at hl 1 rfl) ?_
        refine lv_ldc2 hx hb hown (htg _ w_56) dX0_reset_34 ?_
        refine va_last (D := kD k) hx hb hGx.1 hP (hD.own _ _) hS 1 0 rfl rfl (show ¬ ((2 : Int32) < 0 ∨ 6 ≤ ((2 : Int32)).toNatClampNeg) by decide) dX0_reset_37 (fun H locs hP1 _ hS => ?_)
        have hP : va_P (kD k) vwCl (cW k a (vp_updL (vp_updL z.1 (1 : Int32).toNatClampNeg (1008673 : Int64)) (2 : Int32).toNatClampNeg (1008673 : Int64), z.2.1, z.2.2.1, z.2.2.2.1, z.2.2.2.2.1, z.2.2.2.2.2)) H := hP1
        refine lv_iinc (v := (3 : Int32)) (lv' := [(2, .int (3 : Int32)), (1, .int (2 : Int32)), (0, .ref a.1)]) hx hb dX0_reset_38 hl (k := 1) rfl (by decide) (by decide) rfl (fun ls hl => ?_)
        refine lv_goto (tgt := 4) hx hb dX0_reset_41 (by decide) ?_
        refine lv_iload_n hx hb dX0_reset_4 rfl (lv_at hl 0 rfl) ?_
        refine lv_aload_n hx hb dX0_reset_5 rfl (lv_at hl 2 rfl) ?_
        refine va_get (D := kD k) (ci := 2) (v := .ref a.2.1) (C := RX0) (T := TX0) (N := 6) hx hb htg inG_X0 hown hGx.1 hP 0 rfl rfl 0 (by decide) (htg _ w_57) (fun _ h9 => h9) rfl dX0_reset_6 ?_
        refine va_alen (D := kD k) (v := 6) hx hb hGx.1 hP 1 0 rfl rfl (show Int32.ofNat 6 = 6 by decide) dX0_reset_9 ?_
        refine lv_icmp_ge (tgt := 44) hx hb dX0_reset_10 (by decide) (fun h => absurd h (by decide)) (fun _ => ?_)
        refine lv_aload_n hx hb dX0_reset_13 rfl (lv_at hl 2 rfl) ?_
        refine va_get (D := kD k) (ci := 2) (v := .ref a.2.1) (C := RX0) (T := TX0) (N := 6) hx hb htg inG_X0 hown hGx.1 hP 0 rfl rfl 0 (by decide) (htg _ w_57) (fun _ h9 => h9) rfl dX0_reset_14 ?_
        refine lv_iload_n hx hb dX0_reset_17 rfl (lv_at hl 0 rfl) ?_
        refine va_lald (D := kD k) hx hb hGx.1 hP 1 0 rfl rfl (show ¬ ((3 : Int32) < 0 ∨ 6 ≤ ((3 : Int32)).toNatClampNeg) by decide) dX0_reset_18 ?_
        refine lv_ldc2 hx hb hown (htg _ w_56) dX0_reset_19 ?_
        refine W.lcmp hx hb dX0_reset_22 ?_
        refine lv_if_eq (tgt := 38) hx hb dX0_reset_23 (by decide) (fun h_74 => ?_) (fun h_74 => ?_)
        · have hm := hm.trans (if_pos h_74)
          refine lv_iinc (v := (4 : Int32)) (lv' := [(2, .int (4 : Int32)), (1, .int (2 : Int32)), (0, .ref a.1)]) hx hb dX0_reset_38 hl (k := 0) rfl (by decide) (by decide) rfl (fun ls hl => ?_)
          refine lv_goto (tgt := 4) hx hb dX0_reset_41 (by decide) ?_
          refine lv_iload_n hx hb dX0_reset_4 rfl (lv_at hl 0 rfl) ?_
          refine lv_aload_n hx hb dX0_reset_5 rfl (lv_at hl 2 rfl) ?_
          refine va_get (D := kD k) (ci := 2) (v := .ref a.2.1) (C := RX0) (T := TX0) (N := 6) hx hb htg inG_X0 hown hGx.1 hP 0 rfl rfl 0 (by decide) (htg _ w_57) (fun _ h9 => h9) rfl dX0_reset_6 ?_
          refine va_alen (D := kD k) (v := 6) hx hb hGx.1 hP 1 0 rfl rfl (show Int32.ofNat 6 = 6 by decide) dX0_reset_9 ?_
          refine lv_icmp_ge (tgt := 44) hx hb dX0_reset_10 (by decide) (fun h => absurd h (by decide)) (fun _ => ?_)
          refine lv_aload_n hx hb dX0_reset_13 rfl (lv_at hl 2 rfl) ?_
          refine va_get (D := kD k) (ci := 2) (v := .ref a.2.1) (C := RX0) (T := TX0) (N := 6) hx hb htg inG_X0 hown hGx.1 hP 0 rfl rfl 0 (by decide) (htg _ w_57) (fun _ h9 => h9) rfl dX0_reset_14 ?_
          refine lv_iload_n hx hb dX0_reset_17 rfl (lv_at hl 0 rfl) ?_
          refine va_lald (D := kD k) hx hb hGx.1 hP 1 0 rfl rfl (show ¬ ((4 : Int32) < 0 ∨ 6 ≤ ((4 : Int32)).toNatClampNeg) by decide) dX0_reset_18 ?_
          refine lv_ldc2 hx hb hown (htg _ w_56) dX0_reset_19 ?_
          refine W.lcmp hx hb dX0_reset_22 ?_
          refine lv_if_eq (tgt := 38) hx hb dX0_reset_23 (by decide) (fun h_75 => ?_) (fun h_75 => ?_)
          · have hm := hm.trans (if_pos h_75)
            refine lv_iinc (v := (5 : Int32)) (lv' := [(2, .int (5 : Int32)), (1, .int (2 : Int32)), (0, .ref a.1)]) hx hb dX0_reset_38 hl (k := 0) rfl (by decide) (by decide) rfl (fun ls hl => ?_)
            refine lv_goto (tgt := 4) hx hb dX0_reset_41 (by decide) ?_
            refine lv_iload_n hx hb dX0_reset_4 rfl (lv_at hl 0 rfl) ?_
            refine lv_aload_n hx hb dX0_reset_5 rfl (lv_at hl 2 rfl) ?_
            refine va_get (D := kD k) (ci := 2) (v := .ref a.2.1) (C := RX0) (T := TX0) (N := 6) hx hb htg inG_X0 hown hGx.1 hP 0 rfl rfl 0 (by decide) (htg _ w_57) (fun _ h9 => h9) rfl dX0_reset_6 ?_
            refine va_alen (D := kD k) (v := 6) hx hb hGx.1 hP 1 0 rfl rfl (show Int32.ofNat 6 = 6 by decide) dX0_reset_9 ?_
            refine lv_icmp_ge (tgt := 44) hx hb dX0_reset_10 (by decide) (fun h => absurd h (by decide)) (fun _ => ?_)
            refine lv_aload_n hx hb dX0_reset_13 rfl (lv_at hl 2 rfl) ?_
            refine va_get (D := kD k) (ci := 2) (v := .ref a.2.1) (C := RX0) (T := TX0) (N := 6) hx hb htg inG_X0 hown hGx.1 hP 0 rfl rfl 0 (by decide) (htg _ w_57) (fun _ h9 => h9) rfl dX0_reset_14 ?_
            refine lv_iload_n hx hb dX0_reset_17 rfl (lv_at hl 0 rfl) ?_
            refine va_lald (D := kD k) hx hb hGx.1 hP 1 0 rfl rfl (show ¬ ((5 : Int32) < 0 ∨ 6 ≤ ((5 : Int32)).toNatClampNeg) by decide) dX0_reset_18 ?_
            refine lv_ldc2 hx hb hown (htg _ w_56) dX0_reset_19 ?_
            refine W.lcmp hx hb dX0_reset_22 ?_
            refine lv_if_eq (tgt := 38) hx hb dX0_reset_23 (by decide) (fun h_76 => ?_) (fun h_76 => ?_)
            · have hm := hm.trans (if_pos h_76)
              refine lv_iinc (v := (6 : Int32)) (lv' := [(2, .int (6 : Int32)), (1, .int (2 : Int32)), (0, .ref a.1)]) hx hb dX0_reset_38 hl (k := 0) rfl (by decide) (by decide) rfl (fun ls hl => ?_)
              refine lv_goto (tgt := 4) hx hb dX0_reset_41 (by decide) ?_
              refine lv_iload_n hx hb dX0_reset_4 rfl (lv_at hl 0 rfl) ?_
              refine lv_aload_n hx hb dX0_reset_5 rfl (lv_at hl 2 rfl) ?_
              refine va_get (D := kD k) (ci := 2) (v := .ref a.2.1) (C := RX0) (T := TX0) (N := 6) hx hb htg inG_X0 hown hGx.1 hP 0 rfl rfl 0 (by decide) (htg _ w_57) (fun _ h9 => h9) rfl dX0_reset_6 ?_
              refine va_alen (D := kD k) (v := 6) hx hb hGx.1 hP 1 0 rfl rfl (show Int32.ofNat 6 = 6 by decide) dX0_reset_9 ?_
              refine lv_icmp_ge (tgt := 44) hx hb dX0_reset_10 (by decide) (fun _ => ?_) (fun h => absurd h (by decide))
              refine lv_iconst (v := 0) hx hb dX0_reset_44 (by decide) ?_
              refine lv_istore_n (lv' := [(2, .int (0 : Int32)), (1, .int (2 : Int32)), (0, .ref a.1)]) hx hb dX0_reset_45 rfl hl (by decide) rfl (fun ls hl => ?_)
              refine lv_iload_n hx hb dX0_reset_46 rfl (lv_at hl 0 rfl) ?_
              refine lv_iconst (v := 2) hx hb dX0_reset_47 (by decide) ?_
              refine lv_icmp_ge (tgt := 65) hx hb dX0_reset_48 (by decide) (fun h => absurd h (by decide)) (fun _ => ?_)
              refine lv_aload_n hx hb dX0_reset_51 rfl (lv_at hl 2 rfl) ?_
              refine lv_iload_n hx hb dX0_reset_52 rfl (lv_at hl 0 rfl) ?_
              refine lv_iconst (v := 0) hx hb dX0_reset_53 (by decide) ?_
              refine lv_iconst (v := 0) hx hb dX0_reset_54 (by decide) ?_
              refine lv_iconst (v := 0) hx hb dX0_reset_55 (by decide) ?_
              refine cc_V hC hGx hD hEx hlocks (c_X0_putSpan l hl9 k a hD (0 : Int32) (0 : Int32) (0 : Int32) (0 : Int32) (vp_updL (vp_updL z.1 (1 : Int32).toNatClampNeg (1008673 : Int64)) (2 : Int32).toNatClampNeg (1008673 : Int64), z.2.1, z.2.2.1, z.2.2.2.1, z.2.2.2.2.1, z.2.2.2.2.2)) (gV w_82 w_83 w_6 w_26 w_84) kk_X0_putSpan rfl ⟨Nat.le_of_ble_eq_true rfl, Nat.le_of_ble_eq_true rfl⟩ ⟨Nat.le_of_ble_eq_true rfl, Nat.le_of_ble_eq_true rfl⟩ ⟨Nat.le_of_ble_eq_true rfl, Nat.le_of_ble_eq_true rfl⟩ hP hS hl.1 rfl rfl (Nat.le_of_ble_eq_true rfl) dX0_reset_56 (fun h_77 => ?_) (fun h_77 H locs hP hS => ?_)
              · have hm : m_X0_reset z = ((m_X0_putSpan (0 : Int32) (0 : Int32) (0 : Int32) (0 : Int32) (vp_updL (vp_updL z.1 (1 : Int32).toNatClampNeg (1008673 : Int64)) (2 : Int32).toNatClampNeg (1008673 : Int64), z.2.1, z.2.2.1, z.2.2.2.1, z.2.2.2.2.1, z.2.2.2.2.2)).1, 0, (m_X0_putSpan (0 : Int32) (0 : Int32) (0 : Int32) (0 : Int32) (vp_updL (vp_updL z.1 (1 : Int32).toNatClampNeg (1008673 : Int64)) (2 : Int32).toNatClampNeg (1008673 : Int64), z.2.1, z.2.2.1, z.2.2.2.1, z.2.2.2.2.1, z.2.2.2.2.2)).2) := hm.trans (if_neg h_77)
                exact ⟨by rw [hm], by rw [hm]⟩
              · have hm := hm.trans (if_pos h_77)
                refine lv_iinc (v := (1 : Int32)) (lv' := [(2, .int (1 : Int32)), (1, .int (2 : Int32)), (0, .ref a.1)]) hx hb dX0_reset_59 hl (k := 0) rfl (by decide) (by decide) rfl (fun ls hl => ?_)
                refine lv_goto (tgt := 46) hx hb dX0_reset_62 (by decide) ?_
                refine lv_iload_n hx hb dX0_reset_46 rfl (lv_at hl 0 rfl) ?_
                refine lv_iconst (v := 2) hx hb dX0_reset_47 (by decide) ?_
                refine lv_icmp_ge (tgt := 65) hx hb dX0_reset_48 (by decide) (fun h => absurd h (by decide)) (fun _ => ?_)
                refine lv_aload_n hx hb dX0_reset_51 rfl (lv_at hl 2 rfl) ?_
                refine lv_iload_n hx hb dX0_reset_52 rfl (lv_at hl 0 rfl) ?_
                refine lv_iconst (v := 0) hx hb dX0_reset_53 (by decide) ?_
                refine lv_iconst (v := 0) hx hb dX0_reset_54 (by decide) ?_
                refine lv_iconst (v := 0) hx hb dX0_reset_55 (by decide) ?_
                refine cc_V hC hGx hD hEx hlocks (c_X0_putSpan l hl9 k a hD (1 : Int32) (0 : Int32) (0 : Int32) (0 : Int32) ((m_X0_putSpan (0 : Int32) (0 : Int32) (0 : Int32) (0 : Int32) (vp_updL (vp_updL z.1 (1 : Int32).toNatClampNeg (1008673 : Int64)) (2 : Int32).toNatClampNeg (1008673 : Int64), z.2.1, z.2.2.1, z.2.2.2.1, z.2.2.2.2.1, z.2.2.2.2.2)).2)) (gV w_82 w_83 w_6 w_26 w_84) kk_X0_putSpan rfl ⟨Nat.le_of_ble_eq_true rfl, Nat.le_of_ble_eq_true rfl⟩ ⟨Nat.le_of_ble_eq_true rfl, Nat.le_of_ble_eq_true rfl⟩ ⟨Nat.le_of_ble_eq_true rfl, Nat.le_of_ble_eq_true rfl⟩ hP hS hl.1 rfl rfl (Nat.le_of_ble_eq_true rfl) dX0_reset_56 (fun h_78 => ?_) (fun h_78 H locs hP hS => ?_)
                · have hm : m_X0_reset z = ((m_X0_putSpan (1 : Int32) (0 : Int32) (0 : Int32) (0 : Int32) ((m_X0_putSpan (0 : Int32) (0 : Int32) (0 : Int32) (0 : Int32) (vp_updL (vp_updL z.1 (1 : Int32).toNatClampNeg (1008673 : Int64)) (2 : Int32).toNatClampNeg (1008673 : Int64), z.2.1, z.2.2.1, z.2.2.2.1, z.2.2.2.2.1, z.2.2.2.2.2)).2)).1, 0, (m_X0_putSpan (1 : Int32) (0 : Int32) (0 : Int32) (0 : Int32) ((m_X0_putSpan (0 : Int32) (0 : Int32) (0 : Int32) (0 : Int32) (vp_updL (vp_updL z.1 (1 : Int32).toNatClampNeg (1008673 : Int64)) (2 : Int32).toNatClampNeg (1008673 : Int64), z.2.1, z.2.2.1, z.2.2.2.1, z.2.2.2.2.1, z.2.2.2.2.2)).2)).2) := hm.trans (if_neg h_78)
                  exact ⟨by rw [hm], by rw [hm]⟩
                · have hm := hm.trans (if_pos h_78)
                  refine lv_iinc (v := (2 : Int32)) (lv' := [(2, .int (2 : Int32)), (1, .int (2 : Int32)), (0, .ref a.1)]) hx hb dX0_reset_59 hl (k := 0) rfl (by decide) (by decide) rfl (fun ls hl => ?_)
                  refine lv_goto (tgt := 46) hx hb dX0_reset_62 (by decide) ?_
                  refine lv_iload_n hx hb dX0_reset_46 rfl (lv_at hl 0 rfl) ?_
                  refine lv_iconst (v := 2) hx hb dX0_reset_47 (by decide) ?_
                  refine lv_icmp_ge (tgt := 65) hx hb dX0_reset_48 (by decide) (fun _ => ?_) (fun h => absurd h (by decide))
                  refine lv_iload_n hx hb dX0_reset_65 rfl (lv_at hl 1 rfl) ?_
                  have hm : m_X0_reset z = (0, (2 : Int32), (m_X0_putSpan (1 : Int32) (0 : Int32) (0 : Int32) (0 : Int32) ((m_X0_putSpan (0 : Int32) (0 : Int32) (0 : Int32) (0 : Int32) (vp_updL (vp_updL z.1 (1 : Int32).toNatClampNeg (1008673 : Int64)) (2 : Int32).toNatClampNeg (1008673 : Int64), z.2.1, z.2.2.1, z.2.2.2.1, z.2.2.2.2.1, z.2.2.2.2.2)).2)).2) := hm
                  exact c_iret (E := (2 : Int32)) hx hb hr hlocks (by rw [hm]) (by rw [hm]) (by rw [hm]) hP hS ⟨Nat.le_of_ble_eq_true rfl, Nat.le_of_ble_eq_true rfl⟩ dX0_reset_66
            · have hm := hm.trans (if_neg h_76)
              refine lv_iinc (v := (3 : Int32)) (lv' := [(1, .int (3 : Int32)), (2, .int (5 : Int32)), (0, .ref a.1)]) hx hb dX0_reset_26 hl (k := 1) rfl (by decide) (by decide) rfl (fun ls hl => ?_)
              refine lv_aload_n hx hb dX0_reset_29 rfl (lv_at hl 2 rfl) ?_
              refine va_get (D := kD k) (ci := 2) (v := .ref a.2.1) (C := RX0) (T := TX0) (N := 6) hx hb htg inG_X0 hown hGx.1 hP 0 rfl rfl 0 (by decide) (htg _ w_57) (fun _ h9 => h9) rfl dX0_reset_30 ?_
              refine lv_iload_n hx hb dX0_reset_33 rfl (lv_at hl 1 rfl) ?_
              refine lv_ldc2 hx hb hown (htg _ w_56) dX0_reset_34 ?_
              refine va_last (D := kD k) hx hb hGx.1 hP (hD.own _ _) hS 1 0 rfl rfl (show ¬ ((5 : Int32) < 0 ∨ 6 ≤ ((5 : Int32)).toNatClampNeg) by decide) dX0_reset_37 (fun H locs hP1 _ hS => ?_)
              have hP : va_P (kD k) vwCl (cW k a (vp_updL (vp_updL (vp_updL z.1 (1 : Int32).toNatClampNeg (1008673 : Int64)) (2 : Int32).toNatClampNeg (1008673 : Int64)) (5 : Int32).toNatClampNeg (1008673 : Int64), z.2.1, z.2.2.1, z.2.2.2.1, z.2.2.2.2.1, z.2.2.2.2.2)) H := hP1
              refine lv_iinc (v := (6 : Int32)) (lv' := [(2, .int (6 : Int32)), (1, .int (3 : Int32)), (0, .ref a.1)]) hx hb dX0_reset_38 hl (k := 1) rfl (by decide) (by decide) rfl (fun ls hl => ?_)
              refine lv_goto (tgt := 4) hx hb dX0_reset_41 (by decide) ?_
              refine lv_iload_n hx hb dX0_reset_4 rfl (lv_at hl 0 rfl) ?_
              refine lv_aload_n hx hb dX0_reset_5 rfl (lv_at hl 2 rfl) ?_
              refine va_get (D := kD k) (ci := 2) (v := .ref a.2.1) (C := RX0) (T := TX0) (N := 6) hx hb htg inG_X0 hown hGx.1 hP 0 rfl rfl 0 (by decide) (htg _ w_57) (fun _ h9 => h9) rfl dX0_reset_6 ?_
              refine va_alen (D := kD k) (v := 6) hx hb hGx.1 hP 1 0 rfl rfl (show Int32.ofNat 6 = 6 by decide) dX0_reset_9 ?_
              refine lv_icmp_ge (tgt := 44) hx hb dX0_reset_10 (by decide) (fun _ => ?_) (fun h => absurd h (by decide))
              refine lv_iconst (v := 0) hx hb dX0_reset_44 (by decide) ?_
              refine lv_istore_n (lv' := [(2, .int (0 : Int32)), (1, .int (3 : Int32)), (0, .ref a.1)]) hx hb dX0_reset_45 rfl hl (by decide) rfl (fun ls hl => ?_)
              refine lv_iload_n hx hb dX0_reset_46 rfl (lv_at hl 0 rfl) ?_
              refine lv_iconst (v := 2) hx hb dX0_reset_47 (by decide) ?_
              refine lv_icmp_ge (tgt := 65) hx hb dX0_reset_48 (by decide) (fun h => absurd h (by decide)) (fun _ => ?_)
              refine lv_aload_n hx hb dX0_reset_51 rfl (lv_at hl 2 rfl) ?_
              refine lv_iload_n hx hb dX0_reset_52 rfl (lv_at hl 0 rfl) ?_
              refine lv_iconst (v := 0) hx hb dX0_reset_53 (by decide) ?_
              refine lv_iconst (v := 0) hx hb dX0_reset_54 (by decide) ?_
              refine lv_iconst (v := 0) hx hb dX0_reset_55 (by decide) ?_
              refine cc_V hC hGx hD hEx hlocks (c_X0_putSpan l hl9 k a hD (0 : Int32) (0 : Int32) (0 : Int32) (0 : Int32) (vp_updL (vp_updL (vp_updL z.1 (1 : Int32).toNatClampNeg (1008673 : Int64)) (2 : Int32).toNatClampNeg (1008673 : Int64)) (5 : Int32).toNatClampNeg (1008673 : Int64), z.2.1, z.2.2.1, z.2.2.2.1, z.2.2.2.2.1, z.2.2.2.2.2)) (gV w_82 w_83 w_6 w_26 w_84) kk_X0_putSpan rfl ⟨Nat.le_of_ble_eq_true rfl, Nat.le_of_ble_eq_true rfl⟩ ⟨Nat.le_of_ble_eq_true rfl, Nat.le_of_ble_eq_true rfl⟩ ⟨Nat.le_of_ble_eq_true rfl, Nat.le_of_ble_eq_true rfl⟩ hP hS hl.1 rfl rfl (Nat.le_of_ble_eq_true rfl) dX0_reset_56 (fun h_79 => ?_) (fun h_79 H locs hP hS => ?_)
              · have hm : m_X0_reset z = ((m_X0_putSpan (0 : Int32) (0 : Int32) (0 : Int32) (0 : Int32) (vp_updL (vp_updL (vp_updL z.1 (1 : Int32).toNatClampNeg (1008673 : Int64)) (2 : Int32).toNatClampNeg (1008673 : Int64)) (5 : Int32).toNatClampNeg (1008673 : Int64), z.2.1, z.2.2.1, z.2.2.2.1, z.2.2.2.2.1, z.2.2.2.2.2)).1, 0, (m_X0_putSpan (0 : Int32) (0 : Int32) (0 : Int32) (0 : Int32) (vp_updL (vp_updL (vp_updL z.1 (1 : Int32).toNatClampNeg (1008673 : Int64)) (2 : Int32).toNatClampNeg (1008673 : Int64)) (5 : Int32).toNatClampNeg (1008673 : Int64), z.2.1, z.2.2.1, z.2.2.2.1, z.2.2.2.2.1, z.2.2.2.2.2)).2) := hm.trans (if_neg h_79)
                exact ⟨by rw [hm], by rw [hm]⟩
              · have hm := hm.trans (if_pos h_79)
                refine lv_iinc (v := (1 : Int32)) (lv' := [(2, .int (1 : Int32)), (1, .int (3 : Int32)), (0, .ref a.1)]) hx hb dX0_reset_59 hl (k := 0) rfl (by decide) (by decide) rfl (fun ls hl => ?_)
                refine lv_goto (tgt := 46) hx hb dX0_reset_62 (by decide) ?_
                refine lv_iload_n hx hb dX0_reset_46 rfl (lv_at hl 0 rfl) ?_
                refine lv_iconst (v := 2) hx hb dX0_reset_47 (by decide) ?_
                refine lv_icmp_ge (tgt := 65) hx hb dX0_reset_48 (by decide) (fun h => absurd h (by decide)) (fun _ => ?_)
                refine lv_aload_n hx hb dX0_reset_51 rfl (lv_at hl 2 rfl) ?_
                refine lv_iload_n hx hb dX0_reset_52 rfl (lv_at hl 0 rfl) ?_
                refine lv_iconst (v := 0) hx hb dX0_reset_53 (by decide) ?_
                refine lv_iconst (v := 0) hx hb dX0_reset_54 (by decide) ?_
                refine lv_iconst (v := 0) hx hb dX0_reset_55 (by decide) ?_
                refine cc_V hC hGx hD hEx hlocks (c_X0_putSpan l hl9 k a hD (1 : Int32) (0 : Int32) (0 : Int32) (0 : Int32) ((m_X0_putSpan (0 : Int32) (0 : Int32) (0 : Int32) (0 : Int32) (vp_updL (vp_updL (vp_updL z.1 (1 : Int32).toNatClampNeg (1008673 : Int64)) (2 : Int32).toNatClampNeg (1008673 : Int64)) (5 : Int32).toNatClampNeg (1008673 : Int64), z.2.1, z.2.2.1, z.2.2.2.1, z.2.2.2.2.1, z.2.2.2.2.2)).2)) (gV w_82 w_83 w_6 w_26 w_84) kk_X0_putSpan rfl ⟨Nat.le_of_ble_eq_true rfl, Nat.le_of_ble_eq_true rfl⟩ ⟨Nat.le_of_ble_eq_true rfl, Nat.le_of_ble_eq_true rfl⟩ ⟨Nat.le_of_ble_eq_true rfl, Nat.le_of_ble_eq_true rfl⟩ hP hS hl.1 rfl rfl (Nat.le_of_ble_eq_true rfl) dX0_reset_56 (fun h_80 => ?_) (fun h_80 H locs hP hS => ?_)
                · have hm : m_X0_reset z = ((m_X0_putSpan (1 : Int32) (0 : Int32) (0 : Int32) (0 : Int32) ((m_X0_putSpan (0 : Int32) (0 : Int32) (0 : Int32) (0 : Int32) (vp_updL (vp_updL (vp_updL z.1 (1 : Int32).toNatClampNeg (1008673 : Int64)) (2 : Int32).toNatClampNeg (1008673 : Int64)) (5 : Int32).toNatClampNeg (1008673 : Int64), z.2.1, z.2.2.1, z.2.2.2.1, z.2.2.2.2.1, z.2.2.2.2.2)).2)).1, 0, (m_X0_putSpan (1 : Int32) (0 : Int32) (0 : Int32) (0 : Int32) ((m_X0_putSpan (0 : Int32) (0 : Int32) (0 : Int32) (0 : Int32) (vp_updL (vp_updL (vp_updL z.1 (1 : Int32).toNatClampNeg (1008673 : Int64)) (2 : Int32).toNatClampNeg (1008673 : Int64)) (5 : Int32).toNatClampNeg (1008673 : Int64), z.2.1, z.2.2.1, z.2.2.2.1, z.2.2.2.2.1, z.2.2.2.2.2)).2)).2) := hm.trans (if_neg h_80)
                  exact ⟨by rw [hm], by rw [hm]⟩
                · have hm := hm.trans (if_pos h_80)
                  refine lv_iinc (v := (2 : Int32)) (lv' := [(2, .int (2 : Int32)), (1, .int (3 : Int32)), (0, .ref a.1)]) hx hb dX0_reset_59 hl (k := 0) rfl (by decide) (by decide) rfl (fun ls hl => ?_)
                  refine lv_goto (tgt := 46) hx hb dX0_reset_62 (by decide) ?_
                  refine lv_iload_n hx hb dX0_reset_46 rfl (lv_at hl 0 rfl) ?_
                  refine lv_iconst (v := 2) hx hb dX0_reset_47 (by decide) ?_
                  refine lv_icmp_ge (tgt := 65) hx hb dX0_reset_48 (by decide) (fun _ => ?_) (fun h => absurd h (by decide))
                  refine lv_iload_n hx hb dX0_reset_65 rfl (lv_at hl 1 rfl) ?_
                  have hm : m_X0_reset z = (0, (3 : Int32), (m_X0_putSpan (1 : Int32) (0 : Int32) (0 : Int32) (0 : Int32) ((m_X0_putSpan (0 : Int32) (0 : Int32) (0 : Int32) (0 : Int32) (vp_updL (vp_updL (vp_updL z.1 (1 : Int32).toNatClampNeg (1008673 : Int64)) (2 : Int32).toNatClampNeg (1008673 : Int64)) (5 : Int32).toNatClampNeg (1008673 : Int64), z.2.1, z.2.2.1, z.2.2.2.1, z.2.2.2.2.1, z.2.2.2.2.2)).2)).2) := hm
                  exact c_iret (E := (3 : Int32)) hx hb hr hlocks (by rw [hm]) (by rw [hm]) (by rw [hm]) hP hS ⟨Nat.le_of_ble_eq_true rfl, Nat.le_of_ble_eq_true rfl⟩ dX0_reset_66
          · have hm := hm.trans (if_neg h_75)
            refine lv_iinc (v := (3 : Int32)) (lv' := [(1, .int (3 : Int32)), (2, .int (4 : Int32)), (0, .ref a.1)]) hx hb dX0_reset_26 hl (k := 1) rfl (by decide) (by decide) rfl (fun ls hl => ?_)
            refine lv_aload_n hx hb dX0_reset_29 rfl (lv_at hl 2 rfl) ?_
            refine va_get (D := kD k) (ci := 2) (v := .ref a.2.1) (C := RX0) (T := TX0) (N := 6) hx hb htg inG_X0 hown hGx.1 hP 0 rfl rfl 0 (by decide) (htg _ w_57) (fun _ h9 => h9) rfl dX0_reset_30 ?_
            refine lv_iload_n hx hb dX0_reset_33 rfl (lv_at hl 1 rfl) ?_
            refine lv_ldc2 hx hb hown (htg _ w_56) dX0_reset_34 ?_
            refine va_last (D := kD k) hx hb hGx.1 hP (hD.own _ _) hS 1 0 rfl rfl (show ¬ ((4 : Int32) < 0 ∨ 6 ≤ ((4 : Int32)).toNatClampNeg) by decide) dX0_reset_37 (fun H locs hP1 _ hS => ?_)
            have hP : va_P (kD k) vwCl (cW k a (vp_updL (vp_updL (vp_updL z.1 (1 : Int32).toNatClampNeg (1008673 : Int64)) (2 : Int32).toNatClampNeg (1008673 : Int64)) (4 : Int32).toNatClampNeg (1008673 : Int64), z.2.1, z.2.2.1, z.2.2.2.1, z.2.2.2.2.1, z.2.2.2.2.2)) H := hP1
            refine lv_iinc (v := (5 : Int32)) (lv' := [(2, .int (5 : Int32)), (1, .int (3 : Int32)), (0, .ref a.1)]) hx hb dX0_reset_38 hl (k := 1) rfl (by decide) (by decide) rfl (fun ls hl => ?_)
            refine lv_goto (tgt := 4) hx hb dX0_reset_41 (by decide) ?_
            refine lv_iload_n hx hb dX0_reset_4 rfl (lv_at hl 0 rfl) ?_
            refine lv_aload_n hx hb dX0_reset_5 rfl (lv_at hl 2 rfl) ?_
            refine va_get (D := kD k) (ci := 2) (v := .ref a.2.1) (C := RX0) (T := TX0) (N := 6) hx hb htg inG_X0 hown hGx.1 hP 0 rfl rfl 0 (by decide) (htg _ w_57) (fun _ h9 => h9) rfl dX0_reset_6 ?_
            refine va_alen (D := kD k) (v := 6) hx hb hGx.1 hP 1 0 rfl rfl (show Int32.ofNat 6 = 6 by decide) dX0_reset_9 ?_
            refine lv_icmp_ge (tgt := 44) hx hb dX0_reset_10 (by decide) (fun h => absurd h (by decide)) (fun _ => ?_)
            refine lv_aload_n hx hb dX0_reset_13 rfl (lv_at hl 2 rfl) ?_
            refine va_get (D := kD k) (ci := 2) (v := .ref a.2.1) (C := RX0) (T := TX0) (N := 6) hx hb htg inG_X0 hown hGx.1 hP 0 rfl rfl 0 (by decide) (htg _ w_57) (fun _ h9 => h9) rfl dX0_reset_14 ?_
            refine lv_iload_n hx hb dX0_reset_17 rfl (lv_at hl 0 rfl) ?_
            refine va_lald (D := kD k) hx hb hGx.1 hP 1 0 rfl rfl (show ¬ ((5 : Int32) < 0 ∨ 6 ≤ ((5 : Int32)).toNatClampNeg) by decide) dX0_reset_18 ?_
            refine lv_ldc2 hx hb hown (htg _ w_56) dX0_reset_19 ?_
            refine W.lcmp hx hb dX0_reset_22 ?_
            refine lv_if_eq (tgt := 38) hx hb dX0_reset_23 (by decide) (fun h_81 => ?_) (fun h_81 => ?_)
            · have hm := hm.trans (if_pos h_81)
              refine lv_iinc (v := (6 : Int32)) (lv' := [(2, .int (6 : Int32)), (1, .int (3 : Int32)), (0, .ref a.1)]) hx hb dX0_reset_38 hl (k := 0) rfl (by decide) (by decide) rfl (fun ls hl => ?_)
              refine lv_goto (tgt := 4) hx hb dX0_reset_41 (by decide) ?_
              refine lv_iload_n hx hb dX0_reset_4 rfl (lv_at hl 0 rfl) ?_
              refine lv_aload_n hx hb dX0_reset_5 rfl (lv_at hl 2 rfl) ?_
              refine va_get (D := kD k) (ci := 2) (v := .ref a.2.1) (C := RX0) (T := TX0) (N := 6) hx hb htg inG_X0 hown hGx.1 hP 0 rfl rfl 0 (by decide) (htg _ w_57) (fun _ h9 => h9) rfl dX0_reset_6 ?_
              refine va_alen (D := kD k) (v := 6) hx hb hGx.1 hP 1 0 rfl rfl (show Int32.ofNat 6 = 6 by decide) dX0_reset_9 ?_
              refine lv_icmp_ge (tgt := 44) hx hb dX0_reset_10 (by decide) (fun _ => ?_) (fun h => absurd h (by decide))
              refine lv_iconst (v := 0) hx hb dX0_reset_44 (by decide) ?_
              refine lv_istore_n (lv' := [(2, .int (0 : Int32)), (1, .int (3 : Int32)), (0, .ref a.1)]) hx hb dX0_reset_45 rfl hl (by decide) rfl (fun ls hl => ?_)
              refine lv_iload_n hx hb dX0_reset_46 rfl (lv_at hl 0 rfl) ?_
              refine lv_iconst (v := 2) hx hb dX0_reset_47 (by decide) ?_
              refine lv_icmp_ge (tgt := 65) hx hb dX0_reset_48 (by decide) (fun h => absurd h (by decide)) (fun _ => ?_)
              refine lv_aload_n hx hb dX0_reset_51 rfl (lv_at hl 2 rfl) ?_
              refine lv_iload_n hx hb dX0_reset_52 rfl (lv_at hl 0 rfl) ?_
              refine lv_iconst (v := 0) hx hb dX0_reset_53 (by decide) ?_
              refine lv_iconst (v := 0) hx hb dX0_reset_54 (by decide) ?_
              refine lv_iconst (v := 0) hx hb dX0_reset_55 (by decide) ?_
              refine cc_V hC hGx hD hEx hlocks (c_X0_putSpan l hl9 k a hD (0 : Int32) (0 : Int32) (0 : Int32) (0 : Int32) (vp_updL (vp_updL (vp_updL z.1 (1 : Int32).toNatClampNeg (1008673 : Int64)) (2 : Int32).toNatClampNeg (1008673 : Int64)) (4 : Int32).toNatClampNeg (1008673 : Int64), z.2.1, z.2.2.1, z.2.2.2.1, z.2.2.2.2.1, z.2.2.2.2.2)) (gV w_82 w_83 w_6 w_26 w_84) kk_X0_putSpan rfl ⟨Nat.le_of_ble_eq_true rfl, Nat.le_of_ble_eq_true rfl⟩ ⟨Nat.le_of_ble_eq_true rfl, Nat.le_of_ble_eq_true rfl⟩ ⟨Nat.le_of_ble_eq_true rfl, Nat.le_of_ble_eq_true rfl⟩ hP hS hl.1 rfl rfl (Nat.le_of_ble_eq_true rfl) dX0_reset_56 (fun h_82 => ?_) (fun h_82 H locs hP hS => ?_)
              · have hm : m_X0_reset z = ((m_X0_putSpan (0 : Int32) (0 : Int32) (0 : Int32) (0 : Int32) (vp_updL (vp_updL (vp_updL z.1 (1 : Int32).toNatClampNeg (1008673 : Int64)) (2 : Int32).toNatClampNeg (1008673 : Int64)) (4 : Int32).toNatClampNeg (1008673 : Int64), z.2.1, z.2.2.1, z.2.2.2.1, z.2.2.2.2.1, z.2.2.2.2.2)).1, 0, (m_X0_putSpan (0 : Int32) (0 : Int32) (0 : Int32) (0 : Int32) (vp_updL (vp_updL (vp_updL z.1 (1 : Int32).toNatClampNeg (1008673 : Int64)) (2 : Int32).toNatClampNeg (1008673 : Int64)) (4 : Int32).toNatClampNeg (1008673 : Int64), z.2.1, z.2.2.1, z.2.2.2.1, z.2.2.2.2.1, z.2.2.2.2.2)).2) := hm.trans (if_neg h_82)
                exact ⟨by rw [hm], by rw [hm]⟩
              · have hm := hm.trans (if_pos h_82)
                refine lv_iinc (v := (1 : Int32)) (lv' := [(2, .int (1 : Int32)), (1, .int (3 : Int32)), (0, .ref a.1)]) hx hb dX0_reset_59 hl (k := 0) rfl (by decide) (by decide) rfl (fun ls hl => ?_)
                refine lv_goto (tgt := 46) hx hb dX0_reset_62 (by decide) ?_
                refine lv_iload_n hx hb dX0_reset_46 rfl (lv_at hl 0 rfl) ?_
                refine lv_iconst (v := 2) hx hb dX0_reset_47 (by decide) ?_
                refine lv_icmp_ge (tgt := 65) hx hb dX0_reset_48 (by decide) (fun h => absurd h (by decide)) (fun _ => ?_)
                refine lv_aload_n hx hb dX0_reset_51 rfl (lv_at hl 2 rfl) ?_
                refine lv_iload_n hx hb dX0_reset_52 rfl (lv_at hl 0 rfl) ?_
                refine lv_iconst (v := 0) hx hb dX0_reset_53 (by decide) ?_
                refine lv_iconst (v := 0) hx hb dX0_reset_54 (by decide) ?_
                refine lv_iconst (v := 0) hx hb dX0_reset_55 (by decide) ?_
                refine cc_V hC hGx hD hEx hlocks (c_X0_putSpan l hl9 k a hD (1 : Int32) (0 : Int32) (0 : Int32) (0 : Int32) ((m_X0_putSpan (0 : Int32) (0 : Int32) (0 : Int32) (0 : Int32) (vp_updL (vp_updL (vp_updL z.1 (1 : Int32).toNatClampNeg (1008673 : Int64)) (2 : Int32).toNatClampNeg (1008673 : Int64)) (4 : Int32).toNatClampNeg (1008673 : Int64), z.2.1, z.2.2.1, z.2.2.2.1, z.2.2.2.2.1, z.2.2.2.2.2)).2)) (gV w_82 w_83 w_6 w_26 w_84) kk_X0_putSpan rfl ⟨Nat.le_of_ble_eq_true rfl, Nat.le_of_ble_eq_true rfl⟩ ⟨Nat.le_of_ble_eq_true rfl, Nat.le_of_ble_eq_true rfl⟩ ⟨Nat.le_of_ble_eq_true rfl, Nat.le_of_ble_eq_true rfl⟩ hP hS hl.1 rfl rfl (Nat.le_of_ble_eq_true rfl) dX0_reset_56 (fun h_83 => ?_) (fun h_83 H locs hP hS => ?_)
                · have hm : m_X0_reset z = ((m_X0_putSpan (1 : Int32) (0 : Int32) (0 : Int32) (0 : Int32) ((m_X0_putSpan (0 : Int32) (0 : Int32) (0 : Int32) (0 : Int32) (vp_updL (vp_updL (vp_updL z.1 (1 : Int32).toNatClampNeg (1008673 : Int64)) (2 : Int32).toNatClampNeg (1008673 : Int64)) (4 : Int32).toNatClampNeg (1008673 : Int64), z.2.1, z.2.2.1, z.2.2.2.1, z.2.2.2.2.1, z.2.2.2.2.2)).2)).1, 0, (m_X0_putSpan (1 : Int32) (0 : Int32) (0 : Int32) (0 : Int32) ((m_X0_putSpan (0 : Int32) (0 : Int32) (0 : Int32) (0 : Int32) (vp_updL (vp_updL (vp_updL z.1 (1 : Int32).toNatClampNeg (1008673 : Int64)) (2 : Int32).toNatClampNeg (1008673 : Int64)) (4 : Int32).toNatClampNeg (1008673 : Int64), z.2.1, z.2.2.1, z.2.2.2.1, z.2.2.2.2.1, z.2.2.2.2.2)).2)).2) := hm.trans (if_neg h_83)
                  exact ⟨by rw [hm], by rw [hm]⟩
                · have hm := hm.trans (if_pos h_83)
                  refine lv_iinc (v := (2 : Int32)) (lv' := [(2, .int (2 : Int32)), (1, .int (3 : Int32)), (0, .ref a.1)]) hx hb dX0_reset_59 hl (k := 0) rfl (by decide) (by decide) rfl (fun ls hl => ?_)
                  refine lv_goto (tgt := 46) hx hb dX0_reset_62 (by decide) ?_
                  refine lv_iload_n hx hb dX0_reset_46 rfl (lv_at hl 0 rfl) ?_
                  refine lv_iconst (v := 2) hx hb dX0_reset_47 (by decide) ?_
                  refine lv_icmp_ge (tgt := 65) hx hb dX0_reset_48 (by decide) (fun _ => ?_) (fun h => absurd h (by decide))
                  refine lv_iload_n hx hb dX0_reset_65 rfl (lv_at hl 1 rfl) ?_
                  have hm : m_X0_reset z = (0, (3 : Int32), (m_X0_putSpan (1 : Int32) (0 : Int32) (0 : Int32) (0 : Int32) ((m_X0_putSpan (0 : Int32) (0 : Int32) (0 : Int32) (0 : Int32) (vp_updL (vp_updL (vp_updL z.1 (1 : Int32).toNatClampNeg (1008673 : Int64)) (2 : Int32).toNatClampNeg (1008673 : Int64)) (4 : Int32).toNatClampNeg (1008673 : Int64), z.2.1, z.2.2.1, z.2.2.2.1, z.2.2.2.2.1, z.2.2.2.2.2)).2)).2) := hm
                  exact c_iret (E := (3 : Int32)) hx hb hr hlocks (by rw [hm]) (by rw [hm]) (by rw [hm]) hP hS ⟨Nat.le_of_ble_eq_true rfl, Nat.le_of_ble_eq_true rfl⟩ dX0_reset_66
            · have hm := hm.trans (if_neg h_81)
              refine lv_iinc (v := (4 : Int32)) (lv' := [(1, .int (4 : Int32)), (2, .int (5 : Int32)), (0, .ref a.1)]) hx hb dX0_reset_26 hl (k := 1) rfl (by decide) (by decide) rfl (fun ls hl => ?_)
              refine lv_aload_n hx hb dX0_reset_29 rfl (lv_at hl 2 rfl) ?_
              refine va_get (D := kD k) (ci := 2) (v := .ref a.2.1) (C := RX0) (T := TX0) (N := 6) hx hb htg inG_X0 hown hGx.1 hP 0 rfl rfl 0 (by decide) (htg _ w_57) (fun _ h9 => h9) rfl dX0_reset_30 ?_
              refine lv_iload_n hx hb dX0_reset_33 rfl (lv_at hl 1 rfl) ?_
              refine lv_ldc2 hx hb hown (htg _ w_56) dX0_reset_34 ?_
              refine va_last (D := kD k) hx hb hGx.1 hP (hD.own _ _) hS 1 0 rfl rfl (show ¬ ((5 : Int32) < 0 ∨ 6 ≤ ((5 : Int32)).toNatClampNeg) by decide) dX0_reset_37 (fun H locs hP1 _ hS => ?_)
              have hP : va_P (kD k) vwCl (cW k a (vp_updL (vp_updL (vp_updL (vp_updL z.1 (1 : Int32).toNatClampNeg (1008673 : Int64)) (2 : Int32).toNatClampNeg (1008673 : Int64)) (4 : Int32).toNatClampNeg (1008673 : Int64)) (5 : Int32).toNatClampNeg (1008673 : Int64), z.2.1, z.2.2.1, z.2.2.2.1, z.2.2.2.2.1, z.2.2.2.2.2)) H := hP1
              refine lv_iinc (v := (6 : Int32)) (lv' := [(2, .int (6 : Int32)), (1, .int (4 : Int32)), (0, .ref a.1)]) hx hb dX0_reset_38 hl (k := 1) rfl (by decide) (by decide) rfl (fun ls hl => ?_)
              refine lv_goto (tgt := 4) hx hb dX0_reset_41 (by decide) ?_
              refine lv_iload_n hx hb dX0_reset_4 rfl (lv_at hl 0 rfl) ?_
              refine lv_aload_n hx hb dX0_reset_5 rfl (lv_at hl 2 rfl) ?_
              refine va_get (D := kD k) (ci := 2) (v := .ref a.2.1) (C := RX0) (T := TX0) (N := 6) hx hb htg inG_X0 hown hGx.1 hP 0 rfl rfl 0 (by decide) (htg _ w_57) (fun _ h9 => h9) rfl dX0_reset_6 ?_
              refine va_alen (D := kD k) (v := 6) hx hb hGx.1 hP 1 0 rfl rfl (show Int32.ofNat 6 = 6 by decide) dX0_reset_9 ?_
              refine lv_icmp_ge (tgt := 44) hx hb dX0_reset_10 (by decide) (fun _ => ?_) (fun h => absurd h (by decide))
              refine lv_iconst (v := 0) hx hb dX0_reset_44 (by decide) ?_
              refine lv_istore_n (lv' := [(2, .int (0 : Int32)), (1, .int (4 : Int32)), (0, .ref a.1)]) hx hb dX0_reset_45 rfl hl (by decide) rfl (fun ls hl => ?_)
              refine lv_iload_n hx hb dX0_reset_46 rfl (lv_at hl 0 rfl) ?_
              refine lv_iconst (v := 2) hx hb dX0_reset_47 (by decide) ?_
              refine lv_icmp_ge (tgt := 65) hx hb dX0_reset_48 (by decide) (fun h => absurd h (by decide)) (fun _ => ?_)
              refine lv_aload_n hx hb dX0_reset_51 rfl (lv_at hl 2 rfl) ?_
              refine lv_iload_n hx hb dX0_reset_52 rfl (lv_at hl 0 rfl) ?_
              refine lv_iconst (v := 0) hx hb dX0_reset_53 (by decide) ?_
              refine lv_iconst (v := 0) hx hb dX0_reset_54 (by decide) ?_
              refine lv_iconst (v := 0) hx hb dX0_reset_55 (by decide) ?_
              refine cc_V hC hGx hD hEx hlocks (c_X0_putSpan l hl9 k a hD (0 : Int32) (0 : Int32) (0 : Int32) (0 : Int32) (vp_updL (vp_updL (vp_updL (vp_updL z.1 (1 : Int32).toNatClampNeg (1008673 : Int64)) (2 : Int32).toNatClampNeg (1008673 : Int64)) (4 : Int32).toNatClampNeg (1008673 : Int64)) (5 : Int32).toNatClampNeg (1008673 : Int64), z.2.1, z.2.2.1, z.2.2.2.1, z.2.2.2.2.1, z.2.2.2.2.2)) (gV w_82 w_83 w_6 w_26 w_84) kk_X0_putSpan rfl ⟨Nat.le_of_ble_eq_true rfl, Nat.le_of_ble_eq_true rfl⟩ ⟨Nat.le_of_ble_eq_true rfl, Nat.le_of_ble_eq_true rfl⟩ ⟨Nat.le_of_ble_eq_true rfl, Nat.le_of_ble_eq_true rfl⟩ hP hS hl.1 rfl rfl (Nat.le_of_ble_eq_true rfl) dX0_reset_56 (fun h_84 => ?_) (fun h_84 H locs hP hS => ?_)
              · have hm : m_X0_reset z = ((m_X0_putSpan (0 : Int32) (0 : Int32) (0 : Int32) (0 : Int32) (vp_updL (vp_updL (vp_updL (vp_updL z.1 (1 : Int32).toNatClampNeg (1008673 : Int64)) (2 : Int32).toNatClampNeg (1008673 : Int64)) (4 : Int32).toNatClampNeg (1008673 : Int64)) (5 : Int32).toNatClampNeg (1008673 : Int64), z.2.1, z.2.2.1, z.2.2.2.1, z.2.2.2.2.1, z.2.2.2.2.2)).1, 0, (m_X0_putSpan (0 : Int32) (0 : Int32) (0 : Int32) (0 : Int32) (vp_updL (vp_updL (vp_updL (vp_updL z.1 (1 : Int32).toNatClampNeg (1008673 : Int64)) (2 : Int32).toNatClampNeg (1008673 : Int64)) (4 : Int32).toNatClampNeg (1008673 : Int64)) (5 : Int32).toNatClampNeg (1008673 : Int64), z.2.1, z.2.2.1, z.2.2.2.1, z.2.2.2.2.1, z.2.2.2.2.2)).2) := hm.trans (if_neg h_84)
                exact ⟨by rw [hm], by rw [hm]⟩
              · have hm := hm.trans (if_pos h_84)
                refine lv_iinc (v := (1 : Int32)) (lv' := [(2, .int (1 : Int32)), (1, .int (4 : Int32)), (0, .ref a.1)]) hx hb dX0_reset_59 hl (k := 0) rfl (by decide) (by decide) rfl (fun ls hl => ?_)
                refine lv_goto (tgt := 46) hx hb dX0_reset_62 (by decide) ?_
                refine lv_iload_n hx hb dX0_reset_46 rfl (lv_at hl 0 rfl) ?_
                refine lv_iconst (v := 2) hx hb dX0_reset_47 (by decide) ?_
                refine lv_icmp_ge (tgt := 65) hx hb dX0_reset_48 (by decide) (fun h => absurd h (by decide)) (fun _ => ?_)
                refine lv_aload_n hx hb dX0_reset_51 rfl (lv_at hl 2 rfl) ?_
                refine lv_iload_n hx hb dX0_reset_52 rfl (lv_at hl 0 rfl) ?_
                refine lv_iconst (v := 0) hx hb dX0_reset_53 (by decide) ?_
                refine lv_iconst (v := 0) hx hb dX0_reset_54 (by decide) ?_
                refine lv_iconst (v := 0) hx hb dX0_reset_55 (by decide) ?_
                refine cc_V hC hGx hD hEx hlocks (c_X0_putSpan l hl9 k a hD (1 : Int32) (0 : Int32) (0 : Int32) (0 : Int32) ((m_X0_putSpan (0 : Int32) (0 : Int32) (0 : Int32) (0 : Int32) (vp_updL (vp_updL (vp_updL (vp_updL z.1 (1 : Int32).toNatClampNeg (1008673 : Int64)) (2 : Int32).toNatClampNeg (1008673 : Int64)) (4 : Int32).toNatClampNeg (1008673 : Int64)) (5 : Int32).toNatClampNeg (1008673 : Int64), z.2.1, z.2.2.1, z.2.2.2.1, z.2.2.2.2.1, z.2.2.2.2.2)).2)) (gV w_82 w_83 w_6 w_26 w_84) kk_X0_putSpan rfl ⟨Nat.le_of_ble_eq_true rfl, Nat.le_of_ble_eq_true rfl⟩ ⟨Nat.le_of_ble_eq_true rfl, Nat.le_of_ble_eq_true rfl⟩ ⟨Nat.le_of_ble_eq_true rfl, Nat.le_of_ble_eq_true rfl⟩ hP hS hl.1 rfl rfl (Nat.le_of_ble_eq_true rfl) dX0_reset_56 (fun h_85 => ?_) (fun h_85 H locs hP hS => ?_)
                · have hm : m_X0_reset z = ((m_X0_putSpan (1 : Int32) (0 : Int32) (0 : Int32) (0 : Int32) ((m_X0_putSpan (0 : Int32) (0 : Int32) (0 : Int32) (0 : Int32) (vp_updL (vp_updL (vp_updL (vp_updL z.1 (1 : Int32).toNatClampNeg (1008673 : Int64)) (2 : Int32).toNatClampNeg (1008673 : Int64)) (4 : Int32).toNatClampNeg (1008673 : Int64)) (5 : Int32).toNatClampNeg (1008673 : Int64), z.2.1, z.2.2.1, z.2.2.2.1, z.2.2.2.2.1, z.2.2.2.2.2)).2)).1, 0, (m_X0_putSpan (1 : Int32) (0 : Int32) (0 : Int32) (0 : Int32) ((m_X0_putSpan (0 : Int32) (0 : Int32) (0 : Int32) (0 : Int32) (vp_updL (vp_updL (vp_updL (vp_updL z.1 (1 : Int32).toNatClampNeg (1008673 : Int64)) (2 : Int32).toNatClampNeg (1008673 : Int64)) (4 : Int32).toNatClampNeg (1008673 : Int64)) (5 : Int32).toNatClampNeg (1008673 : Int64), z.2.1, z.2.2.1, z.2.2.2.1, z.2.2.2.2.1, z.2.2.2.2.2)).2)).2) := hm.trans (if_neg h_85)
                  exact ⟨by rw [hm], by rw [hm]⟩
                · have hm := hm.trans (if_pos h_85)
                  refine lv_iinc (v := (2 : Int32)) (lv' := [(2, .int (2 : Int32)), (1, .int (4 : Int32)), (0, .ref a.1)]) hx hb dX0_reset_59 hl (k := 0) rfl (by decide) (by decide) rfl (fun ls hl => ?_)
                  refine lv_goto (tgt := 46) hx hb dX0_reset_62 (by decide) ?_
                  refine lv_iload_n hx hb dX0_reset_46 rfl (lv_at hl 0 rfl) ?_
                  refine lv_iconst (v := 2) hx hb dX0_reset_47 (by decide) ?_
                  refine lv_icmp_ge (tgt := 65) hx hb dX0_reset_48 (by decide) (fun _ => ?_) (fun h => absurd h (by decide))
                  refine lv_iload_n hx hb dX0_reset_65 rfl (lv_at hl 1 rfl) ?_
                  have hm : m_X0_reset z = (0, (4 : Int32), (m_X0_putSpan (1 : Int32) (0 : Int32) (0 : Int32) (0 : Int32) ((m_X0_putSpan (0 : Int32) (0 : Int32) (0 : Int32) (0 : Int32) (vp_updL (vp_updL (vp_updL (vp_updL z.1 (1 : Int32).toNatClampNeg (1008673 : Int64)) (2 : Int32).toNatClampNeg (1008673 : Int64)) (4 : Int32).toNatClampNeg (1008673 : Int64)) (5 : Int32).toNatClampNeg (1008673 : Int64), z.2.1, z.2.2.1, z.2.2.2.1, z.2.2.2.2.1, z.2.2.2.2.2)).2)).2) := hm
                  exact c_iret (E := (4 : Int32)) hx hb hr hlocks (by rw [hm]) (by rw [hm]) (by rw [hm]) hP hS ⟨Nat.le_of_ble_eq_true rfl, Nat.le_of_ble_eq_true rfl⟩ dX0_reset_66
        · have hm := hm.trans (if_neg h_74)
          refine lv_iinc (v := (3 : Int32)) (lv' := [(1, .int (3 : Int32)), (2, .int (3 : Int32)), (0, .ref a.1)]) hx hb dX0_reset_26 hl (k := 1) rfl (by decide) (by decide) rfl (fun ls hl => ?_)
          refine lv_aload_n hx hb dX0_reset_29 rfl (lv_at hl 2 rfl) ?_
          refine va_get (D := kD k) (ci := 2) (v := .ref a.2.1) (C := RX0) (T := TX0) (N := 6) hx hb htg inG_X0 hown hGx.1 hP 0 rfl rfl 0 (by decide) (htg _ w_57) (fun _ h9 => h9) rfl dX0_reset_30 ?_
          refine lv_iload_n hx hb dX0_reset_33 rfl (lv_at hl 1 rfl) ?_
          refine lv_ldc2 hx hb hown (htg _ w_56) dX0_reset_34 ?_
          refine va_last (D := kD k) hx hb hGx.1 hP (hD.own _ _) hS 1 0 rfl rfl (show ¬ ((3 : Int32) < 0 ∨ 6 ≤ ((3 : Int32)).toNatClampNeg) by decide) dX0_reset_37 (fun H locs hP1 _ hS => ?_)
          have hP : va_P (kD k) vwCl (cW k a (vp_updL (vp_updL (vp_updL z.1 (1 : Int32).toNatClampNeg (1008673 : Int64)) (2 : Int32).toNatClampNeg (1008673 : Int64)) (3 : Int32).toNatClampNeg (1008673 : Int64), z.2.1, z.2.2.1, z.2.2.2.1, z.2.2.2.2.1, z.2.2.2.2.2)) H := hP1
          refine lv_iinc (v := (4 : Int32)) (lv' := [(2, .int (4 : Int32)), (1, .int (3 : Int32)), (0, .ref a.1)]) hx hb dX0_reset_38 hl (k := 1) rfl (by decide) (by decide) rfl (fun ls hl => ?_)
          refine lv_goto (tgt := 4) hx hb dX0_reset_41 (by decide) ?_
          refine lv_iload_n hx hb dX0_reset_4 rfl (lv_at hl 0 rfl) ?_
          refine lv_aload_n hx hb dX0_reset_5 rfl (lv_at hl 2 rfl) ?_
          refine va_get (D := kD k) (ci := 2) (v := .ref a.2.1) (C := RX0) (T := TX0) (N := 6) hx hb htg inG_X0 hown hGx.1 hP 0 rfl rfl 0 (by decide) (htg _ w_57) (fun _ h9 => h9) rfl dX0_reset_6 ?_
          refine va_alen (D := kD k) (v := 6) hx hb hGx.1 hP 1 0 rfl rfl (show Int32.ofNat 6 = 6 by decide) dX0_reset_9 ?_
          refine lv_icmp_ge (tgt := 44) hx hb dX0_reset_10 (by decide) (fun h => absurd h (by decide)) (fun _ => ?_)
          refine lv_aload_n hx hb dX0_reset_13 rfl (lv_at hl 2 rfl) ?_
          refine va_get (D := kD k) (ci := 2) (v := .ref a.2.1) (C := RX0) (T := TX0) (N := 6) hx hb htg inG_X0 hown hGx.1 hP 0 rfl rfl 0 (by decide) (htg _ w_57) (fun _ h9 => h9) rfl dX0_reset_14 ?_
          refine lv_iload_n hx hb dX0_reset_17 rfl (lv_at hl 0 rfl) ?_
          refine va_lald (D := kD k) hx hb hGx.1 hP 1 0 rfl rfl (show ¬ ((4 : Int32) < 0 ∨ 6 ≤ ((4 : Int32)).toNatClampNeg) by decide) dX0_reset_18 ?_
          refine lv_ldc2 hx hb hown (htg _ w_56) dX0_reset_19 ?_
          refine W.lcmp hx hb dX0_reset_22 ?_
          refine lv_if_eq (tgt := 38) hx hb dX0_reset_23 (by decide) (fun h_86 => ?_) (fun h_86 => ?_)
          · have hm := hm.trans (if_pos h_86)
            refine lv_iinc (v := (5 : Int32)) (lv' := [(2, .int (5 : Int32)), (1, .int (3 : Int32)), (0, .ref a.1)]) hx hb dX0_reset_38 hl (k := 0) rfl (by decide) (by decide) rfl (fun ls hl => ?_)
            refine lv_goto (tgt := 4) hx hb dX0_reset_41 (by decide) ?_
            refine lv_iload_n hx hb dX0_reset_4 rfl (lv_at hl 0 rfl) ?_
            refine lv_aload_n hx hb dX0_reset_5 rfl (lv_at hl 2 rfl) ?_
            refine va_get (D := kD k) (ci := 2) (v := .ref a.2.1) (C := RX0) (T := TX0) (N := 6) hx hb htg inG_X0 hown hGx.1 hP 0 rfl rfl 0 (by decide) (htg _ w_57) (fun _ h9 => h9) rfl dX0_reset_6 ?_
            refine va_alen (D := kD k) (v := 6) hx hb hGx.1 hP 1 0 rfl rfl (show Int32.ofNat 6 = 6 by decide) dX0_reset_9 ?_
            refine lv_icmp_ge (tgt := 44) hx hb dX0_reset_10 (by decide) (fun h => absurd h (by decide)) (fun _ => ?_)
            refine lv_aload_n hx hb dX0_reset_13 rfl (lv_at hl 2 rfl) ?_
            refine va_get (D := kD k) (ci := 2) (v := .ref a.2.1) (C := RX0) (T := TX0) (N := 6) hx hb htg inG_X0 hown hGx.1 hP 0 rfl rfl 0 (by decide) (htg _ w_57) (fun _ h9 => h9) rfl dX0_reset_14 ?_
            refine lv_iload_n hx hb dX0_reset_17 rfl (lv_at hl 0 rfl) ?_
            refine va_lald (D := kD k) hx hb hGx.1 hP 1 0 rfl rfl (show ¬ ((5 : Int32) < 0 ∨ 6 ≤ ((5 : Int32)).toNatClampNeg) by decide) dX0_reset_18 ?_
            refine lv_ldc2 hx hb hown (htg _ w_56) dX0_reset_19 ?_
            refine W.lcmp hx hb dX0_reset_22 ?_
            refine lv_if_eq (tgt := 38) hx hb dX0_reset_23 (by decide) (fun h_87 => ?_) (fun h_87 => ?_)
            · have hm := hm.trans (if_pos h_87)
              refine lv_iinc (v := (6 : Int32)) (lv' := [(2, .int (6 : Int32)), (1, .int (3 : Int32)), (0, .ref a.1)]) hx hb dX0_reset_38 hl (k := 0) rfl (by decide) (by decide) rfl (fun ls hl => ?_)
              refine lv_goto (tgt := 4) hx hb dX0_reset_41 (by decide) ?_
              refine lv_iload_n hx hb dX0_reset_4 rfl (lv_at hl 0 rfl) ?_
              refine lv_aload_n hx hb dX0_reset_5 rfl (lv_at hl 2 rfl) ?_
              refine va_get (D := kD k) (ci := 2) (v := .ref a.2.1) (C := RX0) (T := TX0) (N := 6) hx hb htg inG_X0 hown hGx.1 hP 0 rfl rfl 0 (by decide) (htg _ w_57) (fun _ h9 => h9) rfl dX0_reset_6 ?_
              refine va_alen (D := kD k) (v := 6) hx hb hGx.1 hP 1 0 rfl rfl (show Int32.ofNat 6 = 6 by decide) dX0_reset_9 ?_
              refine lv_icmp_ge (tgt := 44) hx hb dX0_reset_10 (by decide) (fun _ => ?_) (fun h => absurd h (by decide))
              refine lv_iconst (v := 0) hx hb dX0_reset_44 (by decide) ?_
              refine lv_istore_n (lv' := [(2, .int (0 : Int32)), (1, .int (3 : Int32)), (0, .ref a.1)]) hx hb dX0_reset_45 rfl hl (by decide) rfl (fun ls hl => ?_)
              refine lv_iload_n hx hb dX0_reset_46 rfl (lv_at hl 0 rfl) ?_
              refine lv_iconst (v := 2) hx hb dX0_reset_47 (by decide) ?_
              refine lv_icmp_ge (tgt := 65) hx hb dX0_reset_48 (by decide) (fun h => absurd h (by decide)) (fun _ => ?_)
              refine lv_aload_n hx hb dX0_reset_51 rfl (lv_at hl 2 rfl) ?_
              refine lv_iload_n hx hb dX0_reset_52 rfl (lv_at hl 0 rfl) ?_
              refine lv_iconst (v := 0) hx hb dX0_reset_53 (by decide) ?_
              refine lv_iconst (v := 0) hx hb dX0_reset_54 (by decide) ?_
              refine lv_iconst (v := 0) hx hb dX0_reset_55 (by decide) ?_
              refine cc_V hC hGx hD hEx hlocks (c_X0_putSpan l hl9 k a hD (0 : Int32) (0 : Int32) (0 : Int32) (0 : Int32) (vp_updL (vp_updL (vp_updL z.1 (1 : Int32).toNatClampNeg (1008673 : Int64)) (2 : Int32).toNatClampNeg (1008673 : Int64)) (3 : Int32).toNatClampNeg (1008673 : Int64), z.2.1, z.2.2.1, z.2.2.2.1, z.2.2.2.2.1, z.2.2.2.2.2)) (gV w_82 w_83 w_6 w_26 w_84) kk_X0_putSpan rfl ⟨Nat.le_of_ble_eq_true rfl, Nat.le_of_ble_eq_true rfl⟩ ⟨Nat.le_of_ble_eq_true rfl, Nat.le_of_ble_eq_true rfl⟩ ⟨Nat.le_of_ble_eq_true rfl, Nat.le_of_ble_eq_true rfl⟩ hP hS hl.1 rfl rfl (Nat.le_of_ble_eq_true rfl) dX0_reset_56 (fun h_88 => ?_) (fun h_88 H locs hP hS => ?_)
              · have hm : m_X0_reset z = ((m_X0_putSpan (0 : Int32) (0 : Int32) (0 : Int32) (0 : Int32) (vp_updL (vp_updL (vp_updL z.1 (1 : Int32).toNatClampNeg (1008673 : Int64)) (2 : Int32).toNatClampNeg (1008673 : Int64)) (3 : Int32).toNatClampNeg (1008673 : Int64), z.2.1, z.2.2.1, z.2.2.2.1, z.2.2.2.2.1, z.2.2.2.2.2)).1, 0, (m_X0_putSpan (0 : Int32) (0 : Int32) (0 : Int32) (0 : Int32) (vp_updL (vp_updL (vp_updL z.1 (1 : Int32).toNatClampNeg (1008673 : Int64)) (2 : Int32).toNatClampNeg (1008673 : Int64)) (3 : Int32).toNatClampNeg (1008673 : Int64), z.2.1, z.2.2.1, z.2.2.2.1, z.2.2.2.2.1, z.2.2.2.2.2)).2) := hm.trans (if_neg h_88)
                exact ⟨by rw [hm], by rw [hm]⟩
              · have hm := hm.trans (if_pos h_88)
                refine lv_iinc (v := (1 : Int32)) (lv' := [(2, .int (1 : Int32)), (1, .int (3 : Int32)), (0, .ref a.1)]) hx hb dX0_reset_59 hl (k := 0) rfl (by decide) (by decide) rfl (fun ls hl => ?_)
                refine lv_goto (tgt := 46) hx hb dX0_reset_62 (by decide) ?_
                refine lv_iload_n hx hb dX0_reset_46 rfl (lv_at hl 0 rfl) ?_
                refine lv_iconst (v := 2) hx hb dX0_reset_47 (by decide) ?_
                refine lv_icmp_ge (tgt := 65) hx hb dX0_reset_48 (by decide) (fun h => absurd h (by decide)) (fun _ => ?_)
                refine lv_aload_n hx hb dX0_reset_51 rfl (lv_at hl 2 rfl) ?_
                refine lv_iload_n hx hb dX0_reset_52 rfl (lv_at hl 0 rfl) ?_
                refine lv_iconst (v := 0) hx hb dX0_reset_53 (by decide) ?_
                refine lv_iconst (v := 0) hx hb dX0_reset_54 (by decide) ?_
                refine lv_iconst (v := 0) hx hb dX0_reset_55 (by decide) ?_
                refine cc_V hC hGx hD hEx hlocks (c_X0_putSpan l hl9 k a hD (1 : Int32) (0 : Int32) (0 : Int32) (0 : Int32) ((m_X0_putSpan (0 : Int32) (0 : Int32) (0 : Int32) (0 : Int32) (vp_updL (vp_updL (vp_updL z.1 (1 : Int32).toNatClampNeg (1008673 : Int64)) (2 : Int32).toNatClampNeg (1008673 : Int64)) (3 : Int32).toNatClampNeg (1008673 : Int64), z.2.1, z.2.2.1, z.2.2.2.1, z.2.2.2.2.1, z.2.2.2.2.2)).2)) (gV w_82 w_83 w_6 w_26 w_84) kk_X0_putSpan rfl ⟨Nat.le_of_ble_eq_true rfl, Nat.le_of_ble_eq_true rfl⟩ ⟨Nat.le_of_ble_eq_true rfl, Nat.le_of_ble_eq_true rfl⟩ ⟨Nat.le_of_ble_eq_true rfl, Nat.le_of_ble_eq_true rfl⟩ hP hS hl.1 rfl rfl (Nat.le_of_ble_eq_true rfl) dX0_reset_56 (fun h_89 => ?_) (fun h_89 H locs hP hS => ?_)
                · have hm : m_X0_reset z = ((m_X0_putSpan (1 : Int32) (0 : Int32) (0 : Int32) (0 : Int32) ((m_X0_putSpan (0 : Int32) (0 : Int32) (0 : Int32) (0 : Int32) (vp_updL (vp_updL (vp_updL z.1 (1 : Int32).toNatClampNeg (1008673 : Int64)) (2 : Int32).toNatClampNeg (1008673 : Int64)) (3 : Int32).toNatClampNeg (1008673 : Int64), z.2.1, z.2.2.1, z.2.2.2.1, z.2.2.2.2.1, z.2.2.2.2.2)).2)).1, 0, (m_X0_putSpan (1 : Int32) (0 : Int32) (0 : Int32) (0 : Int32) ((m_X0_putSpan (0 : Int32) (0 : Int32) (0 : Int32) (0 : Int32) (vp_updL (vp_updL (vp_updL z.1 (1 : Int32).toNatClampNeg (1008673 : Int64)) (2 : Int32).toNatClampNeg (1008673 : Int64)) (3 : Int32).toNatClampNeg (1008673 : Int64), z.2.1, z.2.2.1, z.2.2.2.1, z.2.2.2.2.1, z.2.2.2.2.2)).2)).2) := hm.trans (if_neg h_89)
                  exact ⟨by rw [hm], by rw [hm]⟩
                · have hm := hm.trans (if_pos h_89)
                  refine lv_iinc (v := (2 : Int32)) (lv' := [(2, .int (2 : Int32)), (1, .int (3 : Int32)), (0, .ref a.1)]) hx hb dX0_reset_59 hl (k := 0) rfl (by decide) (by decide) rfl (fun ls hl => ?_)
                  refine lv_goto (tgt := 46) hx hb dX0_reset_62 (by decide) ?_
                  refine lv_iload_n hx hb dX0_reset_46 rfl (lv_at hl 0 rfl) ?_
                  refine lv_iconst (v := 2) hx hb dX0_reset_47 (by decide) ?_
                  refine lv_icmp_ge (tgt := 65) hx hb dX0_reset_48 (by decide) (fun _ => ?_) (fun h => absurd h (by decide))
                  refine lv_iload_n hx hb dX0_reset_65 rfl (lv_at hl 1 rfl) ?_
                  have hm : m_X0_reset z = (0, (3 : Int32), (m_X0_putSpan (1 : Int32) (0 : Int32) (0 : Int32) (0 : Int32) ((m_X0_putSpan (0 : Int32) (0 : Int32) (0 : Int32) (0 : Int32) (vp_updL (vp_updL (vp_updL z.1 (1 : Int32).toNatClampNeg (1008673 : Int64)) (2 : Int32).toNatClampNeg (1008673 : Int64)) (3 : Int32).toNatClampNeg (1008673 : Int64), z.2.1, z.2.2.1, z.2.2.2.1, z.2.2.2.2.1, z.2.2.2.2.2)).2)).2) := hm
                  exact c_iret (E := (3 : Int32)) hx hb hr hlocks (by rw [hm]) (by rw [hm]) (by rw [hm]) hP hS ⟨Nat.le_of_ble_eq_true rfl, Nat.le_of_ble_eq_true rfl⟩ dX0_reset_66
            · have hm := hm.trans (if_neg h_87)
              refine lv_iinc (v := (4 : Int32)) (lv' := [(1, .int (4 : Int32)), (2, .int (5 : Int32)), (0, .ref a.1)]) hx hb dX0_reset_26 hl (k := 1) rfl (by decide) (by decide) rfl (fun ls hl => ?_)
              refine lv_aload_n hx hb dX0_reset_29 rfl (lv_at hl 2 rfl) ?_
              refine va_get (D := kD k) (ci := 2) (v := .ref a.2.1) (C := RX0) (T := TX0) (N := 6) hx hb htg inG_X0 hown hGx.1 hP 0 rfl rfl 0 (by decide) (htg _ w_57) (fun _ h9 => h9) rfl dX0_reset_30 ?_
              refine lv_iload_n hx hb dX0_reset_33 rfl (lv_at hl 1 rfl) ?_
              refine lv_ldc2 hx hb hown (htg _ w_56) dX0_reset_34 ?_
              refine va_last (D := kD k) hx hb hGx.1 hP (hD.own _ _) hS 1 0 rfl rfl (show ¬ ((5 : Int32) < 0 ∨ 6 ≤ ((5 : Int32)).toNatClampNeg) by decide) dX0_reset_37 (fun H locs hP1 _ hS => ?_)
              have hP : va_P (kD k) vwCl (cW k a (vp_updL (vp_updL (vp_updL (vp_updL z.1 (1 : Int32).toNatClampNeg (1008673 : Int64)) (2 : Int32).toNatClampNeg (1008673 : Int64)) (3 : Int32).toNatClampNeg (1008673 : Int64)) (5 : Int32).toNatClampNeg (1008673 : Int64), z.2.1, z.2.2.1, z.2.2.2.1, z.2.2.2.2.1, z.2.2.2.2.2)) H := hP1
              refine lv_iinc (v := (6 : Int32)) (lv' := [(2, .int (6 : Int32)), (1, .int (4 : Int32)), (0, .ref a.1)]) hx hb dX0_reset_38 hl (k := 1) rfl (by decide) (by decide) rfl (fun ls hl => ?_)
              refine lv_goto (tgt := 4) hx hb dX0_reset_41 (by decide) ?_
              refine lv_iload_n hx hb dX0_reset_4 rfl (lv_at hl 0 rfl) ?_
              refine lv_aload_n hx hb dX0_reset_5 rfl (lv_at hl 2 rfl) ?_
              refine va_get (D := kD k) (ci := 2) (v := .ref a.2.1) (C := RX0) (T := TX0) (N := 6) hx hb htg inG_X0 hown hGx.1 hP 0 rfl rfl 0 (by decide) (htg _ w_57) (fun _ h9 => h9) rfl dX0_reset_6 ?_
              refine va_alen (D := kD k) (v := 6) hx hb hGx.1 hP 1 0 rfl rfl (show Int32.ofNat 6 = 6 by decide) dX0_reset_9 ?_
              refine lv_icmp_ge (tgt := 44) hx hb dX0_reset_10 (by decide) (fun _ => ?_) (fun h => absurd h (by decide))
              refine lv_iconst (v := 0) hx hb dX0_reset_44 (by decide) ?_
              refine lv_istore_n (lv' := [(2, .int (0 : Int32)), (1, .int (4 : Int32)), (0, .ref a.1)]) hx hb dX0_reset_45 rfl hl (by decide) rfl (fun ls hl => ?_)
              refine lv_iload_n hx hb dX0_reset_46 rfl (lv_at hl 0 rfl) ?_
              refine lv_iconst (v := 2) hx hb dX0_reset_47 (by decide) ?_
              refine lv_icmp_ge (tgt := 65) hx hb dX0_reset_48 (by decide) (fun h => absurd h (by decide)) (fun _ => ?_)
              refine lv_aload_n hx hb dX0_reset_51 rfl (lv_at hl 2 rfl) ?_
              refine lv_iload_n hx hb dX0_reset_52 rfl (lv_at hl 0 rfl) ?_
              refine lv_iconst (v := 0) hx hb dX0_reset_53 (by decide) ?_
              refine lv_iconst (v := 0) hx hb dX0_reset_54 (by decide) ?_
              refine lv_iconst (v := 0) hx hb dX0_reset_55 (by decide) ?_
              refine cc_V hC hGx hD hEx hlocks (c_X0_putSpan l hl9 k a hD (0 : Int32) (0 : Int32) (0 : Int32) (0 : Int32) (vp_updL (vp_updL (vp_updL (vp_updL z.1 (1 : Int32).toNatClampNeg (1008673 : Int64)) (2 : Int32).toNatClampNeg (1008673 : Int64)) (3 : Int32).toNatClampNeg (1008673 : Int64)) (5 : Int32).toNatClampNeg (1008673 : Int64), z.2.1, z.2.2.1, z.2.2.2.1, z.2.2.2.2.1, z.2.2.2.2.2)) (gV w_82 w_83 w_6 w_26 w_84) kk_X0_putSpan rfl ⟨Nat.le_of_ble_eq_true rfl, Nat.le_of_ble_eq_true rfl⟩ ⟨Nat.le_of_ble_eq_true rfl, Nat.le_of_ble_eq_true rfl⟩ ⟨Nat.le_of_ble_eq_true rfl, Nat.le_of_ble_eq_true rfl⟩ hP hS hl.1 rfl rfl (Nat.le_of_ble_eq_true rfl) dX0_reset_56 (fun h_90 => ?_) (fun h_90 H locs hP hS => ?_)
              · have hm : m_X0_reset z = ((m_X0_putSpan (0 : Int32) (0 : Int32) (0 : Int32) (0 : Int32) (vp_updL (vp_updL (vp_updL (vp_updL z.1 (1 : Int32).toNatClampNeg (1008673 : Int64)) (2 : Int32).toNatClampNeg (1008673 : Int64)) (3 : Int32).toNatClampNeg (1008673 : Int64)) (5 : Int32).toNatClampNeg (1008673 : Int64), z.2.1, z.2.2.1, z.2.2.2.1, z.2.2.2.2.1, z.2.2.2.2.2)).1, 0, (m_X0_putSpan (0 : Int32) (0 : Int32) (0 : Int32) (0 : Int32) (vp_updL (vp_updL (vp_updL (vp_updL z.1 (1 : Int32).toNatClampNeg (1008673 : Int64)) (2 : Int32).toNatClampNeg (1008673 : Int64)) (3 : Int32).toNatClampNeg (1008673 : Int64)) (5 : Int32).toNatClampNeg (1008673 : Int64), z.2.1, z.2.2.1, z.2.2.2.1, z.2.2.2.2.1, z.2.2.2.2.2)).2) := hm.trans (if_neg h_90)
                exact ⟨by rw [hm], by rw [hm]⟩
              · have hm := hm.trans (if_pos h_90)
                refine lv_iinc (v := (1 : Int32)) (lv' := [(2, .int (1 : Int32)), (1, .int (4 : Int32)), (0, .ref a.1)]) hx hb dX0_reset_59 hl (k := 0) rfl (by decide) (by decide) rfl (fun ls hl => ?_)
                refine lv_goto (tgt := 46) hx hb dX0_reset_62 (by decide) ?_
                refine lv_iload_n hx hb dX0_reset_46 rfl (lv_at hl 0 rfl) ?_
                refine lv_iconst (v := 2) hx hb dX0_reset_47 (by decide) ?_
                refine lv_icmp_ge (tgt := 65) hx hb dX0_reset_48 (by decide) (fun h => absurd h (by decide)) (fun _ => ?_)
                refine lv_aload_n hx hb dX0_reset_51 rfl (lv_at hl 2 rfl) ?_
                refine lv_iload_n hx hb dX0_reset_52 rfl (lv_at hl 0 rfl) ?_
                refine lv_iconst (v := 0) hx hb dX0_reset_53 (by decide) ?_
                refine lv_iconst (v := 0) hx hb dX0_reset_54 (by decide) ?_
                refine lv_iconst (v := 0) hx hb dX0_reset_55 (by decide) ?_
                refine cc_V hC hGx hD hEx hlocks (c_X0_putSpan l hl9 k a hD (1 : Int32) (0 : Int32) (0 : Int32) (0 : Int32) ((m_X0_putSpan (0 : Int32) (0 : Int32) (0 : Int32) (0 : Int32) (vp_updL (vp_updL (vp_updL (vp_updL z.1 (1 : Int32).toNatClampNeg (1008673 : Int64)) (2 : Int32).toNatClampNeg (1008673 : Int64)) (3 : Int32).toNatClampNeg (1008673 : Int64)) (5 : Int32).toNatClampNeg (1008673 : Int64), z.2.1, z.2.2.1, z.2.2.2.1, z.2.2.2.2.1, z.2.2.2.2.2)).2)) (gV w_82 w_83 w_6 w_26 w_84) kk_X0_putSpan rfl ⟨Nat.le_of_ble_eq_true rfl, Nat.le_of_ble_eq_true rfl⟩ ⟨Nat.le_of_ble_eq_true rfl, Nat.le_of_ble_eq_true rfl⟩ ⟨Nat.le_of_ble_eq_true rfl, Nat.le_of_ble_eq_true rfl⟩ hP hS hl.1 rfl rfl (Nat.le_of_ble_eq_true rfl) dX0_reset_56 (fun h_91 => ?_) (fun h_91 H locs hP hS => ?_)
                · have hm : m_X0_reset z = ((m_X0_putSpan (1 : Int32) (0 : Int32) (0 : Int32) (0 : Int32) ((m_X0_putSpan (0 : Int32) (0 : Int32) (0 : Int32) (0 : Int32) (vp_updL (vp_updL (vp_updL (vp_updL z.1 (1 : Int32).toNatClampNeg (1008673 : Int64)) (2 : Int32).toNatClampNeg (1008673 : Int64)) (3 : Int32).toNatClampNeg (1008673 : Int64)) (5 : Int32).toNatClampNeg (1008673 : Int64), z.2.1, z.2.2.1, z.2.2.2.1, z.2.2.2.2.1, z.2.2.2.2.2)).2)).1, 0, (m_X0_putSpan (1 : Int32) (0 : Int32) (0 : Int32) (0 : Int32) ((m_X0_putSpan (0 : Int32) (0 : Int32) (0 : Int32) (0 : Int32) (vp_updL (vp_updL (vp_updL (vp_updL z.1 (1 : Int32).toNatClampNeg (1008673 : Int64)) (2 : Int32).toNatClampNeg (1008673 : Int64)) (3 : Int32).toNatClampNeg (1008673 : Int64)) (5 : Int32).toNatClampNeg (1008673 : Int64), z.2.1, z.2.2.1, z.2.2.2.1, z.2.2.2.2.1, z.2.2.2.2.2)).2)).2) := hm.trans (if_neg h_91)
                  exact ⟨by rw [hm], by rw [hm]⟩
                · have hm := hm.trans (if_pos h_91)
                  refine lv_iinc (v := (2 : Int32)) (lv' := [(2, .int (2 : Int32)), (1, .int (4 : Int32)), (0, .ref a.1)]) hx hb dX0_reset_59 hl (k := 0) rfl (by decide) (by decide) rfl (fun ls hl => ?_)
                  refine lv_goto (tgt := 46) hx hb dX0_reset_62 (by decide) ?_
                  refine lv_iload_n hx hb dX0_reset_46 rfl (lv_at hl 0 rfl) ?_
                  refine lv_iconst (v := 2) hx hb dX0_reset_47 (by decide) ?_
                  refine lv_icmp_ge (tgt := 65) hx hb dX0_reset_48 (by decide) (fun _ => ?_) (fun h => absurd h (by decide))
                  refine lv_iload_n hx hb dX0_reset_65 rfl (lv_at hl 1 rfl) ?_
                  have hm : m_X0_reset z = (0, (4 : Int32), (m_X0_putSpan (1 : Int32) (0 : Int32) (0 : Int32) (0 : Int32) ((m_X0_putSpan (0 : Int32) (0 : Int32) (0 : Int32) (0 : Int32) (vp_updL (vp_updL (vp_updL (vp_updL z.1 (1 : Int32).toNatClampNeg (1008673 : Int64)) (2 : Int32).toNatClampNeg (1008673 : Int64)) (3 : Int32).toNatClampNeg (1008673 : Int64)) (5 : Int32).toNatClampNeg (1008673 : Int64), z.2.1, z.2.2.1, z.2.2.2.1, z.2.2.2.2.1, z.2.2.2.2.2)).2)).2) := hm
                  exact c_iret (E := (4 : Int32)) hx hb hr hlocks (by rw [hm]) (by rw [hm]) (by rw [hm]) hP hS ⟨Nat.le_of_ble_eq_true rfl, Nat.le_of_ble_eq_true rfl⟩ dX0_reset_66
          · have hm := hm.trans (if_neg h_86)
            refine lv_iinc (v := (4 : Int32)) (lv' := [(1, .int (4 : Int32)), (2, .int (4 : Int32)), (0, .ref a.1)]) hx hb dX0_reset_26 hl (k := 1) rfl (by decide) (by decide) rfl (fun ls hl => ?_)
            refine lv_aload_n hx hb dX0_reset_29 rfl (lv_at hl 2 rfl) ?_
            refine va_get (D := kD k) (ci := 2) (v := .ref a.2.1) (C := RX0) (T := TX0) (N := 6) hx hb htg inG_X0 hown hGx.1 hP 0 rfl rfl 0 (by decide) (htg _ w_57) (fun _ h9 => h9) rfl dX0_reset_30 ?_
            refine lv_iload_n hx hb dX0_reset_33 rfl (lv_at hl 1 rfl) ?_
            refine lv_ldc2 hx hb hown (htg _ w_56) dX0_reset_34 ?_
            refine va_last (D := kD k) hx hb hGx.1 hP (hD.own _ _) hS 1 0 rfl rfl (show ¬ ((4 : Int32) < 0 ∨ 6 ≤ ((4 : Int32)).toNatClampNeg) by decide) dX0_reset_37 (fun H locs hP1 _ hS => ?_)
            have hP : va_P (kD k) vwCl (cW k a (vp_updL (vp_updL (vp_updL (vp_updL z.1 (1 : Int32).toNatClampNeg (1008673 : Int64)) (2 : Int32).toNatClampNeg (1008673 : Int64)) (3 : Int32).toNatClampNeg (1008673 : Int64)) (4 : Int32).toNatClampNeg (1008673 : Int64), z.2.1, z.2.2.1, z.2.2.2.1, z.2.2.2.2.1, z.2.2.2.2.2)) H := hP1
            refine lv_iinc (v := (5 : Int32)) (lv' := [(2, .int (5 : Int32)), (1, .int (4 : Int32)), (0, .ref a.1)]) hx hb dX0_reset_38 hl (k := 1) rfl (by decide) (by decide) rfl (fun ls hl => ?_)
            refine lv_goto (tgt := 4) hx hb dX0_reset_41 (by decide) ?_
            refine lv_iload_n hx hb dX0_reset_4 rfl (lv_at hl 0 rfl) ?_
            refine lv_aload_n hx hb dX0_reset_5 rfl (lv_at hl 2 rfl) ?_
            refine va_get (D := kD k) (ci := 2) (v := .ref a.2.1) (C := RX0) (T := TX0) (N := 6) hx hb htg inG_X0 hown hGx.1 hP 0 rfl rfl 0 (by decide) (htg _ w_57) (fun _ h9 => h9) rfl dX0_reset_6 ?_
            refine va_alen (D := kD k) (v := 6) hx hb hGx.1 hP 1 0 rfl rfl (show Int32.ofNat 6 = 6 by decide) dX0_reset_9 ?_
            refine lv_icmp_ge (tgt := 44) hx hb dX0_reset_10 (by decide) (fun h => absurd h (by decide)) (fun _ => ?_)
            refine lv_aload_n hx hb dX0_reset_13 rfl (lv_at hl 2 rfl) ?_
            refine va_get (D := kD k) (ci := 2) (v := .ref a.2.1) (C := RX0) (T := TX0) (N := 6) hx hb htg inG_X0 hown hGx.1 hP 0 rfl rfl 0 (by decide) (htg _ w_57) (fun _ h9 => h9) rfl dX0_reset_14 ?_
            refine lv_iload_n hx hb dX0_reset_17 rfl (lv_at hl 0 rfl) ?_
            refine va_lald (D := kD k) hx hb hGx.1 hP 1 0 rfl rfl (show ¬ ((5 : Int32) < 0 ∨ 6 ≤ ((5 : Int32)).toNatClampNeg) by decide) dX0_reset_18 ?_
            refine lv_ldc2 hx hb hown (htg _ w_56) dX0_reset_19 ?_
            refine W.lcmp hx hb dX0_reset_22 ?_
            refine lv_if_eq (tgt := 38) hx hb dX0_reset_23 (by decide) (fun h_92 => ?_) (fun h_92 => ?_)
            · have hm := hm.trans (if_pos h_92)
              refine lv_iinc (v := (6 : Int32)) (lv' := [(2, .int (6 : Int32)), (1, .int (4 : Int32)), (0, .ref a.1)]) hx hb dX0_reset_38 hl (k := 0) rfl (by decide) (by decide) rfl (fun ls hl => ?_)
              refine lv_goto (tgt := 4) hx hb dX0_reset_41 (by decide) ?_
              refine lv_iload_n hx hb dX0_reset_4 rfl (lv_at hl 0 rfl) ?_
              refine lv_aload_n hx hb dX0_reset_5 rfl (lv_at hl 2 rfl) ?_
              refine va_get (D := kD k) (ci := 2) (v := .ref a.2.1) (C := RX0) (T := TX0) (N := 6) hx hb htg inG_X0 hown hGx.1 hP 0 rfl rfl 0 (by decide) (htg _ w_57) (fun _ h9 => h9) rfl dX0_reset_6 ?_
              refine va_alen (D := kD k) (v := 6) hx hb hGx.1 hP 1 0 rfl rfl (show Int32.ofNat 6 = 6 by decide) dX0_reset_9 ?_
              refine lv_icmp_ge (tgt := 44) hx hb dX0_reset_10 (by decide) (fun _ => ?_) (fun h => absurd h (by decide))
              refine lv_iconst (v := 0) hx hb dX0_reset_44 (by decide) ?_
              refine lv_istore_n (lv' := [(2, .int (0 : Int32)), (1, .int (4 : Int32)), (0, .ref a.1)]) hx hb dX0_reset_45 rfl hl (by decide) rfl (fun ls hl => ?_)
              refine lv_iload_n hx hb dX0_reset_46 rfl (lv_at hl 0 rfl) ?_
              refine lv_iconst (v := 2) hx hb dX0_reset_47 (by decide) ?_
              refine lv_icmp_ge (tgt := 65) hx hb dX0_reset_48 (by decide) (fun h => absurd h (by decide)) (fun _ => ?_)
              refine lv_aload_n hx hb dX0_reset_51 rfl (lv_at hl 2 rfl) ?_
              refine lv_iload_n hx hb dX0_reset_52 rfl (lv_at hl 0 rfl) ?_
              refine lv_iconst (v := 0) hx hb dX0_reset_53 (by decide) ?_
              refine lv_iconst (v := 0) hx hb dX0_reset_54 (by decide) ?_
              refine lv_iconst (v := 0) hx hb dX0_reset_55 (by decide) ?_
              refine cc_V hC hGx hD hEx hlocks (c_X0_putSpan l hl9 k a hD (0 : Int32) (0 : Int32) (0 : Int32) (0 : Int32) (vp_updL (vp_updL (vp_updL (vp_updL z.1 (1 : Int32).toNatClampNeg (1008673 : Int64)) (2 : Int32).toNatClampNeg (1008673 : Int64)) (3 : Int32).toNatClampNeg (1008673 : Int64)) (4 : Int32).toNatClampNeg (1008673 : Int64), z.2.1, z.2.2.1, z.2.2.2.1, z.2.2.2.2.1, z.2.2.2.2.2)) (gV w_82 w_83 w_6 w_26 w_84) kk_X0_putSpan rfl ⟨Nat.le_of_ble_eq_true rfl, Nat.le_of_ble_eq_true rfl⟩ ⟨Nat.le_of_ble_eq_true rfl, Nat.le_of_ble_eq_true rfl⟩ ⟨Nat.le_of_ble_eq_true rfl, Nat.le_of_ble_eq_true rfl⟩ hP hS hl.1 rfl rfl (Nat.le_of_ble_eq_true rfl) dX0_reset_56 (fun h_93 => ?_) (fun h_93 H locs hP hS => ?_)
              · have hm : m_X0_reset z = ((m_X0_putSpan (0 : Int32) (0 : Int32) (0 : Int32) (0 : Int32) (vp_updL (vp_updL (vp_updL (vp_updL z.1 (1 : Int32).toNatClampNeg (1008673 : Int64)) (2 : Int32).toNatClampNeg (1008673 : Int64)) (3 : Int32).toNatClampNeg (1008673 : Int64)) (4 : Int32).toNatClampNeg (1008673 : Int64), z.2.1, z.2.2.1, z.2.2.2.1, z.2.2.2.2.1, z.2.2.2.2.2)).1, 0, (m_X0_putSpan (0 : Int32) (0 : Int32) (0 : Int32) (0 : Int32) (vp_updL (vp_updL (vp_updL (vp_updL z.1 (1 : Int32).toNatClampNeg (1008673 : Int64)) (2 : Int32).toNatClampNeg (1008673 : Int64)) (3 : Int32).toNatClampNeg (1008673 : Int64)) (4 : Int32).toNatClampNeg (1008673 : Int64), z.2.1, z.2.2.1, z.2.2.2.1, z.2.2.2.2.1, z.2.2.2.2.2)).2) := hm.trans (if_neg h_93)
                exact ⟨by rw [hm], by rw [hm]⟩
              · have hm := hm.trans (if_pos h_93)
                refine lv_iinc (v := (1 : Int32)) (lv' := [(2, .int (1 : Int32)), (1, .int (4 : Int32)), (0, .ref a.1)]) hx hb dX0_reset_59 hl (k := 0) rfl (by decide) (by decide) rfl (fun ls hl => ?_)
                refine lv_goto (tgt := 46) hx hb dX0_reset_62 (by decide) ?_
                refine lv_iload_n hx hb dX0_reset_46 rfl (lv_at hl 0 rfl) ?_
                refine lv_iconst (v := 2) hx hb dX0_reset_47 (by decide) ?_
                refine lv_icmp_ge (tgt := 65) hx hb dX0_reset_48 (by decide) (fun h => absurd h (by decide)) (fun _ => ?_)
                refine lv_aload_n hx hb dX0_reset_51 rfl (lv_at hl 2 rfl) ?_
                refine lv_iload_n hx hb dX0_reset_52 rfl (lv_at hl 0 rfl) ?_
                refine lv_iconst (v := 0) hx hb dX0_reset_53 (by decide) ?_
                refine lv_iconst (v := 0) hx hb dX0_reset_54 (by decide) ?_
                refine lv_iconst (v := 0) hx hb dX0_reset_55 (by decide) ?_
                refine cc_V hC hGx hD hEx hlocks (c_X0_putSpan l hl9 k a hD (1 : Int32) (0 : Int32) (0 : Int32) (0 : Int32) ((m_X0_putSpan (0 : Int32) (0 : Int32) (0 : Int32) (0 : Int32) (vp_updL (vp_updL (vp_updL (vp_updL z.1 (1 : Int32).toNatClampNeg (1008673 : Int64)) (2 : Int32).toNatClampNeg (1008673 : Int64)) (3 : Int32).toNatClampNeg (1008673 : Int64)) (4 : Int32).toNatClampNeg (1008673 : Int64), z.2.1, z.2.2.1, z.2.2.2.1, z.2.2.2.2.1, z.2.2.2.2.2)).2)) (gV w_82 w_83 w_6 w_26 w_84) kk_X0_putSpan rfl ⟨Nat.le_of_ble_eq_true rfl, Nat.le_of_ble_eq_true rfl⟩ ⟨Nat.le_of_ble_eq_true rfl, Nat.le_of_ble_eq_true rfl⟩ ⟨Nat.le_of_ble_eq_true rfl, Nat.le_of_ble_eq_true rfl⟩ hP hS hl.1 rfl rfl (Nat.le_of_ble_eq_true rfl) dX0_reset_56 (fun h_94 => ?_) (fun h_94 H locs hP hS => ?_)
                · have hm : m_X0_reset z = ((m_X0_putSpan (1 : Int32) (0 : Int32) (0 : Int32) (0 : Int32) ((m_X0_putSpan (0 : Int32) (0 : Int32) (0 : Int32) (0 : Int32) (vp_updL (vp_updL (vp_updL (vp_updL z.1 (1 : Int32).toNatClampNeg (1008673 : Int64)) (2 : Int32).toNatClampNeg (1008673 : Int64)) (3 : Int32).toNatClampNeg (1008673 : Int64)) (4 : Int32).toNatClampNeg (1008673 : Int64), z.2.1, z.2.2.1, z.2.2.2.1, z.2.2.2.2.1, z.2.2.2.2.2)).2)).1, 0, (m_X0_putSpan (1 : Int32) (0 : Int32) (0 : Int32) (0 : Int32) ((m_X0_putSpan (0 : Int32) (0 : Int32) (0 : Int32) (0 : Int32) (vp_updL (vp_updL (vp_updL (vp_updL z.1 (1 : Int32).toNatClampNeg (1008673 : Int64)) (2 : Int32).toNatClampNeg (1008673 : Int64)) (3 : Int32).toNatClampNeg (1008673 : Int64)) (4 : Int32).toNatClampNeg (1008673 : Int64), z.2.1, z.2.2.1, z.2.2.2.1, z.2.2.2.2.1, z.2.2.2.2.2)).2)).2) := hm.trans (if_neg h_94)
                  exact ⟨by rw [hm], by rw [hm]⟩
                · have hm := hm.trans (if_pos h_94)
                  refine lv_iinc (v := (2 : Int32)) (lv' := [(2, .int (2 : Int32)), (1, .int (4 : Int32)), (0, .ref a.1)]) hx hb dX0_reset_59 hl (k := 0) rfl (by decide) (by decide) rfl (fun ls hl => ?_)
                  refine lv_goto (tgt := 46) hx hb dX0_reset_62 (by decide) ?_
                  refine lv_iload_n hx hb dX0_reset_46 rfl (lv_at hl 0 rfl) ?_
                  refine lv_iconst (v := 2) hx hb dX0_reset_47 (by decide) ?_
                  refine lv_icmp_ge (tgt := 65) hx hb dX0_reset_48 (by decide) (fun _ => ?_) (fun h => absurd h (by decide))
                  refine lv_iload_n hx hb dX0_reset_65 rfl (lv_at hl 1 rfl) ?_
                  have hm : m_X0_reset z = (0, (4 : Int32), (m_X0_putSpan (1 : Int32) (0 : Int32) (0 : Int32) (0 : Int32) ((m_X0_putSpan (0 : Int32) (0 : Int32) (0 : Int32) (0 : Int32) (vp_updL (vp_updL (vp_updL (vp_updL z.1 (1 : Int32).toNatClampNeg (1008673 : Int64)) (2 : Int32).toNatClampNeg (1008673 : Int64)) (3 : Int32).toNatClampNeg (1008673 : Int64)) (4 : Int32).toNatClampNeg (1008673 : Int64), z.2.1, z.2.2.1, z.2.2.2.1, z.2.2.2.2.1, z.2.2.2.2.2)).2)).2) := hm
                  exact c_iret (E := (4 : Int32)) hx hb hr hlocks (by rw [hm]) (by rw [hm]) (by rw [hm]) hP hS ⟨Nat.le_of_ble_eq_true rfl, Nat.le_of_ble_eq_true rfl⟩ dX0_reset_66
            · have hm := hm.trans (if_neg h_92)
              refine lv_iinc (v := (5 : Int32)) (lv' := [(1, .int (5 : Int32)), (2, .int (5 : Int32)), (0, .ref a.1)]) hx hb dX0_reset_26 hl (k := 1) rfl (by decide) (by decide) rfl (fun ls hl => ?_)
              refine lv_aload_n hx hb dX0_reset_29 rfl (lv_at hl 2 rfl) ?_
              refine va_get (D := kD k) (ci := 2) (v := .ref a.2.1) (C := RX0) (T := TX0) (N := 6) hx hb htg inG_X0 hown hGx.1 hP 0 rfl rfl 0 (by decide) (htg _ w_57) (fun _ h9 => h9) rfl dX0_reset_30 ?_
              refine lv_iload_n hx hb dX0_reset_33 rfl (lv_at hl 1 rfl) ?_
              refine lv_ldc2 hx hb hown (htg _ w_56) dX0_reset_34 ?_
              refine va_last (D := kD k) hx hb hGx.1 hP (hD.own _ _) hS 1 0 rfl rfl (show ¬ ((5 : Int32) < 0 ∨ 6 ≤ ((5 : Int32)).toNatClampNeg) by decide) dX0_reset_37 (fun H locs hP1 _ hS => ?_)
              have hP : va_P (kD k) vwCl (cW k a (vp_updL (vp_updL (vp_updL (vp_updL (vp_updL z.1 (1 : Int32).toNatClampNeg (1008673 : Int64)) (2 : Int32).toNatClampNeg (1008673 : Int64)) (3 : Int32).toNatClampNeg (1008673 : Int64)) (4 : Int32).toNatClampNeg (1008673 : Int64)) (5 : Int32).toNatClampNeg (1008673 : Int64), z.2.1, z.2.2.1, z.2.2.2.1, z.2.2.2.2.1, z.2.2.2.2.2)) H := hP1
              refine lv_iinc (v := (6 : Int32)) (lv' := [(2, .int (6 : Int32)), (1, .int (5 : Int32)), (0, .ref a.1)]) hx hb dX0_reset_38 hl (k := 1) rfl (by decide) (by decide) rfl (fun ls hl => ?_)
              refine lv_goto (tgt := 4) hx hb dX0_reset_41 (by decide) ?_
              refine lv_iload_n hx hb dX0_reset_4 rfl (lv_at hl 0 rfl) ?_
              refine lv_aload_n hx hb dX0_reset_5 rfl (lv_at hl 2 rfl) ?_
              refine va_get (D := kD k) (ci := 2) (v := .ref a.2.1) (C := RX0) (T := TX0) (N := 6) hx hb htg inG_X0 hown hGx.1 hP 0 rfl rfl 0 (by decide) (htg _ w_57) (fun _ h9 => h9) rfl dX0_reset_6 ?_
              refine va_alen (D := kD k) (v := 6) hx hb hGx.1 hP 1 0 rfl rfl (show Int32.ofNat 6 = 6 by decide) dX0_reset_9 ?_
              refine lv_icmp_ge (tgt := 44) hx hb dX0_reset_10 (by decide) (fun _ => ?_) (fun h => absurd h (by decide))
              refine lv_iconst (v := 0) hx hb dX0_reset_44 (by decide) ?_
              refine lv_istore_n (lv' := [(2, .int (0 : Int32)), (1, .int (5 : Int32)), (0, .ref a.1)]) hx hb dX0_reset_45 rfl hl (by decide) rfl (fun ls hl => ?_)
              refine lv_iload_n hx hb dX0_reset_46 rfl (lv_at hl 0 rfl) ?_
              refine lv_iconst (v := 2) hx hb dX0_reset_47 (by decide) ?_
              refine lv_icmp_ge (tgt := 65) hx hb dX0_reset_48 (by decide) (fun h => absurd h (by decide)) (fun _ => ?_)
              refine lv_aload_n hx hb dX0_reset_51 rfl (lv_at hl 2 rfl) ?_
              refine lv_iload_n hx hb dX0_reset_52 rfl (lv_at hl 0 rfl) ?_
              refine lv_iconst (v := 0) hx hb dX0_reset_53 (by decide) ?_
              refine lv_iconst (v := 0) hx hb dX0_reset_54 (by decide) ?_
              refine lv_iconst (v := 0) hx hb dX0_reset_55 (by decide) ?_
              refine cc_V hC hGx hD hEx hlocks (c_X0_putSpan l hl9 k a hD (0 : Int32) (0 : Int32) (0 : Int32) (0 : Int32) (vp_updL (vp_updL (vp_updL (vp_updL (vp_updL z.1 (1 : Int32).toNatClampNeg (1008673 : Int64)) (2 : Int32).toNatClampNeg (1008673 : Int64)) (3 : Int32).toNatClampNeg (1008673 : Int64)) (4 : Int32).toNatClampNeg (1008673 : Int64)) (5 : Int32).toNatClampNeg (1008673 : Int64), z.2.1, z.2.2.1, z.2.2.2.1, z.2.2.2.2.1, z.2.2.2.2.2)) (gV w_82 w_83 w_6 w_26 w_84) kk_X0_putSpan rfl ⟨Nat.le_of_ble_eq_true rfl, Nat.le_of_ble_eq_true rfl⟩ ⟨Nat.le_of_ble_eq_true rfl, Nat.le_of_ble_eq_true rfl⟩ ⟨Nat.le_of_ble_eq_true rfl, Nat.le_of_ble_eq_true rfl⟩ hP hS hl.1 rfl rfl (Nat.le_of_ble_eq_true rfl) dX0_reset_56 (fun h_95 => ?_) (fun h_95 H locs hP hS => ?_)
              · have hm : m_X0_reset z = ((m_X0_putSpan (0 : Int32) (0 : Int32) (0 : Int32) (0 : Int32) (vp_updL (vp_updL (vp_updL (vp_updL (vp_updL z.1 (1 : Int32).toNatClampNeg (1008673 : Int64)) (2 : Int32).toNatClampNeg (1008673 : Int64)) (3 : Int32).toNatClampNeg (1008673 : Int64)) (4 : Int32).toNatClampNeg (1008673 : Int64)) (5 : Int32).toNatClampNeg (1008673 : Int64), z.2.1, z.2.2.1, z.2.2.2.1, z.2.2.2.2.1, z.2.2.2.2.2)).1, 0, (m_X0_putSpan (0 : Int32) (0 : Int32) (0 : Int32) (0 : Int32) (vp_updL (vp_updL (vp_updL (vp_updL (vp_updL z.1 (1 : Int32).toNatClampNeg (1008673 : Int64)) (2 : Int32).toNatClampNeg (1008673 : Int64)) (3 : Int32).toNatClampNeg (1008673 : Int64)) (4 : Int32).toNatClampNeg (1008673 : Int64)) (5 : Int32).toNatClampNeg (1008673 : Int64), z.2.1, z.2.2.1, z.2.2.2.1, z.2.2.2.2.1, z.2.2.2.2.2)).2) := hm.trans (if_neg h_95)
                exact ⟨by rw [hm], by rw [hm]⟩
              · have hm := hm.trans (if_pos h_95)
                refine lv_iinc (v := (1 : Int32)) (lv' := [(2, .int (1 : Int32)), (1, .int (5 : Int32)), (0, .ref a.1)]) hx hb dX0_reset_59 hl (k := 0) rfl (by decide) (by decide) rfl (fun ls hl => ?_)
                refine lv_goto (tgt := 46) hx hb dX0_reset_62 (by decide) ?_
                refine lv_iload_n hx hb dX0_reset_46 rfl (lv_at hl 0 rfl) ?_
                refine lv_iconst (v := 2) hx hb dX0_reset_47 (by decide) ?_
                refine lv_icmp_ge (tgt := 65) hx hb dX0_reset_48 (by decide) (fun h => absurd h (by decide)) (fun _ => ?_)
                refine lv_aload_n hx hb dX0_reset_51 rfl (lv_at hl 2 rfl) ?_
                refine lv_iload_n hx hb dX0_reset_52 rfl (lv_at hl 0 rfl) ?_
                refine lv_iconst (v := 0) hx hb dX0_reset_53 (by decide) ?_
                refine lv_iconst (v := 0) hx hb dX0_reset_54 (by decide) ?_
                refine lv_iconst (v := 0) hx hb dX0_reset_55 (by decide) ?_
                refine cc_V hC hGx hD hEx hlocks (c_X0_putSpan l hl9 k a hD (1 : Int32) (0 : Int32) (0 : Int32) (0 : Int32) ((m_X0_putSpan (0 : Int32) (0 : Int32) (0 : Int32) (0 : Int32) (vp_updL (vp_updL (vp_updL (vp_updL (vp_updL z.1 (1 : Int32).toNatClampNeg (1008673 : Int64)) (2 : Int32).toNatClampNeg (1008673 : Int64)) (3 : Int32).toNatClampNeg (1008673 : Int64)) (4 : Int32).toNatClampNeg (1008673 : Int64)) (5 : Int32).toNatClampNeg (1008673 : Int64), z.2.1, z.2.2.1, z.2.2.2.1, z.2.2.2.2.1, z.2.2.2.2.2)).2)) (gV w_82 w_83 w_6 w_26 w_84) kk_X0_putSpan rfl ⟨Nat.le_of_ble_eq_true rfl, Nat.le_of_ble_eq_true rfl⟩ ⟨Nat.le_of_ble_eq_true rfl, Nat.le_of_ble_eq_true rfl⟩ ⟨Nat.le_of_ble_eq_true rfl, Nat.le_of_ble_eq_true rfl⟩ hP hS hl.1 rfl rfl (Nat.le_of_ble_eq_true rfl) dX0_reset_56 (fun h_96 => ?_) (fun h_96 H locs hP hS => ?_)
                · have hm : m_X0_reset z = ((m_X0_putSpan (1 : Int32) (0 : Int32) (0 : Int32) (0 : Int32) ((m_X0_putSpan (0 : Int32) (0 : Int32) (0 : Int32) (0 : Int32) (vp_updL (vp_updL (vp_updL (vp_updL (vp_updL z.1 (1 : Int32).toNatClampNeg (1008673 : Int64)) (2 : Int32).toNatClampNeg (1008673 : Int64)) (3 : Int32).toNatClampNeg (1008673 : Int64)) (4 : Int32).toNatClampNeg (1008673 : Int64)) (5 : Int32).toNatClampNeg (1008673 : Int64), z.2.1, z.2.2.1, z.2.2.2.1, z.2.2.2.2.1, z.2.2.2.2.2)).2)).1, 0, (m_X0_putSpan (1 : Int32) (0 : Int32) (0 : Int32) (0 : Int32) ((m_X0_putSpan (0 : Int32) (0 : Int32) (0 : Int32) (0 : Int32) (vp_updL (vp_updL (vp_updL (vp_updL (vp_updL z.1 (1 : Int32).toNatClampNeg (1008673 : Int64)) (2 : Int32).toNatClampNeg (1008673 : Int64)) (3 : Int32).toNatClampNeg (1008673 : Int64)) (4 : Int32).toNatClampNeg (1008673 : Int64)) (5 : Int32).toNatClampNeg (1008673 : Int64), z.2.1, z.2.2.1, z.2.2.2.1, z.2.2.2.2.1, z.2.2.2.2.2)).2)).2) := hm.trans (if_neg h_96)
                  exact ⟨by rw [hm], by rw [hm]⟩
                · have hm := hm.trans (if_pos h_96)
                  refine lv_iinc (v := (2 : Int32)) (lv' := [(2, .int (2 : Int32)), (1, .int (5 : Int32)), (0, .ref a.1)]) hx hb dX0_reset_59 hl (k := 0) rfl (by decide) (by decide) rfl (fun ls hl => ?_)
                  refine lv_goto (tgt := 46) hx hb dX0_reset_62 (by decide) ?_
                  refine lv_iload_n hx hb dX0_reset_46 rfl (lv_at hl 0 rfl) ?_
                  refine lv_iconst (v := 2) hx hb dX0_reset_47 (by decide) ?_
                  refine lv_icmp_ge (tgt := 65) hx hb dX0_reset_48 (by decide) (fun _ => ?_) (fun h => absurd h (by decide))
                  refine lv_iload_n hx hb dX0_reset_65 rfl (lv_at hl 1 rfl) ?_
                  have hm : m_X0_reset z = (0, (5 : Int32), (m_X0_putSpan (1 : Int32) (0 : Int32) (0 : Int32) (0 : Int32) ((m_X0_putSpan (0 : Int32) (0 : Int32) (0 : Int32) (0 : Int32) (vp_updL (vp_updL (vp_updL (vp_updL (vp_updL z.1 (1 : Int32).toNatClampNeg (1008673 : Int64)) (2 : Int32).toNatClampNeg (1008673 : Int64)) (3 : Int32).toNatClampNeg (1008673 : Int64)) (4 : Int32).toNatClampNeg (1008673 : Int64)) (5 : Int32).toNatClampNeg (1008673 : Int64), z.2.1, z.2.2.1, z.2.2.2.1, z.2.2.2.2.1, z.2.2.2.2.2)).2)).2) := hm
                  exact c_iret (E := (5 : Int32)) hx hb hr hlocks (by rw [hm]) (by rw [hm]) (by rw [hm]) hP hS ⟨Nat.le_of_ble_eq_true rfl, Nat.le_of_ble_eq_true rfl⟩ dX0_reset_66
  · have hm := hm.trans (if_neg h_1)
    refine lv_iinc (v := (1 : Int32)) (lv' := [(1, .int (1 : Int32)), (2, .int (0 : Int32)), (0, .ref a.1)]) hx hb dX0_reset_26 hl (k := 1) rfl (by decide) (by decide) rfl (fun ls hl => ?_)
    refine lv_aload_n hx hb dX0_reset_29 rfl (lv_at hl 2 rfl) ?_
    refine va_get (D := kD k) (ci := 2) (v := .ref a.2.1) (C := RX0) (T := TX0) (N := 6) hx hb htg inG_X0 hown hGx.1 hP 0 rfl rfl 0 (by decide) (htg _ w_57) (fun _ h9 => h9) rfl dX0_reset_30 ?_
    refine lv_iload_n hx hb dX0_reset_33 rfl (lv_at hl 1 rfl) ?_
    refine lv_ldc2 hx hb hown (htg _ w_56) dX0_reset_34 ?_
    refine va_last (D := kD k) hx hb hGx.1 hP (hD.own _ _) hS 1 0 rfl rfl (show ¬ ((0 : Int32) < 0 ∨ 6 ≤ ((0 : Int32)).toNatClampNeg) by decide) dX0_reset_37 (fun H locs hP1 _ hS => ?_)
    have hP : va_P (kD k) vwCl (cW k a (vp_updL z.1 (0 : Int32).toNatClampNeg (1008673 : Int64), z.2.1, z.2.2.1, z.2.2.2.1, z.2.2.2.2.1, z.2.2.2.2.2)) H := hP1
    refine lv_iinc (v := (1 : Int32)) (lv' := [(2, .int (1 : Int32)), (1, .int (1 : Int32)), (0, .ref a.1)]) hx hb dX0_reset_38 hl (k := 1) rfl (by decide) (by decide) rfl (fun ls hl => ?_)
    refine lv_goto (tgt := 4) hx hb dX0_reset_41 (by decide) ?_
    refine lv_iload_n hx hb dX0_reset_4 rfl (lv_at hl 0 rfl) ?_
    refine lv_aload_n hx hb dX0_reset_5 rfl (lv_at hl 2 rfl) ?_
    refine va_get (D := kD k) (ci := 2) (v := .ref a.2.1) (C := RX0) (T := TX0) (N := 6) hx hb htg inG_X0 hown hGx.1 hP 0 rfl rfl 0 (by decide) (htg _ w_57) (fun _ h9 => h9) rfl dX0_reset_6 ?_
    refine va_alen (D := kD k) (v := 6) hx hb hGx.1 hP 1 0 rfl rfl (show Int32.ofNat 6 = 6 by decide) dX0_reset_9 ?_
    refine lv_icmp_ge (tgt := 44) hx hb dX0_reset_10 (by decide) (fun h => absurd h (by decide)) (fun _ => ?_)
    refine lv_aload_n hx hb dX0_reset_13 rfl (lv_at hl 2 rfl) ?_
    refine va_get (D := kD k) (ci := 2) (v := .ref a.2.1) (C := RX0) (T := TX0) (N := 6) hx hb htg inG_X0 hown hGx.1 hP 0 rfl rfl 0 (by decide) (htg _ w_57) (fun _ h9 => h9) rfl dX0_reset_14 ?_
    refine lv_iload_n hx hb dX0_reset_17 rfl (lv_at hl 0 rfl) ?_
    refine va_lald (D := kD k) hx hb hGx.1 hP 1 0 rfl rfl (show ¬ ((1 : Int32) < 0 ∨ 6 ≤ ((1 : Int32)).toNatClampNeg) by decide) dX0_reset_18 ?_
    refine lv_ldc2 hx hb hown (htg _ w_56) dX0_reset_19 ?_
    refine W.lcmp hx hb dX0_reset_22 ?_
    refine lv_if_eq (tgt := 38) hx hb dX0_reset_23 (by decide) (fun h_97 => ?_) (fun h_97 => ?_)
    · have hm := hm.trans (if_pos h_97)
      refine lv_iinc (v := (2 : Int32)) (lv' := [(2, .int (2 : Int32)), (1, .int (1 : Int32)), (0, .ref a.1)]) hx hb dX0_reset_38 hl (k := 0) rfl (by decide) (by decide) rfl (fun ls hl => ?_)
      refine lv_goto (tgt := 4) hx hb dX0_reset_41 (by decide) ?_
      refine lv_iload_n hx hb dX0_reset_4 rfl (lv_at hl 0 rfl) ?_
      refine lv_aload_n hx hb dX0_reset_5 rfl (lv_at hl 2 rfl) ?_
      refine va_get (D := kD k) (ci := 2) (v := .ref a.2.1) (C := RX0) (T := TX0) (N := 6) hx hb htg inG_X0 hown hGx.1 hP 0 rfl rfl 0 (by decide) (htg _ w_57) (fun _ h9 => h9) rfl dX0_reset_6 ?_
      refine va_alen (D := kD k) (v := 6) hx hb hGx.1 hP 1 0 rfl rfl (show Int32.ofNat 6 = 6 by decide) dX0_reset_9 ?_
      refine lv_icmp_ge (tgt := 44) hx hb dX0_reset_10 (by decide) (fun h => absurd h (by decide)) (fun _ => ?_)
      refine lv_aload_n hx hb dX0_reset_13 rfl (lv_at hl 2 rfl) ?_
      refine va_get (D := kD k) (ci := 2) (v := .ref a.2.1) (C := RX0) (T := TX0) (N := 6) hx hb htg inG_X0 hown hGx.1 hP 0 rfl rfl 0 (by decide) (htg _ w_57) (fun _ h9 => h9) rfl dX0_reset_14 ?_
      refine lv_iload_n hx hb dX0_reset_17 rfl (lv_at hl 0 rfl) ?_
      refine va_lald (D := kD k) hx hb hGx.1 hP 1 0 rfl rfl (show ¬ ((2 : Int32) < 0 ∨ 6 ≤ ((2 : Int32)).toNatClampNeg) by decide) dX0_reset_18 ?_
      refine lv_ldc2 hx hb hown (htg _ w_56) dX0_reset_19 ?_
      refine W.lcmp hx hb dX0_reset_22 ?_
      refine lv_if_eq (tgt := 38) hx hb dX0_reset_23 (by decide) (fun h_98 => ?_) (fun h_98 => ?_)
      · have hm := hm.trans (if_pos h_98)
        refine lv_iinc (v := (3 : Int32)) (lv' := [(2, .int (3 : Int32)), (1, .int (1 : Int32)), (0, .ref a.1)]) hx hb dX0_reset_38 hl (k := 0) rfl (by decide) (by decide) rfl (fun ls hl => ?_)
        refine lv_goto (tgt := 4) hx hb dX0_reset_41 (by decide) ?_
        refine lv_iload_n hx hb dX0_reset_4 rfl (lv_at hl 0 rfl) ?_
        refine lv_aload_n hx hb dX0_reset_5 rfl (lv_at hl 2 rfl) ?_
        refine va_get (D := kD k) (ci := 2) (v := .ref a.2.1) (C := RX0) (T := TX0) (N := 6) hx hb htg inG_X0 hown hGx.1 hP 0 rfl rfl 0 (by decide) (htg _ w_57) (fun _ h9 => h9) rfl dX0_reset_6 ?_
        refine va_alen (D := kD k) (v := 6) hx hb hGx.1 hP 1 0 rfl rfl (show Int32.ofNat 6 = 6 by decide) dX0_reset_9 ?_
        refine lv_icmp_ge (tgt := 44) hx hb dX0_reset_10 (by decide) (fun h => absurd h (by decide)) (fun _ => ?_)
        refine lv_aload_n hx hb dX0_reset_13 rfl (lv_at hl 2 rfl) ?_
        refine va_get (D := kD k) (ci := 2) (v := .ref a.2.1) (C := RX0) (T := TX0) (N := 6) hx hb htg inG_X0 hown hGx.1 hP 0 rfl rfl 0 (by decide) (htg _ w_57) (fun _ h9 => h9) rfl dX0_reset_14 ?_
        refine lv_iload_n hx hb dX0_reset_17 rfl (lv_at hl 0 rfl) ?_
        refine va_lald (D := kD k) hx hb hGx.1 hP 1 0 rfl rfl (show ¬ ((3 : Int32) < 0 ∨ 6 ≤ ((3 : Int32)).toNatClampNeg) by decide) dX0_reset_18 ?_
        refine lv_ldc2 hx hb hown (htg _ w_56) dX0_reset_19 ?_
        refine W.lcmp hx hb dX0_reset_22 ?_
        refine lv_if_eq (tgt := 38) hx hb dX0_reset_23 (by decide) (fun h_99 => ?_) (fun h_99 => ?_)
        · have hm := hm.trans (if_pos h_99)
          refine lv_iinc (v := (4 : Int32)) (lv' := [(2, .int (4 : Int32)), (1, .int (1 : Int32)), (0, .ref a.1)]) hx hb dX0_reset_38 hl (k := 0) rfl (by decide) (by decide) rfl (fun ls hl => ?_)
          refine lv_goto (tgt := 4) hx hb dX0_reset_41 (by decide) ?_
          refine lv_iload_n hx hb dX0_reset_4 rfl (lv_at hl 0 rfl) ?_
          refine lv_aload_n hx hb dX0_reset_5 rfl (lv_at hl 2 rfl) ?_
          refine va_get (D := kD k) (ci := 2) (v := .ref a.2.1) (C := RX0) (T := TX0) (N := 6) hx hb htg inG_X0 hown hGx.1 hP 0 rfl rfl 0 (by decide) (htg _ w_57) (fun _ h9 => h9) rfl dX0_reset_6 ?_
          refine va_alen (D := kD k) (v := 6) hx hb hGx.1 hP 1 0 rfl rfl (show Int32.ofNat 6 = 6 by decide) dX0_reset_9 ?_
          refine lv_icmp_ge (tgt := 44) hx hb dX0_reset_10 (by decide) (fun h => absurd h (by decide)) (fun _ => ?_)
          refine lv_aload_n hx hb dX0_reset_13 rfl (lv_at hl 2 rfl) ?_
          refine va_get (D := kD k) (ci := 2) (v := .ref a.2.1) (C := RX0) (T := TX0) (N := 6) hx hb htg inG_X0 hown hGx.1 hP 0 rfl rfl 0 (by decide) (htg _ w_57) (fun _ h9 => h9) rfl dX0_reset_14 ?_
          refine lv_iload_n hx hb dX0_reset_17 rfl (lv_at hl 0 rfl) ?_
          refine va_lald (D := kD k) hx hb hGx.1 hP 1 0 rfl rfl (show ¬ ((4 : Int32) < 0 ∨ 6 ≤ ((4 : Int32)).toNatClampNeg) by decide) dX0_reset_18 ?_
          refine lv_ldc2 hx hb hown (htg _ w_56) dX0_reset_19 ?_
          refine W.lcmp hx hb dX0_reset_22 ?_
          refine lv_if_eq (tgt := 38) hx hb dX0_reset_23 (by decide) (fun h_100 => ?_) (fun h_100 => ?_)
          · have hm := hm.trans (if_pos h_100)
            refine lv_iinc (v := (5 : Int32)) (lv' := [(2, .int (5 : Int32)), (1, .int (1 : Int32)), (0, .ref a.1)]) hx hb dX0_reset_38 hl (k := 0) rfl (by decide) (by decide) rfl (fun ls hl => ?_)
            refine lv_goto (tgt := 4) hx hb dX0_reset_41 (by decide) ?_
            refine lv_iload_n hx hb dX0_reset_4 rfl (lv_at hl 0 rfl) ?_
            refine lv_aload_n hx hb dX0_reset_5 rfl (lv_at hl 2 rfl) ?_
            refine va_get (D := kD k) (ci := 2) (v := .ref a.2.1) (C := RX0) (T := TX0) (N := 6) hx hb htg inG_X0 hown hGx.1 hP 0 rfl rfl 0 (by decide) (htg _ w_57) (fun _ h9 => h9) rfl dX0_reset_6 ?_
            refine va_alen (D := kD k) (v := 6) hx hb hGx.1 hP 1 0 rfl rfl (show Int32.ofNat 6 = 6 by decide) dX0_reset_9 ?_
            refine lv_icmp_ge (tgt := 44) hx hb dX0_reset_10 (by decide) (fun h => absurd h (by decide)) (fun _ => ?_)
            refine lv_aload_n hx hb dX0_reset_13 rfl (lv_at hl 2 rfl) ?_
            refine va_get (D := kD k) (ci := 2) (v := .ref a.2.1) (C := RX0) (T := TX0) (N := 6) hx hb htg inG_X0 hown hGx.1 hP 0 rfl rfl 0 (by decide) (htg _ w_57) (fun _ h9 => h9) rfl dX0_reset_14 ?_
            refine lv_iload_n hx hb dX0_reset_17 rfl (lv_at hl 0 rfl) ?_
            refine va_lald (D := kD k) hx hb hGx.1 hP 1 0 rfl rfl (show ¬ ((5 : Int32) < 0 ∨ 6 ≤ ((5 : Int32)).toNatClampNeg) by decide) dX0_reset_18 ?_
            refine lv_ldc2 hx hb hown (htg _ w_56) dX0_reset_19 ?_
            refine W.lcmp hx hb dX0_reset_22 ?_
            refine lv_if_eq (tgt := 38) hx hb dX0_reset_23 (by decide) (fun h_101 => ?_) (fun h_101 => ?_)
            · have hm := hm.trans (if_pos h_101)
              refine lv_iinc (v := (6 : Int32)) (lv' := [(2, .int (6 : Int32)), (1, .int (1 : Int32)), (0, .ref a.1)]) hx hb dX0_reset_38 hl (k := 0) rfl (by decide) (by decide) rfl (fun ls hl => ?_)
              refine lv_goto (tgt := 4) hx hb dX0_reset_41 (by decide) ?_
              refine lv_iload_n hx hb dX0_reset_4 rfl (lv_at hl 0 rfl) ?_
              refine lv_aload_n hx hb dX0_reset_5 rfl (lv_at hl 2 rfl) ?_
              refine va_get (D := kD k) (ci := 2) (v := .ref a.2.1) (C := RX0) (T := TX0) (N := 6) hx hb htg inG_X0 hown hGx.1 hP 0 rfl rfl 0 (by decide) (htg _ w_57) (fun _ h9 => h9) rfl dX0_reset_6 ?_
              refine va_alen (D := kD k) (v := 6) hx hb hGx.1 hP 1 0 rfl rfl (show Int32.ofNat 6 = 6 by decide) dX0_reset_9 ?_
              refine lv_icmp_ge (tgt := 44) hx hb dX0_reset_10 (by decide) (fun _ => ?_) (fun h => absurd h (by decide))
              refine lv_iconst (v := 0) hx hb dX0_reset_44 (by decide) ?_
              refine lv_istore_n (lv' := [(2, .int (0 : Int32)), (1, .int (1 : Int32)), (0, .ref a.1)]) hx hb dX0_reset_45 rfl hl (by decide) rfl (fun ls hl => ?_)
              refine lv_iload_n hx hb dX0_reset_46 rfl (lv_at hl 0 rfl) ?_
              refine lv_iconst (v := 2) hx hb dX0_reset_47 (by decide) ?_
              refine lv_icmp_ge (tgt := 65) hx hb dX0_reset_48 (by decide) (fun h => absurd h (by decide)) (fun _ => ?_)
              refine lv_aload_n hx hb dX0_reset_51 rfl (lv_at hl 2 rfl) ?_
              refine lv_iload_n hx hb dX0_reset_52 rfl (lv_at hl 0 rfl) ?_
              refine lv_iconst (v := 0) hx hb dX0_reset_53 (by decide) ?_
              refine lv_iconst (v := 0) hx hb dX0_reset_54 (by decide) ?_
              refine lv_iconst (v := 0) hx hb dX0_reset_55 (by decide) ?_
              refine cc_V hC hGx hD hEx hlocks (c_X0_putSpan l hl9 k a hD (0 : Int32) (0 : Int32) (0 : Int32) (0 : Int32) (vp_updL z.1 (0 : Int32).toNatClampNeg (1008673 : Int64), z.2.1, z.2.2.1, z.2.2.2.1, z.2.2.2.2.1, z.2.2.2.2.2)) (gV w_82 w_83 w_6 w_26 w_84) kk_X0_putSpan rfl ⟨Nat.le_of_ble_eq_true rfl, Nat.le_of_ble_eq_true rfl⟩ ⟨Nat.le_of_ble_eq_true rfl, Nat.le_of_ble_eq_true rfl⟩ ⟨Nat.le_of_ble_eq_true rfl, Nat.le_of_ble_eq_true rfl⟩ hP hS hl.1 rfl rfl (Nat.le_of_ble_eq_true rfl) dX0_reset_56 (fun h_102 => ?_) (fun h_102 H locs hP hS => ?_)
              · have hm : m_X0_reset z = ((m_X0_putSpan (0 : Int32) (0 : Int32) (0 : Int32) (0 : Int32) (vp_updL z.1 (0 : Int32).toNatClampNeg (1008673 : Int64), z.2.1, z.2.2.1, z.2.2.2.1, z.2.2.2.2.1, z.2.2.2.2.2)).1, 0, (m_X0_putSpan (0 : Int32) (0 : Int32) (0 : Int32) (0 : Int32) (vp_updL z.1 (0 : Int32).toNatClampNeg (1008673 : Int64), z.2.1, z.2.2.1, z.2.2.2.1, z.2.2.2.2.1, z.2.2.2.2.2)).2) := hm.trans (if_neg h_102)
                exact ⟨by rw [hm], by rw [hm]⟩
              · have hm := hm.trans (if_pos h_102)
                refine lv_iinc (v := (1 : Int32)) (lv' := [(2, .int (1 : Int32)), (1, .int (1 : Int32)), (0, .ref a.1)]) hx hb dX0_reset_59 hl (k := 0) rfl (by decide) (by decide) rfl (fun ls hl => ?_)
                refine lv_goto (tgt := 46) hx hb dX0_reset_62 (by decide) ?_
                refine lv_iload_n hx hb dX0_reset_46 rfl (lv_at hl 0 rfl) ?_
                refine lv_iconst (v := 2) hx hb dX0_reset_47 (by decide) ?_
                refine lv_icmp_ge (tgt := 65) hx hb dX0_reset_48 (by decide) (fun h => absurd h (by decide)) (fun _ => ?_)
                refine lv_aload_n hx hb dX0_reset_51 rfl (lv_at hl 2 rfl) ?_
                refine lv_iload_n hx hb dX0_reset_52 rfl (lv_at hl 0 rfl) ?_
                refine lv_iconst (v := 0) hx hb dX0_reset_53 (by decide) ?_
                refine lv_iconst (v := 0) hx hb dX0_reset_54 (by decide) ?_
                refine lv_iconst (v := 0) hx hb dX0_reset_55 (by decide) ?_
                refine cc_V hC hGx hD hEx hlocks (c_X0_putSpan l hl9 k a hD (1 : Int32) (0 : Int32) (0 : Int32) (0 : Int32) ((m_X0_putSpan (0 : Int32) (0 : Int32) (0 : Int32) (0 : Int32) (vp_updL z.1 (0 : Int32).toNatClampNeg (1008673 : Int64), z.2.1, z.2.2.1, z.2.2.2.1, z.2.2.2.2.1, z.2.2.2.2.2)).2)) (gV w_82 w_83 w_6 w_26 w_84) kk_X0_putSpan rfl ⟨Nat.le_of_ble_eq_true rfl, Nat.le_of_ble_eq_true rfl⟩ ⟨Nat.le_of_ble_eq_true rfl, Nat.le_of_ble_eq_true rfl⟩ ⟨Nat.le_of_ble_eq_true rfl, Nat.le_of_ble_eq_true rfl⟩ hP hS hl.1 rfl rfl (Nat.le_of_ble_eq_true rfl) dX0_reset_56 (fun h_103 => ?_) (fun h_103 H locs hP hS => ?_)
                · have hm : m_X0_reset z = ((m_X0_putSpan (1 : Int32) (0 : Int32) (0 : Int32) (0 : Int32) ((m_X0_putSpan (0 : Int32) (0 : Int32) (0 : Int32) (0 : Int32) (vp_updL z.1 (0 : Int32).toNatClampNeg (1008673 : Int64), z.2.1, z.2.2.1, z.2.2.2.1, z.2.2.2.2.1, z.2.2.2.2.2)).2)).1, 0, (m_X0_putSpan (1 : Int32) (0 : Int32) (0 : Int32) (0 : Int32) ((m_X0_putSpan (0 : Int32) (0 : Int32) (0 : Int32) (0 : Int32) (vp_updL z.1 (0 : Int32).toNatClampNeg (1008673 : Int64), z.2.1, z.2.2.1, z.2.2.2.1, z.2.2.2.2.1, z.2.2.2.2.2)).2)).2) := hm.trans (if_neg h_103)
                  exact ⟨by rw [hm], by rw [hm]⟩
                · have hm := hm.trans (if_pos h_103)
                  refine lv_iinc (v := (2 : Int32)) (lv' := [(2, .int (2 : Int32)), (1, .int (1 : Int32)), (0, .ref a.1)]) hx hb dX0_reset_59 hl (k := 0) rfl (by decide) (by decide) rfl (fun ls hl => ?_)
                  refine lv_goto (tgt := 46) hx hb dX0_reset_62 (by decide) ?_
                  refine lv_iload_n hx hb dX0_reset_46 rfl (lv_at hl 0 rfl) ?_
                  refine lv_iconst (v := 2) hx hb dX0_reset_47 (by decide) ?_
                  refine lv_icmp_ge (tgt := 65) hx hb dX0_reset_48 (by decide) (fun _ => ?_) (fun h => absurd h (by decide))
                  refine lv_iload_n hx hb dX0_reset_65 rfl (lv_at hl 1 rfl) ?_
                  have hm : m_X0_reset z = (0, (1 : Int32), (m_X0_putSpan (1 : Int32) (0 : Int32) (0 : Int32) (0 : Int32) ((m_X0_putSpan (0 : Int32) (0 : Int32) (0 : Int32) (0 : Int32) (vp_updL z.1 (0 : Int32).toNatClampNeg (1008673 : Int64), z.2.1, z.2.2.1, z.2.2.2.1, z.2.2.2.2.1, z.2.2.2.2.2)).2)).2) := hm
                  exact c_iret (E := (1 : Int32)) hx hb hr hlocks (by rw [hm]) (by rw [hm]) (by rw [hm]) hP hS ⟨Nat.le_of_ble_eq_true rfl, Nat.le_of_ble_eq_true rfl⟩ dX0_reset_66
            · have hm := hm.trans (if_neg h_101)
              refine lv_iinc (v := (2 : Int32)) (lv' := [(1, .int (2 : Int32)), (2, .int (5 : Int32)), (0, .ref a.1)]) hx hb dX0_reset_26 hl (k := 1) rfl (by decide) (by decide) rfl (fun ls hl => ?_)
              refine lv_aload_n hx hb dX0_reset_29 rfl (lv_at hl 2 rfl) ?_
              refine va_get (D := kD k) (ci := 2) (v := .ref a.2.1) (C := RX0) (T := TX0) (N := 6) hx hb htg inG_X0 hown hGx.1 hP 0 rfl rfl 0 (by decide) (htg _ w_57) (fun _ h9 => h9) rfl dX0_reset_30 ?_
              refine lv_iload_n hx hb dX0_reset_33 rfl (lv_at hl 1 rfl) ?_
              refine lv_ldc2 hx hb hown (htg _ w_56) dX0_reset_34 ?_
              refine va_last (D := kD k) hx hb hGx.1 hP (hD.own _ _) hS 1 0 rfl rfl (show ¬ ((5 : Int32) < 0 ∨ 6 ≤ ((5 : Int32)).toNatClampNeg) by decide) dX0_reset_37 (fun H locs hP1 _ hS => ?_)
              have hP : va_P (kD k) vwCl (cW k a (vp_updL (vp_updL z.1 (0 : Int32).toNatClampNeg (1008673 : Int64)) (5 : Int32).toNatClampNeg (1008673 : Int64), z.2.1, z.2.2.1, z.2.2.2.1, z.2.2.2.2.1, z.2.2.2.2.2)) H := hP1
              refine lv_iinc (v := (6 : Int32)) (lv' := [(2, .int (6 : Int32)), (1, .int (2 : Int32)), (0, .ref a.1)]) hx hb dX0_reset_38 hl (k := 1) rfl (by decide) (by decide) rfl (fun ls hl => ?_)
              refine lv_goto (tgt := 4) hx hb dX0_reset_41 (by decide) ?_
              refine lv_iload_n hx hb dX0_reset_4 rfl (lv_at hl 0 rfl) ?_
              refine lv_aload_n hx hb dX0_reset_5 rfl (lv_at hl 2 rfl) ?_
              refine va_get (D := kD k) (ci := 2) (v := .ref a.2.1) (C := RX0) (T := TX0) (N := 6) hx hb htg inG_X0 hown hGx.1 hP 0 rfl rfl 0 (by decide) (htg _ w_57) (fun _ h9 => h9) rfl dX0_reset_6 ?_
              refine va_alen (D := kD k) (v := 6) hx hb hGx.1 hP 1 0 rfl rfl (show Int32.ofNat 6 = 6 by decide) dX0_reset_9 ?_
              refine lv_icmp_ge (tgt := 44) hx hb dX0_reset_10 (by decide) (fun _ => ?_) (fun h => absurd h (by decide))
              refine lv_iconst (v := 0) hx hb dX0_reset_44 (by decide) ?_
              refine lv_istore_n (lv' := [(2, .int (0 : Int32)), (1, .int (2 : Int32)), (0, .ref a.1)]) hx hb dX0_reset_45 rfl hl (by decide) rfl (fun ls hl => ?_)
              refine lv_iload_n hx hb dX0_reset_46 rfl (lv_at hl 0 rfl) ?_
              refine lv_iconst (v := 2) hx hb dX0_reset_47 (by decide) ?_
              refine lv_icmp_ge (tgt := 65) hx hb dX0_reset_48 (by decide) (fun h => absurd h (by decide)) (fun _ => ?_)
              refine lv_aload_n hx hb dX0_reset_51 rfl (lv_at hl 2 rfl) ?_
              refine lv_iload_n hx hb dX0_reset_52 rfl (lv_at hl 0 rfl) ?_
              refine lv_iconst (v := 0) hx hb dX0_reset_53 (by decide) ?_
              refine lv_iconst (v := 0) hx hb dX0_reset_54 (by decide) ?_
              refine lv_iconst (v := 0) hx hb dX0_reset_55 (by decide) ?_
              refine cc_V hC hGx hD hEx hlocks (c_X0_putSpan l hl9 k a hD (0 : Int32) (0 : Int32) (0 : Int32) (0 : Int32) (vp_updL (vp_updL z.1 (0 : Int32).toNatClampNeg (1008673 : Int64)) (5 : Int32).toNatClampNeg (1008673 : Int64), z.2.1, z.2.2.1, z.2.2.2.1, z.2.2.2.2.1, z.2.2.2.2.2)) (gV w_82 w_83 w_6 w_26 w_84) kk_X0_putSpan rfl ⟨Nat.le_of_ble_eq_true rfl, Nat.le_of_ble_eq_true rfl⟩ ⟨Nat.le_of_ble_eq_true rfl, Nat.le_of_ble_eq_true rfl⟩ ⟨Nat.le_of_ble_eq_true rfl, Nat.le_of_ble_eq_true rfl⟩ hP hS hl.1 rfl rfl (Nat.le_of_ble_eq_true rfl) dX0_reset_56 (fun h_104 => ?_) (fun h_104 H locs hP hS => ?_)
              · have hm : m_X0_reset z = ((m_X0_putSpan (0 : Int32) (0 : Int32) (0 : Int32) (0 : Int32) (vp_updL (vp_updL z.1 (0 : Int32).toNatClampNeg (1008673 : Int64)) (5 : Int32).toNatClampNeg (1008673 : Int64), z.2.1, z.2.2.1, z.2.2.2.1, z.2.2.2.2.1, z.2.2.2.2.2)).1, 0, (m_X0_putSpan (0 : Int32) (0 : Int32) (0 : Int32) (0 : Int32) (vp_updL (vp_updL z.1 (0 : Int32).toNatClampNeg (1008673 : Int64)) (5 : Int32).toNatClampNeg (1008673 : Int64), z.2.1, z.2.2.1, z.2.2.2.1, z.2.2.2.2.1, z.2.2.2.2.2)).2) := hm.trans (if_neg h_104)
                exact ⟨by rw [hm], by rw [hm]⟩
              · have hm := hm.trans (if_pos h_104)
                refine lv_iinc (v := (1 : Int32)) (lv' := [(2, .int (1 : Int32)), (1, .int (2 : Int32)), (0, .ref a.1)]) hx hb dX0_reset_59 hl (k := 0) rfl (by decide) (by decide) rfl (fun ls hl => ?_)
                refine lv_goto (tgt := 46) hx hb dX0_reset_62 (by decide) ?_
                refine lv_iload_n hx hb dX0_reset_46 rfl (lv_at hl 0 rfl) ?_
                refine lv_iconst (v := 2) hx hb dX0_reset_47 (by decide) ?_
                refine lv_icmp_ge (tgt := 65) hx hb dX0_reset_48 (by decide) (fun h => absurd h (by decide)) (fun _ => ?_)
                refine lv_aload_n hx hb dX0_reset_51 rfl (lv_at hl 2 rfl) ?_
                refine lv_iload_n hx hb dX0_reset_52 rfl (lv_at hl 0 rfl) ?_
                refine lv_iconst (v := 0) hx hb dX0_reset_53 (by decide) ?_
                refine lv_iconst (v := 0) hx hb dX0_reset_54 (by decide) ?_
                refine lv_iconst (v := 0) hx hb dX0_reset_55 (by decide) ?_
                refine cc_V hC hGx hD hEx hlocks (c_X0_putSpan l hl9 k a hD (1 : Int32) (0 : Int32) (0 : Int32) (0 : Int32) ((m_X0_putSpan (0 : Int32) (0 : Int32) (0 : Int32) (0 : Int32) (vp_updL (vp_updL z.1 (0 : Int32).toNatClampNeg (1008673 : Int64)) (5 : Int32).toNatClampNeg (1008673 : Int64), z.2.1, z.2.2.1, z.2.2.2.1, z.2.2.2.2.1, z.2.2.2.2.2)).2)) (gV w_82 w_83 w_6 w_26 w_84) kk_X0_putSpan rfl ⟨Nat.le_of_ble_eq_true rfl, Nat.le_of_ble_eq_true rfl⟩ ⟨Nat.le_of_ble_eq_true rfl, Nat.le_of_ble_eq_true rfl⟩ ⟨Nat.le_of_ble_eq_true rfl, Nat.le_of_ble_eq_true rfl⟩ hP hS hl.1 rfl rfl (Nat.le_of_ble_eq_true rfl) dX0_reset_56 (fun h_105 => ?_) (fun h_105 H locs hP hS => ?_)
                · have hm : m_X0_reset z = ((m_X0_putSpan (1 : Int32) (0 : Int32) (0 : Int32) (0 : Int32) ((m_X0_putSpan (0 : Int32) (0 : Int32) (0 : Int32) (0 : Int32) (vp_updL (vp_updL z.1 (0 : Int32).toNatClampNeg (1008673 : Int64)) (5 : Int32).toNatClampNeg (1008673 : Int64), z.2.1, z.2.2.1, z.2.2.2.1, z.2.2.2.2.1, z.2.2.2.2.2)).2)).1, 0, (m_X0_putSpan (1 : Int32) (0 : Int32) (0 : Int32) (0 : Int32) ((m_X0_putSpan (0 : Int32) (0 : Int32) (0 : Int32) (0 : Int32) (vp_updL (vp_updL z.1 (0 : Int32).toNatClampNeg (1008673 : Int64)) (5 : Int32).toNatClampNeg (1008673 : Int64), z.2.1, z.2.2.1, z.2.2.2.1, z.2.2.2.2.1, z.2.2.2.2.2)).2)).2) := hm.trans (if_neg h_105)
                  exact ⟨by rw [hm], by rw [hm]⟩
                · have hm := hm.trans (if_pos h_105)
                  refine lv_iinc (v := (2 : Int32)) (lv' := [(2, .int (2 : Int32)), (1, .int (2 : Int32)), (0, .ref a.1)]) hx hb dX0_reset_59 hl (k := 0) rfl (by decide) (by decide) rfl (fun ls hl => ?_)
                  refine lv_goto (tgt := 46) hx hb dX0_reset_62 (by decide) ?_
                  refine lv_iload_n hx hb dX0_reset_46 rfl (lv_at hl 0 rfl) ?_
                  refine lv_iconst (v := 2) hx hb dX0_reset_47 (by decide) ?_
                  refine lv_icmp_ge (tgt := 65) hx hb dX0_reset_48 (by decide) (fun _ => ?_) (fun h => absurd h (by decide))
                  refine lv_iload_n hx hb dX0_reset_65 rfl (lv_at hl 1 rfl) ?_
                  have hm : m_X0_reset z = (0, (2 : Int32), (m_X0_putSpan (1 : Int32) (0 : Int32) (0 : Int32) (0 : Int32) ((m_X0_putSpan (0 : Int32) (0 : Int32) (0 : Int32) (0 : Int32) (vp_updL (vp_updL z.1 (0 : Int32).toNatClampNeg (1008673 : Int64)) (5 : Int32).toNatClampNeg (1008673 : Int64), z.2.1, z.2.2.1, z.2.2.2.1, z.2.2.2.2.1, z.2.2.2.2.2)).2)).2) := hm
                  exact c_iret (E := (2 : Int32)) hx hb hr hlocks (by rw [hm]) (by rw [hm]) (by rw [hm]) hP hS ⟨Nat.le_of_ble_eq_true rfl, Nat.le_of_ble_eq_true rfl⟩ dX0_reset_66
          · have hm := hm.trans (if_neg h_100)
            refine lv_iinc (v := (2 : Int32)) (lv' := [(1, .int (2 : Int32)), (2, .int (4 : Int32)), (0, .ref a.1)]) hx hb dX0_reset_26 hl (k := 1) rfl (by decide) (by decide) rfl (fun ls hl => ?_)
            refine lv_aload_n hx hb dX0_reset_29 rfl (lv_at hl 2 rfl) ?_
            refine va_get (D := kD k) (ci := 2) (v := .ref a.2.1) (C := RX0) (T := TX0) (N := 6) hx hb htg inG_X0 hown hGx.1 hP 0 rfl rfl 0 (by decide) (htg _ w_57) (fun _ h9 => h9) rfl dX0_reset_30 ?_
            refine lv_iload_n hx hb dX0_reset_33 rfl (lv_at hl 1 rfl) ?_
            refine lv_ldc2 hx hb hown (htg _ w_56) dX0_reset_34 ?_
            refine va_last (D := kD k) hx hb hGx.1 hP (hD.own _ _) hS 1 0 rfl rfl (show ¬ ((4 : Int32) < 0 ∨ 6 ≤ ((4 : Int32)).toNatClampNeg) by decide) dX0_reset_37 (fun H locs hP1 _ hS => ?_)
            have hP : va_P (kD k) vwCl (cW k a (vp_updL (vp_updL z.1 (0 : Int32).toNatClampNeg (1008673 : Int64)) (4 : Int32).toNatClampNeg (1008673 : Int64), z.2.1, z.2.2.1, z.2.2.2.1, z.2.2.2.2.1, z.2.2.2.2.2)) H := hP1
            refine lv_iinc (v := (5 : Int32)) (lv' := [(2, .int (5 : Int32)), (1, .int (2 : Int32)), (0, .ref a.1)]) hx hb dX0_reset_38 hl (k := 1) rfl (by decide) (by decide) rfl (fun ls hl => ?_)
            refine lv_goto (tgt := 4) hx hb dX0_reset_41 (by decide) ?_
            refine lv_iload_n hx hb dX0_reset_4 rfl (lv_at hl 0 rfl) ?_
            refine lv_aload_n hx hb dX0_reset_5 rfl (lv_at hl 2 rfl) ?_
            refine va_get (D := kD k) (ci := 2) (v := .ref a.2.1) (C := RX0) (T := TX0) (N := 6) hx hb htg inG_X0 hown hGx.1 hP 0 rfl rfl 0 (by decide) (htg _ w_57) (fun _ h9 => h9) rfl dX0_reset_6 ?_
            refine va_alen (D := kD k) (v := 6) hx hb hGx.1 hP 1 0 rfl rfl (show Int32.ofNat 6 = 6 by decide) dX0_reset_9 ?_
            refine lv_icmp_ge (tgt := 44) hx hb dX0_reset_10 (by decide) (fun h => absurd h (by decide)) (fun _ => ?_)
            refine lv_aload_n hx hb dX0_reset_13 rfl (lv_at hl 2 rfl) ?_
            refine va_get (D := kD k) (ci := 2) (v := .ref a.2.1) (C := RX0) (T := TX0) (N := 6) hx hb htg inG_X0 hown hGx.1 hP 0 rfl rfl 0 (by decide) (htg _ w_57) (fun _ h9 => h9) rfl dX0_reset_14 ?_
            refine lv_iload_n hx hb dX0_reset_17 rfl (lv_at hl 0 rfl) ?_
            refine va_lald (D := kD k) hx hb hGx.1 hP 1 0 rfl rfl (show ¬ ((5 : Int32) < 0 ∨ 6 ≤ ((5 : Int32)).toNatClampNeg) by decide) dX0_reset_18 ?_
            refine lv_ldc2 hx hb hown (htg _ w_56) dX0_reset_19 ?_
            refine W.lcmp hx hb dX0_reset_22 ?_
            refine lv_if_eq (tgt := 38) hx hb dX0_reset_23 (by decide) (fun h_106 => ?_) (fun h_106 => ?_)
            · have hm := hm.trans (if_pos h_106)
              refine lv_iinc (v := (6 : Int32)) (lv' := [(2, .int (6 : Int32)), (1, .int (2 : Int32)), (0, .ref a.1)]) hx hb dX0_reset_38 hl (k := 0) rfl (by decide) (by decide) rfl (fun ls hl => ?_)
              refine lv_goto (tgt := 4) hx hb dX0_reset_41 (by decide) ?_
              refine lv_iload_n hx hb dX0_reset_4 rfl (lv_at hl 0 rfl) ?_
              refine lv_aload_n hx hb dX0_reset_5 rfl (lv_at hl 2 rfl) ?_
              refine va_get (D := kD k) (ci := 2) (v := .ref a.2.1) (C := RX0) (T := TX0) (N := 6) hx hb htg inG_X0 hown hGx.1 hP 0 rfl rfl 0 (by decide) (htg _ w_57) (fun _ h9 => h9) rfl dX0_reset_6 ?_
              refine va_alen (D := kD k) (v := 6) hx hb hGx.1 hP 1 0 rfl rfl (show Int32.ofNat 6 = 6 by decide) dX0_reset_9 ?_
              refine lv_icmp_ge (tgt := 44) hx hb dX0_reset_10 (by decide) (fun _ => ?_) (fun h => absurd h (by decide))
              refine lv_iconst (v := 0) hx hb dX0_reset_44 (by decide) ?_
              refine lv_istore_n (lv' := [(2, .int (0 : Int32)), (1, .int (2 : Int32)), (0, .ref a.1)]) hx hb dX0_reset_45 rfl hl (by decide) rfl (fun ls hl => ?_)
              refine lv_iload_n hx hb dX0_reset_46 rfl (lv_at hl 0 rfl) ?_
              refine lv_iconst (v := 2) hx hb dX0_reset_47 (by decide) ?_
              refine lv_icmp_ge (tgt := 65) hx hb dX0_reset_48 (by decide) (fun h => absurd h (by decide)) (fun _ => ?_)
              refine lv_aload_n hx hb dX0_reset_51 rfl (lv_at hl 2 rfl) ?_
              refine lv_iload_n hx hb dX0_reset_52 rfl (lv_at hl 0 rfl) ?_
              refine lv_iconst (v := 0) hx hb dX0_reset_53 (by decide) ?_
              refine lv_iconst (v := 0) hx hb dX0_reset_54 (by decide) ?_
              refine lv_iconst (v := 0) hx hb dX0_reset_55 (by decide) ?_
              refine cc_V hC hGx hD hEx hlocks (c_X0_putSpan l hl9 k a hD (0 : Int32) (0 : Int32) (0 : Int32) (0 : Int32) (vp_updL (vp_updL z.1 (0 : Int32).toNatClampNeg (1008673 : Int64)) (4 : Int32).toNatClampNeg (1008673 : Int64), z.2.1, z.2.2.1, z.2.2.2.1, z.2.2.2.2.1, z.2.2.2.2.2)) (gV w_82 w_83 w_6 w_26 w_84) kk_X0_putSpan rfl ⟨Nat.le_of_ble_eq_true rfl, Nat.le_of_ble_eq_true rfl⟩ ⟨Nat.le_of_ble_eq_true rfl, Nat.le_of_ble_eq_true rfl⟩ ⟨Nat.le_of_ble_eq_true rfl, Nat.le_of_ble_eq_true rfl⟩ hP hS hl.1 rfl rfl (Nat.le_of_ble_eq_true rfl) dX0_reset_56 (fun h_107 => ?_) (fun h_107 H locs hP hS => ?_)
              · have hm : m_X0_reset z = ((m_X0_putSpan (0 : Int32) (0 : Int32) (0 : Int32) (0 : Int32) (vp_updL (vp_updL z.1 (0 : Int32).toNatClampNeg (1008673 : Int64)) (4 : Int32).toNatClampNeg (1008673 : Int64), z.2.1, z.2.2.1, z.2.2.2.1, z.2.2.2.2.1, z.2.2.2.2.2)).1, 0, (m_X0_putSpan (0 : Int32) (0 : Int32) (0 : Int32) (0 : Int32) (vp_updL (vp_updL z.1 (0 : Int32).toNatClampNeg (1008673 : Int64)) (4 : Int32).toNatClampNeg (1008673 : Int64), z.2.1, z.2.2.1, z.2.2.2.1, z.2.2.2.2.1, z.2.2.2.2.2)).2) := hm.trans (if_neg h_107)
                exact ⟨by rw [hm], by rw [hm]⟩
              · have hm := hm.trans (if_pos h_107)
                refine lv_iinc (v := (1 : Int32)) (lv' := [(2, .int (1 : Int32)), (1, .int (2 : Int32)), (0, .ref a.1)]) hx hb dX0_reset_59 hl (k := 0) rfl (by decide) (by decide) rfl (fun ls hl => ?_)
                refine lv_goto (tgt := 46) hx hb dX0_reset_62 (by decide) ?_
                refine lv_iload_n hx hb dX0_reset_46 rfl (lv_at hl 0 rfl) ?_
                refine lv_iconst (v := 2) hx hb dX0_reset_47 (by decide) ?_
                refine lv_icmp_ge (tgt := 65) hx hb dX0_reset_48 (by decide) (fun h => absurd h (by decide)) (fun _ => ?_)
                refine lv_aload_n hx hb dX0_reset_51 rfl (lv_at hl 2 rfl) ?_
                refine lv_iload_n hx hb dX0_reset_52 rfl (lv_at hl 0 rfl) ?_
                refine lv_iconst (v := 0) hx hb dX0_reset_53 (by decide) ?_
                refine lv_iconst (v := 0) hx hb dX0_reset_54 (by decide) ?_
                refine lv_iconst (v := 0) hx hb dX0_reset_55 (by decide) ?_
                refine cc_V hC hGx hD hEx hlocks (c_X0_putSpan l hl9 k a hD (1 : Int32) (0 : Int32) (0 : Int32) (0 : Int32) ((m_X0_putSpan (0 : Int32) (0 : Int32) (0 : Int32) (0 : Int32) (vp_updL (vp_updL z.1 (0 : Int32).toNatClampNeg (1008673 : Int64)) (4 : Int32).toNatClampNeg (1008673 : Int64), z.2.1, z.2.2.1, z.2.2.2.1, z.2.2.2.2.1, z.2.2.2.2.2)).2)) (gV w_82 w_83 w_6 w_26 w_84) kk_X0_putSpan rfl ⟨Nat.le_of_ble_eq_true rfl, Nat.le_of_ble_eq_true rfl⟩ ⟨Nat.le_of_ble_eq_true rfl, Nat.le_of_ble_eq_true rfl⟩ ⟨Nat.le_of_ble_eq_true rfl, Nat.le_of_ble_eq_true rfl⟩ hP hS hl.1 rfl rfl (Nat.le_of_ble_eq_true rfl) dX0_reset_56 (fun h_108 => ?_) (fun h_108 H locs hP hS => ?_)
                · have hm : m_X0_reset z = ((m_X0_putSpan (1 : Int32) (0 : Int32) (0 : Int32) (0 : Int32) ((m_X0_putSpan (0 : Int32) (0 : Int32) (0 : Int32) (0 : Int32) (vp_updL (vp_updL z.1 (0 : Int32).toNatClampNeg (1008673 : Int64)) (4 : Int32).toNatClampNeg (1008673 : Int64), z.2.1, z.2.2.1, z.2.2.2.1, z.2.2.2.2.1, z.2.2.2.2.2)).2)).1, 0, (m_X0_putSpan (1 : Int32) (0 : Int32) (0 : Int32) (0 : Int32) ((m_X0_putSpan (0 : Int32) (0 : Int32) (0 : Int32) (0 : Int32) (vp_updL (vp_updL z.1 (0 : Int32).toNatClampNeg (1008673 : Int64)) (4 : Int32).toNatClampNeg (1008673 : Int64), z.2.1, z.2.2.1, z.2.2.2.1, z.2.2.2.2.1, z.2.2.2.2.2)).2)).2) := hm.trans (if_neg h_108)
                  exact ⟨by rw [hm], by rw [hm]⟩
                · have hm := hm.trans (if_pos h_108)
                  refine lv_iinc (v := (2 : Int32)) (lv' := [(2, .int (2 : Int32)), (1, .int (2 : Int32)), (0, .ref a.1)]) hx hb dX0_reset_59 hl (k := 0) rfl (by decide) (by decide) rfl (fun ls hl => ?_)
                  refine lv_goto (tgt := 46) hx hb dX0_reset_62 (by decide) ?_
                  refine lv_iload_n hx hb dX0_reset_46 rfl (lv_at hl 0 rfl) ?_
                  refine lv_iconst (v := 2) hx hb dX0_reset_47 (by decide) ?_
                  refine lv_icmp_ge (tgt := 65) hx hb dX0_reset_48 (by decide) (fun _ => ?_) (fun h => absurd h (by decide))
                  refine lv_iload_n hx hb dX0_reset_65 rfl (lv_at hl 1 rfl) ?_
                  have hm : m_X0_reset z = (0, (2 : Int32), (m_X0_putSpan (1 : Int32) (0 : Int32) (0 : Int32) (0 : Int32) ((m_X0_putSpan (0 : Int32) (0 : Int32) (0 : Int32) (0 : Int32) (vp_updL (vp_updL z.1 (0 : Int32).toNatClampNeg (1008673 : Int64)) (4 : Int32).toNatClampNeg (1008673 : Int64), z.2.1, z.2.2.1, z.2.2.2.1, z.2.2.2.2.1, z.2.2.2.2.2)).2)).2) := hm
                  exact c_iret (E := (2 : Int32)) hx hb hr hlocks (by rw [hm]) (by rw [hm]) (by rw [hm]) hP hS ⟨Nat.le_of_ble_eq_true rfl, Nat.le_of_ble_eq_true rfl⟩ dX0_reset_66
            · have hm := hm.trans (if_neg h_106)
              refine lv_iinc (v := (3 : Int32)) (lv' := [(1, .int (3 : Int32)), (2, .int (5 : Int32)), (0, .ref a.1)]) hx hb dX0_reset_26 hl (k := 1) rfl (by decide) (by decide) rfl (fun ls hl => ?_)
              refine lv_aload_n hx hb dX0_reset_29 rfl (lv_at hl 2 rfl) ?_
              refine va_get (D := kD k) (ci := 2) (v := .ref a.2.1) (C := RX0) (T := TX0) (N := 6) hx hb htg inG_X0 hown hGx.1 hP 0 rfl rfl 0 (by decide) (htg _ w_57) (fun _ h9 => h9) rfl dX0_reset_30 ?_
              refine lv_iload_n hx hb dX0_reset_33 rfl (lv_at hl 1 rfl) ?_
              refine lv_ldc2 hx hb hown (htg _ w_56) dX0_reset_34 ?_
              refine va_last (D := kD k) hx hb hGx.1 hP (hD.own _ _) hS 1 0 rfl rfl (show ¬ ((5 : Int32) < 0 ∨ 6 ≤ ((5 : Int32)).toNatClampNeg) by decide) dX0_reset_37 (fun H locs hP1 _ hS => ?_)
              have hP : va_P (kD k) vwCl (cW k a (vp_updL (vp_updL (vp_updL z.1 (0 : Int32).toNatClampNeg (1008673 : Int64)) (4 : Int32).toNatClampNeg (1008673 : Int64)) (5 : Int32).toNatClampNeg (1008673 : Int64), z.2.1, z.2.2.1, z.2.2.2.1, z.2.2.2.2.1, z.2.2.2.2.2)) H := hP1
              refine lv_iinc (v := (6 : Int32)) (lv' := [(2, .int (6 : Int32)), (1, .int (3 : Int32)), (0, .ref a.1)]) hx hb dX0_reset_38 hl (k := 1) rfl (by decide) (by decide) rfl (fun ls hl => ?_)
              refine lv_goto (tgt := 4) hx hb dX0_reset_41 (by decide) ?_
              refine lv_iload_n hx hb dX0_reset_4 rfl (lv_at hl 0 rfl) ?_
              refine lv_aload_n hx hb dX0_reset_5 rfl (lv_at hl 2 rfl) ?_
              refine va_get (D := kD k) (ci := 2) (v := .ref a.2.1) (C := RX0) (T := TX0) (N := 6) hx hb htg inG_X0 hown hGx.1 hP 0 rfl rfl 0 (by decide) (htg _ w_57) (fun _ h9 => h9) rfl dX0_reset_6 ?_
              refine va_alen (D := kD k) (v := 6) hx hb hGx.1 hP 1 0 rfl rfl (show Int32.ofNat 6 = 6 by decide) dX0_reset_9 ?_
              refine lv_icmp_ge (tgt := 44) hx hb dX0_reset_10 (by decide) (fun _ => ?_) (fun h => absurd h (by decide))
              refine lv_iconst (v := 0) hx hb dX0_reset_44 (by decide) ?_
              refine lv_istore_n (lv' := [(2, .int (0 : Int32)), (1, .int (3 : Int32)), (0, .ref a.1)]) hx hb dX0_reset_45 rfl hl (by decide) rfl (fun ls hl => ?_)
              refine lv_iload_n hx hb dX0_reset_46 rfl (lv_at hl 0 rfl) ?_
              refine lv_iconst (v := 2) hx hb dX0_reset_47 (by decide) ?_
              refine lv_icmp_ge (tgt := 65) hx hb dX0_reset_48 (by decide) (fun h => absurd h (by decide)) (fun _ => ?_)
              refine lv_aload_n hx hb dX0_reset_51 rfl (lv_at hl 2 rfl) ?_
              refine lv_iload_n hx hb dX0_reset_52 rfl (lv_at hl 0 rfl) ?_
              refine lv_iconst (v := 0) hx hb dX0_reset_53 (by decide) ?_
              refine lv_iconst (v := 0) hx hb dX0_reset_54 (by decide) ?_
              refine lv_iconst (v := 0) hx hb dX0_reset_55 (by decide) ?_
              refine cc_V hC hGx hD hEx hlocks (c_X0_putSpan l hl9 k a hD (0 : Int32) (0 : Int32) (0 : Int32) (0 : Int32) (vp_updL (vp_updL (vp_updL z.1 (0 : Int32).toNatClampNeg (1008673 : Int64)) (4 : Int32).toNatClampNeg (1008673 : Int64)) (5 : Int32).toNatClampNeg (1008673 : Int64), z.2.1, z.2.2.1, z.2.2.2.1, z.2.2.2.2.1, z.2.2.2.2.2)) (gV w_82 w_83 w_6 w_26 w_84) kk_X0_putSpan rfl ⟨Nat.le_of_ble_eq_true rfl, Nat.le_of_ble_eq_true rfl⟩ ⟨Nat.le_of_ble_eq_true rfl, Nat.le_of_ble_eq_true rfl⟩ ⟨Nat.le_of_ble_eq_true rfl, Nat.le_of_ble_eq_true rfl⟩ hP hS hl.1 rfl rfl (Nat.le_of_ble_eq_true rfl) dX0_reset_56 (fun h_109 => ?_) (fun h_109 H locs hP hS => ?_)
              · have hm : m_X0_reset z = ((m_X0_putSpan (0 : Int32) (0 : Int32) (0 : Int32) (0 : Int32) (vp_updL (vp_updL (vp_updL z.1 (0 : Int32).toNatClampNeg (1008673 : Int64)) (4 : Int32).toNatClampNeg (1008673 : Int64)) (5 : Int32).toNatClampNeg (1008673 : Int64), z.2.1, z.2.2.1, z.2.2.2.1, z.2.2.2.2.1, z.2.2.2.2.2)).1, 0, (m_X0_putSpan (0 : Int32) (0 : Int32) (0 : Int32) (0 : Int32) (vp_updL (vp_updL (vp_updL z.1 (0 : Int32).toNatClampNeg (1008673 : Int64)) (4 : Int32).toNatClampNeg (1008673 : Int64)) (5 : Int32).toNatClampNeg (1008673 : Int64), z.2.1, z.2.2.1, z.2.2.2.1, z.2.2.2.2.1, z.2.2.2.2.2)).2) := hm.trans (if_neg h_109)
                exact ⟨by rw [hm], by rw [hm]⟩
              · have hm := hm.trans (if_pos h_109)
                refine lv_iinc (v := (1 : Int32)) (lv' := [(2, .int (1 : Int32)), (1, .int (3 : Int32)), (0, .ref a.1)]) hx hb dX0_reset_59 hl (k := 0) rfl (by decide) (by decide) rfl (fun ls hl => ?_)
                refine lv_goto (tgt := 46) hx hb dX0_reset_62 (by decide) ?_
                refine lv_iload_n hx hb dX0_reset_46 rfl (lv_at hl 0 rfl) ?_
                refine lv_iconst (v := 2) hx hb dX0_reset_47 (by decide) ?_
                refine lv_icmp_ge (tgt := 65) hx hb dX0_reset_48 (by decide) (fun h => absurd h (by decide)) (fun _ => ?_)
                refine lv_aload_n hx hb dX0_reset_51 rfl (lv_at hl 2 rfl) ?_
                refine lv_iload_n hx hb dX0_reset_52 rfl (lv_at hl 0 rfl) ?_
                refine lv_iconst (v := 0) hx hb dX0_reset_53 (by decide) ?_
                refine lv_iconst (v := 0) hx hb dX0_reset_54 (by decide) ?_
                refine lv_iconst (v := 0) hx hb dX0_reset_55 (by decide) ?_
                refine cc_V hC hGx hD hEx hlocks (c_X0_putSpan l hl9 k a hD (1 : Int32) (0 : Int32) (0 : Int32) (0 : Int32) ((m_X0_putSpan (0 : Int32) (0 : Int32) (0 : Int32) (0 : Int32) (vp_updL (vp_updL (vp_updL z.1 (0 : Int32).toNatClampNeg (1008673 : Int64)) (4 : Int32).toNatClampNeg (1008673 : Int64)) (5 : Int32).toNatClampNeg (1008673 : Int64), z.2.1, z.2.2.1, z.2.2.2.1, z.2.2.2.2.1, z.2.2.2.2.2)).2)) (gV w_82 w_83 w_6 w_26 w_84) kk_X0_putSpan rfl ⟨Nat.le_of_ble_eq_true rfl, Nat.le_of_ble_eq_true rfl⟩ ⟨Nat.le_of_ble_eq_true rfl, Nat.le_of_ble_eq_true rfl⟩ ⟨Nat.le_of_ble_eq_true rfl, Nat.le_of_ble_eq_true rfl⟩ hP hS hl.1 rfl rfl (Nat.le_of_ble_eq_true rfl) dX0_reset_56 (fun h_110 => ?_) (fun h_110 H locs hP hS => ?_)
                · have hm : m_X0_reset z = ((m_X0_putSpan (1 : Int32) (0 : Int32) (0 : Int32) (0 : Int32) ((m_X0_putSpan (0 : Int32) (0 : Int32) (0 : Int32) (0 : Int32) (vp_updL (vp_updL (vp_updL z.1 (0 : Int32).toNatClampNeg (1008673 : Int64)) (4 : Int32).toNatClampNeg (1008673 : Int64)) (5 : Int32).toNatClampNeg (1008673 : Int64), z.2.1, z.2.2.1, z.2.2.2.1, z.2.2.2.2.1, z.2.2.2.2.2)).2)).1, 0, (m_X0_putSpan (1 : Int32) (0 : Int32) (0 : Int32) (0 : Int32) ((m_X0_putSpan (0 : Int32) (0 : Int32) (0 : Int32) (0 : Int32) (vp_updL (vp_updL (vp_updL z.1 (0 : Int32).toNatClampNeg (1008673 : Int64)) (4 : Int32).toNatClampNeg (1008673 : Int64)) (5 : Int32).toNatClampNeg (1008673 : Int64), z.2.1, z.2.2.1, z.2.2.2.1, z.2.2.2.2.1, z.2.2.2.2.2)).2)).2) := hm.trans (if_neg h_110)
                  exact ⟨by rw [hm], by rw [hm]⟩
                · have hm := hm.trans (if_pos h_110)
                  refine lv_iinc (v := (2 : Int32)) (lv' := [(2, .int (2 : Int32)), (1, .int (3 : Int32)), (0, .ref a.1)]) hx hb dX0_reset_59 hl (k := 0) rfl (by decide) (by decide) rfl (fun ls hl => ?_)
                  refine lv_goto (tgt := 46) hx hb dX0_reset_62 (by decide) ?_
                  refine lv_iload_n hx hb dX0_reset_46 rfl (lv_at hl 0 rfl) ?_
                  refine lv_iconst (v := 2) hx hb dX0_reset_47 (by decide) ?_
                  refine lv_icmp_ge (tgt := 65) hx hb dX0_reset_48 (by decide) (fun _ => ?_) (fun h => absurd h (by decide))
                  refine lv_iload_n hx hb dX0_reset_65 rfl (lv_at hl 1 rfl) ?_
                  have hm : m_X0_reset z = (0, (3 : Int32), (m_X0_putSpan (1 : Int32) (0 : Int32) (0 : Int32) (0 : Int32) ((m_X0_putSpan (0 : Int32) (0 : Int32) (0 : Int32) (0 : Int32) (vp_updL (vp_updL (vp_updL z.1 (0 : Int32).toNatClampNeg (1008673 : Int64)) (4 : Int32).toNatClampNeg (1008673 : Int64)) (5 : Int32).toNatClampNeg (1008673 : Int64), z.2.1, z.2.2.1, z.2.2.2.1, z.2.2.2.2.1, z.2.2.2.2.2)).2)).2) := hm
                  exact c_iret (E := (3 : Int32)) hx hb hr hlocks (by rw [hm]) (by rw [hm]) (by rw [hm]) hP hS ⟨Nat.le_of_ble_eq_true rfl, Nat.le_of_ble_eq_true rfl⟩ dX0_reset_66
        · have hm := hm.trans (if_neg h_99)
          refine lv_iinc (v := (2 : Int32)) (lv' := [(1, .int (2 : Int32)), (2, .int (3 : Int32)), (0, .ref a.1)]) hx hb dX0_reset_26 hl (k := 1) rfl (by decide) (by decide) rfl (fun ls hl => ?_)
          refine lv_aload_n hx hb dX0_reset_29 rfl (lv_at hl 2 rfl) ?_
          refine va_get (D := kD k) (ci := 2) (v := .ref a.2.1) (C := RX0) (T := TX0) (N := 6) hx hb htg inG_X0 hown hGx.1 hP 0 rfl rfl 0 (by decide) (htg _ w_57) (fun _ h9 => h9) rfl dX0_reset_30 ?_
          refine lv_iload_n hx hb dX0_reset_33 rfl (lv_at hl 1 rfl) ?_
          refine lv_ldc2 hx hb hown (htg _ w_56) dX0_reset_34 ?_
          refine va_last (D := kD k) hx hb hGx.1 hP (hD.own _ _) hS 1 0 rfl rfl (show ¬ ((3 : Int32) < 0 ∨ 6 ≤ ((3 : Int32)).toNatClampNeg) by decide) dX0_reset_37 (fun H locs hP1 _ hS => ?_)
          have hP : va_P (kD k) vwCl (cW k a (vp_updL (vp_updL z.1 (0 : Int32).toNatClampNeg (1008673 : Int64)) (3 : Int32).toNatClampNeg (1008673 : Int64), z.2.1, z.2.2.1, z.2.2.2.1, z.2.2.2.2.1, z.2.2.2.2.2)) H := hP1
          refine lv_iinc (v := (4 : Int32)) (lv' := [(2, .int (4 : Int32)), (1, .int (2 : Int32)), (0, .ref a.1)]) hx hb dX0_reset_38 hl (k := 1) rfl (by decide) (by decide) rfl (fun ls hl => ?_)
          refine lv_goto (tgt := 4) hx hb dX0_reset_41 (by decide) ?_
          refine lv_iload_n hx hb dX0_reset_4 rfl (lv_at hl 0 rfl) ?_
          refine lv_aload_n hx hb dX0_reset_5 rfl (lv_at hl 2 rfl) ?_
          refine va_get (D := kD k) (ci := 2) (v := .ref a.2.1) (C := RX0) (T := TX0) (N := 6) hx hb htg inG_X0 hown hGx.1 hP 0 rfl rfl 0 (by decide) (htg _ w_57) (fun _ h9 => h9) rfl dX0_reset_6 ?_
          refine va_alen (D := kD k) (v := 6) hx hb hGx.1 hP 1 0 rfl rfl (show Int32.ofNat 6 = 6 by decide) dX0_reset_9 ?_
          refine lv_icmp_ge (tgt := 44) hx hb dX0_reset_10 (by decide) (fun h => absurd h (by decide)) (fun _ => ?_)
          refine lv_aload_n hx hb dX0_reset_13 rfl (lv_at hl 2 rfl) ?_
          refine va_get (D := kD k) (ci := 2) (v := .ref a.2.1) (C := RX0) (T := TX0) (N := 6) hx hb htg inG_X0 hown hGx.1 hP 0 rfl rfl 0 (by decide) (htg _ w_57) (fun _ h9 => h9) rfl dX0_reset_14 ?_
          refine lv_iload_n hx hb dX0_reset_17 rfl (lv_at hl 0 rfl) ?_
          refine va_lald (D := kD k) hx hb hGx.1 hP 1 0 rfl rfl (show ¬ ((4 : Int32) < 0 ∨ 6 ≤ ((4 : Int32)).toNatClampNeg) by decide) dX0_reset_18 ?_
          refine lv_ldc2 hx hb hown (htg _ w_56) dX0_reset_19 ?_
          refine W.lcmp hx hb dX0_reset_22 ?_
          refine lv_if_eq (tgt := 38) hx hb dX0_reset_23 (by decide) (fun h_111 => ?_) (fun h_111 => ?_)
          · have hm := hm.trans (if_pos h_111)
            refine lv_iinc (v := (5 : Int32)) (lv' := [(2, .int (5 : Int32)), (1, .int (2 : Int32)), (0, .ref a.1)]) hx hb dX0_reset_38 hl (k := 0) rfl (by decide) (by decide) rfl (fun ls hl => ?_)
            refine lv_goto (tgt := 4) hx hb dX0_reset_41 (by decide) ?_
            refine lv_iload_n hx hb dX0_reset_4 rfl (lv_at hl 0 rfl) ?_
            refine lv_aload_n hx hb dX0_reset_5 rfl (lv_at hl 2 rfl) ?_
            refine va_get (D := kD k) (ci := 2) (v := .ref a.2.1) (C := RX0) (T := TX0) (N := 6) hx hb htg inG_X0 hown hGx.1 hP 0 rfl rfl 0 (by decide) (htg _ w_57) (fun _ h9 => h9) rfl dX0_reset_6 ?_
            refine va_alen (D := kD k) (v := 6) hx hb hGx.1 hP 1 0 rfl rfl (show Int32.ofNat 6 = 6 by decide) dX0_reset_9 ?_
            refine lv_icmp_ge (tgt := 44) hx hb dX0_reset_10 (by decide) (fun h => absurd h (by decide)) (fun _ => ?_)
            refine lv_aload_n hx hb dX0_reset_13 rfl (lv_at hl 2 rfl) ?_
            refine va_get (D := kD k) (ci := 2) (v := .ref a.2.1) (C := RX0) (T := TX0) (N := 6) hx hb htg inG_X0 hown hGx.1 hP 0 rfl rfl 0 (by decide) (htg _ w_57) (fun _ h9 => h9) rfl dX0_reset_14 ?_
            refine lv_iload_n hx hb dX0_reset_17 rfl (lv_at hl 0 rfl) ?_
            refine va_lald (D := kD k) hx hb hGx.1 hP 1 0 rfl rfl (show ¬ ((5 : Int32) < 0 ∨ 6 ≤ ((5 : Int32)).toNatClampNeg) by decide) dX0_reset_18 ?_
            refine lv_ldc2 hx hb hown (htg _ w_56) dX0_reset_19 ?_
            refine W.lcmp hx hb dX0_reset_22 ?_
            refine lv_if_eq (tgt := 38) hx hb dX0_reset_23 (by decide) (fun h_112 => ?_) (fun h_112 => ?_)
            · have hm := hm.trans (if_pos h_112)
              refine lv_iinc (v := (6 : Int32)) (lv' := [(2, .int (6 : Int32)), (1, .int (2 : Int32)), (0, .ref a.1)]) hx hb dX0_reset_38 hl (k := 0) rfl (by decide) (by decide) rfl (fun ls hl => ?_)
              refine lv_goto (tgt := 4) hx hb dX0_reset_41 (by decide) ?_
              refine lv_iload_n hx hb dX0_reset_4 rfl (lv_at hl 0 rfl) ?_
              refine lv_aload_n hx hb dX0_reset_5 rfl (lv_at hl 2 rfl) ?_
              refine va_get (D := kD k) (ci := 2) (v := .ref a.2.1) (C := RX0) (T := TX0) (N := 6) hx hb htg inG_X0 hown hGx.1 hP 0 rfl rfl 0 (by decide) (htg _ w_57) (fun _ h9 => h9) rfl dX0_reset_6 ?_
              refine va_alen (D := kD k) (v := 6) hx hb hGx.1 hP 1 0 rfl rfl (show Int32.ofNat 6 = 6 by decide) dX0_reset_9 ?_
              refine lv_icmp_ge (tgt := 44) hx hb dX0_reset_10 (by decide) (fun _ => ?_) (fun h => absurd h (by decide))
              refine lv_iconst (v := 0) hx hb dX0_reset_44 (by decide) ?_
              refine lv_istore_n (lv' := [(2, .int (0 : Int32)), (1, .int (2 : Int32)), (0, .ref a.1)]) hx hb dX0_reset_45 rfl hl (by decide) rfl (fun ls hl => ?_)
              refine lv_iload_n hx hb dX0_reset_46 rfl (lv_at hl 0 rfl) ?_
              refine lv_iconst (v := 2) hx hb dX0_reset_47 (by decide) ?_
              refine lv_icmp_ge (tgt := 65) hx hb dX0_reset_48 (by decide) (fun h => absurd h (by decide)) (fun _ => ?_)
              refine lv_aload_n hx hb dX0_reset_51 rfl (lv_at hl 2 rfl) ?_
              refine lv_iload_n hx hb dX0_reset_52 rfl (lv_at hl 0 rfl) ?_
              refine lv_iconst (v := 0) hx hb dX0_reset_53 (by decide) ?_
              refine lv_iconst (v := 0) hx hb dX0_reset_54 (by decide) ?_
              refine lv_iconst (v := 0) hx hb dX0_reset_55 (by decide) ?_
              refine cc_V hC hGx hD hEx hlocks (c_X0_putSpan l hl9 k a hD (0 : Int32) (0 : Int32) (0 : Int32) (0 : Int32) (vp_updL (vp_updL z.1 (0 : Int32).toNatClampNeg (1008673 : Int64)) (3 : Int32).toNatClampNeg (1008673 : Int64), z.2.1, z.2.2.1, z.2.2.2.1, z.2.2.2.2.1, z.2.2.2.2.2)) (gV w_82 w_83 w_6 w_26 w_84) kk_X0_putSpan rfl ⟨Nat.le_of_ble_eq_true rfl, Nat.le_of_ble_eq_true rfl⟩ ⟨Nat.le_of_ble_eq_true rfl, Nat.le_of_ble_eq_true rfl⟩ ⟨Nat.le_of_ble_eq_true rfl, Nat.le_of_ble_eq_true rfl⟩ hP hS hl.1 rfl rfl (Nat.le_of_ble_eq_true rfl) dX0_reset_56 (fun h_113 => ?_) (fun h_113 H locs hP hS => ?_)
              · have hm : m_X0_reset z = ((m_X0_putSpan (0 : Int32) (0 : Int32) (0 : Int32) (0 : Int32) (vp_updL (vp_updL z.1 (0 : Int32).toNatClampNeg (1008673 : Int64)) (3 : Int32).toNatClampNeg (1008673 : Int64), z.2.1, z.2.2.1, z.2.2.2.1, z.2.2.2.2.1, z.2.2.2.2.2)).1, 0, (m_X0_putSpan (0 : Int32) (0 : Int32) (0 : Int32) (0 : Int32) (vp_updL (vp_updL z.1 (0 : Int32).toNatClampNeg (1008673 : Int64)) (3 : Int32).toNatClampNeg (1008673 : Int64), z.2.1, z.2.2.1, z.2.2.2.1, z.2.2.2.2.1, z.2.2.2.2.2)).2) := hm.trans (if_neg h_113)
                exact ⟨by rw [hm], by rw [hm]⟩
              · have hm := hm.trans (if_pos h_113)
                refine lv_iinc (v := (1 : Int32)) (lv' := [(2, .int (1 : Int32)), (1, .int (2 : Int32)), (0, .ref a.1)]) hx hb dX0_reset_59 hl (k := 0) rfl (by decide) (by decide) rfl (fun ls hl => ?_)
                refine lv_goto (tgt := 46) hx hb dX0_reset_62 (by decide) ?_
                refine lv_iload_n hx hb dX0_reset_46 rfl (lv_at hl 0 rfl) ?_
                refine lv_iconst (v := 2) hx hb dX0_reset_47 (by decide) ?_
                refine lv_icmp_ge (tgt := 65) hx hb dX0_reset_48 (by decide) (fun h => absurd h (by decide)) (fun _ => ?_)
                refine lv_aload_n hx hb dX0_reset_51 rfl (lv_at hl 2 rfl) ?_
                refine lv_iload_n hx hb dX0_reset_52 rfl (lv_at hl 0 rfl) ?_
                refine lv_iconst (v := 0) hx hb dX0_reset_53 (by decide) ?_
                refine lv_iconst (v := 0) hx hb dX0_reset_54 (by decide) ?_
                refine lv_iconst (v := 0) hx hb dX0_reset_55 (by decide) ?_
                refine cc_V hC hGx hD hEx hlocks (c_X0_putSpan l hl9 k a hD (1 : Int32) (0 : Int32) (0 : Int32) (0 : Int32) ((m_X0_putSpan (0 : Int32) (0 : Int32) (0 : Int32) (0 : Int32) (vp_updL (vp_updL z.1 (0 : Int32).toNatClampNeg (1008673 : Int64)) (3 : Int32).toNatClampNeg (1008673 : Int64), z.2.1, z.2.2.1, z.2.2.2.1, z.2.2.2.2.1, z.2.2.2.2.2)).2)) (gV w_82 w_83 w_6 w_26 w_84) kk_X0_putSpan rfl ⟨Nat.le_of_ble_eq_true rfl, Nat.le_of_ble_eq_true rfl⟩ ⟨Nat.le_of_ble_eq_true rfl, Nat.le_of_ble_eq_true rfl⟩ ⟨Nat.le_of_ble_eq_true rfl, Nat.le_of_ble_eq_true rfl⟩ hP hS hl.1 rfl rfl (Nat.le_of_ble_eq_true rfl) dX0_reset_56 (fun h_114 => ?_) (fun h_114 H locs hP hS => ?_)
                · have hm : m_X0_reset z = ((m_X0_putSpan (1 : Int32) (0 : Int32) (0 : Int32) (0 : Int32) ((m_X0_putSpan (0 : Int32) (0 : Int32) (0 : Int32) (0 : Int32) (vp_updL (vp_updL z.1 (0 : Int32).toNatClampNeg (1008673 : Int64)) (3 : Int32).toNatClampNeg (1008673 : Int64), z.2.1, z.2.2.1, z.2.2.2.1, z.2.2.2.2.1, z.2.2.2.2.2)).2)).1, 0, (m_X0_putSpan (1 : Int32) (0 : Int32) (0 : Int32) (0 : Int32) ((m_X0_putSpan (0 : Int32) (0 : Int32) (0 : Int32) (0 : Int32) (vp_updL (vp_updL z.1 (0 : Int32).toNatClampNeg (1008673 : Int64)) (3 : Int32).toNatClampNeg (1008673 : Int64), z.2.1, z.2.2.1, z.2.2.2.1, z.2.2.2.2.1, z.2.2.2.2.2)).2)).2) := hm.trans (if_neg h_114)
                  exact ⟨by rw [hm], by rw [hm]⟩
                · have hm := hm.trans (if_pos h_114)
                  refine lv_iinc (v := (2 : Int32)) (lv' := [(2, .int (2 : Int32)), (1, .int (2 : Int32)), (0, .ref a.1)]) hx hb dX0_reset_59 hl (k := 0) rfl (by decide) (by decide) rfl (fun ls hl => ?_)
                  refine lv_goto (tgt := 46) hx hb dX0_reset_62 (by decide) ?_
                  refine lv_iload_n hx hb dX0_reset_46 rfl (lv_at hl 0 rfl) ?_
                  refine lv_iconst (v := 2) hx hb dX0_reset_47 (by decide) ?_
                  refine lv_icmp_ge (tgt := 65) hx hb dX0_reset_48 (by decide) (fun _ => ?_) (fun h => absurd h (by decide))
                  refine lv_iload_n hx hb dX0_reset_65 rfl (lv_at hl 1 rfl) ?_
                  have hm : m_X0_reset z = (0, (2 : Int32), (m_X0_putSpan (1 : Int32) (0 : Int32) (0 : Int32) (0 : Int32) ((m_X0_putSpan (0 : Int32) (0 : Int32) (0 : Int32) (0 : Int32) (vp_updL (vp_updL z.1 (0 : Int32).toNatClampNeg (1008673 : Int64)) (3 : Int32).toNatClampNeg (1008673 : Int64), z.2.1, z.2.2.1, z.2.2.2.1, z.2.2.2.2.1, z.2.2.2.2.2)).2)).2) := hm
                  exact c_iret (E := (2 : Int32)) hx hb hr hlocks (by rw [hm]) (by rw [hm]) (by rw [hm]) hP hS ⟨Nat.le_of_ble_eq_true rfl, Nat.le_of_ble_eq_true rfl⟩ dX0_reset_66
            · have hm := hm.trans (if_neg h_112)
              refine lv_iinc (v := (3 : Int32)) (lv' := [(1, .int (3 : Int32)), (2, .int (5 : Int32)), (0, .ref a.1)]) hx hb dX0_reset_26 hl (k := 1) rfl (by decide) (by decide) rfl (fun ls hl => ?_)
              refine lv_aload_n hx hb dX0_reset_29 rfl (lv_at hl 2 rfl) ?_
              refine va_get (D := kD k) (ci := 2) (v := .ref a.2.1) (C := RX0) (T := TX0) (N := 6) hx hb htg inG_X0 hown hGx.1 hP 0 rfl rfl 0 (by decide) (htg _ w_57) (fun _ h9 => h9) rfl dX0_reset_30 ?_
              refine lv_iload_n hx hb dX0_reset_33 rfl (lv_at hl 1 rfl) ?_
              refine lv_ldc2 hx hb hown (htg _ w_56) dX0_reset_34 ?_
              refine va_last (D := kD k) hx hb hGx.1 hP (hD.own _ _) hS 1 0 rfl rfl (show ¬ ((5 : Int32) < 0 ∨ 6 ≤ ((5 : Int32)).toNatClampNeg) by decide) dX0_reset_37 (fun H locs hP1 _ hS => ?_)
              have hP : va_P (kD k) vwCl (cW k a (vp_updL (vp_updL (vp_updL z.1 (0 : Int32).toNatClampNeg (1008673 : Int64)) (3 : Int32).toNatClampNeg (1008673 : Int64)) (5 : Int32).toNatClampNeg (1008673 : Int64), z.2.1, z.2.2.1, z.2.2.2.1, z.2.2.2.2.1, z.2.2.2.2.2)) H := hP1
              refine lv_iinc (v := (6 : Int32)) (lv' := [(2, .int (6 : Int32)), (1, .int (3 : Int32)), (0, .ref a.1)]) hx hb dX0_reset_38 hl (k := 1) rfl (by decide) (by decide) rfl (fun ls hl => ?_)
              refine lv_goto (tgt := 4) hx hb dX0_reset_41 (by decide) ?_
              refine lv_iload_n hx hb dX0_reset_4 rfl (lv_at hl 0 rfl) ?_
              refine lv_aload_n hx hb dX0_reset_5 rfl (lv_at hl 2 rfl) ?_
              refine va_get (D := kD k) (ci := 2) (v := .ref a.2.1) (C := RX0) (T := TX0) (N := 6) hx hb htg inG_X0 hown hGx.1 hP 0 rfl rfl 0 (by decide) (htg _ w_57) (fun _ h9 => h9) rfl dX0_reset_6 ?_
              refine va_alen (D := kD k) (v := 6) hx hb hGx.1 hP 1 0 rfl rfl (show Int32.ofNat 6 = 6 by decide) dX0_reset_9 ?_
              refine lv_icmp_ge (tgt := 44) hx hb dX0_reset_10 (by decide) (fun _ => ?_) (fun h => absurd h (by decide))
              refine lv_iconst (v := 0) hx hb dX0_reset_44 (by decide) ?_
              refine lv_istore_n (lv' := [(2, .int (0 : Int32)), (1, .int (3 : Int32)), (0, .ref a.1)]) hx hb dX0_reset_45 rfl hl (by decide) rfl (fun ls hl => ?_)
              refine lv_iload_n hx hb dX0_reset_46 rfl (lv_at hl 0 rfl) ?_
              refine lv_iconst (v := 2) hx hb dX0_reset_47 (by decide) ?_
              refine lv_icmp_ge (tgt := 65) hx hb dX0_reset_48 (by decide) (fun h => absurd h (by decide)) (fun _ => ?_)
              refine lv_aload_n hx hb dX0_reset_51 rfl (lv_at hl 2 rfl) ?_
              refine lv_iload_n hx hb dX0_reset_52 rfl (lv_at hl 0 rfl) ?_
              refine lv_iconst (v := 0) hx hb dX0_reset_53 (by decide) ?_
              refine lv_iconst (v := 0) hx hb dX0_reset_54 (by decide) ?_
              refine lv_iconst (v := 0) hx hb dX0_reset_55 (by decide) ?_
              refine cc_V hC hGx hD hEx hlocks (c_X0_putSpan l hl9 k a hD (0 : Int32) (0 : Int32) (0 : Int32) (0 : Int32) (vp_updL (vp_updL (vp_updL z.1 (0 : Int32).toNatClampNeg (1008673 : Int64)) (3 : Int32).toNatClampNeg (1008673 : Int64)) (5 : Int32).toNatClampNeg (1008673 : Int64), z.2.1, z.2.2.1, z.2.2.2.1, z.2.2.2.2.1, z.2.2.2.2.2)) (gV w_82 w_83 w_6 w_26 w_84) kk_X0_putSpan rfl ⟨Nat.le_of_ble_eq_true rfl, Nat.le_of_ble_eq_true rfl⟩ ⟨Nat.le_of_ble_eq_true rfl, Nat.le_of_ble_eq_true rfl⟩ ⟨Nat.le_of_ble_eq_true rfl, Nat.le_of_ble_eq_true rfl⟩ hP hS hl.1 rfl rfl (Nat.le_of_ble_eq_true rfl) dX0_reset_56 (fun h_115 => ?_) (fun h_115 H locs hP hS => ?_)
              · have hm : m_X0_reset z = ((m_X0_putSpan (0 : Int32) (0 : Int32) (0 : Int32) (0 : Int32) (vp_updL (vp_updL (vp_updL z.1 (0 : Int32).toNatClampNeg (1008673 : Int64)) (3 : Int32).toNatClampNeg (1008673 : Int64)) (5 : Int32).toNatClampNeg (1008673 : Int64), z.2.1, z.2.2.1, z.2.2.2.1, z.2.2.2.2.1, z.2.2.2.2.2)).1, 0, (m_X0_putSpan (0 : Int32) (0 : Int32) (0 : Int32) (0 : Int32) (vp_updL (vp_updL (vp_updL z.1 (0 : Int32).toNatClampNeg (1008673 : Int64)) (3 : Int32).toNatClampNeg (1008673 : Int64)) (5 : Int32).toNatClampNeg (1008673 : Int64), z.2.1, z.2.2.1, z.2.2.2.1, z.2.2.2.2.1, z.2.2.2.2.2)).2) := hm.trans (if_neg h_115)
                exact ⟨by rw [hm], by rw [hm]⟩
              · have hm := hm.trans (if_pos h_115)
                refine lv_iinc (v := (1 : Int32)) (lv' := [(2, .int (1 : Int32)), (1, .int (3 : Int32)), (0, .ref a.1)]) hx hb dX0_reset_59 hl (k := 0) rfl (by decide) (by decide) rfl (fun ls hl => ?_)
                refine lv_goto (tgt := 46) hx hb dX0_reset_62 (by decide) ?_
                refine lv_iload_n hx hb dX0_reset_46 rfl (lv_at hl 0 rfl) ?_
                refine lv_iconst (v := 2) hx hb dX0_reset_47 (by decide) ?_
                refine lv_icmp_ge (tgt := 65) hx hb dX0_reset_48 (by decide) (fun h => absurd h (by decide)) (fun _ => ?_)
                refine lv_aload_n hx hb dX0_reset_51 rfl (lv_at hl 2 rfl) ?_
                refine lv_iload_n hx hb dX0_reset_52 rfl (lv_at hl 0 rfl) ?_
                refine lv_iconst (v := 0) hx hb dX0_reset_53 (by decide) ?_
                refine lv_iconst (v := 0) hx hb dX0_reset_54 (by decide) ?_
                refine lv_iconst (v := 0) hx hb dX0_reset_55 (by decide) ?_
                refine cc_V hC hGx hD hEx hlocks (c_X0_putSpan l hl9 k a hD (1 : Int32) (0 : Int32) (0 : Int32) (0 : Int32) ((m_X0_putSpan (0 : Int32) (0 : Int32) (0 : Int32) (0 : Int32) (vp_updL (vp_updL (vp_updL z.1 (0 : Int32).toNatClampNeg (1008673 : Int64)) (3 : Int32).toNatClampNeg (1008673 : Int64)) (5 : Int32).toNatClampNeg (1008673 : Int64), z.2.1, z.2.2.1, z.2.2.2.1, z.2.2.2.2.1, z.2.2.2.2.2)).2)) (gV w_82 w_83 w_6 w_26 w_84) kk_X0_putSpan rfl ⟨Nat.le_of_ble_eq_true rfl, Nat.le_of_ble_eq_true rfl⟩ ⟨Nat.le_of_ble_eq_true rfl, Nat.le_of_ble_eq_true rfl⟩ ⟨Nat.le_of_ble_eq_true rfl, Nat.le_of_ble_eq_true rfl⟩ hP hS hl.1 rfl rfl (Nat.le_of_ble_eq_true rfl) dX0_reset_56 (fun h_116 => ?_) (fun h_116 H locs hP hS => ?_)
                · have hm : m_X0_reset z = ((m_X0_putSpan (1 : Int32) (0 : Int32) (0 : Int32) (0 : Int32) ((m_X0_putSpan (0 : Int32) (0 : Int32) (0 : Int32) (0 : Int32) (vp_updL (vp_updL (vp_updL z.1 (0 : Int32).toNatClampNeg (1008673 : Int64)) (3 : Int32).toNatClampNeg (1008673 : Int64)) (5 : Int32).toNatClampNeg (1008673 : Int64), z.2.1, z.2.2.1, z.2.2.2.1, z.2.2.2.2.1, z.2.2.2.2.2)).2)).1, 0, (m_X0_putSpan (1 : Int32) (0 : Int32) (0 : Int32) (0 : Int32) ((m_X0_putSpan (0 : Int32) (0 : Int32) (0 : Int32) (0 : Int32) (vp_updL (vp_updL (vp_updL z.1 (0 : Int32).toNatClampNeg (1008673 : Int64)) (3 : Int32).toNatClampNeg (1008673 : Int64)) (5 : Int32).toNatClampNeg (1008673 : Int64), z.2.1, z.2.2.1, z.2.2.2.1, z.2.2.2.2.1, z.2.2.2.2.2)).2)).2) := hm.trans (if_neg h_116)
                  exact ⟨by rw [hm], by rw [hm]⟩
                · have hm := hm.trans (if_pos h_116)
                  refine lv_iinc (v := (2 : Int32)) (lv' := [(2, .int (2 : Int32)), (1, .int (3 : Int32)), (0, .ref a.1)]) hx hb dX0_reset_59 hl (k := 0) rfl (by decide) (by decide) rfl (fun ls hl => ?_)
                  refine lv_goto (tgt := 46) hx hb dX0_reset_62 (by decide) ?_
                  refine lv_iload_n hx hb dX0_reset_46 rfl (lv_at hl 0 rfl) ?_
                  refine lv_iconst (v := 2) hx hb dX0_reset_47 (by decide) ?_
                  refine lv_icmp_ge (tgt := 65) hx hb dX0_reset_48 (by decide) (fun _ => ?_) (fun h => absurd h (by decide))
                  refine lv_iload_n hx hb dX0_reset_65 rfl (lv_at hl 1 rfl) ?_
                  have hm : m_X0_reset z = (0, (3 : Int32), (m_X0_putSpan (1 : Int32) (0 : Int32) (0 : Int32) (0 : Int32) ((m_X0_putSpan (0 : Int32) (0 : Int32) (0 : Int32) (0 : Int32) (vp_updL (vp_updL (vp_updL z.1 (0 : Int32).toNatClampNeg (1008673 : Int64)) (3 : Int32).toNatClampNeg (1008673 : Int64)) (5 : Int32).toNatClampNeg (1008673 : Int64), z.2.1, z.2.2.1, z.2.2.2.1, z.2.2.2.2.1, z.2.2.2.2.2)).2)).2) := hm
                  exact c_iret (E := (3 : Int32)) hx hb hr hlocks (by rw [hm]) (by rw [hm]) (by rw [hm]) hP hS ⟨Nat.le_of_ble_eq_true rfl, Nat.le_of_ble_eq_true rfl⟩ dX0_reset_66
          · have hm := hm.trans (if_neg h_111)
            refine lv_iinc (v := (3 : Int32)) (lv' := [(1, .int (3 : Int32)), (2, .int (4 : Int32)), (0, .ref a.1)]) hx hb dX0_reset_26 hl (k := 1) rfl (by decide) (by decide) rfl (fun ls hl => ?_)
            refine lv_aload_n hx hb dX0_reset_29 rfl (lv_at hl 2 rfl) ?_
            refine va_get (D := kD k) (ci := 2) (v := .ref a.2.1) (C := RX0) (T := TX0) (N := 6) hx hb htg inG_X0 hown hGx.1 hP 0 rfl rfl 0 (by decide) (htg _ w_57) (fun _ h9 => h9) rfl dX0_reset_30 ?_
            refine lv_iload_n hx hb dX0_reset_33 rfl (lv_at hl 1 rfl) ?_
            refine lv_ldc2 hx hb hown (htg _ w_56) dX0_reset_34 ?_
            refine va_last (D := kD k) hx hb hGx.1 hP (hD.own _ _) hS 1 0 rfl rfl (show ¬ ((4 : Int32) < 0 ∨ 6 ≤ ((4 : Int32)).toNatClampNeg) by decide) dX0_reset_37 (fun H locs hP1 _ hS => ?_)
            have hP : va_P (kD k) vwCl (cW k a (vp_updL (vp_updL (vp_updL z.1 (0 : Int32).toNatClampNeg (1008673 : Int64)) (3 : Int32).toNatClampNeg (1008673 : Int64)) (4 : Int32).toNatClampNeg (1008673 : Int64), z.2.1, z.2.2.1, z.2.2.2.1, z.2.2.2.2.1, z.2.2.2.2.2)) H := hP1
            refine lv_iinc (v := (5 : Int32)) (lv' := [(2, .int (5 : Int32)), (1, .int (3 : Int32)), (0, .ref a.1)]) hx hb dX0_reset_38 hl (k := 1) rfl (by decide) (by decide) rfl (fun ls hl => ?_)
            refine lv_goto (tgt := 4) hx hb dX0_reset_41 (by decide) ?_
            refine lv_iload_n hx hb dX0_reset_4 rfl (lv_at hl 0 rfl) ?_
            refine lv_aload_n hx hb dX0_reset_5 rfl (lv_at hl 2 rfl) ?_
            refine va_get (D := kD k) (ci := 2) (v := .ref a.2.1) (C := RX0) (T := TX0) (N := 6) hx hb htg inG_X0 hown hGx.1 hP 0 rfl rfl 0 (by decide) (htg _ w_57) (fun _ h9 => h9) rfl dX0_reset_6 ?_
            refine va_alen (D := kD k) (v := 6) hx hb hGx.1 hP 1 0 rfl rfl (show Int32.ofNat 6 = 6 by decide) dX0_reset_9 ?_
            refine lv_icmp_ge (tgt := 44) hx hb dX0_reset_10 (by decide) (fun h => absurd h (by decide)) (fun _ => ?_)
            refine lv_aload_n hx hb dX0_reset_13 rfl (lv_at hl 2 rfl) ?_
            refine va_get (D := kD k) (ci := 2) (v := .ref a.2.1) (C := RX0) (T := TX0) (N := 6) hx hb htg inG_X0 hown hGx.1 hP 0 rfl rfl 0 (by decide) (htg _ w_57) (fun _ h9 => h9) rfl dX0_reset_14 ?_
            refine lv_iload_n hx hb dX0_reset_17 rfl (lv_at hl 0 rfl) ?_
            refine va_lald (D := kD k) hx hb hGx.1 hP 1 0 rfl rfl (show ¬ ((5 : Int32) < 0 ∨ 6 ≤ ((5 : Int32)).toNatClampNeg) by decide) dX0_reset_18 ?_
            refine lv_ldc2 hx hb hown (htg _ w_56) dX0_reset_19 ?_
            refine W.lcmp hx hb dX0_reset_22 ?_
            refine lv_if_eq (tgt := 38) hx hb dX0_reset_23 (by decide) (fun h_117 => ?_) (fun h_117 => ?_)
            · have hm := hm.trans (if_pos h_117)
              refine lv_iinc (v := (6 : Int32)) (lv' := [(2, .int (6 : Int32)), (1, .int (3 : Int32)), (0, .ref a.1)]) hx hb dX0_reset_38 hl (k := 0) rfl (by decide) (by decide) rfl (fun ls hl => ?_)
              refine lv_goto (tgt := 4) hx hb dX0_reset_41 (by decide) ?_
              refine lv_iload_n hx hb dX0_reset_4 rfl (lv_at hl 0 rfl) ?_
              refine lv_aload_n hx hb dX0_reset_5 rfl (lv_at hl 2 rfl) ?_
              refine va_get (D := kD k) (ci := 2) (v := .ref a.2.1) (C := RX0) (T := TX0) (N := 6) hx hb htg inG_X0 hown hGx.1 hP 0 rfl rfl 0 (by decide) (htg _ w_57) (fun _ h9 => h9) rfl dX0_reset_6 ?_
              refine va_alen (D := kD k) (v := 6) hx hb hGx.1 hP 1 0 rfl rfl (show Int32.ofNat 6 = 6 by decide) dX0_reset_9 ?_
              refine lv_icmp_ge (tgt := 44) hx hb dX0_reset_10 (by decide) (fun _ => ?_) (fun h => absurd h (by decide))
              refine lv_iconst (v := 0) hx hb dX0_reset_44 (by decide) ?_
              refine lv_istore_n (lv' := [(2, .int (0 : Int32)), (1, .int (3 : Int32)), (0, .ref a.1)]) hx hb dX0_reset_45 rfl hl (by decide) rfl (fun ls hl => ?_)
              refine lv_iload_n hx hb dX0_reset_46 rfl (lv_at hl 0 rfl) ?_
              refine lv_iconst (v := 2) hx hb dX0_reset_47 (by decide) ?_
              refine lv_icmp_ge (tgt := 65) hx hb dX0_reset_48 (by decide) (fun h => absurd h (by decide)) (fun _ => ?_)
              refine lv_aload_n hx hb dX0_reset_51 rfl (lv_at hl 2 rfl) ?_
              refine lv_iload_n hx hb dX0_reset_52 rfl (lv_at hl 0 rfl) ?_
              refine lv_iconst (v := 0) hx hb dX0_reset_53 (by decide) ?_
              refine lv_iconst (v := 0) hx hb dX0_reset_54 (by decide) ?_
              refine lv_iconst (v := 0) hx hb dX0_reset_55 (by decide) ?_
              refine cc_V hC hGx hD hEx hlocks (c_X0_putSpan l hl9 k a hD (0 : Int32) (0 : Int32) (0 : Int32) (0 : Int32) (vp_updL (vp_updL (vp_updL z.1 (0 : Int32).toNatClampNeg (1008673 : Int64)) (3 : Int32).toNatClampNeg (1008673 : Int64)) (4 : Int32).toNatClampNeg (1008673 : Int64), z.2.1, z.2.2.1, z.2.2.2.1, z.2.2.2.2.1, z.2.2.2.2.2)) (gV w_82 w_83 w_6 w_26 w_84) kk_X0_putSpan rfl ⟨Nat.le_of_ble_eq_true rfl, Nat.le_of_ble_eq_true rfl⟩ ⟨Nat.le_of_ble_eq_true rfl, Nat.le_of_ble_eq_true rfl⟩ ⟨Nat.le_of_ble_eq_true rfl, Nat.le_of_ble_eq_true rfl⟩ hP hS hl.1 rfl rfl (Nat.le_of_ble_eq_true rfl) dX0_reset_56 (fun h_118 => ?_) (fun h_118 H locs hP hS => ?_)
              · have hm : m_X0_reset z = ((m_X0_putSpan (0 : Int32) (0 : Int32) (0 : Int32) (0 : Int32) (vp_updL (vp_updL (vp_updL z.1 (0 : Int32).toNatClampNeg (1008673 : Int64)) (3 : Int32).toNatClampNeg (1008673 : Int64)) (4 : Int32).toNatClampNeg (1008673 : Int64), z.2.1, z.2.2.1, z.2.2.2.1, z.2.2.2.2.1, z.2.2.2.2.2)).1, 0, (m_X0_putSpan (0 : Int32) (0 : Int32) (0 : Int32) (0 : Int32) (vp_updL (vp_updL (vp_updL z.1 (0 : Int32).toNatClampNeg (1008673 : Int64)) (3 : Int32).toNatClampNeg (1008673 : Int64)) (4 : Int32).toNatClampNeg (1008673 : Int64), z.2.1, z.2.2.1, z.2.2.2.1, z.2.2.2.2.1, z.2.2.2.2.2)).2) := hm.trans (if_neg h_118)
                exact ⟨by rw [hm], by rw [hm]⟩
              · have hm := hm.trans (if_pos h_118)
                refine lv_iinc (v := (1 : Int32)) (lv' := [(2, .int (1 : Int32)), (1, .int (3 : Int32)), (0, .ref a.1)]) hx hb dX0_reset_59 hl (k := 0) rfl (by decide) (by decide) rfl (fun ls hl => ?_)
                refine lv_goto (tgt := 46) hx hb dX0_reset_62 (by decide) ?_
                refine lv_iload_n hx hb dX0_reset_46 rfl (lv_at hl 0 rfl) ?_
                refine lv_iconst (v := 2) hx hb dX0_reset_47 (by decide) ?_
                refine lv_icmp_ge (tgt := 65) hx hb dX0_reset_48 (by decide) (fun h => absurd h (by decide)) (fun _ => ?_)
                refine lv_aload_n hx hb dX0_reset_51 rfl (lv_at hl 2 rfl) ?_
                refine lv_iload_n hx hb dX0_reset_52 rfl (lv_at hl 0 rfl) ?_
                refine lv_iconst (v := 0) hx hb dX0_reset_53 (by decide) ?_
                refine lv_iconst (v := 0) hx hb dX0_reset_54 (by decide) ?_
                refine lv_iconst (v := 0) hx hb dX0_reset_55 (by decide) ?_
                refine cc_V hC hGx hD hEx hlocks (c_X0_putSpan l hl9 k a hD (1 : Int32) (0 : Int32) (0 : Int32) (0 : Int32) ((m_X0_putSpan (0 : Int32) (0 : Int32) (0 : Int32) (0 : Int32) (vp_updL (vp_updL (vp_updL z.1 (0 : Int32).toNatClampNeg (1008673 : Int64)) (3 : Int32).toNatClampNeg (1008673 : Int64)) (4 : Int32).toNatClampNeg (1008673 : Int64), z.2.1, z.2.2.1, z.2.2.2.1, z.2.2.2.2.1, z.2.2.2.2.2)).2)) (gV w_82 w_83 w_6 w_26 w_84) kk_X0_putSpan rfl ⟨Nat.le_of_ble_eq_true rfl, Nat.le_of_ble_eq_true rfl⟩ ⟨Nat.le_of_ble_eq_true rfl, Nat.le_of_ble_eq_true rfl⟩ ⟨Nat.le_of_ble_eq_true rfl, Nat.le_of_ble_eq_true rfl⟩ hP hS hl.1 rfl rfl (Nat.le_of_ble_eq_true rfl) dX0_reset_56 (fun h_119 => ?_) (fun h_119 H locs hP hS => ?_)
                · have hm : m_X0_reset z = ((m_X0_putSpan (1 : Int32) (0 : Int32) (0 : Int32) (0 : Int32) ((m_X0_putSpan (0 : Int32) (0 : Int32) (0 : Int32) (0 : Int32) (vp_updL (vp_updL (vp_updL z.1 (0 : Int32).toNatClampNeg (1008673 : Int64)) (3 : Int32).toNatClampNeg (1008673 : Int64)) (4 : Int32).toNatClampNeg (1008673 : Int64), z.2.1, z.2.2.1, z.2.2.2.1, z.2.2.2.2.1, z.2.2.2.2.2)).2)).1, 0, (m_X0_putSpan (1 : Int32) (0 : Int32) (0 : Int32) (0 : Int32) ((m_X0_putSpan (0 : Int32) (0 : Int32) (0 : Int32) (0 : Int32) (vp_updL (vp_updL (vp_updL z.1 (0 : Int32).toNatClampNeg (1008673 : Int64)) (3 : Int32).toNatClampNeg (1008673 : Int64)) (4 : Int32).toNatClampNeg (1008673 : Int64), z.2.1, z.2.2.1, z.2.2.2.1, z.2.2.2.2.1, z.2.2.2.2.2)).2)).2) := hm.trans (if_neg h_119)
                  exact ⟨by rw [hm], by rw [hm]⟩
                · have hm := hm.trans (if_pos h_119)
                  refine lv_iinc (v := (2 : Int32)) (lv' := [(2, .int (2 : Int32)), (1, .int (3 : Int32)), (0, .ref a.1)]) hx hb dX0_reset_59 hl (k := 0) rfl (by decide) (by decide) rfl (fun ls hl => ?_)
                  refine lv_goto (tgt := 46) hx hb dX0_reset_62 (by decide) ?_
                  refine lv_iload_n hx hb dX0_reset_46 rfl (lv_at hl 0 rfl) ?_
                  refine lv_iconst (v := 2) hx hb dX0_reset_47 (by decide) ?_
                  refine lv_icmp_ge (tgt := 65) hx hb dX0_reset_48 (by decide) (fun _ => ?_) (fun h => absurd h (by decide))
                  refine lv_iload_n hx hb dX0_reset_65 rfl (lv_at hl 1 rfl) ?_
                  have hm : m_X0_reset z = (0, (3 : Int32), (m_X0_putSpan (1 : Int32) (0 : Int32) (0 : Int32) (0 : Int32) ((m_X0_putSpan (0 : Int32) (0 : Int32) (0 : Int32) (0 : Int32) (vp_updL (vp_updL (vp_updL z.1 (0 : Int32).toNatClampNeg (1008673 : Int64)) (3 : Int32).toNatClampNeg (1008673 : Int64)) (4 : Int32).toNatClampNeg (1008673 : Int64), z.2.1, z.2.2.1, z.2.2.2.1, z.2.2.2.2.1, z.2.2.2.2.2)).2)).2) := hm
                  exact c_iret (E := (3 : Int32)) hx hb hr hlocks (by rw [hm]) (by rw [hm]) (by rw [hm]) hP hS ⟨Nat.le_of_ble_eq_true rfl, Nat.le_of_ble_eq_true rfl⟩ dX0_reset_66
            · have hm := hm.trans (if_neg h_117)
              refine lv_iinc (v := (4 : Int32)) (lv' := [(1, .int (4 : Int32)), (2, .int (5 : Int32)), (0, .ref a.1)]) hx hb dX0_reset_26 hl (k := 1) rfl (by decide) (by decide) rfl (fun ls hl => ?_)
              refine lv_aload_n hx hb dX0_reset_29 rfl (lv_at hl 2 rfl) ?_
              refine va_get (D := kD k) (ci := 2) (v := .ref a.2.1) (C := RX0) (T := TX0) (N := 6) hx hb htg inG_X0 hown hGx.1 hP 0 rfl rfl 0 (by decide) (htg _ w_57) (fun _ h9 => h9) rfl dX0_reset_30 ?_
              refine lv_iload_n hx hb dX0_reset_33 rfl (lv_at hl 1 rfl) ?_
              refine lv_ldc2 hx hb hown (htg _ w_56) dX0_reset_34 ?_
              refine va_last (D := kD k) hx hb hGx.1 hP (hD.own _ _) hS 1 0 rfl rfl (show ¬ ((5 : Int32) < 0 ∨ 6 ≤ ((5 : Int32)).toNatClampNeg) by decide) dX0_reset_37 (fun H locs hP1 _ hS => ?_)
              have hP : va_P (kD k) vwCl (cW k a (vp_updL (vp_updL (vp_updL (vp_updL z.1 (0 : Int32).toNatClampNeg (1008673 : Int64)) (3 : Int32).toNatClampNeg (1008673 : Int64)) (4 : Int32).toNatClampNeg (1008673 : Int64)) (5 : Int32).toNatClampNeg (1008673 : Int64), z.2.1, z.2.2.1, z.2.2.2.1, z.2.2.2.2.1, z.2.2.2.2.2)) H := hP1
              refine lv_iinc (v := (6 : Int32)) (lv' := [(2, .int (6 : Int32)), (1, .int (4 : Int32)), (0, .ref a.1)]) hx hb dX0_reset_38 hl (k := 1) rfl (by decide) (by decide) rfl (fun ls hl => ?_)
              refine lv_goto (tgt := 4) hx hb dX0_reset_41 (by decide) ?_
              refine lv_iload_n hx hb dX0_reset_4 rfl (lv_at hl 0 rfl) ?_
              refine lv_aload_n hx hb dX0_reset_5 rfl (lv_at hl 2 rfl) ?_
              refine va_get (D := kD k) (ci := 2) (v := .ref a.2.1) (C := RX0) (T := TX0) (N := 6) hx hb htg inG_X0 hown hGx.1 hP 0 rfl rfl 0 (by decide) (htg _ w_57) (fun _ h9 => h9) rfl dX0_reset_6 ?_
              refine va_alen (D := kD k) (v := 6) hx hb hGx.1 hP 1 0 rfl rfl (show Int32.ofNat 6 = 6 by decide) dX0_reset_9 ?_
              refine lv_icmp_ge (tgt := 44) hx hb dX0_reset_10 (by decide) (fun _ => ?_) (fun h => absurd h (by decide))
              refine lv_iconst (v := 0) hx hb dX0_reset_44 (by decide) ?_
              refine lv_istore_n (lv' := [(2, .int (0 : Int32)), (1, .int (4 : Int32)), (0, .ref a.1)]) hx hb dX0_reset_45 rfl hl (by decide) rfl (fun ls hl => ?_)
              refine lv_iload_n hx hb dX0_reset_46 rfl (lv_at hl 0 rfl) ?_
              refine lv_iconst (v := 2) hx hb dX0_reset_47 (by decide) ?_
              refine lv_icmp_ge (tgt := 65) hx hb dX0_reset_48 (by decide) (fun h => absurd h (by decide)) (fun _ => ?_)
              refine lv_aload_n hx hb dX0_reset_51 rfl (lv_at hl 2 rfl) ?_
              refine lv_iload_n hx hb dX0_reset_52 rfl (lv_at hl 0 rfl) ?_
              refine lv_iconst (v := 0) hx hb dX0_reset_53 (by decide) ?_
              refine lv_iconst (v := 0) hx hb dX0_reset_54 (by decide) ?_
              refine lv_iconst (v := 0) hx hb dX0_reset_55 (by decide) ?_
              refine cc_V hC hGx hD hEx hlocks (c_X0_putSpan l hl9 k a hD (0 : Int32) (0 : Int32) (0 : Int32) (0 : Int32) (vp_updL (vp_updL (vp_updL (vp_updL z.1 (0 : Int32).toNatClampNeg (1008673 : Int64)) (3 : Int32).toNatClampNeg (1008673 : Int64)) (4 : Int32).toNatClampNeg (1008673 : Int64)) (5 : Int32).toNatClampNeg (1008673 : Int64), z.2.1, z.2.2.1, z.2.2.2.1, z.2.2.2.2.1, z.2.2.2.2.2)) (gV w_82 w_83 w_6 w_26 w_84) kk_X0_putSpan rfl ⟨Nat.le_of_ble_eq_true rfl, Nat.le_of_ble_eq_true rfl⟩ ⟨Nat.le_of_ble_eq_true rfl, Nat.le_of_ble_eq_true rfl⟩ ⟨Nat.le_of_ble_eq_true rfl, Nat.le_of_ble_eq_true rfl⟩ hP hS hl.1 rfl rfl (Nat.le_of_ble_eq_true rfl) dX0_reset_56 (fun h_120 => ?_) (fun h_120 H locs hP hS => ?_)
              · have hm : m_X0_reset z = ((m_X0_putSpan (0 : Int32) (0 : Int32) (0 : Int32) (0 : Int32) (vp_updL (vp_updL (vp_updL (vp_updL z.1 (0 : Int32).toNatClampNeg (1008673 : Int64)) (3 : Int32).toNatClampNeg (1008673 : Int64)) (4 : Int32).toNatClampNeg (1008673 : Int64)) (5 : Int32).toNatClampNeg (1008673 : Int64), z.2.1, z.2.2.1, z.2.2.2.1, z.2.2.2.2.1, z.2.2.2.2.2)).1, 0, (m_X0_putSpan (0 : Int32) (0 : Int32) (0 : Int32) (0 : Int32) (vp_updL (vp_updL (vp_updL (vp_updL z.1 (0 : Int32).toNatClampNeg (1008673 : Int64)) (3 : Int32).toNatClampNeg (1008673 : Int64)) (4 : Int32).toNatClampNeg (1008673 : Int64)) (5 : Int32).toNatClampNeg (1008673 : Int64), z.2.1, z.2.2.1, z.2.2.2.1, z.2.2.2.2.1, z.2.2.2.2.2)).2) := hm.trans (if_neg h_120)
                exact ⟨by rw [hm], by rw [hm]⟩
              · have hm := hm.trans (if_pos h_120)
                refine lv_iinc (v := (1 : Int32)) (lv' := [(2, .int (1 : Int32)), (1, .int (4 : Int32)), (0, .ref a.1)]) hx hb dX0_reset_59 hl (k := 0) rfl (by decide) (by decide) rfl (fun ls hl => ?_)
                refine lv_goto (tgt := 46) hx hb dX0_reset_62 (by decide) ?_
                refine lv_iload_n hx hb dX0_reset_46 rfl (lv_at hl 0 rfl) ?_
                refine lv_iconst (v := 2) hx hb dX0_reset_47 (by decide) ?_
                refine lv_icmp_ge (tgt := 65) hx hb dX0_reset_48 (by decide) (fun h => absurd h (by decide)) (fun _ => ?_)
                refine lv_aload_n hx hb dX0_reset_51 rfl (lv_at hl 2 rfl) ?_
                refine lv_iload_n hx hb dX0_reset_52 rfl (lv_at hl 0 rfl) ?_
                refine lv_iconst (v := 0) hx hb dX0_reset_53 (by decide) ?_
                refine lv_iconst (v := 0) hx hb dX0_reset_54 (by decide) ?_
                refine lv_iconst (v := 0) hx hb dX0_reset_55 (by decide) ?_
                refine cc_V hC hGx hD hEx hlocks (c_X0_putSpan l hl9 k a hD (1 : Int32) (0 : Int32) (0 : Int32) (0 : Int32) ((m_X0_putSpan (0 : Int32) (0 : Int32) (0 : Int32) (0 : Int32) (vp_updL (vp_updL (vp_updL (vp_updL z.1 (0 : Int32).toNatClampNeg (1008673 : Int64)) (3 : Int32).toNatClampNeg (1008673 : Int64)) (4 : Int32).toNatClampNeg (1008673 : Int64)) (5 : Int32).toNatClampNeg (1008673 : Int64), z.2.1, z.2.2.1, z.2.2.2.1, z.2.2.2.2.1, z.2.2.2.2.2)).2)) (gV w_82 w_83 w_6 w_26 w_84) kk_X0_putSpan rfl ⟨Nat.le_of_ble_eq_true rfl, Nat.le_of_ble_eq_true rfl⟩ ⟨Nat.le_of_ble_eq_true rfl, Nat.le_of_ble_eq_true rfl⟩ ⟨Nat.le_of_ble_eq_true rfl, Nat.le_of_ble_eq_true rfl⟩ hP hS hl.1 rfl rfl (Nat.le_of_ble_eq_true rfl) dX0_reset_56 (fun h_121 => ?_) (fun h_121 H locs hP hS => ?_)
                · have hm : m_X0_reset z = ((m_X0_putSpan (1 : Int32) (0 : Int32) (0 : Int32) (0 : Int32) ((m_X0_putSpan (0 : Int32) (0 : Int32) (0 : Int32) (0 : Int32) (vp_updL (vp_updL (vp_updL (vp_updL z.1 (0 : Int32).toNatClampNeg (1008673 : Int64)) (3 : Int32).toNatClampNeg (1008673 : Int64)) (4 : Int32).toNatClampNeg (1008673 : Int64)) (5 : Int32).toNatClampNeg (1008673 : Int64), z.2.1, z.2.2.1, z.2.2.2.1, z.2.2.2.2.1, z.2.2.2.2.2)).2)).1, 0, (m_X0_putSpan (1 : Int32) (0 : Int32) (0 : Int32) (0 : Int32) ((m_X0_putSpan (0 : Int32) (0 : Int32) (0 : Int32) (0 : Int32) (vp_updL (vp_updL (vp_updL (vp_updL z.1 (0 : Int32).toNatClampNeg (1008673 : Int64)) (3 : Int32).toNatClampNeg (1008673 : Int64)) (4 : Int32).toNatClampNeg (1008673 : Int64)) (5 : Int32).toNatClampNeg (1008673 : Int64), z.2.1, z.2.2.1, z.2.2.2.1, z.2.2.2.2.1, z.2.2.2.2.2)).2)).2) := hm.trans (if_neg h_121)
                  exact ⟨by rw [hm], by rw [hm]⟩
                · have hm := hm.trans (if_pos h_121)
                  refine lv_iinc (v := (2 : Int32)) (lv' := [(2, .int (2 : Int32)), (1, .int (4 : Int32)), (0, .ref a.1)]) hx hb dX0_reset_59 hl (k := 0) rfl (by decide) (by decide) rfl (fun ls hl => ?_)
                  refine lv_goto (tgt := 46) hx hb dX0_reset_62 (by decide) ?_
                  refine lv_iload_n hx hb dX0_reset_46 rfl (lv_at hl 0 rfl) ?_
                  refine lv_iconst (v := 2) hx hb dX0_reset_47 (by decide) ?_
                  refine lv_icmp_ge (tgt := 65) hx hb dX0_reset_48 (by decide) (fun _ => ?_) (fun h => absurd h (by decide))
                  refine lv_iload_n hx hb dX0_reset_65 rfl (lv_at hl 1 rfl) ?_
                  have hm : m_X0_reset z = (0, (4 : Int32), (m_X0_putSpan (1 : Int32) (0 : Int32) (0 : Int32) (0 : Int32) ((m_X0_putSpan (0 : Int32) (0 : Int32) (0 : Int32) (0 : Int32) (vp_updL (vp_updL (vp_updL (vp_updL z.1 (0 : Int32).toNatClampNeg (1008673 : Int64)) (3 : Int32).toNatClampNeg (1008673 : Int64)) (4 : Int32).toNatClampNeg (1008673 : Int64)) (5 : Int32).toNatClampNeg (1008673 : Int64), z.2.1, z.2.2.1, z.2.2.2.1, z.2.2.2.2.1, z.2.2.2.2.2)).2)).2) := hm
                  exact c_iret (E := (4 : Int32)) hx hb hr hlocks (by rw [hm]) (by rw [hm]) (by rw [hm]) hP hS ⟨Nat.le_of_ble_eq_true rfl, Nat.le_of_ble_eq_true rfl⟩ dX0_reset_66
      · have hm := hm.trans (if_neg h_98)
        refine lv_iinc (v := (2 : Int32)) (lv' := [(1, .int (2 : Int32)), (2, .int (2 : Int32)), (0, .ref a.1)]) hx hb dX0_reset_26 hl (k := 1) rfl (by decide) (by decide) rfl (fun ls hl => ?_)
        refine lv_aload_n hx hb dX0_reset_29 rfl (lv_at hl 2 rfl) ?_
        refine va_get (D := kD k) (ci := 2) (v := .ref a.2.1) (C := RX0) (T := TX0) (N := 6) hx hb htg inG_X0 hown hGx.1 hP 0 rfl rfl 0 (by decide) (htg _ w_57) (fun _ h9 => h9) rfl dX0_reset_30 ?_
        refine lv_iload_n hx hb dX0_reset_33 rfl (lv_at hl 1 rfl) ?_
        refine lv_ldc2 hx hb hown (htg _ w_56) dX0_reset_34 ?_
        refine va_last (D := kD k) hx hb hGx.1 hP (hD.own _ _) hS 1 0 rfl rfl (show ¬ ((2 : Int32) < 0 ∨ 6 ≤ ((2 : Int32)).toNatClampNeg) by decide) dX0_reset_37 (fun H locs hP1 _ hS => ?_)
        have hP : va_P (kD k) vwCl (cW k a (vp_updL (vp_updL z.1 (0 : Int32).toNatClampNeg (1008673 : Int64)) (2 : Int32).toNatClampNeg (1008673 : Int64), z.2.1, z.2.2.1, z.2.2.2.1, z.2.2.2.2.1, z.2.2.2.2.2)) H := hP1
        refine lv_iinc (v := (3 : Int32)) (lv' := [(2, .int (3 : Int32)), (1, .int (2 : Int32)), (0, .ref a.1)]) hx hb dX0_reset_38 hl (k := 1) rfl (by decide) (by decide) rfl (fun ls hl => ?_)
        refine lv_goto (tgt := 4) hx hb dX0_reset_41 (by decide) ?_
        refine lv_iload_n hx hb dX0_reset_4 rfl (lv_at hl 0 rfl) ?_
        refine lv_aload_n hx hb dX0_reset_5 rfl (lv_at hl 2 rfl) ?_
        refine va_get (D := kD k) (ci := 2) (v := .ref a.2.1) (C := RX0) (T := TX0) (N := 6) hx hb htg inG_X0 hown hGx.1 hP 0 rfl rfl 0 (by decide) (htg _ w_57) (fun _ h9 => h9) rfl dX0_reset_6 ?_
        refine va_alen (D := kD k) (v := 6) hx hb hGx.1 hP 1 0 rfl rfl (show Int32.ofNat 6 = 6 by decide) dX0_reset_9 ?_
        refine lv_icmp_ge (tgt := 44) hx hb dX0_reset_10 (by decide) (fun h => absurd h (by decide)) (fun _ => ?_)
        refine lv_aload_n hx hb dX0_reset_13 rfl (lv_at hl 2 rfl) ?_
        refine va_get (D := kD k) (ci := 2) (v := .ref a.2.1) (C := RX0) (T := TX0) (N := 6) hx hb htg inG_X0 hown hGx.1 hP 0 rfl rfl 0 (by decide) (htg _ w_57) (fun _ h9 => h9) rfl dX0_reset_14 ?_
        refine lv_iload_n hx hb dX0_reset_17 rfl (lv_at hl 0 rfl) ?_
        refine va_lald (D := kD k) hx hb hGx.1 hP 1 0 rfl rfl (show ¬ ((3 : Int32) < 0 ∨ 6 ≤ ((3 : Int32)).toNatClampNeg) by decide) dX0_reset_18 ?_
        refine lv_ldc2 hx hb hown (htg _ w_56) dX0_reset_19 ?_
        refine W.lcmp hx hb dX0_reset_22 ?_
        refine lv_if_eq (tgt := 38) hx hb dX0_reset_23 (by decide) (fun h_122 => ?_) (fun h_122 => ?_)
        · have hm := hm.trans (if_pos h_122)
          refine lv_iinc (v := (4 : Int32)) (lv' := [(2, .int (4 : Int32)), (1, .int (2 : Int32)), (0, .ref a.1)]) hx hb dX0_reset_38 hl (k := 0) rfl (by decide) (by decide) rfl (fun ls hl => ?_)
          refine lv_goto (tgt := 4) hx hb dX0_reset_41 (by decide) ?_
          refine lv_iload_n hx hb dX0_reset_4 rfl (lv_at hl 0 rfl) ?_
          refine lv_aload_n hx hb dX0_reset_5 rfl (lv_at hl 2 rfl) ?_
          refine va_get (D := kD k) (ci := 2) (v := .ref a.2.1) (C := RX0) (T := TX0) (N := 6) hx hb htg inG_X0 hown hGx.1 hP 0 rfl rfl 0 (by decide) (htg _ w_57) (fun _ h9 => h9) rfl dX0_reset_6 ?_
          refine va_alen (D := kD k) (v := 6) hx hb hGx.1 hP 1 0 rfl rfl (show Int32.ofNat 6 = 6 by decide) dX0_reset_9 ?_
          refine lv_icmp_ge (tgt := 44) hx hb dX0_reset_10 (by decide) (fun h => absurd h (by decide)) (fun _ => ?_)
          refine lv_aload_n hx hb dX0_reset_13 rfl (lv_at hl 2 rfl) ?_
          refine va_get (D := kD k) (ci := 2) (v := .ref a.2.1) (C := RX0) (T := TX0) (N := 6) hx hb htg inG_X0 hown hGx.1 hP 0 rfl rfl 0 (by decide) (htg _ w_57) (fun _ h9 => h9) rfl dX0_reset_14 ?_
          refine lv_iload_n hx hb dX0_reset_17 rfl (lv_at hl 0 rfl) ?_
          refine va_lald (D := kD k) hx hb hGx.1 hP 1 0 rfl rfl (show ¬ ((4 : Int32) < 0 ∨ 6 ≤ ((4 : Int32)).toNatClampNeg) by decide) dX0_reset_18 ?_
          refine lv_ldc2 hx hb hown (htg _ w_56) dX0_reset_19 ?_
          refine W.lcmp hx hb dX0_reset_22 ?_
          refine lv_if_eq (tgt := 38) hx hb dX0_reset_23 (by decide) (fun h_123 => ?_) (fun h_123 => ?_)
          · have hm := hm.trans (if_pos h_123)
            refine lv_iinc (v := (5 : Int32)) (lv' := [(2, .int (5 : Int32)), (1, .int (2 : Int32)), (0, .ref a.1)]) hx hb dX0_reset_38 hl (k := 0) rfl (by decide) (by decide) rfl (fun ls hl => ?_)
            refine lv_goto (tgt := 4) hx hb dX0_reset_41 (by decide) ?_
            refine lv_iload_n hx hb dX0_reset_4 rfl (lv_at hl 0 rfl) ?_
            refine lv_aload_n hx hb dX0_reset_5 rfl (lv_at hl 2 rfl) ?_
            refine va_get (D := kD k) (ci := 2) (v := .ref a.2.1) (C := RX0) (T := TX0) (N := 6) hx hb htg inG_X0 hown hGx.1 hP 0 rfl rfl 0 (by decide) (htg _ w_57) (fun _ h9 => h9) rfl dX0_reset_6 ?_
            refine va_alen (D := kD k) (v := 6) hx hb hGx.1 hP 1 0 rfl rfl (show Int32.ofNat 6 = 6 by decide) dX0_reset_9 ?_
            refine lv_icmp_ge (tgt := 44) hx hb dX0_reset_10 (by decide) (fun h => absurd h (by decide)) (fun _ => ?_)
            refine lv_aload_n hx hb dX0_reset_13 rfl (lv_at hl 2 rfl) ?_
            refine va_get (D := kD k) (ci := 2) (v := .ref a.2.1) (C := RX0) (T := TX0) (N := 6) hx hb htg inG_X0 hown hGx.1 hP 0 rfl rfl 0 (by decide) (htg _ w_57) (fun _ h9 => h9) rfl dX0_reset_14 ?_
            refine lv_iload_n hx hb dX0_reset_17 rfl (lv_at hl 0 rfl) ?_
            refine va_lald (D := kD k) hx hb hGx.1 hP 1 0 rfl rfl (show ¬ ((5 : Int32) < 0 ∨ 6 ≤ ((5 : Int32)).toNatClampNeg) by decide) dX0_reset_18 ?_
            refine lv_ldc2 hx hb hown (htg _ w_56) dX0_reset_19 ?_
            refine W.lcmp hx hb dX0_reset_22 ?_
            refine lv_if_eq (tgt := 38) hx hb dX0_reset_23 (by decide) (fun h_124 => ?_) (fun h_124 => ?_)
            · have hm := hm.trans (if_pos h_124)
              refine lv_iinc (v := (6 : Int32)) (lv' := [(2, .int (6 : Int32)), (1, .int (2 : Int32)), (0, .ref a.1)]) hx hb dX0_reset_38 hl (k := 0) rfl (by decide) (by decide) rfl (fun ls hl => ?_)
              refine lv_goto (tgt := 4) hx hb dX0_reset_41 (by decide) ?_
              refine lv_iload_n hx hb dX0_reset_4 rfl (lv_at hl 0 rfl) ?_
              refine lv_aload_n hx hb dX0_reset_5 rfl (lv_at hl 2 rfl) ?_
              refine va_get (D := kD k) (ci := 2) (v := .ref a.2.1) (C := RX0) (T := TX0) (N := 6) hx hb htg inG_X0 hown hGx.1 hP 0 rfl rfl 0 (by decide) (htg _ w_57) (fun _ h9 => h9) rfl dX0_reset_6 ?_
              refine va_alen (D := kD k) (v := 6) hx hb hGx.1 hP 1 0 rfl rfl (show Int32.ofNat 6 = 6 by decide) dX0_reset_9 ?_
              refine lv_icmp_ge (tgt := 44) hx hb dX0_reset_10 (by decide) (fun _ => ?_) (fun h => absurd h (by decide))
              refine lv_iconst (v := 0) hx hb dX0_reset_44 (by decide) ?_
              refine lv_istore_n (lv' := [(2, .int (0 : Int32)), (1, .int (2 : Int32)), (0, .ref a.1)]) hx hb dX0_reset_45 rfl hl (by decide) rfl (fun ls hl => ?_)
              refine lv_iload_n hx hb dX0_reset_46 rfl (lv_at hl 0 rfl) ?_
              refine lv_iconst (v := 2) hx hb dX0_reset_47 (by decide) ?_
              refine lv_icmp_ge (tgt := 65) hx hb dX0_reset_48 (by decide) (fun h => absurd h (by decide)) (fun _ => ?_)
              refine lv_aload_n hx hb dX0_reset_51 rfl (lv_at hl 2 rfl) ?_
              refine lv_iload_n hx hb dX0_reset_52 rfl (lv_at hl 0 rfl) ?_
              refine lv_iconst (v := 0) hx hb dX0_reset_53 (by decide) ?_
              refine lv_iconst (v := 0) hx hb dX0_reset_54 (by decide) ?_
              refine lv_iconst (v := 0) hx hb dX0_reset_55 (by decide) ?_
              refine cc_V hC hGx hD hEx hlocks (c_X0_putSpan l hl9 k a hD (0 : Int32) (0 : Int32) (0 : Int32) (0 : Int32) (vp_updL (vp_updL z.1 (0 : Int32).toNatClampNeg (1008673 : Int64)) (2 : Int32).toNatClampNeg (1008673 : Int64), z.2.1, z.2.2.1, z.2.2.2.1, z.2.2.2.2.1, z.2.2.2.2.2)) (gV w_82 w_83 w_6 w_26 w_84) kk_X0_putSpan rfl ⟨Nat.le_of_ble_eq_true rfl, Nat.le_of_ble_eq_true rfl⟩ ⟨Nat.le_of_ble_eq_true rfl, Nat.le_of_ble_eq_true rfl⟩ ⟨Nat.le_of_ble_eq_true rfl, Nat.le_of_ble_eq_true rfl⟩ hP hS hl.1 rfl rfl (Nat.le_of_ble_eq_true rfl) dX0_reset_56 (fun h_125 => ?_) (fun h_125 H locs hP hS => ?_)
              · have hm : m_X0_reset z = ((m_X0_putSpan (0 : Int32) (0 : Int32) (0 : Int32) (0 : Int32) (vp_updL (vp_updL z.1 (0 : Int32).toNatClampNeg (1008673 : Int64)) (2 : Int32).toNatClampNeg (1008673 : Int64), z.2.1, z.2.2.1, z.2.2.2.1, z.2.2.2.2.1, z.2.2.2.2.2)).1, 0, (m_X0_putSpan (0 : Int32) (0 : Int32) (0 : Int32) (0 : Int32) (vp_updL (vp_updL z.1 (0 : Int32).toNatClampNeg (1008673 : Int64)) (2 : Int32).toNatClampNeg (1008673 : Int64), z.2.1, z.2.2.1, z.2.2.2.1, z.2.2.2.2.1, z.2.2.2.2.2)).2) := hm.trans (if_neg h_125)
                exact ⟨by rw [hm], by rw [hm]⟩
              · have hm := hm.trans (if_pos h_125)
                refine lv_iinc (v := (1 : Int32)) (lv' := [(2, .int (1 : Int32)), (1, .int (2 : Int32)), (0, .ref a.1)]) hx hb dX0_reset_59 hl (k := 0) rfl (by decide) (by decide) rfl (fun ls hl => ?_)
                refine lv_goto (tgt := 46) hx hb dX0_reset_62 (by decide) ?_
                refine lv_iload_n hx hb dX0_reset_46 rfl (lv_at hl 0 rfl) ?_
                refine lv_iconst (v := 2) hx hb dX0_reset_47 (by decide) ?_
                refine lv_icmp_ge (tgt := 65) hx hb dX0_reset_48 (by decide) (fun h => absurd h (by decide)) (fun _ => ?_)
                refine lv_aload_n hx hb dX0_reset_51 rfl (lv_at hl 2 rfl) ?_
                refine lv_iload_n hx hb dX0_reset_52 rfl (lv_at hl 0 rfl) ?_
                refine lv_iconst (v := 0) hx hb dX0_reset_53 (by decide) ?_
                refine lv_iconst (v := 0) hx hb dX0_reset_54 (by decide) ?_
                refine lv_iconst (v := 0) hx hb dX0_reset_55 (by decide) ?_
                refine cc_V hC hGx hD hEx hlocks (c_X0_putSpan l hl9 k a hD (1 : Int32) (0 : Int32) (0 : Int32) (0 : Int32) ((m_X0_putSpan (0 : Int32) (0 : Int32) (0 : Int32) (0 : Int32) (vp_updL (vp_updL z.1 (0 : Int32).toNatClampNeg (1008673 : Int64)) (2 : Int32).toNatClampNeg (1008673 : Int64), z.2.1, z.2.2.1, z.2.2.2.1, z.2.2.2.2.1, z.2.2.2.2.2)).2)) (gV w_82 w_83 w_6 w_26 w_84) kk_X0_putSpan rfl ⟨Nat.le_of_ble_eq_true rfl, Nat.le_of_ble_eq_true rfl⟩ ⟨Nat.le_of_ble_eq_true rfl, Nat.le_of_ble_eq_true rfl⟩ ⟨Nat.le_of_ble_eq_true rfl, Nat.le_of_ble_eq_true rfl⟩ hP hS hl.1 rfl rfl (Nat.le_of_ble_eq_true rfl) dX0_reset_56 (fun h_126 => ?_) (fun h_126 H locs hP hS => ?_)
                · have hm : m_X0_reset z = ((m_X0_putSpan (1 : Int32) (0 : Int32) (0 : Int32) (0 : Int32) ((m_X0_putSpan (0 : Int32) (0 : Int32) (0 : Int32) (0 : Int32) (vp_updL (vp_updL z.1 (0 : Int32).toNatClampNeg (1008673 : Int64)) (2 : Int32).toNatClampNeg (1008673 : Int64), z.2.1, z.2.2.1, z.2.2.2.1, z.2.2.2.2.1, z.2.2.2.2.2)).2)).1, 0, (m_X0_putSpan (1 : Int32) (0 : Int32) (0 : Int32) (0 : Int32) ((m_X0_putSpan (0 : Int32) (0 : Int32) (0 : Int32) (0 : Int32) (vp_updL (vp_updL z.1 (0 : Int32).toNatClampNeg (1008673 : Int64)) (2 : Int32).toNatClampNeg (1008673 : Int64), z.2.1, z.2.2.1, z.2.2.2.1, z.2.2.2.2.1, z.2.2.2.2.2)).2)).2) := hm.trans (if_neg h_126)
                  exact ⟨by rw [hm], by rw [hm]⟩
                · have hm := hm.trans (if_pos h_126)
                  refine lv_iinc (v := (2 : Int32)) (lv' := [(2, .int (2 : Int32)), (1, .int (2 : Int32)), (0, .ref a.1)]) hx hb dX0_reset_59 hl (k := 0) rfl (by decide) (by decide) rfl (fun ls hl => ?_)
                  refine lv_goto (tgt := 46) hx hb dX0_reset_62 (by decide) ?_
                  refine lv_iload_n hx hb dX0_reset_46 rfl (lv_at hl 0 rfl) ?_
                  refine lv_iconst (v := 2) hx hb dX0_reset_47 (by decide) ?_
                  refine lv_icmp_ge (tgt := 65) hx hb dX0_reset_48 (by decide) (fun _ => ?_) (fun h => absurd h (by decide))
                  refine lv_iload_n hx hb dX0_reset_65 rfl (lv_at hl 1 rfl) ?_
                  have hm : m_X0_reset z = (0, (2 : Int32), (m_X0_putSpan (1 : Int32) (0 : Int32) (0 : Int32) (0 : Int32) ((m_X0_putSpan (0 : Int32) (0 : Int32) (0 : Int32) (0 : Int32) (vp_updL (vp_updL z.1 (0 : Int32).toNatClampNeg (1008673 : Int64)) (2 : Int32).toNatClampNeg (1008673 : Int64), z.2.1, z.2.2.1, z.2.2.2.1, z.2.2.2.2.1, z.2.2.2.2.2)).2)).2) := hm
                  exact c_iret (E := (2 : Int32)) hx hb hr hlocks (by rw [hm]) (by rw [hm]) (by rw [hm]) hP hS ⟨Nat.le_of_ble_eq_true rfl, Nat.le_of_ble_eq_true rfl⟩ dX0_reset_66
            · have hm := hm.trans (if_neg h_124)
              refine lv_iinc (v := (3 : Int32)) (lv' := [(1, .int (3 : Int32)), (2, .int (5 : Int32)), (0, .ref a.1)]) hx hb dX0_reset_26 hl (k := 1) rfl (by decide) (by decide) rfl (fun ls hl => ?_)
              refine lv_aload_n hx hb dX0_reset_29 rfl (lv_at hl 2 rfl) ?_
              refine va_get (D := kD k) (ci := 2) (v := .ref a.2.1) (C := RX0) (T := TX0) (N := 6) hx hb htg inG_X0 hown hGx.1 hP 0 rfl rfl 0 (by decide) (htg _ w_57) (fun _ h9 => h9) rfl dX0_reset_30 ?_
              refine lv_iload_n hx hb dX0_reset_33 rfl (lv_at hl 1 rfl) ?_
              refine lv_ldc2 hx hb hown (htg _ w_56) dX0_reset_34 ?_
              refine va_last (D := kD k) hx hb hGx.1 hP (hD.own _ _) hS 1 0 rfl rfl (show ¬ ((5 : Int32) < 0 ∨ 6 ≤ ((5 : Int32)).toNatClampNeg) by decide) dX0_reset_37 (fun H locs hP1 _ hS => ?_)
              have hP : va_P (kD k) vwCl (cW k a (vp_updL (vp_updL (vp_updL z.1 (0 : Int32).toNatClampNeg (1008673 : Int64)) (2 : Int32).toNatClampNeg (1008673 : Int64)) (5 : Int32).toNatClampNeg (1008673 : Int64), z.2.1, z.2.2.1, z.2.2.2.1, z.2.2.2.2.1, z.2.2.2.2.2)) H := hP1
              refine lv_iinc (v := (6 : Int32)) (lv' := [(2, .int (6 : Int32)), (1, .int (3 : Int32)), (0, .ref a.1)]) hx hb dX0_reset_38 hl (k := 1) rfl (by decide) (by decide) rfl (fun ls hl => ?_)
              refine lv_goto (tgt := 4) hx hb dX0_reset_41 (by decide) ?_
              refine lv_iload_n hx hb dX0_reset_4 rfl (lv_at hl 0 rfl) ?_
              refine lv_aload_n hx hb dX0_reset_5 rfl (lv_at hl 2 rfl) ?_
              refine va_get (D := kD k) (ci := 2) (v := .ref a.2.1) (C := RX0) (T := TX0) (N := 6) hx hb htg inG_X0 hown hGx.1 hP 0 rfl rfl 0 (by decide) (htg _ w_57) (fun _ h9 => h9) rfl dX0_reset_6 ?_
              refine va_alen (D := kD k) (v := 6) hx hb hGx.1 hP 1 0 rfl rfl (show Int32.ofNat 6 = 6 by decide) dX0_reset_9 ?_
              refine lv_icmp_ge (tgt := 44) hx hb dX0_reset_10 (by decide) (fun _ => ?_) (fun h => absurd h (by decide))
              refine lv_iconst (v := 0) hx hb dX0_reset_44 (by decide) ?_
              refine lv_istore_n (lv' := [(2, .int (0 : Int32)), (1, .int (3 : Int32)), (0, .ref a.1)]) hx hb dX0_reset_45 rfl hl (by decide) rfl (fun ls hl => ?_)
              refine lv_iload_n hx hb dX0_reset_46 rfl (lv_at hl 0 rfl) ?_
              refine lv_iconst (v := 2) hx hb dX0_reset_47 (by decide) ?_
              refine lv_icmp_ge (tgt := 65) hx hb dX0_reset_48 (by decide) (fun h => absurd h (by decide)) (fun _ => ?_)
              refine lv_aload_n hx hb dX0_reset_51 rfl (lv_at hl 2 rfl) ?_
              refine lv_iload_n hx hb dX0_reset_52 rfl (lv_at hl 0 rfl) ?_
              refine lv_iconst (v := 0) hx hb dX0_reset_53 (by decide) ?_
              refine lv_iconst (v := 0) hx hb dX0_reset_54 (by decide) ?_
              refine lv_iconst (v := 0) hx hb dX0_reset_55 (by decide) ?_
              refine cc_V hC hGx hD hEx hlocks (c_X0_putSpan l hl9 k a hD (0 : Int32) (0 : Int32) (0 : Int32) (0 : Int32) (vp_updL (vp_updL (vp_updL z.1 (0 : Int32).toNatClampNeg (1008673 : Int64)) (2 : Int32).toNatClampNeg (1008673 : Int64)) (5 : Int32).toNatClampNeg (1008673 : Int64), z.2.1, z.2.2.1, z.2.2.2.1, z.2.2.2.2.1, z.2.2.2.2.2)) (gV w_82 w_83 w_6 w_26 w_84) kk_X0_putSpan rfl ⟨Nat.le_of_ble_eq_true rfl, Nat.le_of_ble_eq_true rfl⟩ ⟨Nat.le_of_ble_eq_true rfl, Nat.le_of_ble_eq_true rfl⟩ ⟨Nat.le_of_ble_eq_true rfl, Nat.le_of_ble_eq_true rfl⟩ hP hS hl.1 rfl rfl (Nat.le_of_ble_eq_true rfl) dX0_reset_56 (fun h_127 => ?_) (fun h_127 H locs hP hS => ?_)
              · have hm : m_X0_reset z = ((m_X0_putSpan (0 : Int32) (0 : Int32) (0 : Int32) (0 : Int32) (vp_updL (vp_updL (vp_updL z.1 (0 : Int32).toNatClampNeg (1008673 : Int64)) (2 : Int32).toNatClampNeg (1008673 : Int64)) (5 : Int32).toNatClampNeg (1008673 : Int64), z.2.1, z.2.2.1, z.2.2.2.1, z.2.2.2.2.1, z.2.2.2.2.2)).1, 0, (m_X0_putSpan (0 : Int32) (0 : Int32) (0 : Int32) (0 : Int32) (vp_updL (vp_updL (vp_updL z.1 (0 : Int32).toNatClampNeg (1008673 : Int64)) (2 : Int32).toNatClampNeg (1008673 : Int64)) (5 : Int32).toNatClampNeg (1008673 : Int64), z.2.1, z.2.2.1, z.2.2.2.1, z.2.2.2.2.1, z.2.2.2.2.2)).2) := hm.trans (if_neg h_127)
                exact ⟨by rw [hm], by rw [hm]⟩
              · have hm := hm.trans (if_pos h_127)
                refine lv_iinc (v := (1 : Int32)) (lv' := [(2, .int (1 : Int32)), (1, .int (3 : Int32)), (0, .ref a.1)]) hx hb dX0_reset_59 hl (k := 0) rfl (by decide) (by decide) rfl (fun ls hl => ?_)
                refine lv_goto (tgt := 46) hx hb dX0_reset_62 (by decide) ?_
                refine lv_iload_n hx hb dX0_reset_46 rfl (lv_at hl 0 rfl) ?_
                refine lv_iconst (v := 2) hx hb dX0_reset_47 (by decide) ?_
                refine lv_icmp_ge (tgt := 65) hx hb dX0_reset_48 (by decide) (fun h => absurd h (by decide)) (fun _ => ?_)
                refine lv_aload_n hx hb dX0_reset_51 rfl (lv_at hl 2 rfl) ?_
                refine lv_iload_n hx hb dX0_reset_52 rfl (lv_at hl 0 rfl) ?_
                refine lv_iconst (v := 0) hx hb dX0_reset_53 (by decide) ?_
                refine lv_iconst (v := 0) hx hb dX0_reset_54 (by decide) ?_
                refine lv_iconst (v := 0) hx hb dX0_reset_55 (by decide) ?_
                refine cc_V hC hGx hD hEx hlocks (c_X0_putSpan l hl9 k a hD (1 : Int32) (0 : Int32) (0 : Int32) (0 : Int32) ((m_X0_putSpan (0 : Int32) (0 : Int32) (0 : Int32) (0 : Int32) (vp_updL (vp_updL (vp_updL z.1 (0 : Int32).toNatClampNeg (1008673 : Int64)) (2 : Int32).toNatClampNeg (1008673 : Int64)) (5 : Int32).toNatClampNeg (1008673 : Int64), z.2.1, z.2.2.1, z.2.2.2.1, z.2.2.2.2.1, z.2.2.2.2.2)).2)) (gV w_82 w_83 w_6 w_26 w_84) kk_X0_putSpan rfl ⟨Nat.le_of_ble_eq_true rfl, Nat.le_of_ble_eq_true rfl⟩ ⟨Nat.le_of_ble_eq_true rfl, Nat.le_of_ble_eq_true rfl⟩ ⟨Nat.le_of_ble_eq_true rfl, Nat.le_of_ble_eq_true rfl⟩ hP hS hl.1 rfl rfl (Nat.le_of_ble_eq_true rfl) dX0_reset_56 (fun h_128 => ?_) (fun h_128 H locs hP hS => ?_)
                · have hm : m_X0_reset z = ((m_X0_putSpan (1 : Int32) (0 : Int32) (0 : Int32) (0 : Int32) ((m_X0_putSpan (0 : Int32) (0 : Int32) (0 : Int32) (0 : Int32) (vp_updL (vp_updL (vp_updL z.1 (0 : Int32).toNatClampNeg (1008673 : Int64)) (2 : Int32).toNatClampNeg (1008673 : Int64)) (5 : Int32).toNatClampNeg (1008673 : Int64), z.2.1, z.2.2.1, z.2.2.2.1, z.2.2.2.2.1, z.2.2.2.2.2)).2)).1, 0, (m_X0_putSpan (1 : Int32) (0 : Int32) (0 : Int32) (0 : Int32) ((m_X0_putSpan (0 : Int32) (0 : Int32) (0 : Int32) (0 : Int32) (vp_updL (vp_updL (vp_updL z.1 (0 : Int32).toNatClampNeg (1008673 : Int64)) (2 : Int32).toNatClampNeg (1008673 : Int64)) (5 : Int32).toNatClampNeg (1008673 : Int64), z.2.1, z.2.2.1, z.2.2.2.1, z.2.2.2.2.1, z.2.2.2.2.2)).2)).2) := hm.trans (if_neg h_128)
                  exact ⟨by rw [hm], by rw [hm]⟩
                · have hm := hm.trans (if_pos h_128)
                  refine lv_iinc (v := (2 : Int32)) (lv' := [(2, .int (2 : Int32)), (1, .int (3 : Int32)), (0, .ref a.1)]) hx hb dX0_reset_59 hl (k := 0) rfl (by decide) (by decide) rfl (fun ls hl => ?_)
                  refine lv_goto (tgt := 46) hx hb dX0_reset_62 (by decide) ?_
                  refine lv_iload_n hx hb dX0_reset_46 rfl (lv_at hl 0 rfl) ?_
                  refine lv_iconst (v := 2) hx hb dX0_reset_47 (by decide) ?_
                  refine lv_icmp_ge (tgt := 65) hx hb dX0_reset_48 (by decide) (fun _ => ?_) (fun h => absurd h (by decide))
                  refine lv_iload_n hx hb dX0_reset_65 rfl (lv_at hl 1 rfl) ?_
                  have hm : m_X0_reset z = (0, (3 : Int32), (m_X0_putSpan (1 : Int32) (0 : Int32) (0 : Int32) (0 : Int32) ((m_X0_putSpan (0 : Int32) (0 : Int32) (0 : Int32) (0 : Int32) (vp_updL (vp_updL (vp_updL z.1 (0 : Int32).toNatClampNeg (1008673 : Int64)) (2 : Int32).toNatClampNeg (1008673 : Int64)) (5 : Int32).toNatClampNeg (1008673 : Int64), z.2.1, z.2.2.1, z.2.2.2.1, z.2.2.2.2.1, z.2.2.2.2.2)).2)).2) := hm
                  exact c_iret (E := (3 : Int32)) hx hb hr hlocks (by rw [hm]) (by rw [hm]) (by rw [hm]) hP hS ⟨Nat.le_of_ble_eq_true rfl, Nat.le_of_ble_eq_true rfl⟩ dX0_reset_66
          · have hm := hm.trans (if_neg h_123)
            refine lv_iinc (v := (3 : Int32)) (lv' := [(1, .int (3 : Int32)), (2, .int (4 : Int32)), (0, .ref a.1)]) hx hb dX0_reset_26 hl (k := 1) rfl (by decide) (by decide) rfl (fun ls hl => ?_)
            refine lv_aload_n hx hb dX0_reset_29 rfl (lv_at hl 2 rfl) ?_
            refine va_get (D := kD k) (ci := 2) (v := .ref a.2.1) (C := RX0) (T := TX0) (N := 6) hx hb htg inG_X0 hown hGx.1 hP 0 rfl rfl 0 (by decide) (htg _ w_57) (fun _ h9 => h9) rfl dX0_reset_30 ?_
            refine lv_iload_n hx hb dX0_reset_33 rfl (lv_at hl 1 rfl) ?_
            refine lv_ldc2 hx hb hown (htg _ w_56) dX0_reset_34 ?_
            refine va_last (D := kD k) hx hb hGx.1 hP (hD.own _ _) hS 1 0 rfl rfl (show ¬ ((4 : Int32) < 0 ∨ 6 ≤ ((4 : Int32)).toNatClampNeg) by decide) dX0_reset_37 (fun H locs hP1 _ hS => ?_)
            have hP : va_P (kD k) vwCl (cW k a (vp_updL (vp_updL (vp_updL z.1 (0 : Int32).toNatClampNeg (1008673 : Int64)) (2 : Int32).toNatClampNeg (1008673 : Int64)) (4 : Int32).toNatClampNeg (1008673 : Int64), z.2.1, z.2.2.1, z.2.2.2.1, z.2.2.2.2.1, z.2.2.2.2.2)) H := hP1
            refine lv_iinc (v := (5 : Int32)) (lv' := [(2, .int (5 : Int32)), (1, .int (3 : Int32)), (0, .ref a.1)]) hx hb dX0_reset_38 hl (k := 1) rfl (by decide) (by decide) rfl (fun ls hl => ?_)
            refine lv_goto (tgt := 4) hx hb dX0_reset_41 (by decide) ?_
            refine lv_iload_n hx hb dX0_reset_4 rfl (lv_at hl 0 rfl) ?_
            refine lv_aload_n hx hb dX0_reset_5 rfl (lv_at hl 2 rfl) ?_
            refine va_get (D := kD k) (ci := 2) (v := .ref a.2.1) (C := RX0) (T := TX0) (N := 6) hx hb htg inG_X0 hown hGx.1 hP 0 rfl rfl 0 (by decide) (htg _ w_57) (fun _ h9 => h9) rfl dX0_reset_6 ?_
            refine va_alen (D := kD k) (v := 6) hx hb hGx.1 hP 1 0 rfl rfl (show Int32.ofNat 6 = 6 by decide) dX0_reset_9 ?_
            refine lv_icmp_ge (tgt := 44) hx hb dX0_reset_10 (by decide) (fun h => absurd h (by decide)) (fun _ => ?_)
            refine lv_aload_n hx hb dX0_reset_13 rfl (lv_at hl 2 rfl) ?_
            refine va_get (D := kD k) (ci := 2) (v := .ref a.2.1) (C := RX0) (T := TX0) (N := 6) hx hb htg inG_X0 hown hGx.1 hP 0 rfl rfl 0 (by decide) (htg _ w_57) (fun _ h9 => h9) rfl dX0_reset_14 ?_
            refine lv_iload_n hx hb dX0_reset_17 rfl (lv_at hl 0 rfl) ?_
            refine va_lald (D := kD k) hx hb hGx.1 hP 1 0 rfl rfl (show ¬ ((5 : Int32) < 0 ∨ 6 ≤ ((5 : Int32)).toNatClampNeg) by decide) dX0_reset_18 ?_
            refine lv_ldc2 hx hb hown (htg _ w_56) dX0_reset_19 ?_
            refine W.lcmp hx hb dX0_reset_22 ?_
            refine lv_if_eq (tgt := 38) hx hb dX0_reset_23 (by decide) (fun h_129 => ?_) (fun h_129 => ?_)
            · have hm := hm.trans (if_pos h_129)
              refine lv_iinc (v := (6 : Int32)) (lv' := [(2, .int (6 : Int32)), (1, .int (3 : Int32)), (0, .ref a.1)]) hx hb dX0_reset_38 hl (k := 0) rfl (by decide) (by decide) rfl (fun ls hl => ?_)
              refine lv_goto (tgt := 4) hx hb dX0_reset_41 (by decide) ?_
              refine lv_iload_n hx hb dX0_reset_4 rfl (lv_at hl 0 rfl) ?_
              refine lv_aload_n hx hb dX0_reset_5 rfl (lv_at hl 2 rfl) ?_
              refine va_get (D := kD k) (ci := 2) (v := .ref a.2.1) (C := RX0) (T := TX0) (N := 6) hx hb htg inG_X0 hown hGx.1 hP 0 rfl rfl 0 (by decide) (htg _ w_57) (fun _ h9 => h9) rfl dX0_reset_6 ?_
              refine va_alen (D := kD k) (v := 6) hx hb hGx.1 hP 1 0 rfl rfl (show Int32.ofNat 6 = 6 by decide) dX0_reset_9 ?_
              refine lv_icmp_ge (tgt := 44) hx hb dX0_reset_10 (by decide) (fun _ => ?_) (fun h => absurd h (by decide))
              refine lv_iconst (v := 0) hx hb dX0_reset_44 (by decide) ?_
              refine lv_istore_n (lv' := [(2, .int (0 : Int32)), (1, .int (3 : Int32)), (0, .ref a.1)]) hx hb dX0_reset_45 rfl hl (by decide) rfl (fun ls hl => ?_)
              refine lv_iload_n hx hb dX0_reset_46 rfl (lv_at hl 0 rfl) ?_
              refine lv_iconst (v := 2) hx hb dX0_reset_47 (by decide) ?_
              refine lv_icmp_ge (tgt := 65) hx hb dX0_reset_48 (by decide) (fun h => absurd h (by decide)) (fun _ => ?_)
              refine lv_aload_n hx hb dX0_reset_51 rfl (lv_at hl 2 rfl) ?_
              refine lv_iload_n hx hb dX0_reset_52 rfl (lv_at hl 0 rfl) ?_
              refine lv_iconst (v := 0) hx hb dX0_reset_53 (by decide) ?_
              refine lv_iconst (v := 0) hx hb dX0_reset_54 (by decide) ?_
              refine lv_iconst (v := 0) hx hb dX0_reset_55 (by decide) ?_
              refine cc_V hC hGx hD hEx hlocks (c_X0_putSpan l hl9 k a hD (0 : Int32) (0 : Int32) (0 : Int32) (0 : Int32) (vp_updL (vp_updL (vp_updL z.1 (0 : Int32).toNatClampNeg (1008673 : Int64)) (2 : Int32).toNatClampNeg (1008673 : Int64)) (4 : Int32).toNatClampNeg (1008673 : Int64), z.2.1, z.2.2.1, z.2.2.2.1, z.2.2.2.2.1, z.2.2.2.2.2)) (gV w_82 w_83 w_6 w_26 w_84) kk_X0_putSpan rfl ⟨Nat.le_of_ble_eq_true rfl, Nat.le_of_ble_eq_true rfl⟩ ⟨Nat.le_of_ble_eq_true rfl, Nat.le_of_ble_eq_true rfl⟩ ⟨Nat.le_of_ble_eq_true rfl, Nat.le_of_ble_eq_true rfl⟩ hP hS hl.1 rfl rfl (Nat.le_of_ble_eq_true rfl) dX0_reset_56 (fun h_130 => ?_) (fun h_130 H locs hP hS => ?_)
              · have hm : m_X0_reset z = ((m_X0_putSpan (0 : Int32) (0 : Int32) (0 : Int32) (0 : Int32) (vp_updL (vp_updL (vp_updL z.1 (0 : Int32).toNatClampNeg (1008673 : Int64)) (2 : Int32).toNatClampNeg (1008673 : Int64)) (4 : Int32).toNatClampNeg (1008673 : Int64), z.2.1, z.2.2.1, z.2.2.2.1, z.2.2.2.2.1, z.2.2.2.2.2)).1, 0, (m_X0_putSpan (0 : Int32) (0 : Int32) (0 : Int32) (0 : Int32) (vp_updL (vp_updL (vp_updL z.1 (0 : Int32).toNatClampNeg (1008673 : Int64)) (2 : Int32).toNatClampNeg (1008673 : Int64)) (4 : Int32).toNatClampNeg (1008673 : Int64), z.2.1, z.2.2.1, z.2.2.2.1, z.2.2.2.2.1, z.2.2.2.2.2)).2) := hm.trans (if_neg h_130)
                exact ⟨by rw [hm], by rw [hm]⟩
              · have hm := hm.trans (if_pos h_130)
                refine lv_iinc (v := (1 : Int32)) (lv' := [(2, .int (1 : Int32)), (1, .int (3 : Int32)), (0, .ref a.1)]) hx hb dX0_reset_59 hl (k := 0) rfl (by decide) (by decide) rfl (fun ls hl => ?_)
                refine lv_goto (tgt := 46) hx hb dX0_reset_62 (by decide) ?_
                refine lv_iload_n hx hb dX0_reset_46 rfl (lv_at hl 0 rfl) ?_
                refine lv_iconst (v := 2) hx hb dX0_reset_47 (by decide) ?_
                refine lv_icmp_ge (tgt := 65) hx hb dX0_reset_48 (by decide) (fun h => absurd h (by decide)) (fun _ => ?_)
                refine lv_aload_n hx hb dX0_reset_51 rfl (lv_at hl 2 rfl) ?_
                refine lv_iload_n hx hb dX0_reset_52 rfl (lv_at hl 0 rfl) ?_
                refine lv_iconst (v := 0) hx hb dX0_reset_53 (by decide) ?_
                refine lv_iconst (v := 0) hx hb dX0_reset_54 (by decide) ?_
                refine lv_iconst (v := 0) hx hb dX0_reset_55 (by decide) ?_
                refine cc_V hC hGx hD hEx hlocks (c_X0_putSpan l hl9 k a hD (1 : Int32) (0 : Int32) (0 : Int32) (0 : Int32) ((m_X0_putSpan (0 : Int32) (0 : Int32) (0 : Int32) (0 : Int32) (vp_updL (vp_updL (vp_updL z.1 (0 : Int32).toNatClampNeg (1008673 : Int64)) (2 : Int32).toNatClampNeg (1008673 : Int64)) (4 : Int32).toNatClampNeg (1008673 : Int64), z.2.1, z.2.2.1, z.2.2.2.1, z.2.2.2.2.1, z.2.2.2.2.2)).2)) (gV w_82 w_83 w_6 w_26 w_84) kk_X0_putSpan rfl ⟨Nat.le_of_ble_eq_true rfl, Nat.le_of_ble_eq_true rfl⟩ ⟨Nat.le_of_ble_eq_true rfl, Nat.le_of_ble_eq_true rfl⟩ ⟨Nat.le_of_ble_eq_true rfl, Nat.le_of_ble_eq_true rfl⟩ hP hS hl.1 rfl rfl (Nat.le_of_ble_eq_true rfl) dX0_reset_56 (fun h_131 => ?_) (fun h_131 H locs hP hS => ?_)
                · have hm : m_X0_reset z = ((m_X0_putSpan (1 : Int32) (0 : Int32) (0 : Int32) (0 : Int32) ((m_X0_putSpan (0 : Int32) (0 : Int32) (0 : Int32) (0 : Int32) (vp_updL (vp_updL (vp_updL z.1 (0 : Int32).toNatClampNeg (1008673 : Int64)) (2 : Int32).toNatClampNeg (1008673 : Int64)) (4 : Int32).toNatClampNeg (1008673 : Int64), z.2.1, z.2.2.1, z.2.2.2.1, z.2.2.2.2.1, z.2.2.2.2.2)).2)).1, 0, (m_X0_putSpan (1 : Int32) (0 : Int32) (0 : Int32) (0 : Int32) ((m_X0_putSpan (0 : Int32) (0 : Int32) (0 : Int32) (0 : Int32) (vp_updL (vp_updL (vp_updL z.1 (0 : Int32).toNatClampNeg (1008673 : Int64)) (2 : Int32).toNatClampNeg (1008673 : Int64)) (4 : Int32).toNatClampNeg (1008673 : Int64), z.2.1, z.2.2.1, z.2.2.2.1, z.2.2.2.2.1, z.2.2.2.2.2)).2)).2) := hm.trans (if_neg h_131)
                  exact ⟨by rw [hm], by rw [hm]⟩
                · have hm := hm.trans (if_pos h_131)
                  refine lv_iinc (v := (2 : Int32)) (lv' := [(2, .int (2 : Int32)), (1, .int (3 : Int32)), (0, .ref a.1)]) hx hb dX0_reset_59 hl (k := 0) rfl (by decide) (by decide) rfl (fun ls hl => ?_)
                  refine lv_goto (tgt := 46) hx hb dX0_reset_62 (by decide) ?_
                  refine lv_iload_n hx hb dX0_reset_46 rfl (lv_at hl 0 rfl) ?_
                  refine lv_iconst (v := 2) hx hb dX0_reset_47 (by decide) ?_
                  refine lv_icmp_ge (tgt := 65) hx hb dX0_reset_48 (by decide) (fun _ => ?_) (fun h => absurd h (by decide))
                  refine lv_iload_n hx hb dX0_reset_65 rfl (lv_at hl 1 rfl) ?_
                  have hm : m_X0_reset z = (0, (3 : Int32), (m_X0_putSpan (1 : Int32) (0 : Int32) (0 : Int32) (0 : Int32) ((m_X0_putSpan (0 : Int32) (0 : Int32) (0 : Int32) (0 : Int32) (vp_updL (vp_updL (vp_updL z.1 (0 : Int32).toNatClampNeg (1008673 : Int64)) (2 : Int32).toNatClampNeg (1008673 : Int64)) (4 : Int32).toNatClampNeg (1008673 : Int64), z.2.1, z.2.2.1, z.2.2.2.1, z.2.2.2.2.1, z.2.2.2.2.2)).2)).2) := hm
                  exact c_iret (E := (3 : Int32)) hx hb hr hlocks (by rw [hm]) (by rw [hm]) (by rw [hm]) hP hS ⟨Nat.le_of_ble_eq_true rfl, Nat.le_of_ble_eq_true rfl⟩ dX0_reset_66
            · have hm := hm.trans (if_neg h_129)
              refine lv_iinc (v := (4 : Int32)) (lv' := [(1, .int (4 : Int32)), (2, .int (5 : Int32)), (0, .ref a.1)]) hx hb dX0_reset_26 hl (k := 1) rfl (by decide) (by decide) rfl (fun ls hl => ?_)
              refine lv_aload_n hx hb dX0_reset_29 rfl (lv_at hl 2 rfl) ?_
              refine va_get (D := kD k) (ci := 2) (v := .ref a.2.1) (C := RX0) (T := TX0) (N := 6) hx hb htg inG_X0 hown hGx.1 hP 0 rfl rfl 0 (by decide) (htg _ w_57) (fun _ h9 => h9) rfl dX0_reset_30 ?_
              refine lv_iload_n hx hb dX0_reset_33 rfl (lv_at hl 1 rfl) ?_
              refine lv_ldc2 hx hb hown (htg _ w_56) dX0_reset_34 ?_
              refine va_last (D := kD k) hx hb hGx.1 hP (hD.own _ _) hS 1 0 rfl rfl (show ¬ ((5 : Int32) < 0 ∨ 6 ≤ ((5 : Int32)).toNatClampNeg) by decide) dX0_reset_37 (fun H locs hP1 _ hS => ?_)
              have hP : va_P (kD k) vwCl (cW k a (vp_updL (vp_updL (vp_updL (vp_updL z.1 (0 : Int32).toNatClampNeg (1008673 : Int64)) (2 : Int32).toNatClampNeg (1008673 : Int64)) (4 : Int32).toNatClampNeg (1008673 : Int64)) (5 : Int32).toNatClampNeg (1008673 : Int64), z.2.1, z.2.2.1, z.2.2.2.1, z.2.2.2.2.1, z.2.2.2.2.2)) H := hP1
              refine lv_iinc (v := (6 : Int32)) (lv' := [(2, .int (6 : Int32)), (1, .int (4 : Int32)), (0, .ref a.1)]) hx hb dX0_reset_38 hl (k := 1) rfl (by decide) (by decide) rfl (fun ls hl => ?_)
              refine lv_goto (tgt := 4) hx hb dX0_reset_41 (by decide) ?_
              refine lv_iload_n hx hb dX0_reset_4 rfl (lv_at hl 0 rfl) ?_
              refine lv_aload_n hx hb dX0_reset_5 rfl (lv_at hl 2 rfl) ?_
              refine va_get (D := kD k) (ci := 2) (v := .ref a.2.1) (C := RX0) (T := TX0) (N := 6) hx hb htg inG_X0 hown hGx.1 hP 0 rfl rfl 0 (by decide) (htg _ w_57) (fun _ h9 => h9) rfl dX0_reset_6 ?_
              refine va_alen (D := kD k) (v := 6) hx hb hGx.1 hP 1 0 rfl rfl (show Int32.ofNat 6 = 6 by decide) dX0_reset_9 ?_
              refine lv_icmp_ge (tgt := 44) hx hb dX0_reset_10 (by decide) (fun _ => ?_) (fun h => absurd h (by decide))
              refine lv_iconst (v := 0) hx hb dX0_reset_44 (by decide) ?_
              refine lv_istore_n (lv' := [(2, .int (0 : Int32)), (1, .int (4 : Int32)), (0, .ref a.1)]) hx hb dX0_reset_45 rfl hl (by decide) rfl (fun ls hl => ?_)
              refine lv_iload_n hx hb dX0_reset_46 rfl (lv_at hl 0 rfl) ?_
              refine lv_iconst (v := 2) hx hb dX0_reset_47 (by decide) ?_
              refine lv_icmp_ge (tgt := 65) hx hb dX0_reset_48 (by decide) (fun h => absurd h (by decide)) (fun _ => ?_)
              refine lv_aload_n hx hb dX0_reset_51 rfl (lv_at hl 2 rfl) ?_
              refine lv_iload_n hx hb dX0_reset_52 rfl (lv_at hl 0 rfl) ?_
              refine lv_iconst (v := 0) hx hb dX0_reset_53 (by decide) ?_
              refine lv_iconst (v := 0) hx hb dX0_reset_54 (by decide) ?_
              refine lv_iconst (v := 0) hx hb dX0_reset_55 (by decide) ?_
              refine cc_V hC hGx hD hEx hlocks (c_X0_putSpan l hl9 k a hD (0 : Int32) (0 : Int32) (0 : Int32) (0 : Int32) (vp_updL (vp_updL (vp_updL (vp_updL z.1 (0 : Int32).toNatClampNeg (1008673 : Int64)) (2 : Int32).toNatClampNeg (1008673 : Int64)) (4 : Int32).toNatClampNeg (1008673 : Int64)) (5 : Int32).toNatClampNeg (1008673 : Int64), z.2.1, z.2.2.1, z.2.2.2.1, z.2.2.2.2.1, z.2.2.2.2.2)) (gV w_82 w_83 w_6 w_26 w_84) kk_X0_putSpan rfl ⟨Nat.le_of_ble_eq_true rfl, Nat.le_of_ble_eq_true rfl⟩ ⟨Nat.le_of_ble_eq_true rfl, Nat.le_of_ble_eq_true rfl⟩ ⟨Nat.le_of_ble_eq_true rfl, Nat.le_of_ble_eq_true rfl⟩ hP hS hl.1 rfl rfl (Nat.le_of_ble_eq_true rfl) dX0_reset_56 (fun h_132 => ?_) (fun h_132 H locs hP hS => ?_)
              · have hm : m_X0_reset z = ((m_X0_putSpan (0 : Int32) (0 : Int32) (0 : Int32) (0 : Int32) (vp_updL (vp_updL (vp_updL (vp_updL z.1 (0 : Int32).toNatClampNeg (1008673 : Int64)) (2 : Int32).toNatClampNeg (1008673 : Int64)) (4 : Int32).toNatClampNeg (1008673 : Int64)) (5 : Int32).toNatClampNeg (1008673 : Int64), z.2.1, z.2.2.1, z.2.2.2.1, z.2.2.2.2.1, z.2.2.2.2.2)).1, 0, (m_X0_putSpan (0 : Int32) (0 : Int32) (0 : Int32) (0 : Int32) (vp_updL (vp_updL (vp_updL (vp_updL z.1 (0 : Int32).toNatClampNeg (1008673 : Int64)) (2 : Int32).toNatClampNeg (1008673 : Int64)) (4 : Int32).toNatClampNeg (1008673 : Int64)) (5 : Int32).toNatClampNeg (1008673 : Int64), z.2.1, z.2.2.1, z.2.2.2.1, z.2.2.2.2.1, z.2.2.2.2.2)).2) := hm.trans (if_neg h_132)
                exact ⟨by rw [hm], by rw [hm]⟩
              · have hm := hm.trans (if_pos h_132)
                refine lv_iinc (v := (1 : Int32)) (lv' := [(2, .int (1 : Int32)), (1, .int (4 : Int32)), (0, .ref a.1)]) hx hb dX0_reset_59 hl (k := 0) rfl (by decide) (by decide) rfl (fun ls hl => ?_)
                refine lv_goto (tgt := 46) hx hb dX0_reset_62 (by decide) ?_
                refine lv_iload_n hx hb dX0_reset_46 rfl (lv_at hl 0 rfl) ?_
                refine lv_iconst (v := 2) hx hb dX0_reset_47 (by decide) ?_
                refine lv_icmp_ge (tgt := 65) hx hb dX0_reset_48 (by decide) (fun h => absurd h (by decide)) (fun _ => ?_)
                refine lv_aload_n hx hb dX0_reset_51 rfl (lv_at hl 2 rfl) ?_
                refine lv_iload_n hx hb dX0_reset_52 rfl (lv_at hl 0 rfl) ?_
                refine lv_iconst (v := 0) hx hb dX0_reset_53 (by decide) ?_
                refine lv_iconst (v := 0) hx hb dX0_reset_54 (by decide) ?_
                refine lv_iconst (v := 0) hx hb dX0_reset_55 (by decide) ?_
                refine cc_V hC hGx hD hEx hlocks (c_X0_putSpan l hl9 k a hD (1 : Int32) (0 : Int32) (0 : Int32) (0 : Int32) ((m_X0_putSpan (0 : Int32) (0 : Int32) (0 : Int32) (0 : Int32) (vp_updL (vp_updL (vp_updL (vp_updL z.1 (0 : Int32).toNatClampNeg (1008673 : Int64)) (2 : Int32).toNatClampNeg (1008673 : Int64)) (4 : Int32).toNatClampNeg (1008673 : Int64)) (5 : Int32).toNatClampNeg (1008673 : Int64), z.2.1, z.2.2.1, z.2.2.2.1, z.2.2.2.2.1, z.2.2.2.2.2)).2)) (gV w_82 w_83 w_6 w_26 w_84) kk_X0_putSpan rfl ⟨Nat.le_of_ble_eq_true rfl, Nat.le_of_ble_eq_true rfl⟩ ⟨Nat.le_of_ble_eq_true rfl, Nat.le_of_ble_eq_true rfl⟩ ⟨Nat.le_of_ble_eq_true rfl, Nat.le_of_ble_eq_true rfl⟩ hP hS hl.1 rfl rfl (Nat.le_of_ble_eq_true rfl) dX0_reset_56 (fun h_133 => ?_) (fun h_133 H locs hP hS => ?_)
                · have hm : m_X0_reset z = ((m_X0_putSpan (1 : Int32) (0 : Int32) (0 : Int32) (0 : Int32) ((m_X0_putSpan (0 : Int32) (0 : Int32) (0 : Int32) (0 : Int32) (vp_updL (vp_updL (vp_updL (vp_updL z.1 (0 : Int32).toNatClampNeg (1008673 : Int64)) (2 : Int32).toNatClampNeg (1008673 : Int64)) (4 : Int32).toNatClampNeg (1008673 : Int64)) (5 : Int32).toNatClampNeg (1008673 : Int64), z.2.1, z.2.2.1, z.2.2.2.1, z.2.2.2.2.1, z.2.2.2.2.2)).2)).1, 0, (m_X0_putSpan (1 : Int32) (0 : Int32) (0 : Int32) (0 : Int32) ((m_X0_putSpan (0 : Int32) (0 : Int32) (0 : Int32) (0 : Int32) (vp_updL (vp_updL (vp_updL (vp_updL z.1 (0 : Int32).toNatClampNeg (1008673 : Int64)) (2 : Int32).toNatClampNeg (1008673 : Int64)) (4 : Int32).toNatClampNeg (1008673 : Int64)) (5 : Int32).toNatClampNeg (1008673 : Int64), z.2.1, z.2.2.1, z.2.2.2.1, z.2.2.2.2.1, z.2.2.2.2.2)).2)).2) := hm.trans (if_neg h_133)
                  exact ⟨by rw [hm], by rw [hm]⟩
                · have hm := hm.trans (if_pos h_133)
                  refine lv_iinc (v := (2 : Int32)) (lv' := [(2, .int (2 : Int32)), (1, .int (4 : Int32)), (0, .ref a.1)]) hx hb dX0_reset_59 hl (k := 0) rfl (by decide) (by decide) rfl (fun ls hl => ?_)
                  refine lv_goto (tgt := 46) hx hb dX0_reset_62 (by decide) ?_
                  refine lv_iload_n hx hb dX0_reset_46 rfl (lv_at hl 0 rfl) ?_
                  refine lv_iconst (v := 2) hx hb dX0_reset_47 (by decide) ?_
                  refine lv_icmp_ge (tgt := 65) hx hb dX0_reset_48 (by decide) (fun _ => ?_) (fun h => absurd h (by decide))
                  refine lv_iload_n hx hb dX0_reset_65 rfl (lv_at hl 1 rfl) ?_
                  have hm : m_X0_reset z = (0, (4 : Int32), (m_X0_putSpan (1 : Int32) (0 : Int32) (0 : Int32) (0 : Int32) ((m_X0_putSpan (0 : Int32) (0 : Int32) (0 : Int32) (0 : Int32) (vp_updL (vp_updL (vp_updL (vp_updL z.1 (0 : Int32).toNatClampNeg (1008673 : Int64)) (2 : Int32).toNatClampNeg (1008673 : Int64)) (4 : Int32).toNatClampNeg (1008673 : Int64)) (5 : Int32).toNatClampNeg (1008673 : Int64), z.2.1, z.2.2.1, z.2.2.2.1, z.2.2.2.2.1, z.2.2.2.2.2)).2)).2) := hm
                  exact c_iret (E := (4 : Int32)) hx hb hr hlocks (by rw [hm]) (by rw [hm]) (by rw [hm]) hP hS ⟨Nat.le_of_ble_eq_true rfl, Nat.le_of_ble_eq_true rfl⟩ dX0_reset_66
        · have hm := hm.trans (if_neg h_122)
          refine lv_iinc (v := (3 : Int32)) (lv' := [(1, .int (3 : Int32)), (2, .int (3 : Int32)), (0, .ref a.1)]) hx hb dX0_reset_26 hl (k := 1) rfl (by decide) (by decide) rfl (fun ls hl => ?_)
          refine lv_aload_n hx hb dX0_reset_29 rfl (lv_at hl 2 rfl) ?_
          refine va_get (D := kD k) (ci := 2) (v := .ref a.2.1) (C := RX0) (T := TX0) (N := 6) hx hb htg inG_X0 hown hGx.1 hP 0 rfl rfl 0 (by decide) (htg _ w_57) (fun _ h9 => h9) rfl dX0_reset_30 ?_
          refine lv_iload_n hx hb dX0_reset_33 rfl (lv_at hl 1 rfl) ?_
          refine lv_ldc2 hx hb hown (htg _ w_56) dX0_reset_34 ?_
          refine va_last (D := kD k) hx hb hGx.1 hP (hD.own _ _) hS 1 0 rfl rfl (show ¬ ((3 : Int32) < 0 ∨ 6 ≤ ((3 : Int32)).toNatClampNeg) by decide) dX0_reset_37 (fun H locs hP1 _ hS => ?_)
          have hP : va_P (kD k) vwCl (cW k a (vp_updL (vp_updL (vp_updL z.1 (0 : Int32).toNatClampNeg (1008673 : Int64)) (2 : Int32).toNatClampNeg (1008673 : Int64)) (3 : Int32).toNatClampNeg (1008673 : Int64), z.2.1, z.2.2.1, z.2.2.2.1, z.2.2.2.2.1, z.2.2.2.2.2)) H := hP1
          refine lv_iinc (v := (4 : Int32)) (lv' := [(2, .int (4 : Int32)), (1, .int (3 : Int32)), (0, .ref a.1)]) hx hb dX0_reset_38 hl (k := 1) rfl (by decide) (by decide) rfl (fun ls hl => ?_)
          refine lv_goto (tgt := 4) hx hb dX0_reset_41 (by decide) ?_
          refine lv_iload_n hx hb dX0_reset_4 rfl (lv_at hl 0 rfl) ?_
          refine lv_aload_n hx hb dX0_reset_5 rfl (lv_at hl 2 rfl) ?_
          refine va_get (D := kD k) (ci := 2) (v := .ref a.2.1) (C := RX0) (T := TX0) (N := 6) hx hb htg inG_X0 hown hGx.1 hP 0 rfl rfl 0 (by decide) (htg _ w_57) (fun _ h9 => h9) rfl dX0_reset_6 ?_
          refine va_alen (D := kD k) (v := 6) hx hb hGx.1 hP 1 0 rfl rfl (show Int32.ofNat 6 = 6 by decide) dX0_reset_9 ?_
          refine lv_icmp_ge (tgt := 44) hx hb dX0_reset_10 (by decide) (fun h => absurd h (by decide)) (fun _ => ?_)
          refine lv_aload_n hx hb dX0_reset_13 rfl (lv_at hl 2 rfl) ?_
          refine va_get (D := kD k) (ci := 2) (v := .ref a.2.1) (C := RX0) (T := TX0) (N := 6) hx hb htg inG_X0 hown hGx.1 hP 0 rfl rfl 0 (by decide) (htg _ w_57) (fun _ h9 => h9) rfl dX0_reset_14 ?_
          refine lv_iload_n hx hb dX0_reset_17 rfl (lv_at hl 0 rfl) ?_
          refine va_lald (D := kD k) hx hb hGx.1 hP 1 0 rfl rfl (show ¬ ((4 : Int32) < 0 ∨ 6 ≤ ((4 : Int32)).toNatClampNeg) by decide) dX0_reset_18 ?_
          refine lv_ldc2 hx hb hown (htg _ w_56) dX0_reset_19 ?_
          refine W.lcmp hx hb dX0_reset_22 ?_
          refine lv_if_eq (tgt := 38) hx hb dX0_reset_23 (by decide) (fun h_134 => ?_) (fun h_134 => ?_)
          · have hm := hm.trans (if_pos h_134)
            refine lv_iinc (v := (5 : Int32)) (lv' := [(2, .int (5 : Int32)), (1, .int (3 : Int32)), (0, .ref a.1)]) hx hb dX0_reset_38 hl (k := 0) rfl (by decide) (by decide) rfl (fun ls hl => ?_)
            refine lv_goto (tgt := 4) hx hb dX0_reset_41 (by decide) ?_
            refine lv_iload_n hx hb dX0_reset_4 rfl (lv_at hl 0 rfl) ?_
            refine lv_aload_n hx hb dX0_reset_5 rfl (lv_at hl 2 rfl) ?_
            refine va_get (D := kD k) (ci := 2) (v := .ref a.2.1) (C := RX0) (T := TX0) (N := 6) hx hb htg inG_X0 hown hGx.1 hP 0 rfl rfl 0 (by decide) (htg _ w_57) (fun _ h9 => h9) rfl dX0_reset_6 ?_
            refine va_alen (D := kD k) (v := 6) hx hb hGx.1 hP 1 0 rfl rfl (show Int32.ofNat 6 = 6 by decide) dX0_reset_9 ?_
            refine lv_icmp_ge (tgt := 44) hx hb dX0_reset_10 (by decide) (fun h => absurd h (by decide)) (fun _ => ?_)
            refine lv_aload_n hx hb dX0_reset_13 rfl (lv_at hl 2 rfl) ?_
            refine va_get (D := kD k) (ci := 2) (v := .ref a.2.1) (C := RX0) (T := TX0) (N := 6) hx hb htg inG_X0 hown hGx.1 hP 0 rfl rfl 0 (by decide) (htg _ w_57) (fun _ h9 => h9) rfl dX0_reset_14 ?_
            refine lv_iload_n hx hb dX0_reset_17 rfl (lv_at hl 0 rfl) ?_
            refine va_lald (D := kD k) hx hb hGx.1 hP 1 0 rfl rfl (show ¬ ((5 : Int32) < 0 ∨ 6 ≤ ((5 : Int32)).toNatClampNeg) by decide) dX0_reset_18 ?_
            refine lv_ldc2 hx hb hown (htg _ w_56) dX0_reset_19 ?_
            refine W.lcmp hx hb dX0_reset_22 ?_
            refine lv_if_eq (tgt := 38) hx hb dX0_reset_23 (by decide) (fun h_135 => ?_) (fun h_135 => ?_)
            · have hm := hm.trans (if_pos h_135)
              refine lv_iinc (v := (6 : Int32)) (lv' := [(2, .int (6 : Int32)), (1, .int (3 : Int32)), (0, .ref a.1)]) hx hb dX0_reset_38 hl (k := 0) rfl (by decide) (by decide) rfl (fun ls hl => ?_)
              refine lv_goto (tgt := 4) hx hb dX0_reset_41 (by decide) ?_
              refine lv_iload_n hx hb dX0_reset_4 rfl (lv_at hl 0 rfl) ?_
              refine lv_aload_n hx hb dX0_reset_5 rfl (lv_at hl 2 rfl) ?_
              refine va_get (D := kD k) (ci := 2) (v := .ref a.2.1) (C := RX0) (T := TX0) (N := 6) hx hb htg inG_X0 hown hGx.1 hP 0 rfl rfl 0 (by decide) (htg _ w_57) (fun _ h9 => h9) rfl dX0_reset_6 ?_
              refine va_alen (D := kD k) (v := 6) hx hb hGx.1 hP 1 0 rfl rfl (show Int32.ofNat 6 = 6 by decide) dX0_reset_9 ?_
              refine lv_icmp_ge (tgt := 44) hx hb dX0_reset_10 (by decide) (fun _ => ?_) (fun h => absurd h (by decide))
              refine lv_iconst (v := 0) hx hb dX0_reset_44 (by decide) ?_
              refine lv_istore_n (lv' := [(2, .int (0 : Int32)), (1, .int (3 : Int32)), (0, .ref a.1)]) hx hb dX0_reset_45 rfl hl (by decide) rfl (fun ls hl => ?_)
              refine lv_iload_n hx hb dX0_reset_46 rfl (lv_at hl 0 rfl) ?_
              refine lv_iconst (v := 2) hx hb dX0_reset_47 (by decide) ?_
              refine lv_icmp_ge (tgt := 65) hx hb dX0_reset_48 (by decide) (fun h => absurd h (by decide)) (fun _ => ?_)
              refine lv_aload_n hx hb dX0_reset_51 rfl (lv_at hl 2 rfl) ?_
              refine lv_iload_n hx hb dX0_reset_52 rfl (lv_at hl 0 rfl) ?_
              refine lv_iconst (v := 0) hx hb dX0_reset_53 (by decide) ?_
              refine lv_iconst (v := 0) hx hb dX0_reset_54 (by decide) ?_
              refine lv_iconst (v := 0) hx hb dX0_reset_55 (by decide) ?_
              refine cc_V hC hGx hD hEx hlocks (c_X0_putSpan l hl9 k a hD (0 : Int32) (0 : Int32) (0 : Int32) (0 : Int32) (vp_updL (vp_updL (vp_updL z.1 (0 : Int32).toNatClampNeg (1008673 : Int64)) (2 : Int32).toNatClampNeg (1008673 : Int64)) (3 : Int32).toNatClampNeg (1008673 : Int64), z.2.1, z.2.2.1, z.2.2.2.1, z.2.2.2.2.1, z.2.2.2.2.2)) (gV w_82 w_83 w_6 w_26 w_84) kk_X0_putSpan rfl ⟨Nat.le_of_ble_eq_true rfl, Nat.le_of_ble_eq_true rfl⟩ ⟨Nat.le_of_ble_eq_true rfl, Nat.le_of_ble_eq_true rfl⟩ ⟨Nat.le_of_ble_eq_true rfl, Nat.le_of_ble_eq_true rfl⟩ hP hS hl.1 rfl rfl (Nat.le_of_ble_eq_true rfl) dX0_reset_56 (fun h_136 => ?_) (fun h_136 H locs hP hS => ?_)
              · have hm : m_X0_reset z = ((m_X0_putSpan (0 : Int32) (0 : Int32) (0 : Int32) (0 : Int32) (vp_updL (vp_updL (vp_updL z.1 (0 : Int32).toNatClampNeg (1008673 : Int64)) (2 : Int32).toNatClampNeg (1008673 : Int64)) (3 : Int32).toNatClampNeg (1008673 : Int64), z.2.1, z.2.2.1, z.2.2.2.1, z.2.2.2.2.1, z.2.2.2.2.2)).1, 0, (m_X0_putSpan (0 : Int32) (0 : Int32) (0 : Int32) (0 : Int32) (vp_updL (vp_updL (vp_updL z.1 (0 : Int32).toNatClampNeg (1008673 : Int64)) (2 : Int32).toNatClampNeg (1008673 : Int64)) (3 : Int32).toNatClampNeg (1008673 : Int64), z.2.1, z.2.2.1, z.2.2.2.1, z.2.2.2.2.1, z.2.2.2.2.2)).2) := hm.trans (if_neg h_136)
                exact ⟨by rw [hm], by rw [hm]⟩
              · have hm := hm.trans (if_pos h_136)
                refine lv_iinc (v := (1 : Int32)) (lv' := [(2, .int (1 : Int32)), (1, .int (3 : Int32)), (0, .ref a.1)]) hx hb dX0_reset_59 hl (k := 0) rfl (by decide) (by decide) rfl (fun ls hl => ?_)
                refine lv_goto (tgt := 46) hx hb dX0_reset_62 (by decide) ?_
                refine lv_iload_n hx hb dX0_reset_46 rfl (lv_at hl 0 rfl) ?_
                refine lv_iconst (v := 2) hx hb dX0_reset_47 (by decide) ?_
                refine lv_icmp_ge (tgt := 65) hx hb dX0_reset_48 (by decide) (fun h => absurd h (by decide)) (fun _ => ?_)
                refine lv_aload_n hx hb dX0_reset_51 rfl (lv_at hl 2 rfl) ?_
                refine lv_iload_n hx hb dX0_reset_52 rfl (lv_at hl 0 rfl) ?_
                refine lv_iconst (v := 0) hx hb dX0_reset_53 (by decide) ?_
                refine lv_iconst (v := 0) hx hb dX0_reset_54 (by decide) ?_
                refine lv_iconst (v := 0) hx hb dX0_reset_55 (by decide) ?_
                refine cc_V hC hGx hD hEx hlocks (c_X0_putSpan l hl9 k a hD (1 : Int32) (0 : Int32) (0 : Int32) (0 : Int32) ((m_X0_putSpan (0 : Int32) (0 : Int32) (0 : Int32) (0 : Int32) (vp_updL (vp_updL (vp_updL z.1 (0 : Int32).toNatClampNeg (1008673 : Int64)) (2 : Int32).toNatClampNeg (1008673 : Int64)) (3 : Int32).toNatClampNeg (1008673 : Int64), z.2.1, z.2.2.1, z.2.2.2.1, z.2.2.2.2.1, z.2.2.2.2.2)).2)) (gV w_82 w_83 w_6 w_26 w_84) kk_X0_putSpan rfl ⟨Nat.le_of_ble_eq_true rfl, Nat.le_of_ble_eq_true rfl⟩ ⟨Nat.le_of_ble_eq_true rfl, Nat.le_of_ble_eq_true rfl⟩ ⟨Nat.le_of_ble_eq_true rfl, Nat.le_of_ble_eq_true rfl⟩ hP hS hl.1 rfl rfl (Nat.le_of_ble_eq_true rfl) dX0_reset_56 (fun h_137 => ?_) (fun h_137 H locs hP hS => ?_)
                · have hm : m_X0_reset z = ((m_X0_putSpan (1 : Int32) (0 : Int32) (0 : Int32) (0 : Int32) ((m_X0_putSpan (0 : Int32) (0 : Int32) (0 : Int32) (0 : Int32) (vp_updL (vp_updL (vp_updL z.1 (0 : Int32).toNatClampNeg (1008673 : Int64)) (2 : Int32).toNatClampNeg (1008673 : Int64)) (3 : Int32).toNatClampNeg (1008673 : Int64), z.2.1, z.2.2.1, z.2.2.2.1, z.2.2.2.2.1, z.2.2.2.2.2)).2)).1, 0, (m_X0_putSpan (1 : Int32) (0 : Int32) (0 : Int32) (0 : Int32) ((m_X0_putSpan (0 : Int32) (0 : Int32) (0 : Int32) (0 : Int32) (vp_updL (vp_updL (vp_updL z.1 (0 : Int32).toNatClampNeg (1008673 : Int64)) (2 : Int32).toNatClampNeg (1008673 : Int64)) (3 : Int32).toNatClampNeg (1008673 : Int64), z.2.1, z.2.2.1, z.2.2.2.1, z.2.2.2.2.1, z.2.2.2.2.2)).2)).2) := hm.trans (if_neg h_137)
                  exact ⟨by rw [hm], by rw [hm]⟩
                · have hm := hm.trans (if_pos h_137)
                  refine lv_iinc (v := (2 : Int32)) (lv' := [(2, .int (2 : Int32)), (1, .int (3 : Int32)), (0, .ref a.1)]) hx hb dX0_reset_59 hl (k := 0) rfl (by decide) (by decide) rfl (fun ls hl => ?_)
                  refine lv_goto (tgt := 46) hx hb dX0_reset_62 (by decide) ?_
                  refine lv_iload_n hx hb dX0_reset_46 rfl (lv_at hl 0 rfl) ?_
                  refine lv_iconst (v := 2) hx hb dX0_reset_47 (by decide) ?_
                  refine lv_icmp_ge (tgt := 65) hx hb dX0_reset_48 (by decide) (fun _ => ?_) (fun h => absurd h (by decide))
                  refine lv_iload_n hx hb dX0_reset_65 rfl (lv_at hl 1 rfl) ?_
                  have hm : m_X0_reset z = (0, (3 : Int32), (m_X0_putSpan (1 : Int32) (0 : Int32) (0 : Int32) (0 : Int32) ((m_X0_putSpan (0 : Int32) (0 : Int32) (0 : Int32) (0 : Int32) (vp_updL (vp_updL (vp_updL z.1 (0 : Int32).toNatClampNeg (1008673 : Int64)) (2 : Int32).toNatClampNeg (1008673 : Int64)) (3 : Int32).toNatClampNeg (1008673 : Int64), z.2.1, z.2.2.1, z.2.2.2.1, z.2.2.2.2.1, z.2.2.2.2.2)).2)).2) := hm
                  exact c_iret (E := (3 : Int32)) hx hb hr hlocks (by rw [hm]) (by rw [hm]) (by rw [hm]) hP hS ⟨Nat.le_of_ble_eq_true rfl, Nat.le_of_ble_eq_true rfl⟩ dX0_reset_66
            · have hm := hm.trans (if_neg h_135)
              refine lv_iinc (v := (4 : Int32)) (lv' := [(1, .int (4 : Int32)), (2, .int (5 : Int32)), (0, .ref a.1)]) hx hb dX0_reset_26 hl (k := 1) rfl (by decide) (by decide) rfl (fun ls hl => ?_)
              refine lv_aload_n hx hb dX0_reset_29 rfl (lv_at hl 2 rfl) ?_
              refine va_get (D := kD k) (ci := 2) (v := .ref a.2.1) (C := RX0) (T := TX0) (N := 6) hx hb htg inG_X0 hown hGx.1 hP 0 rfl rfl 0 (by decide) (htg _ w_57) (fun _ h9 => h9) rfl dX0_reset_30 ?_
              refine lv_iload_n hx hb dX0_reset_33 rfl (lv_at hl 1 rfl) ?_
              refine lv_ldc2 hx hb hown (htg _ w_56) dX0_reset_34 ?_
              refine va_last (D := kD k) hx hb hGx.1 hP (hD.own _ _) hS 1 0 rfl rfl (show ¬ ((5 : Int32) < 0 ∨ 6 ≤ ((5 : Int32)).toNatClampNeg) by decide) dX0_reset_37 (fun H locs hP1 _ hS => ?_)
              have hP : va_P (kD k) vwCl (cW k a (vp_updL (vp_updL (vp_updL (vp_updL z.1 (0 : Int32).toNatClampNeg (1008673 : Int64)) (2 : Int32).toNatClampNeg (1008673 : Int64)) (3 : Int32).toNatClampNeg (1008673 : Int64)) (5 : Int32).toNatClampNeg (1008673 : Int64), z.2.1, z.2.2.1, z.2.2.2.1, z.2.2.2.2.1, z.2.2.2.2.2)) H := hP1
              refine lv_iinc (v := (6 : Int32)) (lv' := [(2, .int (6 : Int32)), (1, .int (4 : Int32)), (0, .ref a.1)]) hx hb dX0_reset_38 hl (k := 1) rfl (by decide) (by decide) rfl (fun ls hl => ?_)
              refine lv_goto (tgt := 4) hx hb dX0_reset_41 (by decide) ?_
              refine lv_iload_n hx hb dX0_reset_4 rfl (lv_at hl 0 rfl) ?_
              refine lv_aload_n hx hb dX0_reset_5 rfl (lv_at hl 2 rfl) ?_
              refine va_get (D := kD k) (ci := 2) (v := .ref a.2.1) (C := RX0) (T := TX0) (N := 6) hx hb htg inG_X0 hown hGx.1 hP 0 rfl rfl 0 (by decide) (htg _ w_57) (fun _ h9 => h9) rfl dX0_reset_6 ?_
              refine va_alen (D := kD k) (v := 6) hx hb hGx.1 hP 1 0 rfl rfl (show Int32.ofNat 6 = 6 by decide) dX0_reset_9 ?_
              refine lv_icmp_ge (tgt := 44) hx hb dX0_reset_10 (by decide) (fun _ => ?_) (fun h => absurd h (by decide))
              refine lv_iconst (v := 0) hx hb dX0_reset_44 (by decide) ?_
              refine lv_istore_n (lv' := [(2, .int (0 : Int32)), (1, .int (4 : Int32)), (0, .ref a.1)]) hx hb dX0_reset_45 rfl hl (by decide) rfl (fun ls hl => ?_)
              refine lv_iload_n hx hb dX0_reset_46 rfl (lv_at hl 0 rfl) ?_
              refine lv_iconst (v := 2) hx hb dX0_reset_47 (by decide) ?_
              refine lv_icmp_ge (tgt := 65) hx hb dX0_reset_48 (by decide) (fun h => absurd h (by decide)) (fun _ => ?_)
              refine lv_aload_n hx hb dX0_reset_51 rfl (lv_at hl 2 rfl) ?_
              refine lv_iload_n hx hb dX0_reset_52 rfl (lv_at hl 0 rfl) ?_
              refine lv_iconst (v := 0) hx hb dX0_reset_53 (by decide) ?_
              refine lv_iconst (v := 0) hx hb dX0_reset_54 (by decide) ?_
              refine lv_iconst (v := 0) hx hb dX0_reset_55 (by decide) ?_
              refine cc_V hC hGx hD hEx hlocks (c_X0_putSpan l hl9 k a hD (0 : Int32) (0 : Int32) (0 : Int32) (0 : Int32) (vp_updL (vp_updL (vp_updL (vp_updL z.1 (0 : Int32).toNatClampNeg (1008673 : Int64)) (2 : Int32).toNatClampNeg (1008673 : Int64)) (3 : Int32).toNatClampNeg (1008673 : Int64)) (5 : Int32).toNatClampNeg (1008673 : Int64), z.2.1, z.2.2.1, z.2.2.2.1, z.2.2.2.2.1, z.2.2.2.2.2)) (gV w_82 w_83 w_6 w_26 w_84) kk_X0_putSpan rfl ⟨Nat.le_of_ble_eq_true rfl, Nat.le_of_ble_eq_true rfl⟩ ⟨Nat.le_of_ble_eq_true rfl, Nat.le_of_ble_eq_true rfl⟩ ⟨Nat.le_of_ble_eq_true rfl, Nat.le_of_ble_eq_true rfl⟩ hP hS hl.1 rfl rfl (Nat.le_of_ble_eq_true rfl) dX0_reset_56 (fun h_138 => ?_) (fun h_138 H locs hP hS => ?_)
              · have hm : m_X0_reset z = ((m_X0_putSpan (0 : Int32) (0 : Int32) (0 : Int32) (0 : Int32) (vp_updL (vp_updL (vp_updL (vp_updL z.1 (0 : Int32).toNatClampNeg (1008673 : Int64)) (2 : Int32).toNatClampNeg (1008673 : Int64)) (3 : Int32).toNatClampNeg (1008673 : Int64)) (5 : Int32).toNatClampNeg (1008673 : Int64), z.2.1, z.2.2.1, z.2.2.2.1, z.2.2.2.2.1, z.2.2.2.2.2)).1, 0, (m_X0_putSpan (0 : Int32) (0 : Int32) (0 : Int32) (0 : Int32) (vp_updL (vp_updL (vp_updL (vp_updL z.1 (0 : Int32).toNatClampNeg (1008673 : Int64)) (2 : Int32).toNatClampNeg (1008673 : Int64)) (3 : Int32).toNatClampNeg (1008673 : Int64)) (5 : Int32).toNatClampNeg (1008673 : Int64), z.2.1, z.2.2.1, z.2.2.2.1, z.2.2.2.2.1, z.2.2.2.2.2)).2) := hm.trans (if_neg h_138)
                exact ⟨by rw [hm], by rw [hm]⟩
              · have hm := hm.trans (if_pos h_138)
                refine lv_iinc (v := (1 : Int32)) (lv' := [(2, .int (1 : Int32)), (1, .int (4 : Int32)), (0, .ref a.1)]) hx hb dX0_reset_59 hl (k := 0) rfl (by decide) (by decide) rfl (fun ls hl => ?_)
                refine lv_goto (tgt := 46) hx hb dX0_reset_62 (by decide) ?_
                refine lv_iload_n hx hb dX0_reset_46 rfl (lv_at hl 0 rfl) ?_
                refine lv_iconst (v := 2) hx hb dX0_reset_47 (by decide) ?_
                refine lv_icmp_ge (tgt := 65) hx hb dX0_reset_48 (by decide) (fun h => absurd h (by decide)) (fun _ => ?_)
                refine lv_aload_n hx hb dX0_reset_51 rfl (lv_at hl 2 rfl) ?_
                refine lv_iload_n hx hb dX0_reset_52 rfl (lv_at hl 0 rfl) ?_
                refine lv_iconst (v := 0) hx hb dX0_reset_53 (by decide) ?_
                refine lv_iconst (v := 0) hx hb dX0_reset_54 (by decide) ?_
                refine lv_iconst (v := 0) hx hb dX0_reset_55 (by decide) ?_
                refine cc_V hC hGx hD hEx hlocks (c_X0_putSpan l hl9 k a hD (1 : Int32) (0 : Int32) (0 : Int32) (0 : Int32) ((m_X0_putSpan (0 : Int32) (0 : Int32) (0 : Int32) (0 : Int32) (vp_updL (vp_updL (vp_updL (vp_updL z.1 (0 : Int32).toNatClampNeg (1008673 : Int64)) (2 : Int32).toNatClampNeg (1008673 : Int64)) (3 : Int32).toNatClampNeg (1008673 : Int64)) (5 : Int32).toNatClampNeg (1008673 : Int64), z.2.1, z.2.2.1, z.2.2.2.1, z.2.2.2.2.1, z.2.2.2.2.2)).2)) (gV w_82 w_83 w_6 w_26 w_84) kk_X0_putSpan rfl ⟨Nat.le_of_ble_eq_true rfl, Nat.le_of_ble_eq_true rfl⟩ ⟨Nat.le_of_ble_eq_true rfl, Nat.le_of_ble_eq_true rfl⟩ ⟨Nat.le_of_ble_eq_true rfl, Nat.le_of_ble_eq_true rfl⟩ hP hS hl.1 rfl rfl (Nat.le_of_ble_eq_true rfl) dX0_reset_56 (fun h_139 => ?_) (fun h_139 H locs hP hS => ?_)
                · have hm : m_X0_reset z = ((m_X0_putSpan (1 : Int32) (0 : Int32) (0 : Int32) (0 : Int32) ((m_X0_putSpan (0 : Int32) (0 : Int32) (0 : Int32) (0 : Int32) (vp_updL (vp_updL (vp_updL (vp_updL z.1 (0 : Int32).toNatClampNeg (1008673 : Int64)) (2 : Int32).toNatClampNeg (1008673 : Int64)) (3 : Int32).toNatClampNeg (1008673 : Int64)) (5 : Int32).toNatClampNeg (1008673 : Int64), z.2.1, z.2.2.1, z.2.2.2.1, z.2.2.2.2.1, z.2.2.2.2.2)).2)).1, 0, (m_X0_putSpan (1 : Int32) (0 : Int32) (0 : Int32) (0 : Int32) ((m_X0_putSpan (0 : Int32) (0 : Int32) (0 : Int32) (0 : Int32) (vp_updL (vp_updL (vp_updL (vp_updL z.1 (0 : Int32).toNatClampNeg (1008673 : Int64)) (2 : Int32).toNatClampNeg (1008673 : Int64)) (3 : Int32).toNatClampNeg (1008673 : Int64)) (5 : Int32).toNatClampNeg (1008673 : Int64), z.2.1, z.2.2.1, z.2.2.2.1, z.2.2.2.2.1, z.2.2.2.2.2)).2)).2) := hm.trans (if_neg h_139)
                  exact ⟨by rw [hm], by rw [hm]⟩
                · have hm := hm.trans (if_pos h_139)
                  refine lv_iinc (v := (2 : Int32)) (lv' := [(2, .int (2 : Int32)), (1, .int (4 : Int32)), (0, .ref a.1)]) hx hb dX0_reset_59 hl (k := 0) rfl (by decide) (by decide) rfl (fun ls hl => ?_)
                  refine lv_goto (tgt := 46) hx hb dX0_reset_62 (by decide) ?_
                  refine lv_iload_n hx hb dX0_reset_46 rfl (lv_at hl 0 rfl) ?_
                  refine lv_iconst (v := 2) hx hb dX0_reset_47 (by decide) ?_
                  refine lv_icmp_ge (tgt := 65) hx hb dX0_reset_48 (by decide) (fun _ => ?_) (fun h => absurd h (by decide))
                  refine lv_iload_n hx hb dX0_reset_65 rfl (lv_at hl 1 rfl) ?_
                  have hm : m_X0_reset z = (0, (4 : Int32), (m_X0_putSpan (1 : Int32) (0 : Int32) (0 : Int32) (0 : Int32) ((m_X0_putSpan (0 : Int32) (0 : Int32) (0 : Int32) (0 : Int32) (vp_updL (vp_updL (vp_updL (vp_updL z.1 (0 : Int32).toNatClampNeg (1008673 : Int64)) (2 : Int32).toNatClampNeg (1008673 : Int64)) (3 : Int32).toNatClampNeg (1008673 : Int64)) (5 : Int32).toNatClampNeg (1008673 : Int64), z.2.1, z.2.2.1, z.2.2.2.1, z.2.2.2.2.1, z.2.2.2.2.2)).2)).2) := hm
                  exact c_iret (E := (4 : Int32)) hx hb hr hlocks (by rw [hm]) (by rw [hm]) (by rw [hm]) hP hS ⟨Nat.le_of_ble_eq_true rfl, Nat.le_of_ble_eq_true rfl⟩ dX0_reset_66
          · have hm := hm.trans (if_neg h_134)
            refine lv_iinc (v := (4 : Int32)) (lv' := [(1, .int (4 : Int32)), (2, .int (4 : Int32)), (0, .ref a.1)]) hx hb dX0_reset_26 hl (k := 1) rfl (by decide) (by decide) rfl (fun ls hl => ?_)
            refine lv_aload_n hx hb dX0_reset_29 rfl (lv_at hl 2 rfl) ?_
            refine va_get (D := kD k) (ci := 2) (v := .ref a.2.1) (C := RX0) (T := TX0) (N := 6) hx hb htg inG_X0 hown hGx.1 hP 0 rfl rfl 0 (by decide) (htg _ w_57) (fun _ h9 => h9) rfl dX0_reset_30 ?_
            refine lv_iload_n hx hb dX0_reset_33 rfl (lv_at hl 1 rfl) ?_
            refine lv_ldc2 hx hb hown (htg _ w_56) dX0_reset_34 ?_
            refine va_last (D := kD k) hx hb hGx.1 hP (hD.own _ _) hS 1 0 rfl rfl (show ¬ ((4 : Int32) < 0 ∨ 6 ≤ ((4 : Int32)).toNatClampNeg) by decide) dX0_reset_37 (fun H locs hP1 _ hS => ?_)
            have hP : va_P (kD k) vwCl (cW k a (vp_updL (vp_updL (vp_updL (vp_updL z.1 (0 : Int32).toNatClampNeg (1008673 : Int64)) (2 : Int32).toNatClampNeg (1008673 : Int64)) (3 : Int32).toNatClampNeg (1008673 : Int64)) (4 : Int32).toNatClampNeg (1008673 : Int64), z.2.1, z.2.2.1, z.2.2.2.1, z.2.2.2.2.1, z.2.2.2.2.2)) H := hP1
            refine lv_iinc (v := (5 : Int32)) (lv' := [(2, .int (5 : Int32)), (1, .int (4 : Int32)), (0, .ref a.1)]) hx hb dX0_reset_38 hl (k := 1) rfl (by decide) (by decide) rfl (fun ls hl => ?_)
            refine lv_goto (tgt := 4) hx hb dX0_reset_41 (by decide) ?_
            refine lv_iload_n hx hb dX0_reset_4 rfl (lv_at hl 0 rfl) ?_
            refine lv_aload_n hx hb dX0_reset_5 rfl (lv_at hl 2 rfl) ?_
            refine va_get (D := kD k) (ci := 2) (v := .ref a.2.1) (C := RX0) (T := TX0) (N := 6) hx hb htg inG_X0 hown hGx.1 hP 0 rfl rfl 0 (by decide) (htg _ w_57) (fun _ h9 => h9) rfl dX0_reset_6 ?_
            refine va_alen (D := kD k) (v := 6) hx hb hGx.1 hP 1 0 rfl rfl (show Int32.ofNat 6 = 6 by decide) dX0_reset_9 ?_
            refine lv_icmp_ge (tgt := 44) hx hb dX0_reset_10 (by decide) (fun h => absurd h (by decide)) (fun _ => ?_)
            refine lv_aload_n hx hb dX0_reset_13 rfl (lv_at hl 2 rfl) ?_
            refine va_get (D := kD k) (ci := 2) (v := .ref a.2.1) (C := RX0) (T := TX0) (N := 6) hx hb htg inG_X0 hown hGx.1 hP 0 rfl rfl 0 (by decide) (htg _ w_57) (fun _ h9 => h9) rfl dX0_reset_14 ?_
            refine lv_iload_n hx hb dX0_reset_17 rfl (lv_at hl 0 rfl) ?_
            refine va_lald (D := kD k) hx hb hGx.1 hP 1 0 rfl rfl (show ¬ ((5 : Int32) < 0 ∨ 6 ≤ ((5 : Int32)).toNatClampNeg) by decide) dX0_reset_18 ?_
            refine lv_ldc2 hx hb hown (htg _ w_56) dX0_reset_19 ?_
            refine W.lcmp hx hb dX0_reset_22 ?_
            refine lv_if_eq (tgt := 38) hx hb dX0_reset_23 (by decide) (fun h_140 => ?_) (fun h_140 => ?_)
            · have hm := hm.trans (if_pos h_140)
              refine lv_iinc (v := (6 : Int32)) (lv' := [(2, .int (6 : Int32)), (1, .int (4 : Int32)), (0, .ref a.1)]) hx hb dX0_reset_38 hl (k := 0) rfl (by decide) (by decide) rfl (fun ls hl => ?_)
              refine lv_goto (tgt := 4) hx hb dX0_reset_41 (by decide) ?_
              refine lv_iload_n hx hb dX0_reset_4 rfl (lv_at hl 0 rfl) ?_
              refine lv_aload_n hx hb dX0_reset_5 rfl (lv_at hl 2 rfl) ?_
              refine va_get (D := kD k) (ci := 2) (v := .ref a.2.1) (C := RX0) (T := TX0) (N := 6) hx hb htg inG_X0 hown hGx.1 hP 0 rfl rfl 0 (by decide) (htg _ w_57) (fun _ h9 => h9) rfl dX0_reset_6 ?_
              refine va_alen (D := kD k) (v := 6) hx hb hGx.1 hP 1 0 rfl rfl (show Int32.ofNat 6 = 6 by decide) dX0_reset_9 ?_
              refine lv_icmp_ge (tgt := 44) hx hb dX0_reset_10 (by decide) (fun _ => ?_) (fun h => absurd h (by decide))
              refine lv_iconst (v := 0) hx hb dX0_reset_44 (by decide) ?_
              refine lv_istore_n (lv' := [(2, .int (0 : Int32)), (1, .int (4 : Int32)), (0, .ref a.1)]) hx hb dX0_reset_45 rfl hl (by decide) rfl (fun ls hl => ?_)
              refine lv_iload_n hx hb dX0_reset_46 rfl (lv_at hl 0 rfl) ?_
              refine lv_iconst (v := 2) hx hb dX0_reset_47 (by decide) ?_
              refine lv_icmp_ge (tgt := 65) hx hb dX0_reset_48 (by decide) (fun h => absurd h (by decide)) (fun _ => ?_)
              refine lv_aload_n hx hb dX0_reset_51 rfl (lv_at hl 2 rfl) ?_
              refine lv_iload_n hx hb dX0_reset_52 rfl (lv_at hl 0 rfl) ?_
              refine lv_iconst (v := 0) hx hb dX0_reset_53 (by decide) ?_
              refine lv_iconst (v := 0) hx hb dX0_reset_54 (by decide) ?_
              refine lv_iconst (v := 0) hx hb dX0_reset_55 (by decide) ?_
              refine cc_V hC hGx hD hEx hlocks (c_X0_putSpan l hl9 k a hD (0 : Int32) (0 : Int32) (0 : Int32) (0 : Int32) (vp_updL (vp_updL (vp_updL (vp_updL z.1 (0 : Int32).toNatClampNeg (1008673 : Int64)) (2 : Int32).toNatClampNeg (1008673 : Int64)) (3 : Int32).toNatClampNeg (1008673 : Int64)) (4 : Int32).toNatClampNeg (1008673 : Int64), z.2.1, z.2.2.1, z.2.2.2.1, z.2.2.2.2.1, z.2.2.2.2.2)) (gV w_82 w_83 w_6 w_26 w_84) kk_X0_putSpan rfl ⟨Nat.le_of_ble_eq_true rfl, Nat.le_of_ble_eq_true rfl⟩ ⟨Nat.le_of_ble_eq_true rfl, Nat.le_of_ble_eq_true rfl⟩ ⟨Nat.le_of_ble_eq_true rfl, Nat.le_of_ble_eq_true rfl⟩ hP hS hl.1 rfl rfl (Nat.le_of_ble_eq_true rfl) dX0_reset_56 (fun h_141 => ?_) (fun h_141 H locs hP hS => ?_)
              · have hm : m_X0_reset z = ((m_X0_putSpan (0 : Int32) (0 : Int32) (0 : Int32) (0 : Int32) (vp_updL (vp_updL (vp_updL (vp_updL z.1 (0 : Int32).toNatClampNeg (1008673 : Int64)) (2 : Int32).toNatClampNeg (1008673 : Int64)) (3 : Int32).toNatClampNeg (1008673 : Int64)) (4 : Int32).toNatClampNeg (1008673 : Int64), z.2.1, z.2.2.1, z.2.2.2.1, z.2.2.2.2.1, z.2.2.2.2.2)).1, 0, (m_X0_putSpan (0 : Int32) (0 : Int32) (0 : Int32) (0 : Int32) (vp_updL (vp_updL (vp_updL (vp_updL z.1 (0 : Int32).toNatClampNeg (1008673 : Int64)) (2 : Int32).toNatClampNeg (1008673 : Int64)) (3 : Int32).toNatClampNeg (1008673 : Int64)) (4 : Int32).toNatClampNeg (1008673 : Int64), z.2.1, z.2.2.1, z.2.2.2.1, z.2.2.2.2.1, z.2.2.2.2.2)).2) := hm.trans (if_neg h_141)
                exact ⟨by rw [hm], by rw [hm]⟩
              · have hm := hm.trans (if_pos h_141)
                refine lv_iinc (v := (1 : Int32)) (lv' := [(2, .int (1 : Int32)), (1, .int (4 : Int32)), (0, .ref a.1)]) hx hb dX0_reset_59 hl (k := 0) rfl (by decide) (by decide) rfl (fun ls hl => ?_)
                refine lv_goto (tgt := 46) hx hb dX0_reset_62 (by decide) ?_
                refine lv_iload_n hx hb dX0_reset_46 rfl (lv_at hl 0 rfl) ?_
                refine lv_iconst (v := 2) hx hb dX0_reset_47 (by decide) ?_
                refine lv_icmp_ge (tgt := 65) hx hb dX0_reset_48 (by decide) (fun h => absurd h (by decide)) (fun _ => ?_)
                refine lv_aload_n hx hb dX0_reset_51 rfl (lv_at hl 2 rfl) ?_
                refine lv_iload_n hx hb dX0_reset_52 rfl (lv_at hl 0 rfl) ?_
                refine lv_iconst (v := 0) hx hb dX0_reset_53 (by decide) ?_
                refine lv_iconst (v := 0) hx hb dX0_reset_54 (by decide) ?_
                refine lv_iconst (v := 0) hx hb dX0_reset_55 (by decide) ?_
                refine cc_V hC hGx hD hEx hlocks (c_X0_putSpan l hl9 k a hD (1 : Int32) (0 : Int32) (0 : Int32) (0 : Int32) ((m_X0_putSpan (0 : Int32) (0 : Int32) (0 : Int32) (0 : Int32) (vp_updL (vp_updL (vp_updL (vp_updL z.1 (0 : Int32).toNatClampNeg (1008673 : Int64)) (2 : Int32).toNatClampNeg (1008673 : Int64)) (3 : Int32).toNatClampNeg (1008673 : Int64)) (4 : Int32).toNatClampNeg (1008673 : Int64), z.2.1, z.2.2.1, z.2.2.2.1, z.2.2.2.2.1, z.2.2.2.2.2)).2)) (gV w_82 w_83 w_6 w_26 w_84) kk_X0_putSpan rfl ⟨Nat.le_of_ble_eq_true rfl, Nat.le_of_ble_eq_true rfl⟩ ⟨Nat.le_of_ble_eq_true rfl, Nat.le_of_ble_eq_true rfl⟩ ⟨Nat.le_of_ble_eq_true rfl, Nat.le_of_ble_eq_true rfl⟩ hP hS hl.1 rfl rfl (Nat.le_of_ble_eq_true rfl) dX0_reset_56 (fun h_142 => ?_) (fun h_142 H locs hP hS => ?_)
                · have hm : m_X0_reset z = ((m_X0_putSpan (1 : Int32) (0 : Int32) (0 : Int32) (0 : Int32) ((m_X0_putSpan (0 : Int32) (0 : Int32) (0 : Int32) (0 : Int32) (vp_updL (vp_updL (vp_updL (vp_updL z.1 (0 : Int32).toNatClampNeg (1008673 : Int64)) (2 : Int32).toNatClampNeg (1008673 : Int64)) (3 : Int32).toNatClampNeg (1008673 : Int64)) (4 : Int32).toNatClampNeg (1008673 : Int64), z.2.1, z.2.2.1, z.2.2.2.1, z.2.2.2.2.1, z.2.2.2.2.2)).2)).1, 0, (m_X0_putSpan (1 : Int32) (0 : Int32) (0 : Int32) (0 : Int32) ((m_X0_putSpan (0 : Int32) (0 : Int32) (0 : Int32) (0 : Int32) (vp_updL (vp_updL (vp_updL (vp_updL z.1 (0 : Int32).toNatClampNeg (1008673 : Int64)) (2 : Int32).toNatClampNeg (1008673 : Int64)) (3 : Int32).toNatClampNeg (1008673 : Int64)) (4 : Int32).toNatClampNeg (1008673 : Int64), z.2.1, z.2.2.1, z.2.2.2.1, z.2.2.2.2.1, z.2.2.2.2.2)).2)).2) := hm.trans (if_neg h_142)
                  exact ⟨by rw [hm], by rw [hm]⟩
                · have hm := hm.trans (if_pos h_142)
                  refine lv_iinc (v := (2 : Int32)) (lv' := [(2, .int (2 : Int32)), (1, .int (4 : Int32)), (0, .ref a.1)]) hx hb dX0_reset_59 hl (k := 0) rfl (by decide) (by decide) rfl (fun ls hl => ?_)
                  refine lv_goto (tgt := 46) hx hb dX0_reset_62 (by decide) ?_
                  refine lv_iload_n hx hb dX0_reset_46 rfl (lv_at hl 0 rfl) ?_
                  refine lv_iconst (v := 2) hx hb dX0_reset_47 (by decide) ?_
                  refine lv_icmp_ge (tgt := 65) hx hb dX0_reset_48 (by decide) (fun _ => ?_) (fun h => absurd h (by decide))
                  refine lv_iload_n hx hb dX0_reset_65 rfl (lv_at hl 1 rfl) ?_
                  have hm : m_X0_reset z = (0, (4 : Int32), (m_X0_putSpan (1 : Int32) (0 : Int32) (0 : Int32) (0 : Int32) ((m_X0_putSpan (0 : Int32) (0 : Int32) (0 : Int32) (0 : Int32) (vp_updL (vp_updL (vp_updL (vp_updL z.1 (0 : Int32).toNatClampNeg (1008673 : Int64)) (2 : Int32).toNatClampNeg (1008673 : Int64)) (3 : Int32).toNatClampNeg (1008673 : Int64)) (4 : Int32).toNatClampNeg (1008673 : Int64), z.2.1, z.2.2.1, z.2.2.2.1, z.2.2.2.2.1, z.2.2.2.2.2)).2)).2) := hm
                  exact c_iret (E := (4 : Int32)) hx hb hr hlocks (by rw [hm]) (by rw [hm]) (by rw [hm]) hP hS ⟨Nat.le_of_ble_eq_true rfl, Nat.le_of_ble_eq_true rfl⟩ dX0_reset_66
            · have hm := hm.trans (if_neg h_140)
              refine lv_iinc (v := (5 : Int32)) (lv' := [(1, .int (5 : Int32)), (2, .int (5 : Int32)), (0, .ref a.1)]) hx hb dX0_reset_26 hl (k := 1) rfl (by decide) (by decide) rfl (fun ls hl => ?_)
              refine lv_aload_n hx hb dX0_reset_29 rfl (lv_at hl 2 rfl) ?_
              refine va_get (D := kD k) (ci := 2) (v := .ref a.2.1) (C := RX0) (T := TX0) (N := 6) hx hb htg inG_X0 hown hGx.1 hP 0 rfl rfl 0 (by decide) (htg _ w_57) (fun _ h9 => h9) rfl dX0_reset_30 ?_
              refine lv_iload_n hx hb dX0_reset_33 rfl (lv_at hl 1 rfl) ?_
              refine lv_ldc2 hx hb hown (htg _ w_56) dX0_reset_34 ?_
              refine va_last (D := kD k) hx hb hGx.1 hP (hD.own _ _) hS 1 0 rfl rfl (show ¬ ((5 : Int32) < 0 ∨ 6 ≤ ((5 : Int32)).toNatClampNeg) by decide) dX0_reset_37 (fun H locs hP1 _ hS => ?_)
              have hP : va_P (kD k) vwCl (cW k a (vp_updL (vp_updL (vp_updL (vp_updL (vp_updL z.1 (0 : Int32).toNatClampNeg (1008673 : Int64)) (2 : Int32).toNatClampNeg (1008673 : Int64)) (3 : Int32).toNatClampNeg (1008673 : Int64)) (4 : Int32).toNatClampNeg (1008673 : Int64)) (5 : Int32).toNatClampNeg (1008673 : Int64), z.2.1, z.2.2.1, z.2.2.2.1, z.2.2.2.2.1, z.2.2.2.2.2)) H := hP1
              refine lv_iinc (v := (6 : Int32)) (lv' := [(2, .int (6 : Int32)), (1, .int (5 : Int32)), (0, .ref a.1)]) hx hb dX0_reset_38 hl (k := 1) rfl (by decide) (by decide) rfl (fun ls hl => ?_)
              refine lv_goto (tgt := 4) hx hb dX0_reset_41 (by decide) ?_
              refine lv_iload_n hx hb dX0_reset_4 rfl (lv_at hl 0 rfl) ?_
              refine lv_aload_n hx hb dX0_reset_5 rfl (lv_at hl 2 rfl) ?_
              refine va_get (D := kD k) (ci := 2) (v := .ref a.2.1) (C := RX0) (T := TX0) (N := 6) hx hb htg inG_X0 hown hGx.1 hP 0 rfl rfl 0 (by decide) (htg _ w_57) (fun _ h9 => h9) rfl dX0_reset_6 ?_
              refine va_alen (D := kD k) (v := 6) hx hb hGx.1 hP 1 0 rfl rfl (show Int32.ofNat 6 = 6 by decide) dX0_reset_9 ?_
              refine lv_icmp_ge (tgt := 44) hx hb dX0_reset_10 (by decide) (fun _ => ?_) (fun h => absurd h (by decide))
              refine lv_iconst (v := 0) hx hb dX0_reset_44 (by decide) ?_
              refine lv_istore_n (lv' := [(2, .int (0 : Int32)), (1, .int (5 : Int32)), (0, .ref a.1)]) hx hb dX0_reset_45 rfl hl (by decide) rfl (fun ls hl => ?_)
              refine lv_iload_n hx hb dX0_reset_46 rfl (lv_at hl 0 rfl) ?_
              refine lv_iconst (v := 2) hx hb dX0_reset_47 (by decide) ?_
              refine lv_icmp_ge (tgt := 65) hx hb dX0_reset_48 (by decide) (fun h => absurd h (by decide)) (fun _ => ?_)
              refine lv_aload_n hx hb dX0_reset_51 rfl (lv_at hl 2 rfl) ?_
              refine lv_iload_n hx hb dX0_reset_52 rfl (lv_at hl 0 rfl) ?_
              refine lv_iconst (v := 0) hx hb dX0_reset_53 (by decide) ?_
              refine lv_iconst (v := 0) hx hb dX0_reset_54 (by decide) ?_
              refine lv_iconst (v := 0) hx hb dX0_reset_55 (by decide) ?_
              refine cc_V hC hGx hD hEx hlocks (c_X0_putSpan l hl9 k a hD (0 : Int32) (0 : Int32) (0 : Int32) (0 : Int32) (vp_updL (vp_updL (vp_updL (vp_updL (vp_updL z.1 (0 : Int32).toNatClampNeg (1008673 : Int64)) (2 : Int32).toNatClampNeg (1008673 : Int64)) (3 : Int32).toNatClampNeg (1008673 : Int64)) (4 : Int32).toNatClampNeg (1008673 : Int64)) (5 : Int32).toNatClampNeg (1008673 : Int64), z.2.1, z.2.2.1, z.2.2.2.1, z.2.2.2.2.1, z.2.2.2.2.2)) (gV w_82 w_83 w_6 w_26 w_84) kk_X0_putSpan rfl ⟨Nat.le_of_ble_eq_true rfl, Nat.le_of_ble_eq_true rfl⟩ ⟨Nat.le_of_ble_eq_true rfl, Nat.le_of_ble_eq_true rfl⟩ ⟨Nat.le_of_ble_eq_true rfl, Nat.le_of_ble_eq_true rfl⟩ hP hS hl.1 rfl rfl (Nat.le_of_ble_eq_true rfl) dX0_reset_56 (fun h_143 => ?_) (fun h_143 H locs hP hS => ?_)
              · have hm : m_X0_reset z = ((m_X0_putSpan (0 : Int32) (0 : Int32) (0 : Int32) (0 : Int32) (vp_updL (vp_updL (vp_updL (vp_updL (vp_updL z.1 (0 : Int32).toNatClampNeg (1008673 : Int64)) (2 : Int32).toNatClampNeg (1008673 : Int64)) (3 : Int32).toNatClampNeg (1008673 : Int64)) (4 : Int32).toNatClampNeg (1008673 : Int64)) (5 : Int32).toNatClampNeg (1008673 : Int64), z.2.1, z.2.2.1, z.2.2.2.1, z.2.2.2.2.1, z.2.2.2.2.2)).1, 0, (m_X0_putSpan (0 : Int32) (0 : Int32) (0 : Int32) (0 : Int32) (vp_updL (vp_updL (vp_updL (vp_updL (vp_updL z.1 (0 : Int32).toNatClampNeg (1008673 : Int64)) (2 : Int32).toNatClampNeg (1008673 : Int64)) (3 : Int32).toNatClampNeg (1008673 : Int64)) (4 : Int32).toNatClampNeg (1008673 : Int64)) (5 : Int32).toNatClampNeg (1008673 : Int64), z.2.1, z.2.2.1, z.2.2.2.1, z.2.2.2.2.1, z.2.2.2.2.2)).2) := hm.trans (if_neg h_143)
                exact ⟨by rw [hm], by rw [hm]⟩
              · have hm := hm.trans (if_pos h_143)
                refine lv_iinc (v := (1 : Int32)) (lv' := [(2, .int (1 : Int32)), (1, .int (5 : Int32)), (0, .ref a.1)]) hx hb dX0_reset_59 hl (k := 0) rfl (by decide) (by decide) rfl (fun ls hl => ?_)
                refine lv_goto (tgt := 46) hx hb dX0_reset_62 (by decide) ?_
                refine lv_iload_n hx hb dX0_reset_46 rfl (lv_at hl 0 rfl) ?_
                refine lv_iconst (v := 2) hx hb dX0_reset_47 (by decide) ?_
                refine lv_icmp_ge (tgt := 65) hx hb dX0_reset_48 (by decide) (fun h => absurd h (by decide)) (fun _ => ?_)
                refine lv_aload_n hx hb dX0_reset_51 rfl (lv_at hl 2 rfl) ?_
                refine lv_iload_n hx hb dX0_reset_52 rfl (lv_at hl 0 rfl) ?_
                refine lv_iconst (v := 0) hx hb dX0_reset_53 (by decide) ?_
                refine lv_iconst (v := 0) hx hb dX0_reset_54 (by decide) ?_
                refine lv_iconst (v := 0) hx hb dX0_reset_55 (by decide) ?_
                refine cc_V hC hGx hD hEx hlocks (c_X0_putSpan l hl9 k a hD (1 : Int32) (0 : Int32) (0 : Int32) (0 : Int32) ((m_X0_putSpan (0 : Int32) (0 : Int32) (0 : Int32) (0 : Int32) (vp_updL (vp_updL (vp_updL (vp_updL (vp_updL z.1 (0 : Int32).toNatClampNeg (1008673 : Int64)) (2 : Int32).toNatClampNeg (1008673 : Int64)) (3 : Int32).toNatClampNeg (1008673 : Int64)) (4 : Int32).toNatClampNeg (1008673 : Int64)) (5 : Int32).toNatClampNeg (1008673 : Int64), z.2.1, z.2.2.1, z.2.2.2.1, z.2.2.2.2.1, z.2.2.2.2.2)).2)) (gV w_82 w_83 w_6 w_26 w_84) kk_X0_putSpan rfl ⟨Nat.le_of_ble_eq_true rfl, Nat.le_of_ble_eq_true rfl⟩ ⟨Nat.le_of_ble_eq_true rfl, Nat.le_of_ble_eq_true rfl⟩ ⟨Nat.le_of_ble_eq_true rfl, Nat.le_of_ble_eq_true rfl⟩ hP hS hl.1 rfl rfl (Nat.le_of_ble_eq_true rfl) dX0_reset_56 (fun h_144 => ?_) (fun h_144 H locs hP hS => ?_)
                · have hm : m_X0_reset z = ((m_X0_putSpan (1 : Int32) (0 : Int32) (0 : Int32) (0 : Int32) ((m_X0_putSpan (0 : Int32) (0 : Int32) (0 : Int32) (0 : Int32) (vp_updL (vp_updL (vp_updL (vp_updL (vp_updL z.1 (0 : Int32).toNatClampNeg (1008673 : Int64)) (2 : Int32).toNatClampNeg (1008673 : Int64)) (3 : Int32).toNatClampNeg (1008673 : Int64)) (4 : Int32).toNatClampNeg (1008673 : Int64)) (5 : Int32).toNatClampNeg (1008673 : Int64), z.2.1, z.2.2.1, z.2.2.2.1, z.2.2.2.2.1, z.2.2.2.2.2)).2)).1, 0, (m_X0_putSpan (1 : Int32) (0 : Int32) (0 : Int32) (0 : Int32) ((m_X0_putSpan (0 : Int32) (0 : Int32) (0 : Int32) (0 : Int32) (vp_updL (vp_updL (vp_updL (vp_updL (vp_updL z.1 (0 : Int32).toNatClampNeg (1008673 : Int64)) (2 : Int32).toNatClampNeg (1008673 : Int64)) (3 : Int32).toNatClampNeg (1008673 : Int64)) (4 : Int32).toNatClampNeg (1008673 : Int64)) (5 : Int32).toNatClampNeg (1008673 : Int64), z.2.1, z.2.2.1, z.2.2.2.1, z.2.2.2.2.1, z.2.2.2.2.2)).2)).2) := hm.trans (if_neg h_144)
                  exact ⟨by rw [hm], by rw [hm]⟩
                · have hm := hm.trans (if_pos h_144)
                  refine lv_iinc (v := (2 : Int32)) (lv' := [(2, .int (2 : Int32)), (1, .int (5 : Int32)), (0, .ref a.1)]) hx hb dX0_reset_59 hl (k := 0) rfl (by decide) (by decide) rfl (fun ls hl => ?_)
                  refine lv_goto (tgt := 46) hx hb dX0_reset_62 (by decide) ?_
                  refine lv_iload_n hx hb dX0_reset_46 rfl (lv_at hl 0 rfl) ?_
                  refine lv_iconst (v := 2) hx hb dX0_reset_47 (by decide) ?_
                  refine lv_icmp_ge (tgt := 65) hx hb dX0_reset_48 (by decide) (fun _ => ?_) (fun h => absurd h (by decide))
                  refine lv_iload_n hx hb dX0_reset_65 rfl (lv_at hl 1 rfl) ?_
                  have hm : m_X0_reset z = (0, (5 : Int32), (m_X0_putSpan (1 : Int32) (0 : Int32) (0 : Int32) (0 : Int32) ((m_X0_putSpan (0 : Int32) (0 : Int32) (0 : Int32) (0 : Int32) (vp_updL (vp_updL (vp_updL (vp_updL (vp_updL z.1 (0 : Int32).toNatClampNeg (1008673 : Int64)) (2 : Int32).toNatClampNeg (1008673 : Int64)) (3 : Int32).toNatClampNeg (1008673 : Int64)) (4 : Int32).toNatClampNeg (1008673 : Int64)) (5 : Int32).toNatClampNeg (1008673 : Int64), z.2.1, z.2.2.1, z.2.2.2.1, z.2.2.2.2.1, z.2.2.2.2.2)).2)).2) := hm
                  exact c_iret (E := (5 : Int32)) hx hb hr hlocks (by rw [hm]) (by rw [hm]) (by rw [hm]) hP hS ⟨Nat.le_of_ble_eq_true rfl, Nat.le_of_ble_eq_true rfl⟩ dX0_reset_66
    · have hm := hm.trans (if_neg h_97)
      refine lv_iinc (v := (2 : Int32)) (lv' := [(1, .int (2 : Int32)), (2, .int (1 : Int32)), (0, .ref a.1)]) hx hb dX0_reset_26 hl (k := 1) rfl (by decide) (by decide) rfl (fun ls hl => ?_)
      refine lv_aload_n hx hb dX0_reset_29 rfl (lv_at hl 2 rfl) ?_
      refine va_get (D := kD k) (ci := 2) (v := .ref a.2.1) (C := RX0) (T := TX0) (N := 6) hx hb htg inG_X0 hown hGx.1 hP 0 rfl rfl 0 (by decide) (htg _ w_57) (fun _ h9 => h9) rfl dX0_reset_30 ?_
      refine lv_iload_n hx hb dX0_reset_33 rfl (lv_at hl 1 rfl) ?_
      refine lv_ldc2 hx hb hown (htg _ w_56) dX0_reset_34 ?_
      refine va_last (D := kD k) hx hb hGx.1 hP (hD.own _ _) hS 1 0 rfl rfl (show ¬ ((1 : Int32) < 0 ∨ 6 ≤ ((1 : Int32)).toNatClampNeg) by decide) dX0_reset_37 (fun H locs hP1 _ hS => ?_)
      have hP : va_P (kD k) vwCl (cW k a (vp_updL (vp_updL z.1 (0 : Int32).toNatClampNeg (1008673 : Int64)) (1 : Int32).toNatClampNeg (1008673 : Int64), z.2.1, z.2.2.1, z.2.2.2.1, z.2.2.2.2.1, z.2.2.2.2.2)) H := hP1
      refine lv_iinc (v := (2 : Int32)) (lv' := [(2, .int (2 : Int32)), (1, .int (2 : Int32)), (0, .ref a.1)]) hx hb dX0_reset_38 hl (k := 1) rfl (by decide) (by decide) rfl (fun ls hl => ?_)
      refine lv_goto (tgt := 4) hx hb dX0_reset_41 (by decide) ?_
      refine lv_iload_n hx hb dX0_reset_4 rfl (lv_at hl 0 rfl) ?_
      refine lv_aload_n hx hb dX0_reset_5 rfl (lv_at hl 2 rfl) ?_
      refine va_get (D := kD k) (ci := 2) (v := .ref a.2.1) (C := RX0) (T := TX0) (N := 6) hx hb htg inG_X0 hown hGx.1 hP 0 rfl rfl 0 (by decide) (htg _ w_57) (fun _ h9 => h9) rfl dX0_reset_6 ?_
      refine va_alen (D := kD k) (v := 6) hx hb hGx.1 hP 1 0 rfl rfl (show Int32.ofNat 6 = 6 by decide) dX0_reset_9 ?_
      refine lv_icmp_ge (tgt := 44) hx hb dX0_reset_10 (by decide) (fun h => absurd h (by decide)) (fun _ => ?_)
      refine lv_aload_n hx hb dX0_reset_13 rfl (lv_at hl 2 rfl) ?_
      refine va_get (D := kD k) (ci := 2) (v := .ref a.2.1) (C := RX0) (T := TX0) (N := 6) hx hb htg inG_X0 hown hGx.1 hP 0 rfl rfl 0 (by decide) (htg _ w_57) (fun _ h9 => h9) rfl dX0_reset_14 ?_
      refine lv_iload_n hx hb dX0_reset_17 rfl (lv_at hl 0 rfl) ?_
      refine va_lald (D := kD k) hx hb hGx.1 hP 1 0 rfl rfl (show ¬ ((2 : Int32) < 0 ∨ 6 ≤ ((2 : Int32)).toNatClampNeg) by decide) dX0_reset_18 ?_
      refine lv_ldc2 hx hb hown (htg _ w_56) dX0_reset_19 ?_
      refine W.lcmp hx hb dX0_reset_22 ?_
      refine lv_if_eq (tgt := 38) hx hb dX0_reset_23 (by decide) (fun h_145 => ?_) (fun h_145 => ?_)
      · have hm := hm.trans (if_pos h_145)
        refine lv_iinc (v := (3 : Int32)) (lv' := [(2, .int (3 : Int32)), (1, .int (2 : Int32)), (0, .ref a.1)]) hx hb dX0_reset_38 hl (k := 0) rfl (by decide) (by decide) rfl (fun ls hl => ?_)
        refine lv_goto (tgt := 4) hx hb dX0_reset_41 (by decide) ?_
        refine lv_iload_n hx hb dX0_reset_4 rfl (lv_at hl 0 rfl) ?_
        refine lv_aload_n hx hb dX0_reset_5 rfl (lv_at hl 2 rfl) ?_
        refine va_get (D := kD k) (ci := 2) (v := .ref a.2.1) (C := RX0) (T := TX0) (N := 6) hx hb htg inG_X0 hown hGx.1 hP 0 rfl rfl 0 (by decide) (htg _ w_57) (fun _ h9 => h9) rfl dX0_reset_6 ?_
        refine va_alen (D := kD k) (v := 6) hx hb hGx.1 hP 1 0 rfl rfl (show Int32.ofNat 6 = 6 by decide) dX0_reset_9 ?_
        refine lv_icmp_ge (tgt := 44) hx hb dX0_reset_10 (by decide) (fun h => absurd h (by decide)) (fun _ => ?_)
        refine lv_aload_n hx hb dX0_reset_13 rfl (lv_at hl 2 rfl) ?_
        refine va_get (D := kD k) (ci := 2) (v := .ref a.2.1) (C := RX0) (T := TX0) (N := 6) hx hb htg inG_X0 hown hGx.1 hP 0 rfl rfl 0 (by decide) (htg _ w_57) (fun _ h9 => h9) rfl dX0_reset_14 ?_
        refine lv_iload_n hx hb dX0_reset_17 rfl (lv_at hl 0 rfl) ?_
        refine va_lald (D := kD k) hx hb hGx.1 hP 1 0 rfl rfl (show ¬ ((3 : Int32) < 0 ∨ 6 ≤ ((3 : Int32)).toNatClampNeg) by decide) dX0_reset_18 ?_
        refine lv_ldc2 hx hb hown (htg _ w_56) dX0_reset_19 ?_
        refine W.lcmp hx hb dX0_reset_22 ?_
        refine lv_if_eq (tgt := 38) hx hb dX0_reset_23 (by decide) (fun h_146 => ?_) (fun h_146 => ?_)
        · have hm := hm.trans (if_pos h_146)
          refine lv_iinc (v := (4 : Int32)) (lv' := [(2, .int (4 : Int32)), (1, .int (2 : Int32)), (0, .ref a.1)]) hx hb dX0_reset_38 hl (k := 0) rfl (by decide) (by decide) rfl (fun ls hl => ?_)
          refine lv_goto (tgt := 4) hx hb dX0_reset_41 (by decide) ?_
          refine lv_iload_n hx hb dX0_reset_4 rfl (lv_at hl 0 rfl) ?_
          refine lv_aload_n hx hb dX0_reset_5 rfl (lv_at hl 2 rfl) ?_
          refine va_get (D := kD k) (ci := 2) (v := .ref a.2.1) (C := RX0) (T := TX0) (N := 6) hx hb htg inG_X0 hown hGx.1 hP 0 rfl rfl 0 (by decide) (htg _ w_57) (fun _ h9 => h9) rfl dX0_reset_6 ?_
          refine va_alen (D := kD k) (v := 6) hx hb hGx.1 hP 1 0 rfl rfl (show Int32.ofNat 6 = 6 by decide) dX0_reset_9 ?_
          refine lv_icmp_ge (tgt := 44) hx hb dX0_reset_10 (by decide) (fun h => absurd h (by decide)) (fun _ => ?_)
          refine lv_aload_n hx hb dX0_reset_13 rfl (lv_at hl 2 rfl) ?_
          refine va_get (D := kD k) (ci := 2) (v := .ref a.2.1) (C := RX0) (T := TX0) (N := 6) hx hb htg inG_X0 hown hGx.1 hP 0 rfl rfl 0 (by decide) (htg _ w_57) (fun _ h9 => h9) rfl dX0_reset_14 ?_
          refine lv_iload_n hx hb dX0_reset_17 rfl (lv_at hl 0 rfl) ?_
          refine va_lald (D := kD k) hx hb hGx.1 hP 1 0 rfl rfl (show ¬ ((4 : Int32) < 0 ∨ 6 ≤ ((4 : Int32)).toNatClampNeg) by decide) dX0_reset_18 ?_
          refine lv_ldc2 hx hb hown (htg _ w_56) dX0_reset_19 ?_
          refine W.lcmp hx hb dX0_reset_22 ?_
          refine lv_if_eq (tgt := 38) hx hb dX0_reset_23 (by decide) (fun h_147 => ?_) (fun h_147 => ?_)
          · have hm := hm.trans (if_pos h_147)
            refine lv_iinc (v := (5 : Int32)) (lv' := [(2, .int (5 : Int32)), (1, .int (2 : Int32)), (0, .ref a.1)]) hx hb dX0_reset_38 hl (k := 0) rfl (by decide) (by decide) rfl (fun ls hl => ?_)
            refine lv_goto (tgt := 4) hx hb dX0_reset_41 (by decide) ?_
            refine lv_iload_n hx hb dX0_reset_4 rfl (lv_at hl 0 rfl) ?_
            refine lv_aload_n hx hb dX0_reset_5 rfl (lv_at hl 2 rfl) ?_
            refine va_get (D := kD k) (ci := 2) (v := .ref a.2.1) (C := RX0) (T := TX0) (N := 6) hx hb htg inG_X0 hown hGx.1 hP 0 rfl rfl 0 (by decide) (htg _ w_57) (fun _ h9 => h9) rfl dX0_reset_6 ?_
            refine va_alen (D := kD k) (v := 6) hx hb hGx.1 hP 1 0 rfl rfl (show Int32.ofNat 6 = 6 by decide) dX0_reset_9 ?_
            refine lv_icmp_ge (tgt := 44) hx hb dX0_reset_10 (by decide) (fun h => absurd h (by decide)) (fun _ => ?_)
            refine lv_aload_n hx hb dX0_reset_13 rfl (lv_at hl 2 rfl) ?_
            refine va_get (D := kD k) (ci := 2) (v := .ref a.2.1) (C := RX0) (T := TX0) (N := 6) hx hb htg inG_X0 hown hGx.1 hP 0 rfl rfl 0 (by decide) (htg _ w_57) (fun _ h9 => h9) rfl dX0_reset_14 ?_
            refine lv_iload_n hx hb dX0_reset_17 rfl (lv_at hl 0 rfl) ?_
            refine va_lald (D := kD k) hx hb hGx.1 hP 1 0 rfl rfl (show ¬ ((5 : Int32) < 0 ∨ 6 ≤ ((5 : Int32)).toNatClampNeg) by decide) dX0_reset_18 ?_
            refine lv_ldc2 hx hb hown (htg _ w_56) dX0_reset_19 ?_
            refine W.lcmp hx hb dX0_reset_22 ?_
            refine lv_if_eq (tgt := 38) hx hb dX0_reset_23 (by decide) (fun h_148 => ?_) (fun h_148 => ?_)
            · have hm := hm.trans (if_pos h_148)
              refine lv_iinc (v := (6 : Int32)) (lv' := [(2, .int (6 : Int32)), (1, .int (2 : Int32)), (0, .ref a.1)]) hx hb dX0_reset_38 hl (k := 0) rfl (by decide) (by decide) rfl (fun ls hl => ?_)
              refine lv_goto (tgt := 4) hx hb dX0_reset_41 (by decide) ?_
              refine lv_iload_n hx hb dX0_reset_4 rfl (lv_at hl 0 rfl) ?_
              refine lv_aload_n hx hb dX0_reset_5 rfl (lv_at hl 2 rfl) ?_
              refine va_get (D := kD k) (ci := 2) (v := .ref a.2.1) (C := RX0) (T := TX0) (N := 6) hx hb htg inG_X0 hown hGx.1 hP 0 rfl rfl 0 (by decide) (htg _ w_57) (fun _ h9 => h9) rfl dX0_reset_6 ?_
              refine va_alen (D := kD k) (v := 6) hx hb hGx.1 hP 1 0 rfl rfl (show Int32.ofNat 6 = 6 by decide) dX0_reset_9 ?_
              refine lv_icmp_ge (tgt := 44) hx hb dX0_reset_10 (by decide) (fun _ => ?_) (fun h => absurd h (by decide))
              refine lv_iconst (v := 0) hx hb dX0_reset_44 (by decide) ?_
              refine lv_istore_n (lv' := [(2, .int (0 : Int32)), (1, .int (2 : Int32)), (0, .ref a.1)]) hx hb dX0_reset_45 rfl hl (by decide) rfl (fun ls hl => ?_)
              refine lv_iload_n hx hb dX0_reset_46 rfl (lv_at hl 0 rfl) ?_
              refine lv_iconst (v := 2) hx hb dX0_reset_47 (by decide) ?_
              refine lv_icmp_ge (tgt := 65) hx hb dX0_reset_48 (by decide) (fun h => absurd h (by decide)) (fun _ => ?_)
              refine lv_aload_n hx hb dX0_reset_51 rfl (lv_at hl 2 rfl) ?_
              refine lv_iload_n hx hb dX0_reset_52 rfl (lv_at hl 0 rfl) ?_
              refine lv_iconst (v := 0) hx hb dX0_reset_53 (by decide) ?_
              refine lv_iconst (v := 0) hx hb dX0_reset_54 (by decide) ?_
              refine lv_iconst (v := 0) hx hb dX0_reset_55 (by decide) ?_
              refine cc_V hC hGx hD hEx hlocks (c_X0_putSpan l hl9 k a hD (0 : Int32) (0 : Int32) (0 : Int32) (0 : Int32) (vp_updL (vp_updL z.1 (0 : Int32).toNatClampNeg (1008673 : Int64)) (1 : Int32).toNatClampNeg (1008673 : Int64), z.2.1, z.2.2.1, z.2.2.2.1, z.2.2.2.2.1, z.2.2.2.2.2)) (gV w_82 w_83 w_6 w_26 w_84) kk_X0_putSpan rfl ⟨Nat.le_of_ble_eq_true rfl, Nat.le_of_ble_eq_true rfl⟩ ⟨Nat.le_of_ble_eq_true rfl, Nat.le_of_ble_eq_true rfl⟩ ⟨Nat.le_of_ble_eq_true rfl, Nat.le_of_ble_eq_true rfl⟩ hP hS hl.1 rfl rfl (Nat.le_of_ble_eq_true rfl) dX0_reset_56 (fun h_149 => ?_) (fun h_149 H locs hP hS => ?_)
              · have hm : m_X0_reset z = ((m_X0_putSpan (0 : Int32) (0 : Int32) (0 : Int32) (0 : Int32) (vp_updL (vp_updL z.1 (0 : Int32).toNatClampNeg (1008673 : Int64)) (1 : Int32).toNatClampNeg (1008673 : Int64), z.2.1, z.2.2.1, z.2.2.2.1, z.2.2.2.2.1, z.2.2.2.2.2)).1, 0, (m_X0_putSpan (0 : Int32) (0 : Int32) (0 : Int32) (0 : Int32) (vp_updL (vp_updL z.1 (0 : Int32).toNatClampNeg (1008673 : Int64)) (1 : Int32).toNatClampNeg (1008673 : Int64), z.2.1, z.2.2.1, z.2.2.2.1, z.2.2.2.2.1, z.2.2.2.2.2)).2) := hm.trans (if_neg h_149)
                exact ⟨by rw [hm], by rw [hm]⟩
              · have hm := hm.trans (if_pos h_149)
                refine lv_iinc (v := (1 : Int32)) (lv' := [(2, .int (1 : Int32)), (1, .int (2 : Int32)), (0, .ref a.1)]) hx hb dX0_reset_59 hl (k := 0) rfl (by decide) (by decide) rfl (fun ls hl => ?_)
                refine lv_goto (tgt := 46) hx hb dX0_reset_62 (by decide) ?_
                refine lv_iload_n hx hb dX0_reset_46 rfl (lv_at hl 0 rfl) ?_
                refine lv_iconst (v := 2) hx hb dX0_reset_47 (by decide) ?_
                refine lv_icmp_ge (tgt := 65) hx hb dX0_reset_48 (by decide) (fun h => absurd h (by decide)) (fun _ => ?_)
                refine lv_aload_n hx hb dX0_reset_51 rfl (lv_at hl 2 rfl) ?_
                refine lv_iload_n hx hb dX0_reset_52 rfl (lv_at hl 0 rfl) ?_
                refine lv_iconst (v := 0) hx hb dX0_reset_53 (by decide) ?_
                refine lv_iconst (v := 0) hx hb dX0_reset_54 (by decide) ?_
                refine lv_iconst (v := 0) hx hb dX0_reset_55 (by decide) ?_
                refine cc_V hC hGx hD hEx hlocks (c_X0_putSpan l hl9 k a hD (1 : Int32) (0 : Int32) (0 : Int32) (0 : Int32) ((m_X0_putSpan (0 : Int32) (0 : Int32) (0 : Int32) (0 : Int32) (vp_updL (vp_updL z.1 (0 : Int32).toNatClampNeg (1008673 : Int64)) (1 : Int32).toNatClampNeg (1008673 : Int64), z.2.1, z.2.2.1, z.2.2.2.1, z.2.2.2.2.1, z.2.2.2.2.2)).2)) (gV w_82 w_83 w_6 w_26 w_84) kk_X0_putSpan rfl ⟨Nat.le_of_ble_eq_true rfl, Nat.le_of_ble_eq_true rfl⟩ ⟨Nat.le_of_ble_eq_true rfl, Nat.le_of_ble_eq_true rfl⟩ ⟨Nat.le_of_ble_eq_true rfl, Nat.le_of_ble_eq_true rfl⟩ hP hS hl.1 rfl rfl (Nat.le_of_ble_eq_true rfl) dX0_reset_56 (fun h_150 => ?_) (fun h_150 H locs hP hS => ?_)
                · have hm : m_X0_reset z = ((m_X0_putSpan (1 : Int32) (0 : Int32) (0 : Int32) (0 : Int32) ((m_X0_putSpan (0 : Int32) (0 : Int32) (0 : Int32) (0 : Int32) (vp_updL (vp_updL z.1 (0 : Int32).toNatClampNeg (1008673 : Int64)) (1 : Int32).toNatClampNeg (1008673 : Int64), z.2.1, z.2.2.1, z.2.2.2.1, z.2.2.2.2.1, z.2.2.2.2.2)).2)).1, 0, (m_X0_putSpan (1 : Int32) (0 : Int32) (0 : Int32) (0 : Int32) ((m_X0_putSpan (0 : Int32) (0 : Int32) (0 : Int32) (0 : Int32) (vp_updL (vp_updL z.1 (0 : Int32).toNatClampNeg (1008673 : Int64)) (1 : Int32).toNatClampNeg (1008673 : Int64), z.2.1, z.2.2.1, z.2.2.2.1, z.2.2.2.2.1, z.2.2.2.2.2)).2)).2) := hm.trans (if_neg h_150)
                  exact ⟨by rw [hm], by rw [hm]⟩
                · have hm := hm.trans (if_pos h_150)
                  refine lv_iinc (v := (2 : Int32)) (lv' := [(2, .int (2 : Int32)), (1, .int (2 : Int32)), (0, .ref a.1)]) hx hb dX0_reset_59 hl (k := 0) rfl (by decide) (by decide) rfl (fun ls hl => ?_)
                  refine lv_goto (tgt := 46) hx hb dX0_reset_62 (by decide) ?_
                  refine lv_iload_n hx hb dX0_reset_46 rfl (lv_at hl 0 rfl) ?_
                  refine lv_iconst (v := 2) hx hb dX0_reset_47 (by decide) ?_
                  refine lv_icmp_ge (tgt := 65) hx hb dX0_reset_48 (by decide) (fun _ => ?_) (fun h => absurd h (by decide))
                  refine lv_iload_n hx hb dX0_reset_65 rfl (lv_at hl 1 rfl) ?_
                  have hm : m_X0_reset z = (0, (2 : Int32), (m_X0_putSpan (1 : Int32) (0 : Int32) (0 : Int32) (0 : Int32) ((m_X0_putSpan (0 : Int32) (0 : Int32) (0 : Int32) (0 : Int32) (vp_updL (vp_updL z.1 (0 : Int32).toNatClampNeg (1008673 : Int64)) (1 : Int32).toNatClampNeg (1008673 : Int64), z.2.1, z.2.2.1, z.2.2.2.1, z.2.2.2.2.1, z.2.2.2.2.2)).2)).2) := hm
                  exact c_iret (E := (2 : Int32)) hx hb hr hlocks (by rw [hm]) (by rw [hm]) (by rw [hm]) hP hS ⟨Nat.le_of_ble_eq_true rfl, Nat.le_of_ble_eq_true rfl⟩ dX0_reset_66
            · have hm := hm.trans (if_neg h_148)
              refine lv_iinc (v := (3 : Int32)) (lv' := [(1, .int (3 : Int32)), (2, .int (5 : Int32)), (0, .ref a.1)]) hx hb dX0_reset_26 hl (k := 1) rfl (by decide) (by decide) rfl (fun ls hl => ?_)
              refine lv_aload_n hx hb dX0_reset_29 rfl (lv_at hl 2 rfl) ?_
              refine va_get (D := kD k) (ci := 2) (v := .ref a.2.1) (C := RX0) (T := TX0) (N := 6) hx hb htg inG_X0 hown hGx.1 hP 0 rfl rfl 0 (by decide) (htg _ w_57) (fun _ h9 => h9) rfl dX0_reset_30 ?_
              refine lv_iload_n hx hb dX0_reset_33 rfl (lv_at hl 1 rfl) ?_
              refine lv_ldc2 hx hb hown (htg _ w_56) dX0_reset_34 ?_
              refine va_last (D := kD k) hx hb hGx.1 hP (hD.own _ _) hS 1 0 rfl rfl (show ¬ ((5 : Int32) < 0 ∨ 6 ≤ ((5 : Int32)).toNatClampNeg) by decide) dX0_reset_37 (fun H locs hP1 _ hS => ?_)
              have hP : va_P (kD k) vwCl (cW k a (vp_updL (vp_updL (vp_updL z.1 (0 : Int32).toNatClampNeg (1008673 : Int64)) (1 : Int32).toNatClampNeg (1008673 : Int64)) (5 : Int32).toNatClampNeg (1008673 : Int64), z.2.1, z.2.2.1, z.2.2.2.1, z.2.2.2.2.1, z.2.2.2.2.2)) H := hP1
              refine lv_iinc (v := (6 : Int32)) (lv' := [(2, .int (6 : Int32)), (1, .int (3 : Int32)), (0, .ref a.1)]) hx hb dX0_reset_38 hl (k := 1) rfl (by decide) (by decide) rfl (fun ls hl => ?_)
              refine lv_goto (tgt := 4) hx hb dX0_reset_41 (by decide) ?_
              refine lv_iload_n hx hb dX0_reset_4 rfl (lv_at hl 0 rfl) ?_
              refine lv_aload_n hx hb dX0_reset_5 rfl (lv_at hl 2 rfl) ?_
              refine va_get (D := kD k) (ci := 2) (v := .ref a.2.1) (C := RX0) (T := TX0) (N := 6) hx hb htg inG_X0 hown hGx.1 hP 0 rfl rfl 0 (by decide) (htg _ w_57) (fun _ h9 => h9) rfl dX0_reset_6 ?_
              refine va_alen (D := kD k) (v := 6) hx hb hGx.1 hP 1 0 rfl rfl (show Int32.ofNat 6 = 6 by decide) dX0_reset_9 ?_
              refine lv_icmp_ge (tgt := 44) hx hb dX0_reset_10 (by decide) (fun _ => ?_) (fun h => absurd h (by decide))
              refine lv_iconst (v := 0) hx hb dX0_reset_44 (by decide) ?_
              refine lv_istore_n (lv' := [(2, .int (0 : Int32)), (1, .int (3 : Int32)), (0, .ref a.1)]) hx hb dX0_reset_45 rfl hl (by decide) rfl (fun ls hl => ?_)
              refine lv_iload_n hx hb dX0_reset_46 rfl (lv_at hl 0 rfl) ?_
              refine lv_iconst (v := 2) hx hb dX0_reset_47 (by decide) ?_
              refine lv_icmp_ge (tgt := 65) hx hb dX0_reset_48 (by decide) (fun h => absurd h (by decide)) (fun _ => ?_)
              refine lv_aload_n hx hb dX0_reset_51 rfl (lv_at hl 2 rfl) ?_
              refine lv_iload_n hx hb dX0_reset_52 rfl (lv_at hl 0 rfl) ?_
              refine lv_iconst (v := 0) hx hb dX0_reset_53 (by decide) ?_
              refine lv_iconst (v := 0) hx hb dX0_reset_54 (by decide) ?_
              refine lv_iconst (v := 0) hx hb dX0_reset_55 (by decide) ?_
              refine cc_V hC hGx hD hEx hlocks (c_X0_putSpan l hl9 k a hD (0 : Int32) (0 : Int32) (0 : Int32) (0 : Int32) (vp_updL (vp_updL (vp_updL z.1 (0 : Int32).toNatClampNeg (1008673 : Int64)) (1 : Int32).toNatClampNeg (1008673 : Int64)) (5 : Int32).toNatClampNeg (1008673 : Int64), z.2.1, z.2.2.1, z.2.2.2.1, z.2.2.2.2.1, z.2.2.2.2.2)) (gV w_82 w_83 w_6 w_26 w_84) kk_X0_putSpan rfl ⟨Nat.le_of_ble_eq_true rfl, Nat.le_of_ble_eq_true rfl⟩ ⟨Nat.le_of_ble_eq_true rfl, Nat.le_of_ble_eq_true rfl⟩ ⟨Nat.le_of_ble_eq_true rfl, Nat.le_of_ble_eq_true rfl⟩ hP hS hl.1 rfl rfl (Nat.le_of_ble_eq_true rfl) dX0_reset_56 (fun h_151 => ?_) (fun h_151 H locs hP hS => ?_)
              · have hm : m_X0_reset z = ((m_X0_putSpan (0 : Int32) (0 : Int32) (0 : Int32) (0 : Int32) (vp_updL (vp_updL (vp_updL z.1 (0 : Int32).toNatClampNeg (1008673 : Int64)) (1 : Int32).toNatClampNeg (1008673 : Int64)) (5 : Int32).toNatClampNeg (1008673 : Int64), z.2.1, z.2.2.1, z.2.2.2.1, z.2.2.2.2.1, z.2.2.2.2.2)).1, 0, (m_X0_putSpan (0 : Int32) (0 : Int32) (0 : Int32) (0 : Int32) (vp_updL (vp_updL (vp_updL z.1 (0 : Int32).toNatClampNeg (1008673 : Int64)) (1 : Int32).toNatClampNeg (1008673 : Int64)) (5 : Int32).toNatClampNeg (1008673 : Int64), z.2.1, z.2.2.1, z.2.2.2.1, z.2.2.2.2.1, z.2.2.2.2.2)).2) := hm.trans (if_neg h_151)
                exact ⟨by rw [hm], by rw [hm]⟩
              · have hm := hm.trans (if_pos h_151)
                refine lv_iinc (v := (1 : Int32)) (lv' := [(2, .int (1 : Int32)), (1, .int (3 : Int32)), (0, .ref a.1)]) hx hb dX0_reset_59 hl (k := 0) rfl (by decide) (by decide) rfl (fun ls hl => ?_)
                refine lv_goto (tgt := 46) hx hb dX0_reset_62 (by decide) ?_
                refine lv_iload_n hx hb dX0_reset_46 rfl (lv_at hl 0 rfl) ?_
                refine lv_iconst (v := 2) hx hb dX0_reset_47 (by decide) ?_
                refine lv_icmp_ge (tgt := 65) hx hb dX0_reset_48 (by decide) (fun h => absurd h (by decide)) (fun _ => ?_)
                refine lv_aload_n hx hb dX0_reset_51 rfl (lv_at hl 2 rfl) ?_
                refine lv_iload_n hx hb dX0_reset_52 rfl (lv_at hl 0 rfl) ?_
                refine lv_iconst (v := 0) hx hb dX0_reset_53 (by decide) ?_
                refine lv_iconst (v := 0) hx hb dX0_reset_54 (by decide) ?_
                refine lv_iconst (v := 0) hx hb dX0_reset_55 (by decide) ?_
                refine cc_V hC hGx hD hEx hlocks (c_X0_putSpan l hl9 k a hD (1 : Int32) (0 : Int32) (0 : Int32) (0 : Int32) ((m_X0_putSpan (0 : Int32) (0 : Int32) (0 : Int32) (0 : Int32) (vp_updL (vp_updL (vp_updL z.1 (0 : Int32).toNatClampNeg (1008673 : Int64)) (1 : Int32).toNatClampNeg (1008673 : Int64)) (5 : Int32).toNatClampNeg (1008673 : Int64), z.2.1, z.2.2.1, z.2.2.2.1, z.2.2.2.2.1, z.2.2.2.2.2)).2)) (gV w_82 w_83 w_6 w_26 w_84) kk_X0_putSpan rfl ⟨Nat.le_of_ble_eq_true rfl, Nat.le_of_ble_eq_true rfl⟩ ⟨Nat.le_of_ble_eq_true rfl, Nat.le_of_ble_eq_true rfl⟩ ⟨Nat.le_of_ble_eq_true rfl, Nat.le_of_ble_eq_true rfl⟩ hP hS hl.1 rfl rfl (Nat.le_of_ble_eq_true rfl) dX0_reset_56 (fun h_152 => ?_) (fun h_152 H locs hP hS => ?_)
                · have hm : m_X0_reset z = ((m_X0_putSpan (1 : Int32) (0 : Int32) (0 : Int32) (0 : Int32) ((m_X0_putSpan (0 : Int32) (0 : Int32) (0 : Int32) (0 : Int32) (vp_updL (vp_updL (vp_updL z.1 (0 : Int32).toNatClampNeg (1008673 : Int64)) (1 : Int32).toNatClampNeg (1008673 : Int64)) (5 : Int32).toNatClampNeg (1008673 : Int64), z.2.1, z.2.2.1, z.2.2.2.1, z.2.2.2.2.1, z.2.2.2.2.2)).2)).1, 0, (m_X0_putSpan (1 : Int32) (0 : Int32) (0 : Int32) (0 : Int32) ((m_X0_putSpan (0 : Int32) (0 : Int32) (0 : Int32) (0 : Int32) (vp_updL (vp_updL (vp_updL z.1 (0 : Int32).toNatClampNeg (1008673 : Int64)) (1 : Int32).toNatClampNeg (1008673 : Int64)) (5 : Int32).toNatClampNeg (1008673 : Int64), z.2.1, z.2.2.1, z.2.2.2.1, z.2.2.2.2.1, z.2.2.2.2.2)).2)).2) := hm.trans (if_neg h_152)
                  exact ⟨by rw [hm], by rw [hm]⟩
                · have hm := hm.trans (if_pos h_152)
                  refine lv_iinc (v := (2 : Int32)) (lv' := [(2, .int (2 : Int32)), (1, .int (3 : Int32)), (0, .ref a.1)]) hx hb dX0_reset_59 hl (k := 0) rfl (by decide) (by decide) rfl (fun ls hl => ?_)
                  refine lv_goto (tgt := 46) hx hb dX0_reset_62 (by decide) ?_
                  refine lv_iload_n hx hb dX0_reset_46 rfl (lv_at hl 0 rfl) ?_
                  refine lv_iconst (v := 2) hx hb dX0_reset_47 (by decide) ?_
                  refine lv_icmp_ge (tgt := 65) hx hb dX0_reset_48 (by decide) (fun _ => ?_) (fun h => absurd h (by decide))
                  refine lv_iload_n hx hb dX0_reset_65 rfl (lv_at hl 1 rfl) ?_
                  have hm : m_X0_reset z = (0, (3 : Int32), (m_X0_putSpan (1 : Int32) (0 : Int32) (0 : Int32) (0 : Int32) ((m_X0_putSpan (0 : Int32) (0 : Int32) (0 : Int32) (0 : Int32) (vp_updL (vp_updL (vp_updL z.1 (0 : Int32).toNatClampNeg (1008673 : Int64)) (1 : Int32).toNatClampNeg (1008673 : Int64)) (5 : Int32).toNatClampNeg (1008673 : Int64), z.2.1, z.2.2.1, z.2.2.2.1, z.2.2.2.2.1, z.2.2.2.2.2)).2)).2) := hm
                  exact c_iret (E := (3 : Int32)) hx hb hr hlocks (by rw [hm]) (by rw [hm]) (by rw [hm]) hP hS ⟨Nat.le_of_ble_eq_true rfl, Nat.le_of_ble_eq_true rfl⟩ dX0_reset_66
          · have hm := hm.trans (if_neg h_147)
            refine lv_iinc (v := (3 : Int32)) (lv' := [(1, .int (3 : Int32)), (2, .int (4 : Int32)), (0, .ref a.1)]) hx hb dX0_reset_26 hl (k := 1) rfl (by decide) (by decide) rfl (fun ls hl => ?_)
            refine lv_aload_n hx hb dX0_reset_29 rfl (lv_at hl 2 rfl) ?_
            refine va_get (D := kD k) (ci := 2) (v := .ref a.2.1) (C := RX0) (T := TX0) (N := 6) hx hb htg inG_X0 hown hGx.1 hP 0 rfl rfl 0 (by decide) (htg _ w_57) (fun _ h9 => h9) rfl dX0_reset_30 ?_
            refine lv_iload_n hx hb dX0_reset_33 rfl (lv_at hl 1 rfl) ?_
            refine lv_ldc2 hx hb hown (htg _ w_56) dX0_reset_34 ?_
            refine va_last (D := kD k) hx hb hGx.1 hP (hD.own _ _) hS 1 0 rfl rfl (show ¬ ((4 : Int32) < 0 ∨ 6 ≤ ((4 : Int32)).toNatClampNeg) by decide) dX0_reset_37 (fun H locs hP1 _ hS => ?_)
            have hP : va_P (kD k) vwCl (cW k a (vp_updL (vp_updL (vp_updL z.1 (0 : Int32).toNatClampNeg (1008673 : Int64)) (1 : Int32).toNatClampNeg (1008673 : Int64)) (4 : Int32).toNatClampNeg (1008673 : Int64), z.2.1, z.2.2.1, z.2.2.2.1, z.2.2.2.2.1, z.2.2.2.2.2)) H := hP1
            refine lv_iinc (v := (5 : Int32)) (lv' := [(2, .int (5 : Int32)), (1, .int (3 : Int32)), (0, .ref a.1)]) hx hb dX0_reset_38 hl (k := 1) rfl (by decide) (by decide) rfl (fun ls hl => ?_)
            refine lv_goto (tgt := 4) hx hb dX0_reset_41 (by decide) ?_
            refine lv_iload_n hx hb dX0_reset_4 rfl (lv_at hl 0 rfl) ?_
            refine lv_aload_n hx hb dX0_reset_5 rfl (lv_at hl 2 rfl) ?_
            refine va_get (D := kD k) (ci := 2) (v := .ref a.2.1) (C := RX0) (T := TX0) (N := 6) hx hb htg inG_X0 hown hGx.1 hP 0 rfl rfl 0 (by decide) (htg _ w_57) (fun _ h9 => h9) rfl dX0_reset_6 ?_
            refine va_alen (D := kD k) (v := 6) hx hb hGx.1 hP 1 0 rfl rfl (show Int32.ofNat 6 = 6 by decide) dX0_reset_9 ?_
            refine lv_icmp_ge (tgt := 44) hx hb dX0_reset_10 (by decide) (fun h => absurd h (by decide)) (fun _ => ?_)
            refine lv_aload_n hx hb dX0_reset_13 rfl (lv_at hl 2 rfl) ?_
            refine va_get (D := kD k) (ci := 2) (v := .ref a.2.1) (C := RX0) (T := TX0) (N := 6) hx hb htg inG_X0 hown hGx.1 hP 0 rfl rfl 0 (by decide) (htg _ w_57) (fun _ h9 => h9) rfl dX0_reset_14 ?_
            refine lv_iload_n hx hb dX0_reset_17 rfl (lv_at hl 0 rfl) ?_
            refine va_lald (D := kD k) hx hb hGx.1 hP 1 0 rfl rfl (show ¬ ((5 : Int32) < 0 ∨ 6 ≤ ((5 : Int32)).toNatClampNeg) by decide) dX0_reset_18 ?_
            refine lv_ldc2 hx hb hown (htg _ w_56) dX0_reset_19 ?_
            refine W.lcmp hx hb dX0_reset_22 ?_
            refine lv_if_eq (tgt := 38) hx hb dX0_reset_23 (by decide) (fun h_153 => ?_) (fun h_153 => ?_)
            · have hm := hm.trans (if_pos h_153)
              refine lv_iinc (v := (6 : Int32)) (lv' := [(2, .int (6 : Int32)), (1, .int (3 : Int32)), (0, .ref a.1)]) hx hb dX0_reset_38 hl (k := 0) rfl (by decide) (by decide) rfl (fun ls hl => ?_)
              refine lv_goto (tgt := 4) hx hb dX0_reset_41 (by decide) ?_
              refine lv_iload_n hx hb dX0_reset_4 rfl (lv_at hl 0 rfl) ?_
              refine lv_aload_n hx hb dX0_reset_5 rfl (lv_at hl 2 rfl) ?_
              refine va_get (D := kD k) (ci := 2) (v := .ref a.2.1) (C := RX0) (T := TX0) (N := 6) hx hb htg inG_X0 hown hGx.1 hP 0 rfl rfl 0 (by decide) (htg _ w_57) (fun _ h9 => h9) rfl dX0_reset_6 ?_
              refine va_alen (D := kD k) (v := 6) hx hb hGx.1 hP 1 0 rfl rfl (show Int32.ofNat 6 = 6 by decide) dX0_reset_9 ?_
              refine lv_icmp_ge (tgt := 44) hx hb dX0_reset_10 (by decide) (fun _ => ?_) (fun h => absurd h (by decide))
              refine lv_iconst (v := 0) hx hb dX0_reset_44 (by decide) ?_
              refine lv_istore_n (lv' := [(2, .int (0 : Int32)), (1, .int (3 : Int32)), (0, .ref a.1)]) hx hb dX0_reset_45 rfl hl (by decide) rfl (fun ls hl => ?_)
              refine lv_iload_n hx hb dX0_reset_46 rfl (lv_at hl 0 rfl) ?_
              refine lv_iconst (v := 2) hx hb dX0_reset_47 (by decide) ?_
              refine lv_icmp_ge (tgt := 65) hx hb dX0_reset_48 (by decide) (fun h => absurd h (by decide)) (fun _ => ?_)
              refine lv_aload_n hx hb dX0_reset_51 rfl (lv_at hl 2 rfl) ?_
              refine lv_iload_n hx hb dX0_reset_52 rfl (lv_at hl 0 rfl) ?_
              refine lv_iconst (v := 0) hx hb dX0_reset_53 (by decide) ?_
              refine lv_iconst (v := 0) hx hb dX0_reset_54 (by decide) ?_
              refine lv_iconst (v := 0) hx hb dX0_reset_55 (by decide) ?_
              refine cc_V hC hGx hD hEx hlocks (c_X0_putSpan l hl9 k a hD (0 : Int32) (0 : Int32) (0 : Int32) (0 : Int32) (vp_updL (vp_updL (vp_updL z.1 (0 : Int32).toNatClampNeg (1008673 : Int64)) (1 : Int32).toNatClampNeg (1008673 : Int64)) (4 : Int32).toNatClampNeg (1008673 : Int64), z.2.1, z.2.2.1, z.2.2.2.1, z.2.2.2.2.1, z.2.2.2.2.2)) (gV w_82 w_83 w_6 w_26 w_84) kk_X0_putSpan rfl ⟨Nat.le_of_ble_eq_true rfl, Nat.le_of_ble_eq_true rfl⟩ ⟨Nat.le_of_ble_eq_true rfl, Nat.le_of_ble_eq_true rfl⟩ ⟨Nat.le_of_ble_eq_true rfl, Nat.le_of_ble_eq_true rfl⟩ hP hS hl.1 rfl rfl (Nat.le_of_ble_eq_true rfl) dX0_reset_56 (fun h_154 => ?_) (fun h_154 H locs hP hS => ?_)
              · have hm : m_X0_reset z = ((m_X0_putSpan (0 : Int32) (0 : Int32) (0 : Int32) (0 : Int32) (vp_updL (vp_updL (vp_updL z.1 (0 : Int32).toNatClampNeg (1008673 : Int64)) (1 : Int32).toNatClampNeg (1008673 : Int64)) (4 : Int32).toNatClampNeg (1008673 : Int64), z.2.1, z.2.2.1, z.2.2.2.1, z.2.2.2.2.1, z.2.2.2.2.2)).1, 0, (m_X0_putSpan (0 : Int32) (0 : Int32) (0 : Int32) (0 : Int32) (vp_updL (vp_updL (vp_updL z.1 (0 : Int32).toNatClampNeg (1008673 : Int64)) (1 : Int32).toNatClampNeg (1008673 : Int64)) (4 : Int32).toNatClampNeg (1008673 : Int64), z.2.1, z.2.2.1, z.2.2.2.1, z.2.2.2.2.1, z.2.2.2.2.2)).2) := hm.trans (if_neg h_154)
                exact ⟨by rw [hm], by rw [hm]⟩
              · have hm := hm.trans (if_pos h_154)
                refine lv_iinc (v := (1 : Int32)) (lv' := [(2, .int (1 : Int32)), (1, .int (3 : Int32)), (0, .ref a.1)]) hx hb dX0_reset_59 hl (k := 0) rfl (by decide) (by decide) rfl (fun ls hl => ?_)
                refine lv_goto (tgt := 46) hx hb dX0_reset_62 (by decide) ?_
                refine lv_iload_n hx hb dX0_reset_46 rfl (lv_at hl 0 rfl) ?_
                refine lv_iconst (v := 2) hx hb dX0_reset_47 (by decide) ?_
                refine lv_icmp_ge (tgt := 65) hx hb dX0_reset_48 (by decide) (fun h => absurd h (by decide)) (fun _ => ?_)
                refine lv_aload_n hx hb dX0_reset_51 rfl (lv_at hl 2 rfl) ?_
                refine lv_iload_n hx hb dX0_reset_52 rfl (lv_at hl 0 rfl) ?_
                refine lv_iconst (v := 0) hx hb dX0_reset_53 (by decide) ?_
                refine lv_iconst (v := 0) hx hb dX0_reset_54 (by decide) ?_
                refine lv_iconst (v := 0) hx hb dX0_reset_55 (by decide) ?_
                refine cc_V hC hGx hD hEx hlocks (c_X0_putSpan l hl9 k a hD (1 : Int32) (0 : Int32) (0 : Int32) (0 : Int32) ((m_X0_putSpan (0 : Int32) (0 : Int32) (0 : Int32) (0 : Int32) (vp_updL (vp_updL (vp_updL z.1 (0 : Int32).toNatClampNeg (1008673 : Int64)) (1 : Int32).toNatClampNeg (1008673 : Int64)) (4 : Int32).toNatClampNeg (1008673 : Int64), z.2.1, z.2.2.1, z.2.2.2.1, z.2.2.2.2.1, z.2.2.2.2.2)).2)) (gV w_82 w_83 w_6 w_26 w_84) kk_X0_putSpan rfl ⟨Nat.le_of_ble_eq_true rfl, Nat.le_of_ble_eq_true rfl⟩ ⟨Nat.le_of_ble_eq_true rfl, Nat.le_of_ble_eq_true rfl⟩ ⟨Nat.le_of_ble_eq_true rfl, Nat.le_of_ble_eq_true rfl⟩ hP hS hl.1 rfl rfl (Nat.le_of_ble_eq_true rfl) dX0_reset_56 (fun h_155 => ?_) (fun h_155 H locs hP hS => ?_)
                · have hm : m_X0_reset z = ((m_X0_putSpan (1 : Int32) (0 : Int32) (0 : Int32) (0 : Int32) ((m_X0_putSpan (0 : Int32) (0 : Int32) (0 : Int32) (0 : Int32) (vp_updL (vp_updL (vp_updL z.1 (0 : Int32).toNatClampNeg (1008673 : Int64)) (1 : Int32).toNatClampNeg (1008673 : Int64)) (4 : Int32).toNatClampNeg (1008673 : Int64), z.2.1, z.2.2.1, z.2.2.2.1, z.2.2.2.2.1, z.2.2.2.2.2)).2)).1, 0, (m_X0_putSpan (1 : Int32) (0 : Int32) (0 : Int32) (0 : Int32) ((m_X0_putSpan (0 : Int32) (0 : Int32) (0 : Int32) (0 : Int32) (vp_updL (vp_updL (vp_updL z.1 (0 : Int32).toNatClampNeg (1008673 : Int64)) (1 : Int32).toNatClampNeg (1008673 : Int64)) (4 : Int32).toNatClampNeg (1008673 : Int64), z.2.1, z.2.2.1, z.2.2.2.1, z.2.2.2.2.1, z.2.2.2.2.2)).2)).2) := hm.trans (if_neg h_155)
                  exact ⟨by rw [hm], by rw [hm]⟩
                · have hm := hm.trans (if_pos h_155)
                  refine lv_iinc (v := (2 : Int32)) (lv' := [(2, .int (2 : Int32)), (1, .int (3 : Int32)), (0, .ref a.1)]) hx hb dX0_reset_59 hl (k := 0) rfl (by decide) (by decide) rfl (fun ls hl => ?_)
                  refine lv_goto (tgt := 46) hx hb dX0_reset_62 (by decide) ?_
                  refine lv_iload_n hx hb dX0_reset_46 rfl (lv_at hl 0 rfl) ?_
                  refine lv_iconst (v := 2) hx hb dX0_reset_47 (by decide) ?_
                  refine lv_icmp_ge (tgt := 65) hx hb dX0_reset_48 (by decide) (fun _ => ?_) (fun h => absurd h (by decide))
                  refine lv_iload_n hx hb dX0_reset_65 rfl (lv_at hl 1 rfl) ?_
                  have hm : m_X0_reset z = (0, (3 : Int32), (m_X0_putSpan (1 : Int32) (0 : Int32) (0 : Int32) (0 : Int32) ((m_X0_putSpan (0 : Int32) (0 : Int32) (0 : Int32) (0 : Int32) (vp_updL (vp_updL (vp_updL z.1 (0 : Int32).toNatClampNeg (1008673 : Int64)) (1 : Int32).toNatClampNeg (1008673 : Int64)) (4 : Int32).toNatClampNeg (1008673 : Int64), z.2.1, z.2.2.1, z.2.2.2.1, z.2.2.2.2.1, z.2.2.2.2.2)).2)).2) := hm
                  exact c_iret (E := (3 : Int32)) hx hb hr hlocks (by rw [hm]) (by rw [hm]) (by rw [hm]) hP hS ⟨Nat.le_of_ble_eq_true rfl, Nat.le_of_ble_eq_true rfl⟩ dX0_reset_66
            · have hm := hm.trans (if_neg h_153)
              refine lv_iinc (v := (4 : Int32)) (lv' := [(1, .int (4 : Int32)), (2, .int (5 : Int32)), (0, .ref a.1)]) hx hb dX0_reset_26 hl (k := 1) rfl (by decide) (by decide) rfl (fun ls hl => ?_)
              refine lv_aload_n hx hb dX0_reset_29 rfl (lv_at hl 2 rfl) ?_
              refine va_get (D := kD k) (ci := 2) (v := .ref a.2.1) (C := RX0) (T := TX0) (N := 6) hx hb htg inG_X0 hown hGx.1 hP 0 rfl rfl 0 (by decide) (htg _ w_57) (fun _ h9 => h9) rfl dX0_reset_30 ?_
              refine lv_iload_n hx hb dX0_reset_33 rfl (lv_at hl 1 rfl) ?_
              refine lv_ldc2 hx hb hown (htg _ w_56) dX0_reset_34 ?_
              refine va_last (D := kD k) hx hb hGx.1 hP (hD.own _ _) hS 1 0 rfl rfl (show ¬ ((5 : Int32) < 0 ∨ 6 ≤ ((5 : Int32)).toNatClampNeg) by decide) dX0_reset_37 (fun H locs hP1 _ hS => ?_)
              have hP : va_P (kD k) vwCl (cW k a (vp_updL (vp_updL (vp_updL (vp_updL z.1 (0 : Int32).toNatClampNeg (1008673 : Int64)) (1 : Int32).toNatClampNeg (1008673 : Int64)) (4 : Int32).toNatClampNeg (1008673 : Int64)) (5 : Int32).toNatClampNeg (1008673 : Int64), z.2.1, z.2.2.1, z.2.2.2.1, z.2.2.2.2.1, z.2.2.2.2.2)) H := hP1
              refine lv_iinc (v := (6 : Int32)) (lv' := [(2, .int (6 : Int32)), (1, .int (4 : Int32)), (0, .ref a.1)]) hx hb dX0_reset_38 hl (k := 1) rfl (by decide) (by decide) rfl (fun ls hl => ?_)
              refine lv_goto (tgt := 4) hx hb dX0_reset_41 (by decide) ?_
              refine lv_iload_n hx hb dX0_reset_4 rfl (lv_at hl 0 rfl) ?_
              refine lv_aload_n hx hb dX0_reset_5 rfl (lv_at hl 2 rfl) ?_
              refine va_get (D := kD k) (ci := 2) (v := .ref a.2.1) (C := RX0) (T := TX0) (N := 6) hx hb htg inG_X0 hown hGx.1 hP 0 rfl rfl 0 (by decide) (htg _ w_57) (fun _ h9 => h9) rfl dX0_reset_6 ?_
              refine va_alen (D := kD k) (v := 6) hx hb hGx.1 hP 1 0 rfl rfl (show Int32.ofNat 6 = 6 by decide) dX0_reset_9 ?_
              refine lv_icmp_ge (tgt := 44) hx hb dX0_reset_10 (by decide) (fun _ => ?_) (fun h => absurd h (by decide))
              refine lv_iconst (v := 0) hx hb dX0_reset_44 (by decide) ?_
              refine lv_istore_n (lv' := [(2, .int (0 : Int32)), (1, .int (4 : Int32)), (0, .ref a.1)]) hx hb dX0_reset_45 rfl hl (by decide) rfl (fun ls hl => ?_)
              refine lv_iload_n hx hb dX0_reset_46 rfl (lv_at hl 0 rfl) ?_
              refine lv_iconst (v := 2) hx hb dX0_reset_47 (by decide) ?_
              refine lv_icmp_ge (tgt := 65) hx hb dX0_reset_48 (by decide) (fun h => absurd h (by decide)) (fun _ => ?_)
              refine lv_aload_n hx hb dX0_reset_51 rfl (lv_at hl 2 rfl) ?_
              refine lv_iload_n hx hb dX0_reset_52 rfl (lv_at hl 0 rfl) ?_
              refine lv_iconst (v := 0) hx hb dX0_reset_53 (by decide) ?_
              refine lv_iconst (v := 0) hx hb dX0_reset_54 (by decide) ?_
              refine lv_iconst (v := 0) hx hb dX0_reset_55 (by decide) ?_
              refine cc_V hC hGx hD hEx hlocks (c_X0_putSpan l hl9 k a hD (0 : Int32) (0 : Int32) (0 : Int32) (0 : Int32) (vp_updL (vp_updL (vp_updL (vp_updL z.1 (0 : Int32).toNatClampNeg (1008673 : Int64)) (1 : Int32).toNatClampNeg (1008673 : Int64)) (4 : Int32).toNatClampNeg (1008673 : Int64)) (5 : Int32).toNatClampNeg (1008673 : Int64), z.2.1, z.2.2.1, z.2.2.2.1, z.2.2.2.2.1, z.2.2.2.2.2)) (gV w_82 w_83 w_6 w_26 w_84) kk_X0_putSpan rfl ⟨Nat.le_of_ble_eq_true rfl, Nat.le_of_ble_eq_true rfl⟩ ⟨Nat.le_of_ble_eq_true rfl, Nat.le_of_ble_eq_true rfl⟩ ⟨Nat.le_of_ble_eq_true rfl, Nat.le_of_ble_eq_true rfl⟩ hP hS hl.1 rfl rfl (Nat.le_of_ble_eq_true rfl) dX0_reset_56 (fun h_156 => ?_) (fun h_156 H locs hP hS => ?_)
              · have hm : m_X0_reset z = ((m_X0_putSpan (0 : Int32) (0 : Int32) (0 : Int32) (0 : Int32) (vp_updL (vp_updL (vp_updL (vp_updL z.1 (0 : Int32).toNatClampNeg (1008673 : Int64)) (1 : Int32).toNatClampNeg (1008673 : Int64)) (4 : Int32).toNatClampNeg (1008673 : Int64)) (5 : Int32).toNatClampNeg (1008673 : Int64), z.2.1, z.2.2.1, z.2.2.2.1, z.2.2.2.2.1, z.2.2.2.2.2)).1, 0, (m_X0_putSpan (0 : Int32) (0 : Int32) (0 : Int32) (0 : Int32) (vp_updL (vp_updL (vp_updL (vp_updL z.1 (0 : Int32).toNatClampNeg (1008673 : Int64)) (1 : Int32).toNatClampNeg (1008673 : Int64)) (4 : Int32).toNatClampNeg (1008673 : Int64)) (5 : Int32).toNatClampNeg (1008673 : Int64), z.2.1, z.2.2.1, z.2.2.2.1, z.2.2.2.2.1, z.2.2.2.2.2)).2) := hm.trans (if_neg h_156)
                exact ⟨by rw [hm], by rw [hm]⟩
              · have hm := hm.trans (if_pos h_156)
                refine lv_iinc (v := (1 : Int32)) (lv' := [(2, .int (1 : Int32)), (1, .int (4 : Int32)), (0, .ref a.1)]) hx hb dX0_reset_59 hl (k := 0) rfl (by decide) (by decide) rfl (fun ls hl => ?_)
                refine lv_goto (tgt := 46) hx hb dX0_reset_62 (by decide) ?_
                refine lv_iload_n hx hb dX0_reset_46 rfl (lv_at hl 0 rfl) ?_
                refine lv_iconst (v := 2) hx hb dX0_reset_47 (by decide) ?_
                refine lv_icmp_ge (tgt := 65) hx hb dX0_reset_48 (by decide) (fun h => absurd h (by decide)) (fun _ => ?_)
                refine lv_aload_n hx hb dX0_reset_51 rfl (lv_at hl 2 rfl) ?_
                refine lv_iload_n hx hb dX0_reset_52 rfl (lv_at hl 0 rfl) ?_
                refine lv_iconst (v := 0) hx hb dX0_reset_53 (by decide) ?_
                refine lv_iconst (v := 0) hx hb dX0_reset_54 (by decide) ?_
                refine lv_iconst (v := 0) hx hb dX0_reset_55 (by decide) ?_
                refine cc_V hC hGx hD hEx hlocks (c_X0_putSpan l hl9 k a hD (1 : Int32) (0 : Int32) (0 : Int32) (0 : Int32) ((m_X0_putSpan (0 : Int32) (0 : Int32) (0 : Int32) (0 : Int32) (vp_updL (vp_updL (vp_updL (vp_updL z.1 (0 : Int32).toNatClampNeg (1008673 : Int64)) (1 : Int32).toNatClampNeg (1008673 : Int64)) (4 : Int32).toNatClampNeg (1008673 : Int64)) (5 : Int32).toNatClampNeg (1008673 : Int64), z.2.1, z.2.2.1, z.2.2.2.1, z.2.2.2.2.1, z.2.2.2.2.2)).2)) (gV w_82 w_83 w_6 w_26 w_84) kk_X0_putSpan rfl ⟨Nat.le_of_ble_eq_true rfl, Nat.le_of_ble_eq_true rfl⟩ ⟨Nat.le_of_ble_eq_true rfl, Nat.le_of_ble_eq_true rfl⟩ ⟨Nat.le_of_ble_eq_true rfl, Nat.le_of_ble_eq_true rfl⟩ hP hS hl.1 rfl rfl (Nat.le_of_ble_eq_true rfl) dX0_reset_56 (fun h_157 => ?_) (fun h_157 H locs hP hS => ?_)
                · have hm : m_X0_reset z = ((m_X0_putSpan (1 : Int32) (0 : Int32) (0 : Int32) (0 : Int32) ((m_X0_putSpan (0 : Int32) (0 : Int32) (0 : Int32) (0 : Int32) (vp_updL (vp_updL (vp_updL (vp_updL z.1 (0 : Int32).toNatClampNeg (1008673 : Int64)) (1 : Int32).toNatClampNeg (1008673 : Int64)) (4 : Int32).toNatClampNeg (1008673 : Int64)) (5 : Int32).toNatClampNeg (1008673 : Int64), z.2.1, z.2.2.1, z.2.2.2.1, z.2.2.2.2.1, z.2.2.2.2.2)).2)).1, 0, (m_X0_putSpan (1 : Int32) (0 : Int32) (0 : Int32) (0 : Int32) ((m_X0_putSpan (0 : Int32) (0 : Int32) (0 : Int32) (0 : Int32) (vp_updL (vp_updL (vp_updL (vp_updL z.1 (0 : Int32).toNatClampNeg (1008673 : Int64)) (1 : Int32).toNatClampNeg (1008673 : Int64)) (4 : Int32).toNatClampNeg (1008673 : Int64)) (5 : Int32).toNatClampNeg (1008673 : Int64), z.2.1, z.2.2.1, z.2.2.2.1, z.2.2.2.2.1, z.2.2.2.2.2)).2)).2) := hm.trans (if_neg h_157)
                  exact ⟨by rw [hm], by rw [hm]⟩
                · have hm := hm.trans (if_pos h_157)
                  refine lv_iinc (v := (2 : Int32)) (lv' := [(2, .int (2 : Int32)), (1, .int (4 : Int32)), (0, .ref a.1)]) hx hb dX0_reset_59 hl (k := 0) rfl (by decide) (by decide) rfl (fun ls hl => ?_)
                  refine lv_goto (tgt := 46) hx hb dX0_reset_62 (by decide) ?_
                  refine lv_iload_n hx hb dX0_reset_46 rfl (lv_at hl 0 rfl) ?_
                  refine lv_iconst (v := 2) hx hb dX0_reset_47 (by decide) ?_
                  refine lv_icmp_ge (tgt := 65) hx hb dX0_reset_48 (by decide) (fun _ => ?_) (fun h => absurd h (by decide))
                  refine lv_iload_n hx hb dX0_reset_65 rfl (lv_at hl 1 rfl) ?_
                  have hm : m_X0_reset z = (0, (4 : Int32), (m_X0_putSpan (1 : Int32) (0 : Int32) (0 : Int32) (0 : Int32) ((m_X0_putSpan (0 : Int32) (0 : Int32) (0 : Int32) (0 : Int32) (vp_updL (vp_updL (vp_updL (vp_updL z.1 (0 : Int32).toNatClampNeg (1008673 : Int64)) (1 : Int32).toNatClampNeg (1008673 : Int64)) (4 : Int32).toNatClampNeg (1008673 : Int64)) (5 : Int32).toNatClampNeg (1008673 : Int64), z.2.1, z.2.2.1, z.2.2.2.1, z.2.2.2.2.1, z.2.2.2.2.2)).2)).2) := hm
                  exact c_iret (E := (4 : Int32)) hx hb hr hlocks (by rw [hm]) (by rw [hm]) (by rw [hm]) hP hS ⟨Nat.le_of_ble_eq_true rfl, Nat.le_of_ble_eq_true rfl⟩ dX0_reset_66
        · have hm := hm.trans (if_neg h_146)
          refine lv_iinc (v := (3 : Int32)) (lv' := [(1, .int (3 : Int32)), (2, .int (3 : Int32)), (0, .ref a.1)]) hx hb dX0_reset_26 hl (k := 1) rfl (by decide) (by decide) rfl (fun ls hl => ?_)
          refine lv_aload_n hx hb dX0_reset_29 rfl (lv_at hl 2 rfl) ?_
          refine va_get (D := kD k) (ci := 2) (v := .ref a.2.1) (C := RX0) (T := TX0) (N := 6) hx hb htg inG_X0 hown hGx.1 hP 0 rfl rfl 0 (by decide) (htg _ w_57) (fun _ h9 => h9) rfl dX0_reset_30 ?_
          refine lv_iload_n hx hb dX0_reset_33 rfl (lv_at hl 1 rfl) ?_
          refine lv_ldc2 hx hb hown (htg _ w_56) dX0_reset_34 ?_
          refine va_last (D := kD k) hx hb hGx.1 hP (hD.own _ _) hS 1 0 rfl rfl (show ¬ ((3 : Int32) < 0 ∨ 6 ≤ ((3 : Int32)).toNatClampNeg) by decide) dX0_reset_37 (fun H locs hP1 _ hS => ?_)
          have hP : va_P (kD k) vwCl (cW k a (vp_updL (vp_updL (vp_updL z.1 (0 : Int32).toNatClampNeg (1008673 : Int64)) (1 : Int32).toNatClampNeg (1008673 : Int64)) (3 : Int32).toNatClampNeg (1008673 : Int64), z.2.1, z.2.2.1, z.2.2.2.1, z.2.2.2.2.1, z.2.2.2.2.2)) H := hP1
          refine lv_iinc (v := (4 : Int32)) (lv' := [(2, .int (4 : Int32)), (1, .int (3 : Int32)), (0, .ref a.1)]) hx hb dX0_reset_38 hl (k := 1) rfl (by decide) (by decide) rfl (fun ls hl => ?_)
          refine lv_goto (tgt := 4) hx hb dX0_reset_41 (by decide) ?_
          refine lv_iload_n hx hb dX0_reset_4 rfl (lv_at hl 0 rfl) ?_
          refine lv_aload_n hx hb dX0_reset_5 rfl (lv_at hl 2 rfl) ?_
          refine va_get (D := kD k) (ci := 2) (v := .ref a.2.1) (C := RX0) (T := TX0) (N := 6) hx hb htg inG_X0 hown hGx.1 hP 0 rfl rfl 0 (by decide) (htg _ w_57) (fun _ h9 => h9) rfl dX0_reset_6 ?_
          refine va_alen (D := kD k) (v := 6) hx hb hGx.1 hP 1 0 rfl rfl (show Int32.ofNat 6 = 6 by decide) dX0_reset_9 ?_
          refine lv_icmp_ge (tgt := 44) hx hb dX0_reset_10 (by decide) (fun h => absurd h (by decide)) (fun _ => ?_)
          refine lv_aload_n hx hb dX0_reset_13 rfl (lv_at hl 2 rfl) ?_
          refine va_get (D := kD k) (ci := 2) (v := .ref a.2.1) (C := RX0) (T := TX0) (N := 6) hx hb htg inG_X0 hown hGx.1 hP 0 rfl rfl 0 (by decide) (htg _ w_57) (fun _ h9 => h9) rfl dX0_reset_14 ?_
          refine lv_iload_n hx hb dX0_reset_17 rfl (lv_at hl 0 rfl) ?_
          refine va_lald (D := kD k) hx hb hGx.1 hP 1 0 rfl rfl (show ¬ ((4 : Int32) < 0 ∨ 6 ≤ ((4 : Int32)).toNatClampNeg) by decide) dX0_reset_18 ?_
          refine lv_ldc2 hx hb hown (htg _ w_56) dX0_reset_19 ?_
          refine W.lcmp hx hb dX0_reset_22 ?_
          refine lv_if_eq (tgt := 38) hx hb dX0_reset_23 (by decide) (fun h_158 => ?_) (fun h_158 => ?_)
          · have hm := hm.trans (if_pos h_158)
            refine lv_iinc (v := (5 : Int32)) (lv' := [(2, .int (5 : Int32)), (1, .int (3 : Int32)), (0, .ref a.1)]) hx hb dX0_reset_38 hl (k := 0) rfl (by decide) (by decide) rfl (fun ls hl => ?_)
            refine lv_goto (tgt := 4) hx hb dX0_reset_41 (by decide) ?_
            refine lv_iload_n hx hb dX0_reset_4 rfl (lv_at hl 0 rfl) ?_
            refine lv_aload_n hx hb dX0_reset_5 rfl (lv_at hl 2 rfl) ?_
            refine va_get (D := kD k) (ci := 2) (v := .ref a.2.1) (C := RX0) (T := TX0) (N := 6) hx hb htg inG_X0 hown hGx.1 hP 0 rfl rfl 0 (by decide) (htg _ w_57) (fun _ h9 => h9) rfl dX0_reset_6 ?_
            refine va_alen (D := kD k) (v := 6) hx hb hGx.1 hP 1 0 rfl rfl (show Int32.ofNat 6 = 6 by decide) dX0_reset_9 ?_
            refine lv_icmp_ge (tgt := 44) hx hb dX0_reset_10 (by decide) (fun h => absurd h (by decide)) (fun _ => ?_)
            refine lv_aload_n hx hb dX0_reset_13 rfl (lv_at hl 2 rfl) ?_
            refine va_get (D := kD k) (ci := 2) (v := .ref a.2.1) (C := RX0) (T := TX0) (N := 6) hx hb htg inG_X0 hown hGx.1 hP 0 rfl rfl 0 (by decide) (htg _ w_57) (fun _ h9 => h9) rfl dX0_reset_14 ?_
            refine lv_iload_n hx hb dX0_reset_17 rfl (lv_at hl 0 rfl) ?_
            refine va_lald (D := kD k) hx hb hGx.1 hP 1 0 rfl rfl (show ¬ ((5 : Int32) < 0 ∨ 6 ≤ ((5 : Int32)).toNatClampNeg) by decide) dX0_reset_18 ?_
            refine lv_ldc2 hx hb hown (htg _ w_56) dX0_reset_19 ?_
            refine W.lcmp hx hb dX0_reset_22 ?_
            refine lv_if_eq (tgt := 38) hx hb dX0_reset_23 (by decide) (fun h_159 => ?_) (fun h_159 => ?_)
            · have hm := hm.trans (if_pos h_159)
              refine lv_iinc (v := (6 : Int32)) (lv' := [(2, .int (6 : Int32)), (1, .int (3 : Int32)), (0, .ref a.1)]) hx hb dX0_reset_38 hl (k := 0) rfl (by decide) (by decide) rfl (fun ls hl => ?_)
              refine lv_goto (tgt := 4) hx hb dX0_reset_41 (by decide) ?_
              refine lv_iload_n hx hb dX0_reset_4 rfl (lv_at hl 0 rfl) ?_
              refine lv_aload_n hx hb dX0_reset_5 rfl (lv_at hl 2 rfl) ?_
              refine va_get (D := kD k) (ci := 2) (v := .ref a.2.1) (C := RX0) (T := TX0) (N := 6) hx hb htg inG_X0 hown hGx.1 hP 0 rfl rfl 0 (by decide) (htg _ w_57) (fun _ h9 => h9) rfl dX0_reset_6 ?_
              refine va_alen (D := kD k) (v := 6) hx hb hGx.1 hP 1 0 rfl rfl (show Int32.ofNat 6 = 6 by decide) dX0_reset_9 ?_
              refine lv_icmp_ge (tgt := 44) hx hb dX0_reset_10 (by decide) (fun _ => ?_) (fun h => absurd h (by decide))
              refine lv_iconst (v := 0) hx hb dX0_reset_44 (by decide) ?_
              refine lv_istore_n (lv' := [(2, .int (0 : Int32)), (1, .int (3 : Int32)), (0, .ref a.1)]) hx hb dX0_reset_45 rfl hl (by decide) rfl (fun ls hl => ?_)
              refine lv_iload_n hx hb dX0_reset_46 rfl (lv_at hl 0 rfl) ?_
              refine lv_iconst (v := 2) hx hb dX0_reset_47 (by decide) ?_
              refine lv_icmp_ge (tgt := 65) hx hb dX0_reset_48 (by decide) (fun h => absurd h (by decide)) (fun _ => ?_)
              refine lv_aload_n hx hb dX0_reset_51 rfl (lv_at hl 2 rfl) ?_
              refine lv_iload_n hx hb dX0_reset_52 rfl (lv_at hl 0 rfl) ?_
              refine lv_iconst (v := 0) hx hb dX0_reset_53 (by decide) ?_
              refine lv_iconst (v := 0) hx hb dX0_reset_54 (by decide) ?_
              refine lv_iconst (v := 0) hx hb dX0_reset_55 (by decide) ?_
              refine cc_V hC hGx hD hEx hlocks (c_X0_putSpan l hl9 k a hD (0 : Int32) (0 : Int32) (0 : Int32) (0 : Int32) (vp_updL (vp_updL (vp_updL z.1 (0 : Int32).toNatClampNeg (1008673 : Int64)) (1 : Int32).toNatClampNeg (1008673 : Int64)) (3 : Int32).toNatClampNeg (1008673 : Int64), z.2.1, z.2.2.1, z.2.2.2.1, z.2.2.2.2.1, z.2.2.2.2.2)) (gV w_82 w_83 w_6 w_26 w_84) kk_X0_putSpan rfl ⟨Nat.le_of_ble_eq_true rfl, Nat.le_of_ble_eq_true rfl⟩ ⟨Nat.le_of_ble_eq_true rfl, Nat.le_of_ble_eq_true rfl⟩ ⟨Nat.le_of_ble_eq_true rfl, Nat.le_of_ble_eq_true rfl⟩ hP hS hl.1 rfl rfl (Nat.le_of_ble_eq_true rfl) dX0_reset_56 (fun h_160 => ?_) (fun h_160 H locs hP hS => ?_)
              · have hm : m_X0_reset z = ((m_X0_putSpan (0 : Int32) (0 : Int32) (0 : Int32) (0 : Int32) (vp_updL (vp_updL (vp_updL z.1 (0 : Int32).toNatClampNeg (1008673 : Int64)) (1 : Int32).toNatClampNeg (1008673 : Int64)) (3 : Int32).toNatClampNeg (1008673 : Int64), z.2.1, z.2.2.1, z.2.2.2.1, z.2.2.2.2.1, z.2.2.2.2.2)).1, 0, (m_X0_putSpan (0 : Int32) (0 : Int32) (0 : Int32) (0 : Int32) (vp_updL (vp_updL (vp_updL z.1 (0 : Int32).toNatClampNeg (1008673 : Int64)) (1 : Int32).toNatClampNeg (1008673 : Int64)) (3 : Int32).toNatClampNeg (1008673 : Int64), z.2.1, z.2.2.1, z.2.2.2.1, z.2.2.2.2.1, z.2.2.2.2.2)).2) := hm.trans (if_neg h_160)
                exact ⟨by rw [hm], by rw [hm]⟩
              · have hm := hm.trans (if_pos h_160)
                refine lv_iinc (v := (1 : Int32)) (lv' := [(2, .int (1 : Int32)), (1, .int (3 : Int32)), (0, .ref a.1)]) hx hb dX0_reset_59 hl (k := 0) rfl (by decide) (by decide) rfl (fun ls hl => ?_)
                refine lv_goto (tgt := 46) hx hb dX0_reset_62 (by decide) ?_
                refine lv_iload_n hx hb dX0_reset_46 rfl (lv_at hl 0 rfl) ?_
                refine lv_iconst (v := 2) hx hb dX0_reset_47 (by decide) ?_
                refine lv_icmp_ge (tgt := 65) hx hb dX0_reset_48 (by decide) (fun h => absurd h (by decide)) (fun _ => ?_)
                refine lv_aload_n hx hb dX0_reset_51 rfl (lv_at hl 2 rfl) ?_
                refine lv_iload_n hx hb dX0_reset_52 rfl (lv_at hl 0 rfl) ?_
                refine lv_iconst (v := 0) hx hb dX0_reset_53 (by decide) ?_
                refine lv_iconst (v := 0) hx hb dX0_reset_54 (by decide) ?_
                refine lv_iconst (v := 0) hx hb dX0_reset_55 (by decide) ?_
                refine cc_V hC hGx hD hEx hlocks (c_X0_putSpan l hl9 k a hD (1 : Int32) (0 : Int32) (0 : Int32) (0 : Int32) ((m_X0_putSpan (0 : Int32) (0 : Int32) (0 : Int32) (0 : Int32) (vp_updL (vp_updL (vp_updL z.1 (0 : Int32).toNatClampNeg (1008673 : Int64)) (1 : Int32).toNatClampNeg (1008673 : Int64)) (3 : Int32).toNatClampNeg (1008673 : Int64), z.2.1, z.2.2.1, z.2.2.2.1, z.2.2.2.2.1, z.2.2.2.2.2)).2)) (gV w_82 w_83 w_6 w_26 w_84) kk_X0_putSpan rfl ⟨Nat.le_of_ble_eq_true rfl, Nat.le_of_ble_eq_true rfl⟩ ⟨Nat.le_of_ble_eq_true rfl, Nat.le_of_ble_eq_true rfl⟩ ⟨Nat.le_of_ble_eq_true rfl, Nat.le_of_ble_eq_true rfl⟩ hP hS hl.1 rfl rfl (Nat.le_of_ble_eq_true rfl) dX0_reset_56 (fun h_161 => ?_) (fun h_161 H locs hP hS => ?_)
                · have hm : m_X0_reset z = ((m_X0_putSpan (1 : Int32) (0 : Int32) (0 : Int32) (0 : Int32) ((m_X0_putSpan (0 : Int32) (0 : Int32) (0 : Int32) (0 : Int32) (vp_updL (vp_updL (vp_updL z.1 (0 : Int32).toNatClampNeg (1008673 : Int64)) (1 : Int32).toNatClampNeg (1008673 : Int64)) (3 : Int32).toNatClampNeg (1008673 : Int64), z.2.1, z.2.2.1, z.2.2.2.1, z.2.2.2.2.1, z.2.2.2.2.2)).2)).1, 0, (m_X0_putSpan (1 : Int32) (0 : Int32) (0 : Int32) (0 : Int32) ((m_X0_putSpan (0 : Int32) (0 : Int32) (0 : Int32) (0 : Int32) (vp_updL (vp_updL (vp_updL z.1 (0 : Int32).toNatClampNeg (1008673 : Int64)) (1 : Int32).toNatClampNeg (1008673 : Int64)) (3 : Int32).toNatClampNeg (1008673 : Int64), z.2.1, z.2.2.1, z.2.2.2.1, z.2.2.2.2.1, z.2.2.2.2.2)).2)).2) := hm.trans (if_neg h_161)
                  exact ⟨by rw [hm], by rw [hm]⟩
                · have hm := hm.trans (if_pos h_161)
                  refine lv_iinc (v := (2 : Int32)) (lv' := [(2, .int (2 : Int32)), (1, .int (3 : Int32)), (0, .ref a.1)]) hx hb dX0_reset_59 hl (k := 0) rfl (by decide) (by decide) rfl (fun ls hl => ?_)
                  refine lv_goto (tgt := 46) hx hb dX0_reset_62 (by decide) ?_
                  refine lv_iload_n hx hb dX0_reset_46 rfl (lv_at hl 0 rfl) ?_
                  refine lv_iconst (v := 2) hx hb dX0_reset_47 (by decide) ?_
                  refine lv_icmp_ge (tgt := 65) hx hb dX0_reset_48 (by decide) (fun _ => ?_) (fun h => absurd h (by decide))
                  refine lv_iload_n hx hb dX0_reset_65 rfl (lv_at hl 1 rfl) ?_
                  have hm : m_X0_reset z = (0, (3 : Int32), (m_X0_putSpan (1 : Int32) (0 : Int32) (0 : Int32) (0 : Int32) ((m_X0_putSpan (0 : Int32) (0 : Int32) (0 : Int32) (0 : Int32) (vp_updL (vp_updL (vp_updL z.1 (0 : Int32).toNatClampNeg (1008673 : Int64)) (1 : Int32).toNatClampNeg (1008673 : Int64)) (3 : Int32).toNatClampNeg (1008673 : Int64), z.2.1, z.2.2.1, z.2.2.2.1, z.2.2.2.2.1, z.2.2.2.2.2)).2)).2) := hm
                  exact c_iret (E := (3 : Int32)) hx hb hr hlocks (by rw [hm]) (by rw [hm]) (by rw [hm]) hP hS ⟨Nat.le_of_ble_eq_true rfl, Nat.le_of_ble_eq_true rfl⟩ dX0_reset_66
            · have hm := hm.trans (if_neg h_159)
              refine lv_iinc (v := (4 : Int32)) (lv' := [(1, .int (4 : Int32)), (2, .int (5 : Int32)), (0, .ref a.1)]) hx hb dX0_reset_26 hl (k := 1) rfl (by decide) (by decide) rfl (fun ls hl => ?_)
              refine lv_aload_n hx hb dX0_reset_29 rfl (lv_at hl 2 rfl) ?_
              refine va_get (D := kD k) (ci := 2) (v := .ref a.2.1) (C := RX0) (T := TX0) (N := 6) hx hb htg inG_X0 hown hGx.1 hP 0 rfl rfl 0 (by decide) (htg _ w_57) (fun _ h9 => h9) rfl dX0_reset_30 ?_
              refine lv_iload_n hx hb dX0_reset_33 rfl (lv_at hl 1 rfl) ?_
              refine lv_ldc2 hx hb hown (htg _ w_56) dX0_reset_34 ?_
              refine va_last (D := kD k) hx hb hGx.1 hP (hD.own _ _) hS 1 0 rfl rfl (show ¬ ((5 : Int32) < 0 ∨ 6 ≤ ((5 : Int32)).toNatClampNeg) by decide) dX0_reset_37 (fun H locs hP1 _ hS => ?_)
              have hP : va_P (kD k) vwCl (cW k a (vp_updL (vp_updL (vp_updL (vp_updL z.1 (0 : Int32).toNatClampNeg (1008673 : Int64)) (1 : Int32).toNatClampNeg (1008673 : Int64)) (3 : Int32).toNatClampNeg (1008673 : Int64)) (5 : Int32).toNatClampNeg (1008673 : Int64), z.2.1, z.2.2.1, z.2.2.2.1, z.2.2.2.2.1, z.2.2.2.2.2)) H := hP1
              refine lv_iinc (v := (6 : Int32)) (lv' := [(2, .int (6 : Int32)), (1, .int (4 : Int32)), (0, .ref a.1)]) hx hb dX0_reset_38 hl (k := 1) rfl (by decide) (by decide) rfl (fun ls hl => ?_)
              refine lv_goto (tgt := 4) hx hb dX0_reset_41 (by decide) ?_
              refine lv_iload_n hx hb dX0_reset_4 rfl (lv_at hl 0 rfl) ?_
              refine lv_aload_n hx hb dX0_reset_5 rfl (lv_at hl 2 rfl) ?_
              refine va_get (D := kD k) (ci := 2) (v := .ref a.2.1) (C := RX0) (T := TX0) (N := 6) hx hb htg inG_X0 hown hGx.1 hP 0 rfl rfl 0 (by decide) (htg _ w_57) (fun _ h9 => h9) rfl dX0_reset_6 ?_
              refine va_alen (D := kD k) (v := 6) hx hb hGx.1 hP 1 0 rfl rfl (show Int32.ofNat 6 = 6 by decide) dX0_reset_9 ?_
              refine lv_icmp_ge (tgt := 44) hx hb dX0_reset_10 (by decide) (fun _ => ?_) (fun h => absurd h (by decide))
              refine lv_iconst (v := 0) hx hb dX0_reset_44 (by decide) ?_
              refine lv_istore_n (lv' := [(2, .int (0 : Int32)), (1, .int (4 : Int32)), (0, .ref a.1)]) hx hb dX0_reset_45 rfl hl (by decide) rfl (fun ls hl => ?_)
              refine lv_iload_n hx hb dX0_reset_46 rfl (lv_at hl 0 rfl) ?_
              refine lv_iconst (v := 2) hx hb dX0_reset_47 (by decide) ?_
              refine lv_icmp_ge (tgt := 65) hx hb dX0_reset_48 (by decide) (fun h => absurd h (by decide)) (fun _ => ?_)
              refine lv_aload_n hx hb dX0_reset_51 rfl (lv_at hl 2 rfl) ?_
              refine lv_iload_n hx hb dX0_reset_52 rfl (lv_at hl 0 rfl) ?_
              refine lv_iconst (v := 0) hx hb dX0_reset_53 (by decide) ?_
              refine lv_iconst (v := 0) hx hb dX0_reset_54 (by decide) ?_
              refine lv_iconst (v := 0) hx hb dX0_reset_55 (by decide) ?_
              refine cc_V hC hGx hD hEx hlocks (c_X0_putSpan l hl9 k a hD (0 : Int32) (0 : Int32) (0 : Int32) (0 : Int32) (vp_updL (vp_updL (vp_updL (vp_updL z.1 (0 : Int32).toNatClampNeg (1008673 : Int64)) (1 : Int32).toNatClampNeg (1008673 : Int64)) (3 : Int32).toNatClampNeg (1008673 : Int64)) (5 : Int32).toNatClampNeg (1008673 : Int64), z.2.1, z.2.2.1, z.2.2.2.1, z.2.2.2.2.1, z.2.2.2.2.2)) (gV w_82 w_83 w_6 w_26 w_84) kk_X0_putSpan rfl ⟨Nat.le_of_ble_eq_true rfl, Nat.le_of_ble_eq_true rfl⟩ ⟨Nat.le_of_ble_eq_true rfl, Nat.le_of_ble_eq_true rfl⟩ ⟨Nat.le_of_ble_eq_true rfl, Nat.le_of_ble_eq_true rfl⟩ hP hS hl.1 rfl rfl (Nat.le_of_ble_eq_true rfl) dX0_reset_56 (fun h_162 => ?_) (fun h_162 H locs hP hS => ?_)
              · have hm : m_X0_reset z = ((m_X0_putSpan (0 : Int32) (0 : Int32) (0 : Int32) (0 : Int32) (vp_updL (vp_updL (vp_updL (vp_updL z.1 (0 : Int32).toNatClampNeg (1008673 : Int64)) (1 : Int32).toNatClampNeg (1008673 : Int64)) (3 : Int32).toNatClampNeg (1008673 : Int64)) (5 : Int32).toNatClampNeg (1008673 : Int64), z.2.1, z.2.2.1, z.2.2.2.1, z.2.2.2.2.1, z.2.2.2.2.2)).1, 0, (m_X0_putSpan (0 : Int32) (0 : Int32) (0 : Int32) (0 : Int32) (vp_updL (vp_updL (vp_updL (vp_updL z.1 (0 : Int32).toNatClampNeg (1008673 : Int64)) (1 : Int32).toNatClampNeg (1008673 : Int64)) (3 : Int32).toNatClampNeg (1008673 : Int64)) (5 : Int32).toNatClampNeg (1008673 : Int64), z.2.1, z.2.2.1, z.2.2.2.1, z.2.2.2.2.1, z.2.2.2.2.2)).2) := hm.trans (if_neg h_162)
                exact ⟨by rw [hm], by rw [hm]⟩
              · have hm := hm.trans (if_pos h_162)
                refine lv_iinc (v := (1 : Int32)) (lv' := [(2, .int (1 : Int32)), (1, .int (4 : Int32)), (0, .ref a.1)]) hx hb dX0_reset_59 hl (k := 0) rfl (by decide) (by decide) rfl (fun ls hl => ?_)
                refine lv_goto (tgt := 46) hx hb dX0_reset_62 (by decide) ?_
                refine lv_iload_n hx hb dX0_reset_46 rfl (lv_at hl 0 rfl) ?_
                refine lv_iconst (v := 2) hx hb dX0_reset_47 (by decide) ?_
                refine lv_icmp_ge (tgt := 65) hx hb dX0_reset_48 (by decide) (fun h => absurd h (by decide)) (fun _ => ?_)
                refine lv_aload_n hx hb dX0_reset_51 rfl (lv_at hl 2 rfl) ?_
                refine lv_iload_n hx hb dX0_reset_52 rfl (lv_at hl 0 rfl) ?_
                refine lv_iconst (v := 0) hx hb dX0_reset_53 (by decide) ?_
                refine lv_iconst (v := 0) hx hb dX0_reset_54 (by decide) ?_
                refine lv_iconst (v := 0) hx hb dX0_reset_55 (by decide) ?_
                refine cc_V hC hGx hD hEx hlocks (c_X0_putSpan l hl9 k a hD (1 : Int32) (0 : Int32) (0 : Int32) (0 : Int32) ((m_X0_putSpan (0 : Int32) (0 : Int32) (0 : Int32) (0 : Int32) (vp_updL (vp_updL (vp_updL (vp_updL z.1 (0 : Int32).toNatClampNeg (1008673 : Int64)) (1 : Int32).toNatClampNeg (1008673 : Int64)) (3 : Int32).toNatClampNeg (1008673 : Int64)) (5 : Int32).toNatClampNeg (1008673 : Int64), z.2.1, z.2.2.1, z.2.2.2.1, z.2.2.2.2.1, z.2.2.2.2.2)).2)) (gV w_82 w_83 w_6 w_26 w_84) kk_X0_putSpan rfl ⟨Nat.le_of_ble_eq_true rfl, Nat.le_of_ble_eq_true rfl⟩ ⟨Nat.le_of_ble_eq_true rfl, Nat.le_of_ble_eq_true rfl⟩ ⟨Nat.le_of_ble_eq_true rfl, Nat.le_of_ble_eq_true rfl⟩ hP hS hl.1 rfl rfl (Nat.le_of_ble_eq_true rfl) dX0_reset_56 (fun h_163 => ?_) (fun h_163 H locs hP hS => ?_)
                · have hm : m_X0_reset z = ((m_X0_putSpan (1 : Int32) (0 : Int32) (0 : Int32) (0 : Int32) ((m_X0_putSpan (0 : Int32) (0 : Int32) (0 : Int32) (0 : Int32) (vp_updL (vp_updL (vp_updL (vp_updL z.1 (0 : Int32).toNatClampNeg (1008673 : Int64)) (1 : Int32).toNatClampNeg (1008673 : Int64)) (3 : Int32).toNatClampNeg (1008673 : Int64)) (5 : Int32).toNatClampNeg (1008673 : Int64), z.2.1, z.2.2.1, z.2.2.2.1, z.2.2.2.2.1, z.2.2.2.2.2)).2)).1, 0, (m_X0_putSpan (1 : Int32) (0 : Int32) (0 : Int32) (0 : Int32) ((m_X0_putSpan (0 : Int32) (0 : Int32) (0 : Int32) (0 : Int32) (vp_updL (vp_updL (vp_updL (vp_updL z.1 (0 : Int32).toNatClampNeg (1008673 : Int64)) (1 : Int32).toNatClampNeg (1008673 : Int64)) (3 : Int32).toNatClampNeg (1008673 : Int64)) (5 : Int32).toNatClampNeg (1008673 : Int64), z.2.1, z.2.2.1, z.2.2.2.1, z.2.2.2.2.1, z.2.2.2.2.2)).2)).2) := hm.trans (if_neg h_163)
                  exact ⟨by rw [hm], by rw [hm]⟩
                · have hm := hm.trans (if_pos h_163)
                  refine lv_iinc (v := (2 : Int32)) (lv' := [(2, .int (2 : Int32)), (1, .int (4 : Int32)), (0, .ref a.1)]) hx hb dX0_reset_59 hl (k := 0) rfl (by decide) (by decide) rfl (fun ls hl => ?_)
                  refine lv_goto (tgt := 46) hx hb dX0_reset_62 (by decide) ?_
                  refine lv_iload_n hx hb dX0_reset_46 rfl (lv_at hl 0 rfl) ?_
                  refine lv_iconst (v := 2) hx hb dX0_reset_47 (by decide) ?_
                  refine lv_icmp_ge (tgt := 65) hx hb dX0_reset_48 (by decide) (fun _ => ?_) (fun h => absurd h (by decide))
                  refine lv_iload_n hx hb dX0_reset_65 rfl (lv_at hl 1 rfl) ?_
                  have hm : m_X0_reset z = (0, (4 : Int32), (m_X0_putSpan (1 : Int32) (0 : Int32) (0 : Int32) (0 : Int32) ((m_X0_putSpan (0 : Int32) (0 : Int32) (0 : Int32) (0 : Int32) (vp_updL (vp_updL (vp_updL (vp_updL z.1 (0 : Int32).toNatClampNeg (1008673 : Int64)) (1 : Int32).toNatClampNeg (1008673 : Int64)) (3 : Int32).toNatClampNeg (1008673 : Int64)) (5 : Int32).toNatClampNeg (1008673 : Int64), z.2.1, z.2.2.1, z.2.2.2.1, z.2.2.2.2.1, z.2.2.2.2.2)).2)).2) := hm
                  exact c_iret (E := (4 : Int32)) hx hb hr hlocks (by rw [hm]) (by rw [hm]) (by rw [hm]) hP hS ⟨Nat.le_of_ble_eq_true rfl, Nat.le_of_ble_eq_true rfl⟩ dX0_reset_66
          · have hm := hm.trans (if_neg h_158)
            refine lv_iinc (v := (4 : Int32)) (lv' := [(1, .int (4 : Int32)), (2, .int (4 : Int32)), (0, .ref a.1)]) hx hb dX0_reset_26 hl (k := 1) rfl (by decide) (by decide) rfl (fun ls hl => ?_)
            refine lv_aload_n hx hb dX0_reset_29 rfl (lv_at hl 2 rfl) ?_
            refine va_get (D := kD k) (ci := 2) (v := .ref a.2.1) (C := RX0) (T := TX0) (N := 6) hx hb htg inG_X0 hown hGx.1 hP 0 rfl rfl 0 (by decide) (htg _ w_57) (fun _ h9 => h9) rfl dX0_reset_30 ?_
            refine lv_iload_n hx hb dX0_reset_33 rfl (lv_at hl 1 rfl) ?_
            refine lv_ldc2 hx hb hown (htg _ w_56) dX0_reset_34 ?_
            refine va_last (D := kD k) hx hb hGx.1 hP (hD.own _ _) hS 1 0 rfl rfl (show ¬ ((4 : Int32) < 0 ∨ 6 ≤ ((4 : Int32)).toNatClampNeg) by decide) dX0_reset_37 (fun H locs hP1 _ hS => ?_)
            have hP : va_P (kD k) vwCl (cW k a (vp_updL (vp_updL (vp_updL (vp_updL z.1 (0 : Int32).toNatClampNeg (1008673 : Int64)) (1 : Int32).toNatClampNeg (1008673 : Int64)) (3 : Int32).toNatClampNeg (1008673 : Int64)) (4 : Int32).toNatClampNeg (1008673 : Int64), z.2.1, z.2.2.1, z.2.2.2.1, z.2.2.2.2.1, z.2.2.2.2.2)) H := hP1
            refine lv_iinc (v := (5 : Int32)) (lv' := [(2, .int (5 : Int32)), (1, .int (4 : Int32)), (0, .ref a.1)]) hx hb dX0_reset_38 hl (k := 1) rfl (by decide) (by decide) rfl (fun ls hl => ?_)
            refine lv_goto (tgt := 4) hx hb dX0_reset_41 (by decide) ?_
            refine lv_iload_n hx hb dX0_reset_4 rfl (lv_at hl 0 rfl) ?_
            refine lv_aload_n hx hb dX0_reset_5 rfl (lv_at hl 2 rfl) ?_
            refine va_get (D := kD k) (ci := 2) (v := .ref a.2.1) (C := RX0) (T := TX0) (N := 6) hx hb htg inG_X0 hown hGx.1 hP 0 rfl rfl 0 (by decide) (htg _ w_57) (fun _ h9 => h9) rfl dX0_reset_6 ?_
            refine va_alen (D := kD k) (v := 6) hx hb hGx.1 hP 1 0 rfl rfl (show Int32.ofNat 6 = 6 by decide) dX0_reset_9 ?_
            refine lv_icmp_ge (tgt := 44) hx hb dX0_reset_10 (by decide) (fun h => absurd h (by decide)) (fun _ => ?_)
            refine lv_aload_n hx hb dX0_reset_13 rfl (lv_at hl 2 rfl) ?_
            refine va_get (D := kD k) (ci := 2) (v := .ref a.2.1) (C := RX0) (T := TX0) (N := 6) hx hb htg inG_X0 hown hGx.1 hP 0 rfl rfl 0 (by decide) (htg _ w_57) (fun _ h9 => h9) rfl dX0_reset_14 ?_
            refine lv_iload_n hx hb dX0_reset_17 rfl (lv_at hl 0 rfl) ?_
            refine va_lald (D := kD k) hx hb hGx.1 hP 1 0 rfl rfl (show ¬ ((5 : Int32) < 0 ∨ 6 ≤ ((5 : Int32)).toNatClampNeg) by decide) dX0_reset_18 ?_
            refine lv_ldc2 hx hb hown (htg _ w_56) dX0_reset_19 ?_
            refine W.lcmp hx hb dX0_reset_22 ?_
            refine lv_if_eq (tgt := 38) hx hb dX0_reset_23 (by decide) (fun h_164 => ?_) (fun h_164 => ?_)
            · have hm := hm.trans (if_pos h_164)
              refine lv_iinc (v := (6 : Int32)) (lv' := [(2, .int (6 : Int32)), (1, .int (4 : Int32)), (0, .ref a.1)]) hx hb dX0_reset_38 hl (k := 0) rfl (by decide) (by decide) rfl (fun ls hl => ?_)
              refine lv_goto (tgt := 4) hx hb dX0_reset_41 (by decide) ?_
              refine lv_iload_n hx hb dX0_reset_4 rfl (lv_at hl 0 rfl) ?_
              refine lv_aload_n hx hb dX0_reset_5 rfl (lv_at hl 2 rfl) ?_
              refine va_get (D := kD k) (ci := 2) (v := .ref a.2.1) (C := RX0) (T := TX0) (N := 6) hx hb htg inG_X0 hown hGx.1 hP 0 rfl rfl 0 (by decide) (htg _ w_57) (fun _ h9 => h9) rfl dX0_reset_6 ?_
              refine va_alen (D := kD k) (v := 6) hx hb hGx.1 hP 1 0 rfl rfl (show Int32.ofNat 6 = 6 by decide) dX0_reset_9 ?_
              refine lv_icmp_ge (tgt := 44) hx hb dX0_reset_10 (by decide) (fun _ => ?_) (fun h => absurd h (by decide))
              refine lv_iconst (v := 0) hx hb dX0_reset_44 (by decide) ?_
              refine lv_istore_n (lv' := [(2, .int (0 : Int32)), (1, .int (4 : Int32)), (0, .ref a.1)]) hx hb dX0_reset_45 rfl hl (by decide) rfl (fun ls hl => ?_)
              refine lv_iload_n hx hb dX0_reset_46 rfl (lv_at hl 0 rfl) ?_
              refine lv_iconst (v := 2) hx hb dX0_reset_47 (by decide) ?_
              refine lv_icmp_ge (tgt := 65) hx hb dX0_reset_48 (by decide) (fun h => absurd h (by decide)) (fun _ => ?_)
              refine lv_aload_n hx hb dX0_reset_51 rfl (lv_at hl 2 rfl) ?_
              refine lv_iload_n hx hb dX0_reset_52 rfl (lv_at hl 0 rfl) ?_
              refine lv_iconst (v := 0) hx hb dX0_reset_53 (by decide) ?_
              refine lv_iconst (v := 0) hx hb dX0_reset_54 (by decide) ?_
              refine lv_iconst (v := 0) hx hb dX0_reset_55 (by decide) ?_
              refine cc_V hC hGx hD hEx hlocks (c_X0_putSpan l hl9 k a hD (0 : Int32) (0 : Int32) (0 : Int32) (0 : Int32) (vp_updL (vp_updL (vp_updL (vp_updL z.1 (0 : Int32).toNatClampNeg (1008673 : Int64)) (1 : Int32).toNatClampNeg (1008673 : Int64)) (3 : Int32).toNatClampNeg (1008673 : Int64)) (4 : Int32).toNatClampNeg (1008673 : Int64), z.2.1, z.2.2.1, z.2.2.2.1, z.2.2.2.2.1, z.2.2.2.2.2)) (gV w_82 w_83 w_6 w_26 w_84) kk_X0_putSpan rfl ⟨Nat.le_of_ble_eq_true rfl, Nat.le_of_ble_eq_true rfl⟩ ⟨Nat.le_of_ble_eq_true rfl, Nat.le_of_ble_eq_true rfl⟩ ⟨Nat.le_of_ble_eq_true rfl, Nat.le_of_ble_eq_true rfl⟩ hP hS hl.1 rfl rfl (Nat.le_of_ble_eq_true rfl) dX0_reset_56 (fun h_165 => ?_) (fun h_165 H locs hP hS => ?_)
              · have hm : m_X0_reset z = ((m_X0_putSpan (0 : Int32) (0 : Int32) (0 : Int32) (0 : Int32) (vp_updL (vp_updL (vp_updL (vp_updL z.1 (0 : Int32).toNatClampNeg (1008673 : Int64)) (1 : Int32).toNatClampNeg (1008673 : Int64)) (3 : Int32).toNatClampNeg (1008673 : Int64)) (4 : Int32).toNatClampNeg (1008673 : Int64), z.2.1, z.2.2.1, z.2.2.2.1, z.2.2.2.2.1, z.2.2.2.2.2)).1, 0, (m_X0_putSpan (0 : Int32) (0 : Int32) (0 : Int32) (0 : Int32) (vp_updL (vp_updL (vp_updL (vp_updL z.1 (0 : Int32).toNatClampNeg (1008673 : Int64)) (1 : Int32).toNatClampNeg (1008673 : Int64)) (3 : Int32).toNatClampNeg (1008673 : Int64)) (4 : Int32).toNatClampNeg (1008673 : Int64), z.2.1, z.2.2.1, z.2.2.2.1, z.2.2.2.2.1, z.2.2.2.2.2)).2) := hm.trans (if_neg h_165)
                exact ⟨by rw [hm], by rw [hm]⟩
              · have hm := hm.trans (if_pos h_165)
                refine lv_iinc (v := (1 : Int32)) (lv' := [(2, .int (1 : Int32)), (1, .int (4 : Int32)), (0, .ref a.1)]) hx hb dX0_reset_59 hl (k := 0) rfl (by decide) (by decide) rfl (fun ls hl => ?_)
                refine lv_goto (tgt := 46) hx hb dX0_reset_62 (by decide) ?_
                refine lv_iload_n hx hb dX0_reset_46 rfl (lv_at hl 0 rfl) ?_
                refine lv_iconst (v := 2) hx hb dX0_reset_47 (by decide) ?_
                refine lv_icmp_ge (tgt := 65) hx hb dX0_reset_48 (by decide) (fun h => absurd h (by decide)) (fun _ => ?_)
                refine lv_aload_n hx hb dX0_reset_51 rfl (lv_at hl 2 rfl) ?_
                refine lv_iload_n hx hb dX0_reset_52 rfl (lv_at hl 0 rfl) ?_
                refine lv_iconst (v := 0) hx hb dX0_reset_53 (by decide) ?_
                refine lv_iconst (v := 0) hx hb dX0_reset_54 (by decide) ?_
                refine lv_iconst (v := 0) hx hb dX0_reset_55 (by decide) ?_
                refine cc_V hC hGx hD hEx hlocks (c_X0_putSpan l hl9 k a hD (1 : Int32) (0 : Int32) (0 : Int32) (0 : Int32) ((m_X0_putSpan (0 : Int32) (0 : Int32) (0 : Int32) (0 : Int32) (vp_updL (vp_updL (vp_updL (vp_updL z.1 (0 : Int32).toNatClampNeg (1008673 : Int64)) (1 : Int32).toNatClampNeg (1008673 : Int64)) (3 : Int32).toNatClampNeg (1008673 : Int64)) (4 : Int32).toNatClampNeg (1008673 : Int64), z.2.1, z.2.2.1, z.2.2.2.1, z.2.2.2.2.1, z.2.2.2.2.2)).2)) (gV w_82 w_83 w_6 w_26 w_84) kk_X0_putSpan rfl ⟨Nat.le_of_ble_eq_true rfl, Nat.le_of_ble_eq_true rfl⟩ ⟨Nat.le_of_ble_eq_true rfl, Nat.le_of_ble_eq_true rfl⟩ ⟨Nat.le_of_ble_eq_true rfl, Nat.le_of_ble_eq_true rfl⟩ hP hS hl.1 rfl rfl (Nat.le_of_ble_eq_true rfl) dX0_reset_56 (fun h_166 => ?_) (fun h_166 H locs hP hS => ?_)
                · have hm : m_X0_reset z = ((m_X0_putSpan (1 : Int32) (0 : Int32) (0 : Int32) (0 : Int32) ((m_X0_putSpan (0 : Int32) (0 : Int32) (0 : Int32) (0 : Int32) (vp_updL (vp_updL (vp_updL (vp_updL z.1 (0 : Int32).toNatClampNeg (1008673 : Int64)) (1 : Int32).toNatClampNeg (1008673 : Int64)) (3 : Int32).toNatClampNeg (1008673 : Int64)) (4 : Int32).toNatClampNeg (1008673 : Int64), z.2.1, z.2.2.1, z.2.2.2.1, z.2.2.2.2.1, z.2.2.2.2.2)).2)).1, 0, (m_X0_putSpan (1 : Int32) (0 : Int32) (0 : Int32) (0 : Int32) ((m_X0_putSpan (0 : Int32) (0 : Int32) (0 : Int32) (0 : Int32) (vp_updL (vp_updL (vp_updL (vp_updL z.1 (0 : Int32).toNatClampNeg (1008673 : Int64)) (1 : Int32).toNatClampNeg (1008673 : Int64)) (3 : Int32).toNatClampNeg (1008673 : Int64)) (4 : Int32).toNatClampNeg (1008673 : Int64), z.2.1, z.2.2.1, z.2.2.2.1, z.2.2.2.2.1, z.2.2.2.2.2)).2)).2) := hm.trans (if_neg h_166)
                  exact ⟨by rw [hm], by rw [hm]⟩
                · have hm := hm.trans (if_pos h_166)
                  refine lv_iinc (v := (2 : Int32)) (lv' := [(2, .int (2 : Int32)), (1, .int (4 : Int32)), (0, .ref a.1)]) hx hb dX0_reset_59 hl (k := 0) rfl (by decide) (by decide) rfl (fun ls hl => ?_)
                  refine lv_goto (tgt := 46) hx hb dX0_reset_62 (by decide) ?_
                  refine lv_iload_n hx hb dX0_reset_46 rfl (lv_at hl 0 rfl) ?_
                  refine lv_iconst (v := 2) hx hb dX0_reset_47 (by decide) ?_
                  refine lv_icmp_ge (tgt := 65) hx hb dX0_reset_48 (by decide) (fun _ => ?_) (fun h => absurd h (by decide))
                  refine lv_iload_n hx hb dX0_reset_65 rfl (lv_at hl 1 rfl) ?_
                  have hm : m_X0_reset z = (0, (4 : Int32), (m_X0_putSpan (1 : Int32) (0 : Int32) (0 : Int32) (0 : Int32) ((m_X0_putSpan (0 : Int32) (0 : Int32) (0 : Int32) (0 : Int32) (vp_updL (vp_updL (vp_updL (vp_updL z.1 (0 : Int32).toNatClampNeg (1008673 : Int64)) (1 : Int32).toNatClampNeg (1008673 : Int64)) (3 : Int32).toNatClampNeg (1008673 : Int64)) (4 : Int32).toNatClampNeg (1008673 : Int64), z.2.1, z.2.2.1, z.2.2.2.1, z.2.2.2.2.1, z.2.2.2.2.2)).2)).2) := hm
                  exact c_iret (E := (4 : Int32)) hx hb hr hlocks (by rw [hm]) (by rw [hm]) (by rw [hm]) hP hS ⟨Nat.le_of_ble_eq_true rfl, Nat.le_of_ble_eq_true rfl⟩ dX0_reset_66
            · have hm := hm.trans (if_neg h_164)
              refine lv_iinc (v := (5 : Int32)) (lv' := [(1, .int (5 : Int32)), (2, .int (5 : Int32)), (0, .ref a.1)]) hx hb dX0_reset_26 hl (k := 1) rfl (by decide) (by decide) rfl (fun ls hl => ?_)
              refine lv_aload_n hx hb dX0_reset_29 rfl (lv_at hl 2 rfl) ?_
              refine va_get (D := kD k) (ci := 2) (v := .ref a.2.1) (C := RX0) (T := TX0) (N := 6) hx hb htg inG_X0 hown hGx.1 hP 0 rfl rfl 0 (by decide) (htg _ w_57) (fun _ h9 => h9) rfl dX0_reset_30 ?_
              refine lv_iload_n hx hb dX0_reset_33 rfl (lv_at hl 1 rfl) ?_
              refine lv_ldc2 hx hb hown (htg _ w_56) dX0_reset_34 ?_
              refine va_last (D := kD k) hx hb hGx.1 hP (hD.own _ _) hS 1 0 rfl rfl (show ¬ ((5 : Int32) < 0 ∨ 6 ≤ ((5 : Int32)).toNatClampNeg) by decide) dX0_reset_37 (fun H locs hP1 _ hS => ?_)
              have hP : va_P (kD k) vwCl (cW k a (vp_updL (vp_updL (vp_updL (vp_updL (vp_updL z.1 (0 : Int32).toNatClampNeg (1008673 : Int64)) (1 : Int32).toNatClampNeg (1008673 : Int64)) (3 : Int32).toNatClampNeg (1008673 : Int64)) (4 : Int32).toNatClampNeg (1008673 : Int64)) (5 : Int32).toNatClampNeg (1008673 : Int64), z.2.1, z.2.2.1, z.2.2.2.1, z.2.2.2.2.1, z.2.2.2.2.2)) H := hP1
              refine lv_iinc (v := (6 : Int32)) (lv' := [(2, .int (6 : Int32)), (1, .int (5 : Int32)), (0, .ref a.1)]) hx hb dX0_reset_38 hl (k := 1) rfl (by decide) (by decide) rfl (fun ls hl => ?_)
              refine lv_goto (tgt := 4) hx hb dX0_reset_41 (by decide) ?_
              refine lv_iload_n hx hb dX0_reset_4 rfl (lv_at hl 0 rfl) ?_
              refine lv_aload_n hx hb dX0_reset_5 rfl (lv_at hl 2 rfl) ?_
              refine va_get (D := kD k) (ci := 2) (v := .ref a.2.1) (C := RX0) (T := TX0) (N := 6) hx hb htg inG_X0 hown hGx.1 hP 0 rfl rfl 0 (by decide) (htg _ w_57) (fun _ h9 => h9) rfl dX0_reset_6 ?_
              refine va_alen (D := kD k) (v := 6) hx hb hGx.1 hP 1 0 rfl rfl (show Int32.ofNat 6 = 6 by decide) dX0_reset_9 ?_
              refine lv_icmp_ge (tgt := 44) hx hb dX0_reset_10 (by decide) (fun _ => ?_) (fun h => absurd h (by decide))
              refine lv_iconst (v := 0) hx hb dX0_reset_44 (by decide) ?_
              refine lv_istore_n (lv' := [(2, .int (0 : Int32)), (1, .int (5 : Int32)), (0, .ref a.1)]) hx hb dX0_reset_45 rfl hl (by decide) rfl (fun ls hl => ?_)
              refine lv_iload_n hx hb dX0_reset_46 rfl (lv_at hl 0 rfl) ?_
              refine lv_iconst (v := 2) hx hb dX0_reset_47 (by decide) ?_
              refine lv_icmp_ge (tgt := 65) hx hb dX0_reset_48 (by decide) (fun h => absurd h (by decide)) (fun _ => ?_)
              refine lv_aload_n hx hb dX0_reset_51 rfl (lv_at hl 2 rfl) ?_
              refine lv_iload_n hx hb dX0_reset_52 rfl (lv_at hl 0 rfl) ?_
              refine lv_iconst (v := 0) hx hb dX0_reset_53 (by decide) ?_
              refine lv_iconst (v := 0) hx hb dX0_reset_54 (by decide) ?_
              refine lv_iconst (v := 0) hx hb dX0_reset_55 (by decide) ?_
              refine cc_V hC hGx hD hEx hlocks (c_X0_putSpan l hl9 k a hD (0 : Int32) (0 : Int32) (0 : Int32) (0 : Int32) (vp_updL (vp_updL (vp_updL (vp_updL (vp_updL z.1 (0 : Int32).toNatClampNeg (1008673 : Int64)) (1 : Int32).toNatClampNeg (1008673 : Int64)) (3 : Int32).toNatClampNeg (1008673 : Int64)) (4 : Int32).toNatClampNeg (1008673 : Int64)) (5 : Int32).toNatClampNeg (1008673 : Int64), z.2.1, z.2.2.1, z.2.2.2.1, z.2.2.2.2.1, z.2.2.2.2.2)) (gV w_82 w_83 w_6 w_26 w_84) kk_X0_putSpan rfl ⟨Nat.le_of_ble_eq_true rfl, Nat.le_of_ble_eq_true rfl⟩ ⟨Nat.le_of_ble_eq_true rfl, Nat.le_of_ble_eq_true rfl⟩ ⟨Nat.le_of_ble_eq_true rfl, Nat.le_of_ble_eq_true rfl⟩ hP hS hl.1 rfl rfl (Nat.le_of_ble_eq_true rfl) dX0_reset_56 (fun h_167 => ?_) (fun h_167 H locs hP hS => ?_)
              · have hm : m_X0_reset z = ((m_X0_putSpan (0 : Int32) (0 : Int32) (0 : Int32) (0 : Int32) (vp_updL (vp_updL (vp_updL (vp_updL (vp_updL z.1 (0 : Int32).toNatClampNeg (1008673 : Int64)) (1 : Int32).toNatClampNeg (1008673 : Int64)) (3 : Int32).toNatClampNeg (1008673 : Int64)) (4 : Int32).toNatClampNeg (1008673 : Int64)) (5 : Int32).toNatClampNeg (1008673 : Int64), z.2.1, z.2.2.1, z.2.2.2.1, z.2.2.2.2.1, z.2.2.2.2.2)).1, 0, (m_X0_putSpan (0 : Int32) (0 : Int32) (0 : Int32) (0 : Int32) (vp_updL (vp_updL (vp_updL (vp_updL (vp_updL z.1 (0 : Int32).toNatClampNeg (1008673 : Int64)) (1 : Int32).toNatClampNeg (1008673 : Int64)) (3 : Int32).toNatClampNeg (1008673 : Int64)) (4 : Int32).toNatClampNeg (1008673 : Int64)) (5 : Int32).toNatClampNeg (1008673 : Int64), z.2.1, z.2.2.1, z.2.2.2.1, z.2.2.2.2.1, z.2.2.2.2.2)).2) := hm.trans (if_neg h_167)
                exact ⟨by rw [hm], by rw [hm]⟩
              · have hm := hm.trans (if_pos h_167)
                refine lv_iinc (v := (1 : Int32)) (lv' := [(2, .int (1 : Int32)), (1, .int (5 : Int32)), (0, .ref a.1)]) hx hb dX0_reset_59 hl (k := 0) rfl (by decide) (by decide) rfl (fun ls hl => ?_)
                refine lv_goto (tgt := 46) hx hb dX0_reset_62 (by decide) ?_
                refine lv_iload_n hx hb dX0_reset_46 rfl (lv_at hl 0 rfl) ?_
                refine lv_iconst (v := 2) hx hb dX0_reset_47 (by decide) ?_
                refine lv_icmp_ge (tgt := 65) hx hb dX0_reset_48 (by decide) (fun h => absurd h (by decide)) (fun _ => ?_)
                refine lv_aload_n hx hb dX0_reset_51 rfl (lv_at hl 2 rfl) ?_
                refine lv_iload_n hx hb dX0_reset_52 rfl (lv_at hl 0 rfl) ?_
                refine lv_iconst (v := 0) hx hb dX0_reset_53 (by decide) ?_
                refine lv_iconst (v := 0) hx hb dX0_reset_54 (by decide) ?_
                refine lv_iconst (v := 0) hx hb dX0_reset_55 (by decide) ?_
                refine cc_V hC hGx hD hEx hlocks (c_X0_putSpan l hl9 k a hD (1 : Int32) (0 : Int32) (0 : Int32) (0 : Int32) ((m_X0_putSpan (0 : Int32) (0 : Int32) (0 : Int32) (0 : Int32) (vp_updL (vp_updL (vp_updL (vp_updL (vp_updL z.1 (0 : Int32).toNatClampNeg (1008673 : Int64)) (1 : Int32).toNatClampNeg (1008673 : Int64)) (3 : Int32).toNatClampNeg (1008673 : Int64)) (4 : Int32).toNatClampNeg (1008673 : Int64)) (5 : Int32).toNatClampNeg (1008673 : Int64), z.2.1, z.2.2.1, z.2.2.2.1, z.2.2.2.2.1, z.2.2.2.2.2)).2)) (gV w_82 w_83 w_6 w_26 w_84) kk_X0_putSpan rfl ⟨Nat.le_of_ble_eq_true rfl, Nat.le_of_ble_eq_true rfl⟩ ⟨Nat.le_of_ble_eq_true rfl, Nat.le_of_ble_eq_true rfl⟩ ⟨Nat.le_of_ble_eq_true rfl, Nat.le_of_ble_eq_true rfl⟩ hP hS hl.1 rfl rfl (Nat.le_of_ble_eq_true rfl) dX0_reset_56 (fun h_168 => ?_) (fun h_168 H locs hP hS => ?_)
                · have hm : m_X0_reset z = ((m_X0_putSpan (1 : Int32) (0 : Int32) (0 : Int32) (0 : Int32) ((m_X0_putSpan (0 : Int32) (0 : Int32) (0 : Int32) (0 : Int32) (vp_updL (vp_updL (vp_updL (vp_updL (vp_updL z.1 (0 : Int32).toNatClampNeg (1008673 : Int64)) (1 : Int32).toNatClampNeg (1008673 : Int64)) (3 : Int32).toNatClampNeg (1008673 : Int64)) (4 : Int32).toNatClampNeg (1008673 : Int64)) (5 : Int32).toNatClampNeg (1008673 : Int64), z.2.1, z.2.2.1, z.2.2.2.1, z.2.2.2.2.1, z.2.2.2.2.2)).2)).1, 0, (m_X0_putSpan (1 : Int32) (0 : Int32) (0 : Int32) (0 : Int32) ((m_X0_putSpan (0 : Int32) (0 : Int32) (0 : Int32) (0 : Int32) (vp_updL (vp_updL (vp_updL (vp_updL (vp_updL z.1 (0 : Int32).toNatClampNeg (1008673 : Int64)) (1 : Int32).toNatClampNeg (1008673 : Int64)) (3 : Int32).toNatClampNeg (1008673 : Int64)) (4 : Int32).toNatClampNeg (1008673 : Int64)) (5 : Int32).toNatClampNeg (1008673 : Int64), z.2.1, z.2.2.1, z.2.2.2.1, z.2.2.2.2.1, z.2.2.2.2.2)).2)).2) := hm.trans (if_neg h_168)
                  exact ⟨by rw [hm], by rw [hm]⟩
                · have hm := hm.trans (if_pos h_168)
                  refine lv_iinc (v := (2 : Int32)) (lv' := [(2, .int (2 : Int32)), (1, .int (5 : Int32)), (0, .ref a.1)]) hx hb dX0_reset_59 hl (k := 0) rfl (by decide) (by decide) rfl (fun ls hl => ?_)
                  refine lv_goto (tgt := 46) hx hb dX0_reset_62 (by decide) ?_
                  refine lv_iload_n hx hb dX0_reset_46 rfl (lv_at hl 0 rfl) ?_
                  refine lv_iconst (v := 2) hx hb dX0_reset_47 (by decide) ?_
                  refine lv_icmp_ge (tgt := 65) hx hb dX0_reset_48 (by decide) (fun _ => ?_) (fun h => absurd h (by decide))
                  refine lv_iload_n hx hb dX0_reset_65 rfl (lv_at hl 1 rfl) ?_
                  have hm : m_X0_reset z = (0, (5 : Int32), (m_X0_putSpan (1 : Int32) (0 : Int32) (0 : Int32) (0 : Int32) ((m_X0_putSpan (0 : Int32) (0 : Int32) (0 : Int32) (0 : Int32) (vp_updL (vp_updL (vp_updL (vp_updL (vp_updL z.1 (0 : Int32).toNatClampNeg (1008673 : Int64)) (1 : Int32).toNatClampNeg (1008673 : Int64)) (3 : Int32).toNatClampNeg (1008673 : Int64)) (4 : Int32).toNatClampNeg (1008673 : Int64)) (5 : Int32).toNatClampNeg (1008673 : Int64), z.2.1, z.2.2.1, z.2.2.2.1, z.2.2.2.2.1, z.2.2.2.2.2)).2)).2) := hm
                  exact c_iret (E := (5 : Int32)) hx hb hr hlocks (by rw [hm]) (by rw [hm]) (by rw [hm]) hP hS ⟨Nat.le_of_ble_eq_true rfl, Nat.le_of_ble_eq_true rfl⟩ dX0_reset_66
      · have hm := hm.trans (if_neg h_145)
        refine lv_iinc (v := (3 : Int32)) (lv' := [(1, .int (3 : Int32)), (2, .int (2 : Int32)), (0, .ref a.1)]) hx hb dX0_reset_26 hl (k := 1) rfl (by decide) (by decide) rfl (fun ls hl => ?_)
        refine lv_aload_n hx hb dX0_reset_29 rfl (lv_at hl 2 rfl) ?_
        refine va_get (D := kD k) (ci := 2) (v := .ref a.2.1) (C := RX0) (T := TX0) (N := 6) hx hb htg inG_X0 hown hGx.1 hP 0 rfl rfl 0 (by decide) (htg _ w_57) (fun _ h9 => h9) rfl dX0_reset_30 ?_
        refine lv_iload_n hx hb dX0_reset_33 rfl (lv_at hl 1 rfl) ?_
        refine lv_ldc2 hx hb hown (htg _ w_56) dX0_reset_34 ?_
        refine va_last (D := kD k) hx hb hGx.1 hP (hD.own _ _) hS 1 0 rfl rfl (show ¬ ((2 : Int32) < 0 ∨ 6 ≤ ((2 : Int32)).toNatClampNeg) by decide) dX0_reset_37 (fun H locs hP1 _ hS => ?_)
        have hP : va_P (kD k) vwCl (cW k a (vp_updL (vp_updL (vp_updL z.1 (0 : Int32).toNatClampNeg (1008673 : Int64)) (1 : Int32).toNatClampNeg (1008673 : Int64)) (2 : Int32).toNatClampNeg (1008673 : Int64), z.2.1, z.2.2.1, z.2.2.2.1, z.2.2.2.2.1, z.2.2.2.2.2)) H := hP1
        refine lv_iinc (v := (3 : Int32)) (lv' := [(2, .int (3 : Int32)), (1, .int (3 : Int32)), (0, .ref a.1)]) hx hb dX0_reset_38 hl (k := 1) rfl (by decide) (by decide) rfl (fun ls hl => ?_)
        refine lv_goto (tgt := 4) hx hb dX0_reset_41 (by decide) ?_
        refine lv_iload_n hx hb dX0_reset_4 rfl (lv_at hl 0 rfl) ?_
        refine lv_aload_n hx hb dX0_reset_5 rfl (lv_at hl 2 rfl) ?_
        refine va_get (D := kD k) (ci := 2) (v := .ref a.2.1) (C := RX0) (T := TX0) (N := 6) hx hb htg inG_X0 hown hGx.1 hP 0 rfl rfl 0 (by decide) (htg _ w_57) (fun _ h9 => h9) rfl dX0_reset_6 ?_
        refine va_alen (D := kD k) (v := 6) hx hb hGx.1 hP 1 0 rfl rfl (show Int32.ofNat 6 = 6 by decide) dX0_reset_9 ?_
        refine lv_icmp_ge (tgt := 44) hx hb dX0_reset_10 (by decide) (fun h => absurd h (by decide)) (fun _ => ?_)
        refine lv_aload_n hx hb dX0_reset_13 rfl (lv_at hl 2 rfl) ?_
        refine va_get (D := kD k) (ci := 2) (v := .ref a.2.1) (C := RX0) (T := TX0) (N := 6) hx hb htg inG_X0 hown hGx.1 hP 0 rfl rfl 0 (by decide) (htg _ w_57) (fun _ h9 => h9) rfl dX0_reset_14 ?_
        refine lv_iload_n hx hb dX0_reset_17 rfl (lv_at hl 0 rfl) ?_
        refine va_lald (D := kD k) hx hb hGx.1 hP 1 0 rfl rfl (show ¬ ((3 : Int32) < 0 ∨ 6 ≤ ((3 : Int32)).toNatClampNeg) by decide) dX0_reset_18 ?_
        refine lv_ldc2 hx hb hown (htg _ w_56) dX0_reset_19 ?_
        refine W.lcmp hx hb dX0_reset_22 ?_
        refine lv_if_eq (tgt := 38) hx hb dX0_reset_23 (by decide) (fun h_169 => ?_) (fun h_169 => ?_)
        · have hm := hm.trans (if_pos h_169)
          refine lv_iinc (v := (4 : Int32)) (lv' := [(2, .int (4 : Int32)), (1, .int (3 : Int32)), (0, .ref a.1)]) hx hb dX0_reset_38 hl (k := 0) rfl (by decide) (by decide) rfl (fun ls hl => ?_)
          refine lv_goto (tgt := 4) hx hb dX0_reset_41 (by decide) ?_
          refine lv_iload_n hx hb dX0_reset_4 rfl (lv_at hl 0 rfl) ?_
          refine lv_aload_n hx hb dX0_reset_5 rfl (lv_at hl 2 rfl) ?_
          refine va_get (D := kD k) (ci := 2) (v := .ref a.2.1) (C := RX0) (T := TX0) (N := 6) hx hb htg inG_X0 hown hGx.1 hP 0 rfl rfl 0 (by decide) (htg _ w_57) (fun _ h9 => h9) rfl dX0_reset_6 ?_
          refine va_alen (D := kD k) (v := 6) hx hb hGx.1 hP 1 0 rfl rfl (show Int32.ofNat 6 = 6 by decide) dX0_reset_9 ?_
          refine lv_icmp_ge (tgt := 44) hx hb dX0_reset_10 (by decide) (fun h => absurd h (by decide)) (fun _ => ?_)
          refine lv_aload_n hx hb dX0_reset_13 rfl (lv_at hl 2 rfl) ?_
          refine va_get (D := kD k) (ci := 2) (v := .ref a.2.1) (C := RX0) (T := TX0) (N := 6) hx hb htg inG_X0 hown hGx.1 hP 0 rfl rfl 0 (by decide) (htg _ w_57) (fun _ h9 => h9) rfl dX0_reset_14 ?_
          refine lv_iload_n hx hb dX0_reset_17 rfl (lv_at hl 0 rfl) ?_
          refine va_lald (D := kD k) hx hb hGx.1 hP 1 0 rfl rfl (show ¬ ((4 : Int32) < 0 ∨ 6 ≤ ((4 : Int32)).toNatClampNeg) by decide) dX0_reset_18 ?_
          refine lv_ldc2 hx hb hown (htg _ w_56) dX0_reset_19 ?_
          refine W.lcmp hx hb dX0_reset_22 ?_
          refine lv_if_eq (tgt := 38) hx hb dX0_reset_23 (by decide) (fun h_170 => ?_) (fun h_170 => ?_)
          · have hm := hm.trans (if_pos h_170)
            refine lv_iinc (v := (5 : Int32)) (lv' := [(2, .int (5 : Int32)), (1, .int (3 : Int32)), (0, .ref a.1)]) hx hb dX0_reset_38 hl (k := 0) rfl (by decide) (by decide) rfl (fun ls hl => ?_)
            refine lv_goto (tgt := 4) hx hb dX0_reset_41 (by decide) ?_
            refine lv_iload_n hx hb dX0_reset_4 rfl (lv_at hl 0 rfl) ?_
            refine lv_aload_n hx hb dX0_reset_5 rfl (lv_at hl 2 rfl) ?_
            refine va_get (D := kD k) (ci := 2) (v := .ref a.2.1) (C := RX0) (T := TX0) (N := 6) hx hb htg inG_X0 hown hGx.1 hP 0 rfl rfl 0 (by decide) (htg _ w_57) (fun _ h9 => h9) rfl dX0_reset_6 ?_
            refine va_alen (D := kD k) (v := 6) hx hb hGx.1 hP 1 0 rfl rfl (show Int32.ofNat 6 = 6 by decide) dX0_reset_9 ?_
            refine lv_icmp_ge (tgt := 44) hx hb dX0_reset_10 (by decide) (fun h => absurd h (by decide)) (fun _ => ?_)
            refine lv_aload_n hx hb dX0_reset_13 rfl (lv_at hl 2 rfl) ?_
            refine va_get (D := kD k) (ci := 2) (v := .ref a.2.1) (C := RX0) (T := TX0) (N := 6) hx hb htg inG_X0 hown hGx.1 hP 0 rfl rfl 0 (by decide) (htg _ w_57) (fun _ h9 => h9) rfl dX0_reset_14 ?_
            refine lv_iload_n hx hb dX0_reset_17 rfl (lv_at hl 0 rfl) ?_
            refine va_lald (D := kD k) hx hb hGx.1 hP 1 0 rfl rfl (show ¬ ((5 : Int32) < 0 ∨ 6 ≤ ((5 : Int32)).toNatClampNeg) by decide) dX0_reset_18 ?_
            refine lv_ldc2 hx hb hown (htg _ w_56) dX0_reset_19 ?_
            refine W.lcmp hx hb dX0_reset_22 ?_
            refine lv_if_eq (tgt := 38) hx hb dX0_reset_23 (by decide) (fun h_171 => ?_) (fun h_171 => ?_)
            · have hm := hm.trans (if_pos h_171)
              refine lv_iinc (v := (6 : Int32)) (lv' := [(2, .int (6 : Int32)), (1, .int (3 : Int32)), (0, .ref a.1)]) hx hb dX0_reset_38 hl (k := 0) rfl (by decide) (by decide) rfl (fun ls hl => ?_)
              refine lv_goto (tgt := 4) hx hb dX0_reset_41 (by decide) ?_
              refine lv_iload_n hx hb dX0_reset_4 rfl (lv_at hl 0 rfl) ?_
              refine lv_aload_n hx hb dX0_reset_5 rfl (lv_at hl 2 rfl) ?_
              refine va_get (D := kD k) (ci := 2) (v := .ref a.2.1) (C := RX0) (T := TX0) (N := 6) hx hb htg inG_X0 hown hGx.1 hP 0 rfl rfl 0 (by decide) (htg _ w_57) (fun _ h9 => h9) rfl dX0_reset_6 ?_
              refine va_alen (D := kD k) (v := 6) hx hb hGx.1 hP 1 0 rfl rfl (show Int32.ofNat 6 = 6 by decide) dX0_reset_9 ?_
              refine lv_icmp_ge (tgt := 44) hx hb dX0_reset_10 (by decide) (fun _ => ?_) (fun h => absurd h (by decide))
              refine lv_iconst (v := 0) hx hb dX0_reset_44 (by decide) ?_
              refine lv_istore_n (lv' := [(2, .int (0 : Int32)), (1, .int (3 : Int32)), (0, .ref a.1)]) hx hb dX0_reset_45 rfl hl (by decide) rfl (fun ls hl => ?_)
              refine lv_iload_n hx hb dX0_reset_46 rfl (lv_at hl 0 rfl) ?_
              refine lv_iconst (v := 2) hx hb dX0_reset_47 (by decide) ?_
              refine lv_icmp_ge (tgt := 65) hx hb dX0_reset_48 (by decide) (fun h => absurd h (by decide)) (fun _ => ?_)
              refine lv_aload_n hx hb dX0_reset_51 rfl (lv_at hl 2 rfl) ?_
              refine lv_iload_n hx hb dX0_reset_52 rfl (lv_at hl 0 rfl) ?_
              refine lv_iconst (v := 0) hx hb dX0_reset_53 (by decide) ?_
              refine lv_iconst (v := 0) hx hb dX0_reset_54 (by decide) ?_
              refine lv_iconst (v := 0) hx hb dX0_reset_55 (by decide) ?_
              refine cc_V hC hGx hD hEx hlocks (c_X0_putSpan l hl9 k a hD (0 : Int32) (0 : Int32) (0 : Int32) (0 : Int32) (vp_updL (vp_updL (vp_updL z.1 (0 : Int32).toNatClampNeg (1008673 : Int64)) (1 : Int32).toNatClampNeg (1008673 : Int64)) (2 : Int32).toNatClampNeg (1008673 : Int64), z.2.1, z.2.2.1, z.2.2.2.1, z.2.2.2.2.1, z.2.2.2.2.2)) (gV w_82 w_83 w_6 w_26 w_84) kk_X0_putSpan rfl ⟨Nat.le_of_ble_eq_true rfl, Nat.le_of_ble_eq_true rfl⟩ ⟨Nat.le_of_ble_eq_true rfl, Nat.le_of_ble_eq_true rfl⟩ ⟨Nat.le_of_ble_eq_true rfl, Nat.le_of_ble_eq_true rfl⟩ hP hS hl.1 rfl rfl (Nat.le_of_ble_eq_true rfl) dX0_reset_56 (fun h_172 => ?_) (fun h_172 H locs hP hS => ?_)
              · have hm : m_X0_reset z = ((m_X0_putSpan (0 : Int32) (0 : Int32) (0 : Int32) (0 : Int32) (vp_updL (vp_updL (vp_updL z.1 (0 : Int32).toNatClampNeg (1008673 : Int64)) (1 : Int32).toNatClampNeg (1008673 : Int64)) (2 : Int32).toNatClampNeg (1008673 : Int64), z.2.1, z.2.2.1, z.2.2.2.1, z.2.2.2.2.1, z.2.2.2.2.2)).1, 0, (m_X0_putSpan (0 : Int32) (0 : Int32) (0 : Int32) (0 : Int32) (vp_updL (vp_updL (vp_updL z.1 (0 : Int32).toNatClampNeg (1008673 : Int64)) (1 : Int32).toNatClampNeg (1008673 : Int64)) (2 : Int32).toNatClampNeg (1008673 : Int64), z.2.1, z.2.2.1, z.2.2.2.1, z.2.2.2.2.1, z.2.2.2.2.2)).2) := hm.trans (if_neg h_172)
                exact ⟨by rw [hm], by rw [hm]⟩
              · have hm := hm.trans (if_pos h_172)
                refine lv_iinc (v := (1 : Int32)) (lv' := [(2, .int (1 : Int32)), (1, .int (3 : Int32)), (0, .ref a.1)]) hx hb dX0_reset_59 hl (k := 0) rfl (by decide) (by decide) rfl (fun ls hl => ?_)
                refine lv_goto (tgt := 46) hx hb dX0_reset_62 (by decide) ?_
                refine lv_iload_n hx hb dX0_reset_46 rfl (lv_at hl 0 rfl) ?_
                refine lv_iconst (v := 2) hx hb dX0_reset_47 (by decide) ?_
                refine lv_icmp_ge (tgt := 65) hx hb dX0_reset_48 (by decide) (fun h => absurd h (by decide)) (fun _ => ?_)
                refine lv_aload_n hx hb dX0_reset_51 rfl (lv_at hl 2 rfl) ?_
                refine lv_iload_n hx hb dX0_reset_52 rfl (lv_at hl 0 rfl) ?_
                refine lv_iconst (v := 0) hx hb dX0_reset_53 (by decide) ?_
                refine lv_iconst (v := 0) hx hb dX0_reset_54 (by decide) ?_
                refine lv_iconst (v := 0) hx hb dX0_reset_55 (by decide) ?_
                refine cc_V hC hGx hD hEx hlocks (c_X0_putSpan l hl9 k a hD (1 : Int32) (0 : Int32) (0 : Int32) (0 : Int32) ((m_X0_putSpan (0 : Int32) (0 : Int32) (0 : Int32) (0 : Int32) (vp_updL (vp_updL (vp_updL z.1 (0 : Int32).toNatClampNeg (1008673 : Int64)) (1 : Int32).toNatClampNeg (1008673 : Int64)) (2 : Int32).toNatClampNeg (1008673 : Int64), z.2.1, z.2.2.1, z.2.2.2.1, z.2.2.2.2.1, z.2.2.2.2.2)).2)) (gV w_82 w_83 w_6 w_26 w_84) kk_X0_putSpan rfl ⟨Nat.le_of_ble_eq_true rfl, Nat.le_of_ble_eq_true rfl⟩ ⟨Nat.le_of_ble_eq_true rfl, Nat.le_of_ble_eq_true rfl⟩ ⟨Nat.le_of_ble_eq_true rfl, Nat.le_of_ble_eq_true rfl⟩ hP hS hl.1 rfl rfl (Nat.le_of_ble_eq_true rfl) dX0_reset_56 (fun h_173 => ?_) (fun h_173 H locs hP hS => ?_)
                · have hm : m_X0_reset z = ((m_X0_putSpan (1 : Int32) (0 : Int32) (0 : Int32) (0 : Int32) ((m_X0_putSpan (0 : Int32) (0 : Int32) (0 : Int32) (0 : Int32) (vp_updL (vp_updL (vp_updL z.1 (0 : Int32).toNatClampNeg (1008673 : Int64)) (1 : Int32).toNatClampNeg (1008673 : Int64)) (2 : Int32).toNatClampNeg (1008673 : Int64), z.2.1, z.2.2.1, z.2.2.2.1, z.2.2.2.2.1, z.2.2.2.2.2)).2)).1, 0, (m_X0_putSpan (1 : Int32) (0 : Int32) (0 : Int32) (0 : Int32) ((m_X0_putSpan (0 : Int32) (0 : Int32) (0 : Int32) (0 : Int32) (vp_updL (vp_updL (vp_updL z.1 (0 : Int32).toNatClampNeg (1008673 : Int64)) (1 : Int32).toNatClampNeg (1008673 : Int64)) (2 : Int32).toNatClampNeg (1008673 : Int64), z.2.1, z.2.2.1, z.2.2.2.1, z.2.2.2.2.1, z.2.2.2.2.2)).2)).2) := hm.trans (if_neg h_173)
                  exact ⟨by rw [hm], by rw [hm]⟩
                · have hm := hm.trans (if_pos h_173)
                  refine lv_iinc (v := (2 : Int32)) (lv' := [(2, .int (2 : Int32)), (1, .int (3 : Int32)), (0, .ref a.1)]) hx hb dX0_reset_59 hl (k := 0) rfl (by decide) (by decide) rfl (fun ls hl => ?_)
                  refine lv_goto (tgt := 46) hx hb dX0_reset_62 (by decide) ?_
                  refine lv_iload_n hx hb dX0_reset_46 rfl (lv_at hl 0 rfl) ?_
                  refine lv_iconst (v := 2) hx hb dX0_reset_47 (by decide) ?_
                  refine lv_icmp_ge (tgt := 65) hx hb dX0_reset_48 (by decide) (fun _ => ?_) (fun h => absurd h (by decide))
                  refine lv_iload_n hx hb dX0_reset_65 rfl (lv_at hl 1 rfl) ?_
                  have hm : m_X0_reset z = (0, (3 : Int32), (m_X0_putSpan (1 : Int32) (0 : Int32) (0 : Int32) (0 : Int32) ((m_X0_putSpan (0 : Int32) (0 : Int32) (0 : Int32) (0 : Int32) (vp_updL (vp_updL (vp_updL z.1 (0 : Int32).toNatClampNeg (1008673 : Int64)) (1 : Int32).toNatClampNeg (1008673 : Int64)) (2 : Int32).toNatClampNeg (1008673 : Int64), z.2.1, z.2.2.1, z.2.2.2.1, z.2.2.2.2.1, z.2.2.2.2.2)).2)).2) := hm
                  exact c_iret (E := (3 : Int32)) hx hb hr hlocks (by rw [hm]) (by rw [hm]) (by rw [hm]) hP hS ⟨Nat.le_of_ble_eq_true rfl, Nat.le_of_ble_eq_true rfl⟩ dX0_reset_66
            · have hm := hm.trans (if_neg h_171)
              refine lv_iinc (v := (4 : Int32)) (lv' := [(1, .int (4 : Int32)), (2, .int (5 : Int32)), (0, .ref a.1)]) hx hb dX0_reset_26 hl (k := 1) rfl (by decide) (by decide) rfl (fun ls hl => ?_)
              refine lv_aload_n hx hb dX0_reset_29 rfl (lv_at hl 2 rfl) ?_
              refine va_get (D := kD k) (ci := 2) (v := .ref a.2.1) (C := RX0) (T := TX0) (N := 6) hx hb htg inG_X0 hown hGx.1 hP 0 rfl rfl 0 (by decide) (htg _ w_57) (fun _ h9 => h9) rfl dX0_reset_30 ?_
              refine lv_iload_n hx hb dX0_reset_33 rfl (lv_at hl 1 rfl) ?_
              refine lv_ldc2 hx hb hown (htg _ w_56) dX0_reset_34 ?_
              refine va_last (D := kD k) hx hb hGx.1 hP (hD.own _ _) hS 1 0 rfl rfl (show ¬ ((5 : Int32) < 0 ∨ 6 ≤ ((5 : Int32)).toNatClampNeg) by decide) dX0_reset_37 (fun H locs hP1 _ hS => ?_)
              have hP : va_P (kD k) vwCl (cW k a (vp_updL (vp_updL (vp_updL (vp_updL z.1 (0 : Int32).toNatClampNeg (1008673 : Int64)) (1 : Int32).toNatClampNeg (1008673 : Int64)) (2 : Int32).toNatClampNeg (1008673 : Int64)) (5 : Int32).toNatClampNeg (1008673 : Int64), z.2.1, z.2.2.1, z.2.2.2.1, z.2.2.2.2.1, z.2.2.2.2.2)) H := hP1
              refine lv_iinc (v := (6 : Int32)) (lv' := [(2, .int (6 : Int32)), (1, .int (4 : Int32)), (0, .ref a.1)]) hx hb dX0_reset_38 hl (k := 1) rfl (by decide) (by decide) rfl (fun ls hl => ?_)
              refine lv_goto (tgt := 4) hx hb dX0_reset_41 (by decide) ?_
              refine lv_iload_n hx hb dX0_reset_4 rfl (lv_at hl 0 rfl) ?_
              refine lv_aload_n hx hb dX0_reset_5 rfl (lv_at hl 2 rfl) ?_
              refine va_get (D := kD k) (ci := 2) (v := .ref a.2.1) (C := RX0) (T := TX0) (N := 6) hx hb htg inG_X0 hown hGx.1 hP 0 rfl rfl 0 (by decide) (htg _ w_57) (fun _ h9 => h9) rfl dX0_reset_6 ?_
              refine va_alen (D := kD k) (v := 6) hx hb hGx.1 hP 1 0 rfl rfl (show Int32.ofNat 6 = 6 by decide) dX0_reset_9 ?_
              refine lv_icmp_ge (tgt := 44) hx hb dX0_reset_10 (by decide) (fun _ => ?_) (fun h => absurd h (by decide))
              refine lv_iconst (v := 0) hx hb dX0_reset_44 (by decide) ?_
              refine lv_istore_n (lv' := [(2, .int (0 : Int32)), (1, .int (4 : Int32)), (0, .ref a.1)]) hx hb dX0_reset_45 rfl hl (by decide) rfl (fun ls hl => ?_)
              refine lv_iload_n hx hb dX0_reset_46 rfl (lv_at hl 0 rfl) ?_
              refine lv_iconst (v := 2) hx hb dX0_reset_47 (by decide) ?_
              refine lv_icmp_ge (tgt := 65) hx hb dX0_reset_48 (by decide) (fun h => absurd h (by decide)) (fun _ => ?_)
              refine lv_aload_n hx hb dX0_reset_51 rfl (lv_at hl 2 rfl) ?_
              refine lv_iload_n hx hb dX0_reset_52 rfl (lv_at hl 0 rfl) ?_
              refine lv_iconst (v := 0) hx hb dX0_reset_53 (by decide) ?_
              refine lv_iconst (v := 0) hx hb dX0_reset_54 (by decide) ?_
              refine lv_iconst (v := 0) hx hb dX0_reset_55 (by decide) ?_
              refine cc_V hC hGx hD hEx hlocks (c_X0_putSpan l hl9 k a hD (0 : Int32) (0 : Int32) (0 : Int32) (0 : Int32) (vp_updL (vp_updL (vp_updL (vp_updL z.1 (0 : Int32).toNatClampNeg (1008673 : Int64)) (1 : Int32).toNatClampNeg (1008673 : Int64)) (2 : Int32).toNatClampNeg (1008673 : Int64)) (5 : Int32).toNatClampNeg (1008673 : Int64), z.2.1, z.2.2.1, z.2.2.2.1, z.2.2.2.2.1, z.2.2.2.2.2)) (gV w_82 w_83 w_6 w_26 w_84) kk_X0_putSpan rfl ⟨Nat.le_of_ble_eq_true rfl, Nat.le_of_ble_eq_true rfl⟩ ⟨Nat.le_of_ble_eq_true rfl, Nat.le_of_ble_eq_true rfl⟩ ⟨Nat.le_of_ble_eq_true rfl, Nat.le_of_ble_eq_true rfl⟩ hP hS hl.1 rfl rfl (Nat.le_of_ble_eq_true rfl) dX0_reset_56 (fun h_174 => ?_) (fun h_174 H locs hP hS => ?_)
              · have hm : m_X0_reset z = ((m_X0_putSpan (0 : Int32) (0 : Int32) (0 : Int32) (0 : Int32) (vp_updL (vp_updL (vp_updL (vp_updL z.1 (0 : Int32).toNatClampNeg (1008673 : Int64)) (1 : Int32).toNatClampNeg (1008673 : Int64)) (2 : Int32).toNatClampNeg (1008673 : Int64)) (5 : Int32).toNatClampNeg (1008673 : Int64), z.2.1, z.2.2.1, z.2.2.2.1, z.2.2.2.2.1, z.2.2.2.2.2)).1, 0, (m_X0_putSpan (0 : Int32) (0 : Int32) (0 : Int32) (0 : Int32) (vp_updL (vp_updL (vp_updL (vp_updL z.1 (0 : Int32).toNatClampNeg (1008673 : Int64)) (1 : Int32).toNatClampNeg (1008673 : Int64)) (2 : Int32).toNatClampNeg (1008673 : Int64)) (5 : Int32).toNatClampNeg (1008673 : Int64), z.2.1, z.2.2.1, z.2.2.2.1, z.2.2.2.2.1, z.2.2.2.2.2)).2) := hm.trans (if_neg h_174)
                exact ⟨by rw [hm], by rw [hm]⟩
              · have hm := hm.trans (if_pos h_174)
                refine lv_iinc (v := (1 : Int32)) (lv' := [(2, .int (1 : Int32)), (1, .int (4 : Int32)), (0, .ref a.1)]) hx hb dX0_reset_59 hl (k := 0) rfl (by decide) (by decide) rfl (fun ls hl => ?_)
                refine lv_goto (tgt := 46) hx hb dX0_reset_62 (by decide) ?_
                refine lv_iload_n hx hb dX0_reset_46 rfl (lv_at hl 0 rfl) ?_
                refine lv_iconst (v := 2) hx hb dX0_reset_47 (by decide) ?_
                refine lv_icmp_ge (tgt := 65) hx hb dX0_reset_48 (by decide) (fun h => absurd h (by decide)) (fun _ => ?_)
                refine lv_aload_n hx hb dX0_reset_51 rfl (lv_at hl 2 rfl) ?_
                refine lv_iload_n hx hb dX0_reset_52 rfl (lv_at hl 0 rfl) ?_
                refine lv_iconst (v := 0) hx hb dX0_reset_53 (by decide) ?_
                refine lv_iconst (v := 0) hx hb dX0_reset_54 (by decide) ?_
                refine lv_iconst (v := 0) hx hb dX0_reset_55 (by decide) ?_
                refine cc_V hC hGx hD hEx hlocks (c_X0_putSpan l hl9 k a hD (1 : Int32) (0 : Int32) (0 : Int32) (0 : Int32) ((m_X0_putSpan (0 : Int32) (0 : Int32) (0 : Int32) (0 : Int32) (vp_updL (vp_updL (vp_updL (vp_updL z.1 (0 : Int32).toNatClampNeg (1008673 : Int64)) (1 : Int32).toNatClampNeg (1008673 : Int64)) (2 : Int32).toNatClampNeg (1008673 : Int64)) (5 : Int32).toNatClampNeg (1008673 : Int64), z.2.1, z.2.2.1, z.2.2.2.1, z.2.2.2.2.1, z.2.2.2.2.2)).2)) (gV w_82 w_83 w_6 w_26 w_84) kk_X0_putSpan rfl ⟨Nat.le_of_ble_eq_true rfl, Nat.le_of_ble_eq_true rfl⟩ ⟨Nat.le_of_ble_eq_true rfl, Nat.le_of_ble_eq_true rfl⟩ ⟨Nat.le_of_ble_eq_true rfl, Nat.le_of_ble_eq_true rfl⟩ hP hS hl.1 rfl rfl (Nat.le_of_ble_eq_true rfl) dX0_reset_56 (fun h_175 => ?_) (fun h_175 H locs hP hS => ?_)
                · have hm : m_X0_reset z = ((m_X0_putSpan (1 : Int32) (0 : Int32) (0 : Int32) (0 : Int32) ((m_X0_putSpan (0 : Int32) (0 : Int32) (0 : Int32) (0 : Int32) (vp_updL (vp_updL (vp_updL (vp_updL z.1 (0 : Int32).toNatClampNeg (1008673 : Int64)) (1 : Int32).toNatClampNeg (1008673 : Int64)) (2 : Int32).toNatClampNeg (1008673 : Int64)) (5 : Int32).toNatClampNeg (1008673 : Int64), z.2.1, z.2.2.1, z.2.2.2.1, z.2.2.2.2.1, z.2.2.2.2.2)).2)).1, 0, (m_X0_putSpan (1 : Int32) (0 : Int32) (0 : Int32) (0 : Int32) ((m_X0_putSpan (0 : Int32) (0 : Int32) (0 : Int32) (0 : Int32) (vp_updL (vp_updL (vp_updL (vp_updL z.1 (0 : Int32).toNatClampNeg (1008673 : Int64)) (1 : Int32).toNatClampNeg (1008673 : Int64)) (2 : Int32).toNatClampNeg (1008673 : Int64)) (5 : Int32).toNatClampNeg (1008673 : Int64), z.2.1, z.2.2.1, z.2.2.2.1, z.2.2.2.2.1, z.2.2.2.2.2)).2)).2) := hm.trans (if_neg h_175)
                  exact ⟨by rw [hm], by rw [hm]⟩
                · have hm := hm.trans (if_pos h_175)
                  refine lv_iinc (v := (2 : Int32)) (lv' := [(2, .int (2 : Int32)), (1, .int (4 : Int32)), (0, .ref a.1)]) hx hb dX0_reset_59 hl (k := 0) rfl (by decide) (by decide) rfl (fun ls hl => ?_)
                  refine lv_goto (tgt := 46) hx hb dX0_reset_62 (by decide) ?_
                  refine lv_iload_n hx hb dX0_reset_46 rfl (lv_at hl 0 rfl) ?_
                  refine lv_iconst (v := 2) hx hb dX0_reset_47 (by decide) ?_
                  refine lv_icmp_ge (tgt := 65) hx hb dX0_reset_48 (by decide) (fun _ => ?_) (fun h => absurd h (by decide))
                  refine lv_iload_n hx hb dX0_reset_65 rfl (lv_at hl 1 rfl) ?_
                  have hm : m_X0_reset z = (0, (4 : Int32), (m_X0_putSpan (1 : Int32) (0 : Int32) (0 : Int32) (0 : Int32) ((m_X0_putSpan (0 : Int32) (0 : Int32) (0 : Int32) (0 : Int32) (vp_updL (vp_updL (vp_updL (vp_updL z.1 (0 : Int32).toNatClampNeg (1008673 : Int64)) (1 : Int32).toNatClampNeg (1008673 : Int64)) (2 : Int32).toNatClampNeg (1008673 : Int64)) (5 : Int32).toNatClampNeg (1008673 : Int64), z.2.1, z.2.2.1, z.2.2.2.1, z.2.2.2.2.1, z.2.2.2.2.2)).2)).2) := hm
                  exact c_iret (E := (4 : Int32)) hx hb hr hlocks (by rw [hm]) (by rw [hm]) (by rw [hm]) hP hS ⟨Nat.le_of_ble_eq_true rfl, Nat.le_of_ble_eq_true rfl⟩ dX0_reset_66
          · have hm := hm.trans (if_neg h_170)
            refine lv_iinc (v := (4 : Int32)) (lv' := [(1, .int (4 : Int32)), (2, .int (4 : Int32)), (0, .ref a.1)]) hx hb dX0_reset_26 hl (k := 1) rfl (by decide) (by decide) rfl (fun ls hl => ?_)
            refine lv_aload_n hx hb dX0_reset_29 rfl (lv_at hl 2 rfl) ?_
            refine va_get (D := kD k) (ci := 2) (v := .ref a.2.1) (C := RX0) (T := TX0) (N := 6) hx hb htg inG_X0 hown hGx.1 hP 0 rfl rfl 0 (by decide) (htg _ w_57) (fun _ h9 => h9) rfl dX0_reset_30 ?_
            refine lv_iload_n hx hb dX0_reset_33 rfl (lv_at hl 1 rfl) ?_
            refine lv_ldc2 hx hb hown (htg _ w_56) dX0_reset_34 ?_
            refine va_last (D := kD k) hx hb hGx.1 hP (hD.own _ _) hS 1 0 rfl rfl (show ¬ ((4 : Int32) < 0 ∨ 6 ≤ ((4 : Int32)).toNatClampNeg) by decide) dX0_reset_37 (fun H locs hP1 _ hS => ?_)
            have hP : va_P (kD k) vwCl (cW k a (vp_updL (vp_updL (vp_updL (vp_updL z.1 (0 : Int32).toNatClampNeg (1008673 : Int64)) (1 : Int32).toNatClampNeg (1008673 : Int64)) (2 : Int32).toNatClampNeg (1008673 : Int64)) (4 : Int32).toNatClampNeg (1008673 : Int64), z.2.1, z.2.2.1, z.2.2.2.1, z.2.2.2.2.1, z.2.2.2.2.2)) H := hP1
            refine lv_iinc (v := (5 : Int32)) (lv' := [(2, .int (5 : Int32)), (1, .int (4 : Int32)), (0, .ref a.1)]) hx hb dX0_reset_38 hl (k := 1) rfl (by decide) (by decide) rfl (fun ls hl => ?_)
            refine lv_goto (tgt := 4) hx hb dX0_reset_41 (by decide) ?_
            refine lv_iload_n hx hb dX0_reset_4 rfl (lv_at hl 0 rfl) ?_
            refine lv_aload_n hx hb dX0_reset_5 rfl (lv_at hl 2 rfl) ?_
            refine va_get (D := kD k) (ci := 2) (v := .ref a.2.1) (C := RX0) (T := TX0) (N := 6) hx hb htg inG_X0 hown hGx.1 hP 0 rfl rfl 0 (by decide) (htg _ w_57) (fun _ h9 => h9) rfl dX0_reset_6 ?_
            refine va_alen (D := kD k) (v := 6) hx hb hGx.1 hP 1 0 rfl rfl (show Int32.ofNat 6 = 6 by decide) dX0_reset_9 ?_
            refine lv_icmp_ge (tgt := 44) hx hb dX0_reset_10 (by decide) (fun h => absurd h (by decide)) (fun _ => ?_)
            refine lv_aload_n hx hb dX0_reset_13 rfl (lv_at hl 2 rfl) ?_
            refine va_get (D := kD k) (ci := 2) (v := .ref a.2.1) (C := RX0) (T := TX0) (N := 6) hx hb htg inG_X0 hown hGx.1 hP 0 rfl rfl 0 (by decide) (htg _ w_57) (fun _ h9 => h9) rfl dX0_reset_14 ?_
            refine lv_iload_n hx hb dX0_reset_17 rfl (lv_at hl 0 rfl) ?_
            refine va_lald (D := kD k) hx hb hGx.1 hP 1 0 rfl rfl (show ¬ ((5 : Int32) < 0 ∨ 6 ≤ ((5 : Int32)).toNatClampNeg) by decide) dX0_reset_18 ?_
            refine lv_ldc2 hx hb hown (htg _ w_56) dX0_reset_19 ?_
            refine W.lcmp hx hb dX0_reset_22 ?_
            refine lv_if_eq (tgt := 38) hx hb dX0_reset_23 (by decide) (fun h_176 => ?_) (fun h_176 => ?_)
            · have hm := hm.trans (if_pos h_176)
              refine lv_iinc (v := (6 : Int32)) (lv' := [(2, .int (6 : Int32)), (1, .int (4 : Int32)), (0, .ref a.1)]) hx hb dX0_reset_38 hl (k := 0) rfl (by decide) (by decide) rfl (fun ls hl => ?_)
              refine lv_goto (tgt := 4) hx hb dX0_reset_41 (by decide) ?_
              refine lv_iload_n hx hb dX0_reset_4 rfl (lv_at hl 0 rfl) ?_
              refine lv_aload_n hx hb dX0_reset_5 rfl (lv_at hl 2 rfl) ?_
              refine va_get (D := kD k) (ci := 2) (v := .ref a.2.1) (C := RX0) (T := TX0) (N := 6) hx hb htg inG_X0 hown hGx.1 hP 0 rfl rfl 0 (by decide) (htg _ w_57) (fun _ h9 => h9) rfl dX0_reset_6 ?_
              refine va_alen (D := kD k) (v := 6) hx hb hGx.1 hP 1 0 rfl rfl (show Int32.ofNat 6 = 6 by decide) dX0_reset_9 ?_
              refine lv_icmp_ge (tgt := 44) hx hb dX0_reset_10 (by decide) (fun _ => ?_) (fun h => absurd h (by decide))
              refine lv_iconst (v := 0) hx hb dX0_reset_44 (by decide) ?_
              refine lv_istore_n (lv' := [(2, .int (0 : Int32)), (1, .int (4 : Int32)), (0, .ref a.1)]) hx hb dX0_reset_45 rfl hl (by decide) rfl (fun ls hl => ?_)
              refine lv_iload_n hx hb dX0_reset_46 rfl (lv_at hl 0 rfl) ?_
              refine lv_iconst (v := 2) hx hb dX0_reset_47 (by decide) ?_
              refine lv_icmp_ge (tgt := 65) hx hb dX0_reset_48 (by decide) (fun h => absurd h (by decide)) (fun _ => ?_)
              refine lv_aload_n hx hb dX0_reset_51 rfl (lv_at hl 2 rfl) ?_
              refine lv_iload_n hx hb dX0_reset_52 rfl (lv_at hl 0 rfl) ?_
              refine lv_iconst (v := 0) hx hb dX0_reset_53 (by decide) ?_
              refine lv_iconst (v := 0) hx hb dX0_reset_54 (by decide) ?_
              refine lv_iconst (v := 0) hx hb dX0_reset_55 (by decide) ?_
              refine cc_V hC hGx hD hEx hlocks (c_X0_putSpan l hl9 k a hD (0 : Int32) (0 : Int32) (0 : Int32) (0 : Int32) (vp_updL (vp_updL (vp_updL (vp_updL z.1 (0 : Int32).toNatClampNeg (1008673 : Int64)) (1 : Int32).toNatClampNeg (1008673 : Int64)) (2 : Int32).toNatClampNeg (1008673 : Int64)) (4 : Int32).toNatClampNeg (1008673 : Int64), z.2.1, z.2.2.1, z.2.2.2.1, z.2.2.2.2.1, z.2.2.2.2.2)) (gV w_82 w_83 w_6 w_26 w_84) kk_X0_putSpan rfl ⟨Nat.le_of_ble_eq_true rfl, Nat.le_of_ble_eq_true rfl⟩ ⟨Nat.le_of_ble_eq_true rfl, Nat.le_of_ble_eq_true rfl⟩ ⟨Nat.le_of_ble_eq_true rfl, Nat.le_of_ble_eq_true rfl⟩ hP hS hl.1 rfl rfl (Nat.le_of_ble_eq_true rfl) dX0_reset_56 (fun h_177 => ?_) (fun h_177 H locs hP hS => ?_)
              · have hm : m_X0_reset z = ((m_X0_putSpan (0 : Int32) (0 : Int32) (0 : Int32) (0 : Int32) (vp_updL (vp_updL (vp_updL (vp_updL z.1 (0 : Int32).toNatClampNeg (1008673 : Int64)) (1 : Int32).toNatClampNeg (1008673 : Int64)) (2 : Int32).toNatClampNeg (1008673 : Int64)) (4 : Int32).toNatClampNeg (1008673 : Int64), z.2.1, z.2.2.1, z.2.2.2.1, z.2.2.2.2.1, z.2.2.2.2.2)).1, 0, (m_X0_putSpan (0 : Int32) (0 : Int32) (0 : Int32) (0 : Int32) (vp_updL (vp_updL (vp_updL (vp_updL z.1 (0 : Int32).toNatClampNeg (1008673 : Int64)) (1 : Int32).toNatClampNeg (1008673 : Int64)) (2 : Int32).toNatClampNeg (1008673 : Int64)) (4 : Int32).toNatClampNeg (1008673 : Int64), z.2.1, z.2.2.1, z.2.2.2.1, z.2.2.2.2.1, z.2.2.2.2.2)).2) := hm.trans (if_neg h_177)
                exact ⟨by rw [hm], by rw [hm]⟩
              · have hm := hm.trans (if_pos h_177)
                refine lv_iinc (v := (1 : Int32)) (lv' := [(2, .int (1 : Int32)), (1, .int (4 : Int32)), (0, .ref a.1)]) hx hb dX0_reset_59 hl (k := 0) rfl (by decide) (by decide) rfl (fun ls hl => ?_)
                refine lv_goto (tgt := 46) hx hb dX0_reset_62 (by decide) ?_
                refine lv_iload_n hx hb dX0_reset_46 rfl (lv_at hl 0 rfl) ?_
                refine lv_iconst (v := 2) hx hb dX0_reset_47 (by decide) ?_
                refine lv_icmp_ge (tgt := 65) hx hb dX0_reset_48 (by decide) (fun h => absurd h (by decide)) (fun _ => ?_)
                refine lv_aload_n hx hb dX0_reset_51 rfl (lv_at hl 2 rfl) ?_
                refine lv_iload_n hx hb dX0_reset_52 rfl (lv_at hl 0 rfl) ?_
                refine lv_iconst (v := 0) hx hb dX0_reset_53 (by decide) ?_
                refine lv_iconst (v := 0) hx hb dX0_reset_54 (by decide) ?_
                refine lv_iconst (v := 0) hx hb dX0_reset_55 (by decide) ?_
                refine cc_V hC hGx hD hEx hlocks (c_X0_putSpan l hl9 k a hD (1 : Int32) (0 : Int32) (0 : Int32) (0 : Int32) ((m_X0_putSpan (0 : Int32) (0 : Int32) (0 : Int32) (0 : Int32) (vp_updL (vp_updL (vp_updL (vp_updL z.1 (0 : Int32).toNatClampNeg (1008673 : Int64)) (1 : Int32).toNatClampNeg (1008673 : Int64)) (2 : Int32).toNatClampNeg (1008673 : Int64)) (4 : Int32).toNatClampNeg (1008673 : Int64), z.2.1, z.2.2.1, z.2.2.2.1, z.2.2.2.2.1, z.2.2.2.2.2)).2)) (gV w_82 w_83 w_6 w_26 w_84) kk_X0_putSpan rfl ⟨Nat.le_of_ble_eq_true rfl, Nat.le_of_ble_eq_true rfl⟩ ⟨Nat.le_of_ble_eq_true rfl, Nat.le_of_ble_eq_true rfl⟩ ⟨Nat.le_of_ble_eq_true rfl, Nat.le_of_ble_eq_true rfl⟩ hP hS hl.1 rfl rfl (Nat.le_of_ble_eq_true rfl) dX0_reset_56 (fun h_178 => ?_) (fun h_178 H locs hP hS => ?_)
                · have hm : m_X0_reset z = ((m_X0_putSpan (1 : Int32) (0 : Int32) (0 : Int32) (0 : Int32) ((m_X0_putSpan (0 : Int32) (0 : Int32) (0 : Int32) (0 : Int32) (vp_updL (vp_updL (vp_updL (vp_updL z.1 (0 : Int32).toNatClampNeg (1008673 : Int64)) (1 : Int32).toNatClampNeg (1008673 : Int64)) (2 : Int32).toNatClampNeg (1008673 : Int64)) (4 : Int32).toNatClampNeg (1008673 : Int64), z.2.1, z.2.2.1, z.2.2.2.1, z.2.2.2.2.1, z.2.2.2.2.2)).2)).1, 0, (m_X0_putSpan (1 : Int32) (0 : Int32) (0 : Int32) (0 : Int32) ((m_X0_putSpan (0 : Int32) (0 : Int32) (0 : Int32) (0 : Int32) (vp_updL (vp_updL (vp_updL (vp_updL z.1 (0 : Int32).toNatClampNeg (1008673 : Int64)) (1 : Int32).toNatClampNeg (1008673 : Int64)) (2 : Int32).toNatClampNeg (1008673 : Int64)) (4 : Int32).toNatClampNeg (1008673 : Int64), z.2.1, z.2.2.1, z.2.2.2.1, z.2.2.2.2.1, z.2.2.2.2.2)).2)).2) := hm.trans (if_neg h_178)
                  exact ⟨by rw [hm], by rw [hm]⟩
                · have hm := hm.trans (if_pos h_178)
                  refine lv_iinc (v := (2 : Int32)) (lv' := [(2, .int (2 : Int32)), (1, .int (4 : Int32)), (0, .ref a.1)]) hx hb dX0_reset_59 hl (k := 0) rfl (by decide) (by decide) rfl (fun ls hl => ?_)
                  refine lv_goto (tgt := 46) hx hb dX0_reset_62 (by decide) ?_
                  refine lv_iload_n hx hb dX0_reset_46 rfl (lv_at hl 0 rfl) ?_
                  refine lv_iconst (v := 2) hx hb dX0_reset_47 (by decide) ?_
                  refine lv_icmp_ge (tgt := 65) hx hb dX0_reset_48 (by decide) (fun _ => ?_) (fun h => absurd h (by decide))
                  refine lv_iload_n hx hb dX0_reset_65 rfl (lv_at hl 1 rfl) ?_
                  have hm : m_X0_reset z = (0, (4 : Int32), (m_X0_putSpan (1 : Int32) (0 : Int32) (0 : Int32) (0 : Int32) ((m_X0_putSpan (0 : Int32) (0 : Int32) (0 : Int32) (0 : Int32) (vp_updL (vp_updL (vp_updL (vp_updL z.1 (0 : Int32).toNatClampNeg (1008673 : Int64)) (1 : Int32).toNatClampNeg (1008673 : Int64)) (2 : Int32).toNatClampNeg (1008673 : Int64)) (4 : Int32).toNatClampNeg (1008673 : Int64), z.2.1, z.2.2.1, z.2.2.2.1, z.2.2.2.2.1, z.2.2.2.2.2)).2)).2) := hm
                  exact c_iret (E := (4 : Int32)) hx hb hr hlocks (by rw [hm]) (by rw [hm]) (by rw [hm]) hP hS ⟨Nat.le_of_ble_eq_true rfl, Nat.le_of_ble_eq_true rfl⟩ dX0_reset_66
            · have hm := hm.trans (if_neg h_176)
              refine lv_iinc (v := (5 : Int32)) (lv' := [(1, .int (5 : Int32)), (2, .int (5 : Int32)), (0, .ref a.1)]) hx hb dX0_reset_26 hl (k := 1) rfl (by decide) (by decide) rfl (fun ls hl => ?_)
              refine lv_aload_n hx hb dX0_reset_29 rfl (lv_at hl 2 rfl) ?_
              refine va_get (D := kD k) (ci := 2) (v := .ref a.2.1) (C := RX0) (T := TX0) (N := 6) hx hb htg inG_X0 hown hGx.1 hP 0 rfl rfl 0 (by decide) (htg _ w_57) (fun _ h9 => h9) rfl dX0_reset_30 ?_
              refine lv_iload_n hx hb dX0_reset_33 rfl (lv_at hl 1 rfl) ?_
              refine lv_ldc2 hx hb hown (htg _ w_56) dX0_reset_34 ?_
              refine va_last (D := kD k) hx hb hGx.1 hP (hD.own _ _) hS 1 0 rfl rfl (show ¬ ((5 : Int32) < 0 ∨ 6 ≤ ((5 : Int32)).toNatClampNeg) by decide) dX0_reset_37 (fun H locs hP1 _ hS => ?_)
              have hP : va_P (kD k) vwCl (cW k a (vp_updL (vp_updL (vp_updL (vp_updL (vp_updL z.1 (0 : Int32).toNatClampNeg (1008673 : Int64)) (1 : Int32).toNatClampNeg (1008673 : Int64)) (2 : Int32).toNatClampNeg (1008673 : Int64)) (4 : Int32).toNatClampNeg (1008673 : Int64)) (5 : Int32).toNatClampNeg (1008673 : Int64), z.2.1, z.2.2.1, z.2.2.2.1, z.2.2.2.2.1, z.2.2.2.2.2)) H := hP1
              refine lv_iinc (v := (6 : Int32)) (lv' := [(2, .int (6 : Int32)), (1, .int (5 : Int32)), (0, .ref a.1)]) hx hb dX0_reset_38 hl (k := 1) rfl (by decide) (by decide) rfl (fun ls hl => ?_)
              refine lv_goto (tgt := 4) hx hb dX0_reset_41 (by decide) ?_
              refine lv_iload_n hx hb dX0_reset_4 rfl (lv_at hl 0 rfl) ?_
              refine lv_aload_n hx hb dX0_reset_5 rfl (lv_at hl 2 rfl) ?_
              refine va_get (D := kD k) (ci := 2) (v := .ref a.2.1) (C := RX0) (T := TX0) (N := 6) hx hb htg inG_X0 hown hGx.1 hP 0 rfl rfl 0 (by decide) (htg _ w_57) (fun _ h9 => h9) rfl dX0_reset_6 ?_
              refine va_alen (D := kD k) (v := 6) hx hb hGx.1 hP 1 0 rfl rfl (show Int32.ofNat 6 = 6 by decide) dX0_reset_9 ?_
              refine lv_icmp_ge (tgt := 44) hx hb dX0_reset_10 (by decide) (fun _ => ?_) (fun h => absurd h (by decide))
              refine lv_iconst (v := 0) hx hb dX0_reset_44 (by decide) ?_
              refine lv_istore_n (lv' := [(2, .int (0 : Int32)), (1, .int (5 : Int32)), (0, .ref a.1)]) hx hb dX0_reset_45 rfl hl (by decide) rfl (fun ls hl => ?_)
              refine lv_iload_n hx hb dX0_reset_46 rfl (lv_at hl 0 rfl) ?_
              refine lv_iconst (v := 2) hx hb dX0_reset_47 (by decide) ?_
              refine lv_icmp_ge (tgt := 65) hx hb dX0_reset_48 (by decide) (fun h => absurd h (by decide)) (fun _ => ?_)
              refine lv_aload_n hx hb dX0_reset_51 rfl (lv_at hl 2 rfl) ?_
              refine lv_iload_n hx hb dX0_reset_52 rfl (lv_at hl 0 rfl) ?_
              refine lv_iconst (v := 0) hx hb dX0_reset_53 (by decide) ?_
              refine lv_iconst (v := 0) hx hb dX0_reset_54 (by decide) ?_
              refine lv_iconst (v := 0) hx hb dX0_reset_55 (by decide) ?_
              refine cc_V hC hGx hD hEx hlocks (c_X0_putSpan l hl9 k a hD (0 : Int32) (0 : Int32) (0 : Int32) (0 : Int32) (vp_updL (vp_updL (vp_updL (vp_updL (vp_updL z.1 (0 : Int32).toNatClampNeg (1008673 : Int64)) (1 : Int32).toNatClampNeg (1008673 : Int64)) (2 : Int32).toNatClampNeg (1008673 : Int64)) (4 : Int32).toNatClampNeg (1008673 : Int64)) (5 : Int32).toNatClampNeg (1008673 : Int64), z.2.1, z.2.2.1, z.2.2.2.1, z.2.2.2.2.1, z.2.2.2.2.2)) (gV w_82 w_83 w_6 w_26 w_84) kk_X0_putSpan rfl ⟨Nat.le_of_ble_eq_true rfl, Nat.le_of_ble_eq_true rfl⟩ ⟨Nat.le_of_ble_eq_true rfl, Nat.le_of_ble_eq_true rfl⟩ ⟨Nat.le_of_ble_eq_true rfl, Nat.le_of_ble_eq_true rfl⟩ hP hS hl.1 rfl rfl (Nat.le_of_ble_eq_true rfl) dX0_reset_56 (fun h_179 => ?_) (fun h_179 H locs hP hS => ?_)
              · have hm : m_X0_reset z = ((m_X0_putSpan (0 : Int32) (0 : Int32) (0 : Int32) (0 : Int32) (vp_updL (vp_updL (vp_updL (vp_updL (vp_updL z.1 (0 : Int32).toNatClampNeg (1008673 : Int64)) (1 : Int32).toNatClampNeg (1008673 : Int64)) (2 : Int32).toNatClampNeg (1008673 : Int64)) (4 : Int32).toNatClampNeg (1008673 : Int64)) (5 : Int32).toNatClampNeg (1008673 : Int64), z.2.1, z.2.2.1, z.2.2.2.1, z.2.2.2.2.1, z.2.2.2.2.2)).1, 0, (m_X0_putSpan (0 : Int32) (0 : Int32) (0 : Int32) (0 : Int32) (vp_updL (vp_updL (vp_updL (vp_updL (vp_updL z.1 (0 : Int32).toNatClampNeg (1008673 : Int64)) (1 : Int32).toNatClampNeg (1008673 : Int64)) (2 : Int32).toNatClampNeg (1008673 : Int64)) (4 : Int32).toNatClampNeg (1008673 : Int64)) (5 : Int32).toNatClampNeg (1008673 : Int64), z.2.1, z.2.2.1, z.2.2.2.1, z.2.2.2.2.1, z.2.2.2.2.2)).2) := hm.trans (if_neg h_179)
                exact ⟨by rw [hm], by rw [hm]⟩
              · have hm := hm.trans (if_pos h_179)
                refine lv_iinc (v := (1 : Int32)) (lv' := [(2, .int (1 : Int32)), (1, .int (5 : Int32)), (0, .ref a.1)]) hx hb dX0_reset_59 hl (k := 0) rfl (by decide) (by decide) rfl (fun ls hl => ?_)
                refine lv_goto (tgt := 46) hx hb dX0_reset_62 (by decide) ?_
                refine lv_iload_n hx hb dX0_reset_46 rfl (lv_at hl 0 rfl) ?_
                refine lv_iconst (v := 2) hx hb dX0_reset_47 (by decide) ?_
                refine lv_icmp_ge (tgt := 65) hx hb dX0_reset_48 (by decide) (fun h => absurd h (by decide)) (fun _ => ?_)
                refine lv_aload_n hx hb dX0_reset_51 rfl (lv_at hl 2 rfl) ?_
                refine lv_iload_n hx hb dX0_reset_52 rfl (lv_at hl 0 rfl) ?_
                refine lv_iconst (v := 0) hx hb dX0_reset_53 (by decide) ?_
                refine lv_iconst (v := 0) hx hb dX0_reset_54 (by decide) ?_
                refine lv_iconst (v := 0) hx hb dX0_reset_55 (by decide) ?_
                refine cc_V hC hGx hD hEx hlocks (c_X0_putSpan l hl9 k a hD (1 : Int32) (0 : Int32) (0 : Int32) (0 : Int32) ((m_X0_putSpan (0 : Int32) (0 : Int32) (0 : Int32) (0 : Int32) (vp_updL (vp_updL (vp_updL (vp_updL (vp_updL z.1 (0 : Int32).toNatClampNeg (1008673 : Int64)) (1 : Int32).toNatClampNeg (1008673 : Int64)) (2 : Int32).toNatClampNeg (1008673 : Int64)) (4 : Int32).toNatClampNeg (1008673 : Int64)) (5 : Int32).toNatClampNeg (1008673 : Int64), z.2.1, z.2.2.1, z.2.2.2.1, z.2.2.2.2.1, z.2.2.2.2.2)).2)) (gV w_82 w_83 w_6 w_26 w_84) kk_X0_putSpan rfl ⟨Nat.le_of_ble_eq_true rfl, Nat.le_of_ble_eq_true rfl⟩ ⟨Nat.le_of_ble_eq_true rfl, Nat.le_of_ble_eq_true rfl⟩ ⟨Nat.le_of_ble_eq_true rfl, Nat.le_of_ble_eq_true rfl⟩ hP hS hl.1 rfl rfl (Nat.le_of_ble_eq_true rfl) dX0_reset_56 (fun h_180 => ?_) (fun h_180 H locs hP hS => ?_)
                · have hm : m_X0_reset z = ((m_X0_putSpan (1 : Int32) (0 : Int32) (0 : Int32) (0 : Int32) ((m_X0_putSpan (0 : Int32) (0 : Int32) (0 : Int32) (0 : Int32) (vp_updL (vp_updL (vp_updL (vp_updL (vp_updL z.1 (0 : Int32).toNatClampNeg (1008673 : Int64)) (1 : Int32).toNatClampNeg (1008673 : Int64)) (2 : Int32).toNatClampNeg (1008673 : Int64)) (4 : Int32).toNatClampNeg (1008673 : Int64)) (5 : Int32).toNatClampNeg (1008673 : Int64), z.2.1, z.2.2.1, z.2.2.2.1, z.2.2.2.2.1, z.2.2.2.2.2)).2)).1, 0, (m_X0_putSpan (1 : Int32) (0 : Int32) (0 : Int32) (0 : Int32) ((m_X0_putSpan (0 : Int32) (0 : Int32) (0 : Int32) (0 : Int32) (vp_updL (vp_updL (vp_updL (vp_updL (vp_updL z.1 (0 : Int32).toNatClampNeg (1008673 : Int64)) (1 : Int32).toNatClampNeg (1008673 : Int64)) (2 : Int32).toNatClampNeg (1008673 : Int64)) (4 : Int32).toNatClampNeg (1008673 : Int64)) (5 : Int32).toNatClampNeg (1008673 : Int64), z.2.1, z.2.2.1, z.2.2.2.1, z.2.2.2.2.1, z.2.2.2.2.2)).2)).2) := hm.trans (if_neg h_180)
                  exact ⟨by rw [hm], by rw [hm]⟩
                · have hm := hm.trans (if_pos h_180)
                  refine lv_iinc (v := (2 : Int32)) (lv' := [(2, .int (2 : Int32)), (1, .int (5 : Int32)), (0, .ref a.1)]) hx hb dX0_reset_59 hl (k := 0) rfl (by decide) (by decide) rfl (fun ls hl => ?_)
                  refine lv_goto (tgt := 46) hx hb dX0_reset_62 (by decide) ?_
                  refine lv_iload_n hx hb dX0_reset_46 rfl (lv_at hl 0 rfl) ?_
                  refine lv_iconst (v := 2) hx hb dX0_reset_47 (by decide) ?_
                  refine lv_icmp_ge (tgt := 65) hx hb dX0_reset_48 (by decide) (fun _ => ?_) (fun h => absurd h (by decide))
                  refine lv_iload_n hx hb dX0_reset_65 rfl (lv_at hl 1 rfl) ?_
                  have hm : m_X0_reset z = (0, (5 : Int32), (m_X0_putSpan (1 : Int32) (0 : Int32) (0 : Int32) (0 : Int32) ((m_X0_putSpan (0 : Int32) (0 : Int32) (0 : Int32) (0 : Int32) (vp_updL (vp_updL (vp_updL (vp_updL (vp_updL z.1 (0 : Int32).toNatClampNeg (1008673 : Int64)) (1 : Int32).toNatClampNeg (1008673 : Int64)) (2 : Int32).toNatClampNeg (1008673 : Int64)) (4 : Int32).toNatClampNeg (1008673 : Int64)) (5 : Int32).toNatClampNeg (1008673 : Int64), z.2.1, z.2.2.1, z.2.2.2.1, z.2.2.2.2.1, z.2.2.2.2.2)).2)).2) := hm
                  exact c_iret (E := (5 : Int32)) hx hb hr hlocks (by rw [hm]) (by rw [hm]) (by rw [hm]) hP hS ⟨Nat.le_of_ble_eq_true rfl, Nat.le_of_ble_eq_true rfl⟩ dX0_reset_66
        · have hm := hm.trans (if_neg h_169)
          refine lv_iinc (v := (4 : Int32)) (lv' := [(1, .int (4 : Int32)), (2, .int (3 : Int32)), (0, .ref a.1)]) hx hb dX0_reset_26 hl (k := 1) rfl (by decide) (by decide) rfl (fun ls hl => ?_)
          refine lv_aload_n hx hb dX0_reset_29 rfl (lv_at hl 2 rfl) ?_
          refine va_get (D := kD k) (ci := 2) (v := .ref a.2.1) (C := RX0) (T := TX0) (N := 6) hx hb htg inG_X0 hown hGx.1 hP 0 rfl rfl 0 (by decide) (htg _ w_57) (fun _ h9 => h9) rfl dX0_reset_30 ?_
          refine lv_iload_n hx hb dX0_reset_33 rfl (lv_at hl 1 rfl) ?_
          refine lv_ldc2 hx hb hown (htg _ w_56) dX0_reset_34 ?_
          refine va_last (D := kD k) hx hb hGx.1 hP (hD.own _ _) hS 1 0 rfl rfl (show ¬ ((3 : Int32) < 0 ∨ 6 ≤ ((3 : Int32)).toNatClampNeg) by decide) dX0_reset_37 (fun H locs hP1 _ hS => ?_)
          have hP : va_P (kD k) vwCl (cW k a (vp_updL (vp_updL (vp_updL (vp_updL z.1 (0 : Int32).toNatClampNeg (1008673 : Int64)) (1 : Int32).toNatClampNeg (1008673 : Int64)) (2 : Int32).toNatClampNeg (1008673 : Int64)) (3 : Int32).toNatClampNeg (1008673 : Int64), z.2.1, z.2.2.1, z.2.2.2.1, z.2.2.2.2.1, z.2.2.2.2.2)) H := hP1
          refine lv_iinc (v := (4 : Int32)) (lv' := [(2, .int (4 : Int32)), (1, .int (4 : Int32)), (0, .ref a.1)]) hx hb dX0_reset_38 hl (k := 1) rfl (by decide) (by decide) rfl (fun ls hl => ?_)
          refine lv_goto (tgt := 4) hx hb dX0_reset_41 (by decide) ?_
          refine lv_iload_n hx hb dX0_reset_4 rfl (lv_at hl 0 rfl) ?_
          refine lv_aload_n hx hb dX0_reset_5 rfl (lv_at hl 2 rfl) ?_
          refine va_get (D := kD k) (ci := 2) (v := .ref a.2.1) (C := RX0) (T := TX0) (N := 6) hx hb htg inG_X0 hown hGx.1 hP 0 rfl rfl 0 (by decide) (htg _ w_57) (fun _ h9 => h9) rfl dX0_reset_6 ?_
          refine va_alen (D := kD k) (v := 6) hx hb hGx.1 hP 1 0 rfl rfl (show Int32.ofNat 6 = 6 by decide) dX0_reset_9 ?_
          refine lv_icmp_ge (tgt := 44) hx hb dX0_reset_10 (by decide) (fun h => absurd h (by decide)) (fun _ => ?_)
          refine lv_aload_n hx hb dX0_reset_13 rfl (lv_at hl 2 rfl) ?_
          refine va_get (D := kD k) (ci := 2) (v := .ref a.2.1) (C := RX0) (T := TX0) (N := 6) hx hb htg inG_X0 hown hGx.1 hP 0 rfl rfl 0 (by decide) (htg _ w_57) (fun _ h9 => h9) rfl dX0_reset_14 ?_
          refine lv_iload_n hx hb dX0_reset_17 rfl (lv_at hl 0 rfl) ?_
          refine va_lald (D := kD k) hx hb hGx.1 hP 1 0 rfl rfl (show ¬ ((4 : Int32) < 0 ∨ 6 ≤ ((4 : Int32)).toNatClampNeg) by decide) dX0_reset_18 ?_
          refine lv_ldc2 hx hb hown (htg _ w_56) dX0_reset_19 ?_
          refine W.lcmp hx hb dX0_reset_22 ?_
          refine lv_if_eq (tgt := 38) hx hb dX0_reset_23 (by decide) (fun h_181 => ?_) (fun h_181 => ?_)
          · have hm := hm.trans (if_pos h_181)
            refine lv_iinc (v := (5 : Int32)) (lv' := [(2, .int (5 : Int32)), (1, .int (4 : Int32)), (0, .ref a.1)]) hx hb dX0_reset_38 hl (k := 0) rfl (by decide) (by decide) rfl (fun ls hl => ?_)
            refine lv_goto (tgt := 4) hx hb dX0_reset_41 (by decide) ?_
            refine lv_iload_n hx hb dX0_reset_4 rfl (lv_at hl 0 rfl) ?_
            refine lv_aload_n hx hb dX0_reset_5 rfl (lv_at hl 2 rfl) ?_
            refine va_get (D := kD k) (ci := 2) (v := .ref a.2.1) (C := RX0) (T := TX0) (N := 6) hx hb htg inG_X0 hown hGx.1 hP 0 rfl rfl 0 (by decide) (htg _ w_57) (fun _ h9 => h9) rfl dX0_reset_6 ?_
            refine va_alen (D := kD k) (v := 6) hx hb hGx.1 hP 1 0 rfl rfl (show Int32.ofNat 6 = 6 by decide) dX0_reset_9 ?_
            refine lv_icmp_ge (tgt := 44) hx hb dX0_reset_10 (by decide) (fun h => absurd h (by decide)) (fun _ => ?_)
            refine lv_aload_n hx hb dX0_reset_13 rfl (lv_at hl 2 rfl) ?_
            refine va_get (D := kD k) (ci := 2) (v := .ref a.2.1) (C := RX0) (T := TX0) (N := 6) hx hb htg inG_X0 hown hGx.1 hP 0 rfl rfl 0 (by decide) (htg _ w_57) (fun _ h9 => h9) rfl dX0_reset_14 ?_
            refine lv_iload_n hx hb dX0_reset_17 rfl (lv_at hl 0 rfl) ?_
            refine va_lald (D := kD k) hx hb hGx.1 hP 1 0 rfl rfl (show ¬ ((5 : Int32) < 0 ∨ 6 ≤ ((5 : Int32)).toNatClampNeg) by decide) dX0_reset_18 ?_
            refine lv_ldc2 hx hb hown (htg _ w_56) dX0_reset_19 ?_
            refine W.lcmp hx hb dX0_reset_22 ?_
            refine lv_if_eq (tgt := 38) hx hb dX0_reset_23 (by decide) (fun h_182 => ?_) (fun h_182 => ?_)
            · have hm := hm.trans (if_pos h_182)
              refine lv_iinc (v := (6 : Int32)) (lv' := [(2, .int (6 : Int32)), (1, .int (4 : Int32)), (0, .ref a.1)]) hx hb dX0_reset_38 hl (k := 0) rfl (by decide) (by decide) rfl (fun ls hl => ?_)
              refine lv_goto (tgt := 4) hx hb dX0_reset_41 (by decide) ?_
              refine lv_iload_n hx hb dX0_reset_4 rfl (lv_at hl 0 rfl) ?_
              refine lv_aload_n hx hb dX0_reset_5 rfl (lv_at hl 2 rfl) ?_
              refine va_get (D := kD k) (ci := 2) (v := .ref a.2.1) (C := RX0) (T := TX0) (N := 6) hx hb htg inG_X0 hown hGx.1 hP 0 rfl rfl 0 (by decide) (htg _ w_57) (fun _ h9 => h9) rfl dX0_reset_6 ?_
              refine va_alen (D := kD k) (v := 6) hx hb hGx.1 hP 1 0 rfl rfl (show Int32.ofNat 6 = 6 by decide) dX0_reset_9 ?_
              refine lv_icmp_ge (tgt := 44) hx hb dX0_reset_10 (by decide) (fun _ => ?_) (fun h => absurd h (by decide))
              refine lv_iconst (v := 0) hx hb dX0_reset_44 (by decide) ?_
              refine lv_istore_n (lv' := [(2, .int (0 : Int32)), (1, .int (4 : Int32)), (0, .ref a.1)]) hx hb dX0_reset_45 rfl hl (by decide) rfl (fun ls hl => ?_)
              refine lv_iload_n hx hb dX0_reset_46 rfl (lv_at hl 0 rfl) ?_
              refine lv_iconst (v := 2) hx hb dX0_reset_47 (by decide) ?_
              refine lv_icmp_ge (tgt := 65) hx hb dX0_reset_48 (by decide) (fun h => absurd h (by decide)) (fun _ => ?_)
              refine lv_aload_n hx hb dX0_reset_51 rfl (lv_at hl 2 rfl) ?_
              refine lv_iload_n hx hb dX0_reset_52 rfl (lv_at hl 0 rfl) ?_
              refine lv_iconst (v := 0) hx hb dX0_reset_53 (by decide) ?_
              refine lv_iconst (v := 0) hx hb dX0_reset_54 (by decide) ?_
              refine lv_iconst (v := 0) hx hb dX0_reset_55 (by decide) ?_
              refine cc_V hC hGx hD hEx hlocks (c_X0_putSpan l hl9 k a hD (0 : Int32) (0 : Int32) (0 : Int32) (0 : Int32) (vp_updL (vp_updL (vp_updL (vp_updL z.1 (0 : Int32).toNatClampNeg (1008673 : Int64)) (1 : Int32).toNatClampNeg (1008673 : Int64)) (2 : Int32).toNatClampNeg (1008673 : Int64)) (3 : Int32).toNatClampNeg (1008673 : Int64), z.2.1, z.2.2.1, z.2.2.2.1, z.2.2.2.2.1, z.2.2.2.2.2)) (gV w_82 w_83 w_6 w_26 w_84) kk_X0_putSpan rfl ⟨Nat.le_of_ble_eq_true rfl, Nat.le_of_ble_eq_true rfl⟩ ⟨Nat.le_of_ble_eq_true rfl, Nat.le_of_ble_eq_true rfl⟩ ⟨Nat.le_of_ble_eq_true rfl, Nat.le_of_ble_eq_true rfl⟩ hP hS hl.1 rfl rfl (Nat.le_of_ble_eq_true rfl) dX0_reset_56 (fun h_183 => ?_) (fun h_183 H locs hP hS => ?_)
              · have hm : m_X0_reset z = ((m_X0_putSpan (0 : Int32) (0 : Int32) (0 : Int32) (0 : Int32) (vp_updL (vp_updL (vp_updL (vp_updL z.1 (0 : Int32).toNatClampNeg (1008673 : Int64)) (1 : Int32).toNatClampNeg (1008673 : Int64)) (2 : Int32).toNatClampNeg (1008673 : Int64)) (3 : Int32).toNatClampNeg (1008673 : Int64), z.2.1, z.2.2.1, z.2.2.2.1, z.2.2.2.2.1, z.2.2.2.2.2)).1, 0, (m_X0_putSpan (0 : Int32) (0 : Int32) (0 : Int32) (0 : Int32) (vp_updL (vp_updL (vp_updL (vp_updL z.1 (0 : Int32).toNatClampNeg (1008673 : Int64)) (1 : Int32).toNatClampNeg (1008673 : Int64)) (2 : Int32).toNatClampNeg (1008673 : Int64)) (3 : Int32).toNatClampNeg (1008673 : Int64), z.2.1, z.2.2.1, z.2.2.2.1, z.2.2.2.2.1, z.2.2.2.2.2)).2) := hm.trans (if_neg h_183)
                exact ⟨by rw [hm], by rw [hm]⟩
              · have hm := hm.trans (if_pos h_183)
                refine lv_iinc (v := (1 : Int32)) (lv' := [(2, .int (1 : Int32)), (1, .int (4 : Int32)), (0, .ref a.1)]) hx hb dX0_reset_59 hl (k := 0) rfl (by decide) (by decide) rfl (fun ls hl => ?_)
                refine lv_goto (tgt := 46) hx hb dX0_reset_62 (by decide) ?_
                refine lv_iload_n hx hb dX0_reset_46 rfl (lv_at hl 0 rfl) ?_
                refine lv_iconst (v := 2) hx hb dX0_reset_47 (by decide) ?_
                refine lv_icmp_ge (tgt := 65) hx hb dX0_reset_48 (by decide) (fun h => absurd h (by decide)) (fun _ => ?_)
                refine lv_aload_n hx hb dX0_reset_51 rfl (lv_at hl 2 rfl) ?_
                refine lv_iload_n hx hb dX0_reset_52 rfl (lv_at hl 0 rfl) ?_
                refine lv_iconst (v := 0) hx hb dX0_reset_53 (by decide) ?_
                refine lv_iconst (v := 0) hx hb dX0_reset_54 (by decide) ?_
                refine lv_iconst (v := 0) hx hb dX0_reset_55 (by decide) ?_
                refine cc_V hC hGx hD hEx hlocks (c_X0_putSpan l hl9 k a hD (1 : Int32) (0 : Int32) (0 : Int32) (0 : Int32) ((m_X0_putSpan (0 : Int32) (0 : Int32) (0 : Int32) (0 : Int32) (vp_updL (vp_updL (vp_updL (vp_updL z.1 (0 : Int32).toNatClampNeg (1008673 : Int64)) (1 : Int32).toNatClampNeg (1008673 : Int64)) (2 : Int32).toNatClampNeg (1008673 : Int64)) (3 : Int32).toNatClampNeg (1008673 : Int64), z.2.1, z.2.2.1, z.2.2.2.1, z.2.2.2.2.1, z.2.2.2.2.2)).2)) (gV w_82 w_83 w_6 w_26 w_84) kk_X0_putSpan rfl ⟨Nat.le_of_ble_eq_true rfl, Nat.le_of_ble_eq_true rfl⟩ ⟨Nat.le_of_ble_eq_true rfl, Nat.le_of_ble_eq_true rfl⟩ ⟨Nat.le_of_ble_eq_true rfl, Nat.le_of_ble_eq_true rfl⟩ hP hS hl.1 rfl rfl (Nat.le_of_ble_eq_true rfl) dX0_reset_56 (fun h_184 => ?_) (fun h_184 H locs hP hS => ?_)
                · have hm : m_X0_reset z = ((m_X0_putSpan (1 : Int32) (0 : Int32) (0 : Int32) (0 : Int32) ((m_X0_putSpan (0 : Int32) (0 : Int32) (0 : Int32) (0 : Int32) (vp_updL (vp_updL (vp_updL (vp_updL z.1 (0 : Int32).toNatClampNeg (1008673 : Int64)) (1 : Int32).toNatClampNeg (1008673 : Int64)) (2 : Int32).toNatClampNeg (1008673 : Int64)) (3 : Int32).toNatClampNeg (1008673 : Int64), z.2.1, z.2.2.1, z.2.2.2.1, z.2.2.2.2.1, z.2.2.2.2.2)).2)).1, 0, (m_X0_putSpan (1 : Int32) (0 : Int32) (0 : Int32) (0 : Int32) ((m_X0_putSpan (0 : Int32) (0 : Int32) (0 : Int32) (0 : Int32) (vp_updL (vp_updL (vp_updL (vp_updL z.1 (0 : Int32).toNatClampNeg (1008673 : Int64)) (1 : Int32).toNatClampNeg (1008673 : Int64)) (2 : Int32).toNatClampNeg (1008673 : Int64)) (3 : Int32).toNatClampNeg (1008673 : Int64), z.2.1, z.2.2.1, z.2.2.2.1, z.2.2.2.2.1, z.2.2.2.2.2)).2)).2) := hm.trans (if_neg h_184)
                  exact ⟨by rw [hm], by rw [hm]⟩
                · have hm := hm.trans (if_pos h_184)
                  refine lv_iinc (v := (2 : Int32)) (lv' := [(2, .int (2 : Int32)), (1, .int (4 : Int32)), (0, .ref a.1)]) hx hb dX0_reset_59 hl (k := 0) rfl (by decide) (by decide) rfl (fun ls hl => ?_)
                  refine lv_goto (tgt := 46) hx hb dX0_reset_62 (by decide) ?_
                  refine lv_iload_n hx hb dX0_reset_46 rfl (lv_at hl 0 rfl) ?_
                  refine lv_iconst (v := 2) hx hb dX0_reset_47 (by decide) ?_
                  refine lv_icmp_ge (tgt := 65) hx hb dX0_reset_48 (by decide) (fun _ => ?_) (fun h => absurd h (by decide))
                  refine lv_iload_n hx hb dX0_reset_65 rfl (lv_at hl 1 rfl) ?_
                  have hm : m_X0_reset z = (0, (4 : Int32), (m_X0_putSpan (1 : Int32) (0 : Int32) (0 : Int32) (0 : Int32) ((m_X0_putSpan (0 : Int32) (0 : Int32) (0 : Int32) (0 : Int32) (vp_updL (vp_updL (vp_updL (vp_updL z.1 (0 : Int32).toNatClampNeg (1008673 : Int64)) (1 : Int32).toNatClampNeg (1008673 : Int64)) (2 : Int32).toNatClampNeg (1008673 : Int64)) (3 : Int32).toNatClampNeg (1008673 : Int64), z.2.1, z.2.2.1, z.2.2.2.1, z.2.2.2.2.1, z.2.2.2.2.2)).2)).2) := hm
                  exact c_iret (E := (4 : Int32)) hx hb hr hlocks (by rw [hm]) (by rw [hm]) (by rw [hm]) hP hS ⟨Nat.le_of_ble_eq_true rfl, Nat.le_of_ble_eq_true rfl⟩ dX0_reset_66
            · have hm := hm.trans (if_neg h_182)
              refine lv_iinc (v := (5 : Int32)) (lv' := [(1, .int (5 : Int32)), (2, .int (5 : Int32)), (0, .ref a.1)]) hx hb dX0_reset_26 hl (k := 1) rfl (by decide) (by decide) rfl (fun ls hl => ?_)
              refine lv_aload_n hx hb dX0_reset_29 rfl (lv_at hl 2 rfl) ?_
              refine va_get (D := kD k) (ci := 2) (v := .ref a.2.1) (C := RX0) (T := TX0) (N := 6) hx hb htg inG_X0 hown hGx.1 hP 0 rfl rfl 0 (by decide) (htg _ w_57) (fun _ h9 => h9) rfl dX0_reset_30 ?_
              refine lv_iload_n hx hb dX0_reset_33 rfl (lv_at hl 1 rfl) ?_
              refine lv_ldc2 hx hb hown (htg _ w_56) dX0_reset_34 ?_
              refine va_last (D := kD k) hx hb hGx.1 hP (hD.own _ _) hS 1 0 rfl rfl (show ¬ ((5 : Int32) < 0 ∨ 6 ≤ ((5 : Int32)).toNatClampNeg) by decide) dX0_reset_37 (fun H locs hP1 _ hS => ?_)
              have hP : va_P (kD k) vwCl (cW k a (vp_updL (vp_updL (vp_updL (vp_updL (vp_updL z.1 (0 : Int32).toNatClampNeg (1008673 : Int64)) (1 : Int32).toNatClampNeg (1008673 : Int64)) (2 : Int32).toNatClampNeg (1008673 : Int64)) (3 : Int32).toNatClampNeg (1008673 : Int64)) (5 : Int32).toNatClampNeg (1008673 : Int64), z.2.1, z.2.2.1, z.2.2.2.1, z.2.2.2.2.1, z.2.2.2.2.2)) H := hP1
              refine lv_iinc (v := (6 : Int32)) (lv' := [(2, .int (6 : Int32)), (1, .int (5 : Int32)), (0, .ref a.1)]) hx hb dX0_reset_38 hl (k := 1) rfl (by decide) (by decide) rfl (fun ls hl => ?_)
              refine lv_goto (tgt := 4) hx hb dX0_reset_41 (by decide) ?_
              refine lv_iload_n hx hb dX0_reset_4 rfl (lv_at hl 0 rfl) ?_
              refine lv_aload_n hx hb dX0_reset_5 rfl (lv_at hl 2 rfl) ?_
              refine va_get (D := kD k) (ci := 2) (v := .ref a.2.1) (C := RX0) (T := TX0) (N := 6) hx hb htg inG_X0 hown hGx.1 hP 0 rfl rfl 0 (by decide) (htg _ w_57) (fun _ h9 => h9) rfl dX0_reset_6 ?_
              refine va_alen (D := kD k) (v := 6) hx hb hGx.1 hP 1 0 rfl rfl (show Int32.ofNat 6 = 6 by decide) dX0_reset_9 ?_
              refine lv_icmp_ge (tgt := 44) hx hb dX0_reset_10 (by decide) (fun _ => ?_) (fun h => absurd h (by decide))
              refine lv_iconst (v := 0) hx hb dX0_reset_44 (by decide) ?_
              refine lv_istore_n (lv' := [(2, .int (0 : Int32)), (1, .int (5 : Int32)), (0, .ref a.1)]) hx hb dX0_reset_45 rfl hl (by decide) rfl (fun ls hl => ?_)
              refine lv_iload_n hx hb dX0_reset_46 rfl (lv_at hl 0 rfl) ?_
              refine lv_iconst (v := 2) hx hb dX0_reset_47 (by decide) ?_
              refine lv_icmp_ge (tgt := 65) hx hb dX0_reset_48 (by decide) (fun h => absurd h (by decide)) (fun _ => ?_)
              refine lv_aload_n hx hb dX0_reset_51 rfl (lv_at hl 2 rfl) ?_
              refine lv_iload_n hx hb dX0_reset_52 rfl (lv_at hl 0 rfl) ?_
              refine lv_iconst (v := 0) hx hb dX0_reset_53 (by decide) ?_
              refine lv_iconst (v := 0) hx hb dX0_reset_54 (by decide) ?_
              refine lv_iconst (v := 0) hx hb dX0_reset_55 (by decide) ?_
              refine cc_V hC hGx hD hEx hlocks (c_X0_putSpan l hl9 k a hD (0 : Int32) (0 : Int32) (0 : Int32) (0 : Int32) (vp_updL (vp_updL (vp_updL (vp_updL (vp_updL z.1 (0 : Int32).toNatClampNeg (1008673 : Int64)) (1 : Int32).toNatClampNeg (1008673 : Int64)) (2 : Int32).toNatClampNeg (1008673 : Int64)) (3 : Int32).toNatClampNeg (1008673 : Int64)) (5 : Int32).toNatClampNeg (1008673 : Int64), z.2.1, z.2.2.1, z.2.2.2.1, z.2.2.2.2.1, z.2.2.2.2.2)) (gV w_82 w_83 w_6 w_26 w_84) kk_X0_putSpan rfl ⟨Nat.le_of_ble_eq_true rfl, Nat.le_of_ble_eq_true rfl⟩ ⟨Nat.le_of_ble_eq_true rfl, Nat.le_of_ble_eq_true rfl⟩ ⟨Nat.le_of_ble_eq_true rfl, Nat.le_of_ble_eq_true rfl⟩ hP hS hl.1 rfl rfl (Nat.le_of_ble_eq_true rfl) dX0_reset_56 (fun h_185 => ?_) (fun h_185 H locs hP hS => ?_)
              · have hm : m_X0_reset z = ((m_X0_putSpan (0 : Int32) (0 : Int32) (0 : Int32) (0 : Int32) (vp_updL (vp_updL (vp_updL (vp_updL (vp_updL z.1 (0 : Int32).toNatClampNeg (1008673 : Int64)) (1 : Int32).toNatClampNeg (1008673 : Int64)) (2 : Int32).toNatClampNeg (1008673 : Int64)) (3 : Int32).toNatClampNeg (1008673 : Int64)) (5 : Int32).toNatClampNeg (1008673 : Int64), z.2.1, z.2.2.1, z.2.2.2.1, z.2.2.2.2.1, z.2.2.2.2.2)).1, 0, (m_X0_putSpan (0 : Int32) (0 : Int32) (0 : Int32) (0 : Int32) (vp_updL (vp_updL (vp_updL (vp_updL (vp_updL z.1 (0 : Int32).toNatClampNeg (1008673 : Int64)) (1 : Int32).toNatClampNeg (1008673 : Int64)) (2 : Int32).toNatClampNeg (1008673 : Int64)) (3 : Int32).toNatClampNeg (1008673 : Int64)) (5 : Int32).toNatClampNeg (1008673 : Int64), z.2.1, z.2.2.1, z.2.2.2.1, z.2.2.2.2.1, z.2.2.2.2.2)).2) := hm.trans (if_neg h_185)
                exact ⟨by rw [hm], by rw [hm]⟩
              · have hm := hm.trans (if_pos h_185)
                refine lv_iinc (v := (1 : Int32)) (lv' := [(2, .int (1 : Int32)), (1, .int (5 : Int32)), (0, .ref a.1)]) hx hb dX0_reset_59 hl (k := 0) rfl (by decide) (by decide) rfl (fun ls hl => ?_)
                refine lv_goto (tgt := 46) hx hb dX0_reset_62 (by decide) ?_
                refine lv_iload_n hx hb dX0_reset_46 rfl (lv_at hl 0 rfl) ?_
                refine lv_iconst (v := 2) hx hb dX0_reset_47 (by decide) ?_
                refine lv_icmp_ge (tgt := 65) hx hb dX0_reset_48 (by decide) (fun h => absurd h (by decide)) (fun _ => ?_)
                refine lv_aload_n hx hb dX0_reset_51 rfl (lv_at hl 2 rfl) ?_
                refine lv_iload_n hx hb dX0_reset_52 rfl (lv_at hl 0 rfl) ?_
                refine lv_iconst (v := 0) hx hb dX0_reset_53 (by decide) ?_
                refine lv_iconst (v := 0) hx hb dX0_reset_54 (by decide) ?_
                refine lv_iconst (v := 0) hx hb dX0_reset_55 (by decide) ?_
                refine cc_V hC hGx hD hEx hlocks (c_X0_putSpan l hl9 k a hD (1 : Int32) (0 : Int32) (0 : Int32) (0 : Int32) ((m_X0_putSpan (0 : Int32) (0 : Int32) (0 : Int32) (0 : Int32) (vp_updL (vp_updL (vp_updL (vp_updL (vp_updL z.1 (0 : Int32).toNatClampNeg (1008673 : Int64)) (1 : Int32).toNatClampNeg (1008673 : Int64)) (2 : Int32).toNatClampNeg (1008673 : Int64)) (3 : Int32).toNatClampNeg (1008673 : Int64)) (5 : Int32).toNatClampNeg (1008673 : Int64), z.2.1, z.2.2.1, z.2.2.2.1, z.2.2.2.2.1, z.2.2.2.2.2)).2)) (gV w_82 w_83 w_6 w_26 w_84) kk_X0_putSpan rfl ⟨Nat.le_of_ble_eq_true rfl, Nat.le_of_ble_eq_true rfl⟩ ⟨Nat.le_of_ble_eq_true rfl, Nat.le_of_ble_eq_true rfl⟩ ⟨Nat.le_of_ble_eq_true rfl, Nat.le_of_ble_eq_true rfl⟩ hP hS hl.1 rfl rfl (Nat.le_of_ble_eq_true rfl) dX0_reset_56 (fun h_186 => ?_) (fun h_186 H locs hP hS => ?_)
                · have hm : m_X0_reset z = ((m_X0_putSpan (1 : Int32) (0 : Int32) (0 : Int32) (0 : Int32) ((m_X0_putSpan (0 : Int32) (0 : Int32) (0 : Int32) (0 : Int32) (vp_updL (vp_updL (vp_updL (vp_updL (vp_updL z.1 (0 : Int32).toNatClampNeg (1008673 : Int64)) (1 : Int32).toNatClampNeg (1008673 : Int64)) (2 : Int32).toNatClampNeg (1008673 : Int64)) (3 : Int32).toNatClampNeg (1008673 : Int64)) (5 : Int32).toNatClampNeg (1008673 : Int64), z.2.1, z.2.2.1, z.2.2.2.1, z.2.2.2.2.1, z.2.2.2.2.2)).2)).1, 0, (m_X0_putSpan (1 : Int32) (0 : Int32) (0 : Int32) (0 : Int32) ((m_X0_putSpan (0 : Int32) (0 : Int32) (0 : Int32) (0 : Int32) (vp_updL (vp_updL (vp_updL (vp_updL (vp_updL z.1 (0 : Int32).toNatClampNeg (1008673 : Int64)) (1 : Int32).toNatClampNeg (1008673 : Int64)) (2 : Int32).toNatClampNeg (1008673 : Int64)) (3 : Int32).toNatClampNeg (1008673 : Int64)) (5 : Int32).toNatClampNeg (1008673 : Int64), z.2.1, z.2.2.1, z.2.2.2.1, z.2.2.2.2.1, z.2.2.2.2.2)).2)).2) := hm.trans (if_neg h_186)
                  exact ⟨by rw [hm], by rw [hm]⟩
                · have hm := hm.trans (if_pos h_186)
                  refine lv_iinc (v := (2 : Int32)) (lv' := [(2, .int (2 : Int32)), (1, .int (5 : Int32)), (0, .ref a.1)]) hx hb dX0_reset_59 hl (k := 0) rfl (by decide) (by decide) rfl (fun ls hl => ?_)
                  refine lv_goto (tgt := 46) hx hb dX0_reset_62 (by decide) ?_
                  refine lv_iload_n hx hb dX0_reset_46 rfl (lv_at hl 0 rfl) ?_
                  refine lv_iconst (v := 2) hx hb dX0_reset_47 (by decide) ?_
                  refine lv_icmp_ge (tgt := 65) hx hb dX0_reset_48 (by decide) (fun _ => ?_) (fun h => absurd h (by decide))
                  refine lv_iload_n hx hb dX0_reset_65 rfl (lv_at hl 1 rfl) ?_
                  have hm : m_X0_reset z = (0, (5 : Int32), (m_X0_putSpan (1 : Int32) (0 : Int32) (0 : Int32) (0 : Int32) ((m_X0_putSpan (0 : Int32) (0 : Int32) (0 : Int32) (0 : Int32) (vp_updL (vp_updL (vp_updL (vp_updL (vp_updL z.1 (0 : Int32).toNatClampNeg (1008673 : Int64)) (1 : Int32).toNatClampNeg (1008673 : Int64)) (2 : Int32).toNatClampNeg (1008673 : Int64)) (3 : Int32).toNatClampNeg (1008673 : Int64)) (5 : Int32).toNatClampNeg (1008673 : Int64), z.2.1, z.2.2.1, z.2.2.2.1, z.2.2.2.2.1, z.2.2.2.2.2)).2)).2) := hm
                  exact c_iret (E := (5 : Int32)) hx hb hr hlocks (by rw [hm]) (by rw [hm]) (by rw [hm]) hP hS ⟨Nat.le_of_ble_eq_true rfl, Nat.le_of_ble_eq_true rfl⟩ dX0_reset_66
          · have hm := hm.trans (if_neg h_181)
            refine lv_iinc (v := (5 : Int32)) (lv' := [(1, .int (5 : Int32)), (2, .int (4 : Int32)), (0, .ref a.1)]) hx hb dX0_reset_26 hl (k := 1) rfl (by decide) (by decide) rfl (fun ls hl => ?_)
            refine lv_aload_n hx hb dX0_reset_29 rfl (lv_at hl 2 rfl) ?_
            refine va_get (D := kD k) (ci := 2) (v := .ref a.2.1) (C := RX0) (T := TX0) (N := 6) hx hb htg inG_X0 hown hGx.1 hP 0 rfl rfl 0 (by decide) (htg _ w_57) (fun _ h9 => h9) rfl dX0_reset_30 ?_
            refine lv_iload_n hx hb dX0_reset_33 rfl (lv_at hl 1 rfl) ?_
            refine lv_ldc2 hx hb hown (htg _ w_56) dX0_reset_34 ?_
            refine va_last (D := kD k) hx hb hGx.1 hP (hD.own _ _) hS 1 0 rfl rfl (show ¬ ((4 : Int32) < 0 ∨ 6 ≤ ((4 : Int32)).toNatClampNeg) by decide) dX0_reset_37 (fun H locs hP1 _ hS => ?_)
            have hP : va_P (kD k) vwCl (cW k a (vp_updL (vp_updL (vp_updL (vp_updL (vp_updL z.1 (0 : Int32).toNatClampNeg (1008673 : Int64)) (1 : Int32).toNatClampNeg (1008673 : Int64)) (2 : Int32).toNatClampNeg (1008673 : Int64)) (3 : Int32).toNatClampNeg (1008673 : Int64)) (4 : Int32).toNatClampNeg (1008673 : Int64), z.2.1, z.2.2.1, z.2.2.2.1, z.2.2.2.2.1, z.2.2.2.2.2)) H := hP1
            refine lv_iinc (v := (5 : Int32)) (lv' := [(2, .int (5 : Int32)), (1, .int (5 : Int32)), (0, .ref a.1)]) hx hb dX0_reset_38 hl (k := 1) rfl (by decide) (by decide) rfl (fun ls hl => ?_)
            refine lv_goto (tgt := 4) hx hb dX0_reset_41 (by decide) ?_
            refine lv_iload_n hx hb dX0_reset_4 rfl (lv_at hl 0 rfl) ?_
            refine lv_aload_n hx hb dX0_reset_5 rfl (lv_at hl 2 rfl) ?_
            refine va_get (D := kD k) (ci := 2) (v := .ref a.2.1) (C := RX0) (T := TX0) (N := 6) hx hb htg inG_X0 hown hGx.1 hP 0 rfl rfl 0 (by decide) (htg _ w_57) (fun _ h9 => h9) rfl dX0_reset_6 ?_
            refine va_alen (D := kD k) (v := 6) hx hb hGx.1 hP 1 0 rfl rfl (show Int32.ofNat 6 = 6 by decide) dX0_reset_9 ?_
            refine lv_icmp_ge (tgt := 44) hx hb dX0_reset_10 (by decide) (fun h => absurd h (by decide)) (fun _ => ?_)
            refine lv_aload_n hx hb dX0_reset_13 rfl (lv_at hl 2 rfl) ?_
            refine va_get (D := kD k) (ci := 2) (v := .ref a.2.1) (C := RX0) (T := TX0) (N := 6) hx hb htg inG_X0 hown hGx.1 hP 0 rfl rfl 0 (by decide) (htg _ w_57) (fun _ h9 => h9) rfl dX0_reset_14 ?_
            refine lv_iload_n hx hb dX0_reset_17 rfl (lv_at hl 0 rfl) ?_
            refine va_lald (D := kD k) hx hb hGx.1 hP 1 0 rfl rfl (show ¬ ((5 : Int32) < 0 ∨ 6 ≤ ((5 : Int32)).toNatClampNeg) by decide) dX0_reset_18 ?_
            refine lv_ldc2 hx hb hown (htg _ w_56) dX0_reset_19 ?_
            refine W.lcmp hx hb dX0_reset_22 ?_
            refine lv_if_eq (tgt := 38) hx hb dX0_reset_23 (by decide) (fun h_187 => ?_) (fun h_187 => ?_)
            · have hm := hm.trans (if_pos h_187)
              refine lv_iinc (v := (6 : Int32)) (lv' := [(2, .int (6 : Int32)), (1, .int (5 : Int32)), (0, .ref a.1)]) hx hb dX0_reset_38 hl (k := 0) rfl (by decide) (by decide) rfl (fun ls hl => ?_)
              refine lv_goto (tgt := 4) hx hb dX0_reset_41 (by decide) ?_
              refine lv_iload_n hx hb dX0_reset_4 rfl (lv_at hl 0 rfl) ?_
              refine lv_aload_n hx hb dX0_reset_5 rfl (lv_at hl 2 rfl) ?_
              refine va_get (D := kD k) (ci := 2) (v := .ref a.2.1) (C := RX0) (T := TX0) (N := 6) hx hb htg inG_X0 hown hGx.1 hP 0 rfl rfl 0 (by decide) (htg _ w_57) (fun _ h9 => h9) rfl dX0_reset_6 ?_
              refine va_alen (D := kD k) (v := 6) hx hb hGx.1 hP 1 0 rfl rfl (show Int32.ofNat 6 = 6 by decide) dX0_reset_9 ?_
              refine lv_icmp_ge (tgt := 44) hx hb dX0_reset_10 (by decide) (fun _ => ?_) (fun h => absurd h (by decide))
              refine lv_iconst (v := 0) hx hb dX0_reset_44 (by decide) ?_
              refine lv_istore_n (lv' := [(2, .int (0 : Int32)), (1, .int (5 : Int32)), (0, .ref a.1)]) hx hb dX0_reset_45 rfl hl (by decide) rfl (fun ls hl => ?_)
              refine lv_iload_n hx hb dX0_reset_46 rfl (lv_at hl 0 rfl) ?_
              refine lv_iconst (v := 2) hx hb dX0_reset_47 (by decide) ?_
              refine lv_icmp_ge (tgt := 65) hx hb dX0_reset_48 (by decide) (fun h => absurd h (by decide)) (fun _ => ?_)
              refine lv_aload_n hx hb dX0_reset_51 rfl (lv_at hl 2 rfl) ?_
              refine lv_iload_n hx hb dX0_reset_52 rfl (lv_at hl 0 rfl) ?_
              refine lv_iconst (v := 0) hx hb dX0_reset_53 (by decide) ?_
              refine lv_iconst (v := 0) hx hb dX0_reset_54 (by decide) ?_
              refine lv_iconst (v := 0) hx hb dX0_reset_55 (by decide) ?_
              refine cc_V hC hGx hD hEx hlocks (c_X0_putSpan l hl9 k a hD (0 : Int32) (0 : Int32) (0 : Int32) (0 : Int32) (vp_updL (vp_updL (vp_updL (vp_updL (vp_updL z.1 (0 : Int32).toNatClampNeg (1008673 : Int64)) (1 : Int32).toNatClampNeg (1008673 : Int64)) (2 : Int32).toNatClampNeg (1008673 : Int64)) (3 : Int32).toNatClampNeg (1008673 : Int64)) (4 : Int32).toNatClampNeg (1008673 : Int64), z.2.1, z.2.2.1, z.2.2.2.1, z.2.2.2.2.1, z.2.2.2.2.2)) (gV w_82 w_83 w_6 w_26 w_84) kk_X0_putSpan rfl ⟨Nat.le_of_ble_eq_true rfl, Nat.le_of_ble_eq_true rfl⟩ ⟨Nat.le_of_ble_eq_true rfl, Nat.le_of_ble_eq_true rfl⟩ ⟨Nat.le_of_ble_eq_true rfl, Nat.le_of_ble_eq_true rfl⟩ hP hS hl.1 rfl rfl (Nat.le_of_ble_eq_true rfl) dX0_reset_56 (fun h_188 => ?_) (fun h_188 H locs hP hS => ?_)
              · have hm : m_X0_reset z = ((m_X0_putSpan (0 : Int32) (0 : Int32) (0 : Int32) (0 : Int32) (vp_updL (vp_updL (vp_updL (vp_updL (vp_updL z.1 (0 : Int32).toNatClampNeg (1008673 : Int64)) (1 : Int32).toNatClampNeg (1008673 : Int64)) (2 : Int32).toNatClampNeg (1008673 : Int64)) (3 : Int32).toNatClampNeg (1008673 : Int64)) (4 : Int32).toNatClampNeg (1008673 : Int64), z.2.1, z.2.2.1, z.2.2.2.1, z.2.2.2.2.1, z.2.2.2.2.2)).1, 0, (m_X0_putSpan (0 : Int32) (0 : Int32) (0 : Int32) (0 : Int32) (vp_updL (vp_updL (vp_updL (vp_updL (vp_updL z.1 (0 : Int32).toNatClampNeg (1008673 : Int64)) (1 : Int32).toNatClampNeg (1008673 : Int64)) (2 : Int32).toNatClampNeg (1008673 : Int64)) (3 : Int32).toNatClampNeg (1008673 : Int64)) (4 : Int32).toNatClampNeg (1008673 : Int64), z.2.1, z.2.2.1, z.2.2.2.1, z.2.2.2.2.1, z.2.2.2.2.2)).2) := hm.trans (if_neg h_188)
                exact ⟨by rw [hm], by rw [hm]⟩
              · have hm := hm.trans (if_pos h_188)
                refine lv_iinc (v := (1 : Int32)) (lv' := [(2, .int (1 : Int32)), (1, .int (5 : Int32)), (0, .ref a.1)]) hx hb dX0_reset_59 hl (k := 0) rfl (by decide) (by decide) rfl (fun ls hl => ?_)
                refine lv_goto (tgt := 46) hx hb dX0_reset_62 (by decide) ?_
                refine lv_iload_n hx hb dX0_reset_46 rfl (lv_at hl 0 rfl) ?_
                refine lv_iconst (v := 2) hx hb dX0_reset_47 (by decide) ?_
                refine lv_icmp_ge (tgt := 65) hx hb dX0_reset_48 (by decide) (fun h => absurd h (by decide)) (fun _ => ?_)
                refine lv_aload_n hx hb dX0_reset_51 rfl (lv_at hl 2 rfl) ?_
                refine lv_iload_n hx hb dX0_reset_52 rfl (lv_at hl 0 rfl) ?_
                refine lv_iconst (v := 0) hx hb dX0_reset_53 (by decide) ?_
                refine lv_iconst (v := 0) hx hb dX0_reset_54 (by decide) ?_
                refine lv_iconst (v := 0) hx hb dX0_reset_55 (by decide) ?_
                refine cc_V hC hGx hD hEx hlocks (c_X0_putSpan l hl9 k a hD (1 : Int32) (0 : Int32) (0 : Int32) (0 : Int32) ((m_X0_putSpan (0 : Int32) (0 : Int32) (0 : Int32) (0 : Int32) (vp_updL (vp_updL (vp_updL (vp_updL (vp_updL z.1 (0 : Int32).toNatClampNeg (1008673 : Int64)) (1 : Int32).toNatClampNeg (1008673 : Int64)) (2 : Int32).toNatClampNeg (1008673 : Int64)) (3 : Int32).toNatClampNeg (1008673 : Int64)) (4 : Int32).toNatClampNeg (1008673 : Int64), z.2.1, z.2.2.1, z.2.2.2.1, z.2.2.2.2.1, z.2.2.2.2.2)).2)) (gV w_82 w_83 w_6 w_26 w_84) kk_X0_putSpan rfl ⟨Nat.le_of_ble_eq_true rfl, Nat.le_of_ble_eq_true rfl⟩ ⟨Nat.le_of_ble_eq_true rfl, Nat.le_of_ble_eq_true rfl⟩ ⟨Nat.le_of_ble_eq_true rfl, Nat.le_of_ble_eq_true rfl⟩ hP hS hl.1 rfl rfl (Nat.le_of_ble_eq_true rfl) dX0_reset_56 (fun h_189 => ?_) (fun h_189 H locs hP hS => ?_)
                · have hm : m_X0_reset z = ((m_X0_putSpan (1 : Int32) (0 : Int32) (0 : Int32) (0 : Int32) ((m_X0_putSpan (0 : Int32) (0 : Int32) (0 : Int32) (0 : Int32) (vp_updL (vp_updL (vp_updL (vp_updL (vp_updL z.1 (0 : Int32).toNatClampNeg (1008673 : Int64)) (1 : Int32).toNatClampNeg (1008673 : Int64)) (2 : Int32).toNatClampNeg (1008673 : Int64)) (3 : Int32).toNatClampNeg (1008673 : Int64)) (4 : Int32).toNatClampNeg (1008673 : Int64), z.2.1, z.2.2.1, z.2.2.2.1, z.2.2.2.2.1, z.2.2.2.2.2)).2)).1, 0, (m_X0_putSpan (1 : Int32) (0 : Int32) (0 : Int32) (0 : Int32) ((m_X0_putSpan (0 : Int32) (0 : Int32) (0 : Int32) (0 : Int32) (vp_updL (vp_updL (vp_updL (vp_updL (vp_updL z.1 (0 : Int32).toNatClampNeg (1008673 : Int64)) (1 : Int32).toNatClampNeg (1008673 : Int64)) (2 : Int32).toNatClampNeg (1008673 : Int64)) (3 : Int32).toNatClampNeg (1008673 : Int64)) (4 : Int32).toNatClampNeg (1008673 : Int64), z.2.1, z.2.2.1, z.2.2.2.1, z.2.2.2.2.1, z.2.2.2.2.2)).2)).2) := hm.trans (if_neg h_189)
                  exact ⟨by rw [hm], by rw [hm]⟩
                · have hm := hm.trans (if_pos h_189)
                  refine lv_iinc (v := (2 : Int32)) (lv' := [(2, .int (2 : Int32)), (1, .int (5 : Int32)), (0, .ref a.1)]) hx hb dX0_reset_59 hl (k := 0) rfl (by decide) (by decide) rfl (fun ls hl => ?_)
                  refine lv_goto (tgt := 46) hx hb dX0_reset_62 (by decide) ?_
                  refine lv_iload_n hx hb dX0_reset_46 rfl (lv_at hl 0 rfl) ?_
                  refine lv_iconst (v := 2) hx hb dX0_reset_47 (by decide) ?_
                  refine lv_icmp_ge (tgt := 65) hx hb dX0_reset_48 (by decide) (fun _ => ?_) (fun h => absurd h (by decide))
                  refine lv_iload_n hx hb dX0_reset_65 rfl (lv_at hl 1 rfl) ?_
                  have hm : m_X0_reset z = (0, (5 : Int32), (m_X0_putSpan (1 : Int32) (0 : Int32) (0 : Int32) (0 : Int32) ((m_X0_putSpan (0 : Int32) (0 : Int32) (0 : Int32) (0 : Int32) (vp_updL (vp_updL (vp_updL (vp_updL (vp_updL z.1 (0 : Int32).toNatClampNeg (1008673 : Int64)) (1 : Int32).toNatClampNeg (1008673 : Int64)) (2 : Int32).toNatClampNeg (1008673 : Int64)) (3 : Int32).toNatClampNeg (1008673 : Int64)) (4 : Int32).toNatClampNeg (1008673 : Int64), z.2.1, z.2.2.1, z.2.2.2.1, z.2.2.2.2.1, z.2.2.2.2.2)).2)).2) := hm
                  exact c_iret (E := (5 : Int32)) hx hb hr hlocks (by rw [hm]) (by rw [hm]) (by rw [hm]) hP hS ⟨Nat.le_of_ble_eq_true rfl, Nat.le_of_ble_eq_true rfl⟩ dX0_reset_66
            · have hm := hm.trans (if_neg h_187)
              refine lv_iinc (v := (6 : Int32)) (lv' := [(1, .int (6 : Int32)), (2, .int (5 : Int32)), (0, .ref a.1)]) hx hb dX0_reset_26 hl (k := 1) rfl (by decide) (by decide) rfl (fun ls hl => ?_)
              refine lv_aload_n hx hb dX0_reset_29 rfl (lv_at hl 2 rfl) ?_
              refine va_get (D := kD k) (ci := 2) (v := .ref a.2.1) (C := RX0) (T := TX0) (N := 6) hx hb htg inG_X0 hown hGx.1 hP 0 rfl rfl 0 (by decide) (htg _ w_57) (fun _ h9 => h9) rfl dX0_reset_30 ?_
              refine lv_iload_n hx hb dX0_reset_33 rfl (lv_at hl 1 rfl) ?_
              refine lv_ldc2 hx hb hown (htg _ w_56) dX0_reset_34 ?_
              refine va_last (D := kD k) hx hb hGx.1 hP (hD.own _ _) hS 1 0 rfl rfl (show ¬ ((5 : Int32) < 0 ∨ 6 ≤ ((5 : Int32)).toNatClampNeg) by decide) dX0_reset_37 (fun H locs hP1 _ hS => ?_)
              have hP : va_P (kD k) vwCl (cW k a (vp_updL (vp_updL (vp_updL (vp_updL (vp_updL (vp_updL z.1 (0 : Int32).toNatClampNeg (1008673 : Int64)) (1 : Int32).toNatClampNeg (1008673 : Int64)) (2 : Int32).toNatClampNeg (1008673 : Int64)) (3 : Int32).toNatClampNeg (1008673 : Int64)) (4 : Int32).toNatClampNeg (1008673 : Int64)) (5 : Int32).toNatClampNeg (1008673 : Int64), z.2.1, z.2.2.1, z.2.2.2.1, z.2.2.2.2.1, z.2.2.2.2.2)) H := hP1
              refine lv_iinc (v := (6 : Int32)) (lv' := [(2, .int (6 : Int32)), (1, .int (6 : Int32)), (0, .ref a.1)]) hx hb dX0_reset_38 hl (k := 1) rfl (by decide) (by decide) rfl (fun ls hl => ?_)
              refine lv_goto (tgt := 4) hx hb dX0_reset_41 (by decide) ?_
              refine lv_iload_n hx hb dX0_reset_4 rfl (lv_at hl 0 rfl) ?_
              refine lv_aload_n hx hb dX0_reset_5 rfl (lv_at hl 2 rfl) ?_
              refine va_get (D := kD k) (ci := 2) (v := .ref a.2.1) (C := RX0) (T := TX0) (N := 6) hx hb htg inG_X0 hown hGx.1 hP 0 rfl rfl 0 (by decide) (htg _ w_57) (fun _ h9 => h9) rfl dX0_reset_6 ?_
              refine va_alen (D := kD k) (v := 6) hx hb hGx.1 hP 1 0 rfl rfl (show Int32.ofNat 6 = 6 by decide) dX0_reset_9 ?_
              refine lv_icmp_ge (tgt := 44) hx hb dX0_reset_10 (by decide) (fun _ => ?_) (fun h => absurd h (by decide))
              refine lv_iconst (v := 0) hx hb dX0_reset_44 (by decide) ?_
              refine lv_istore_n (lv' := [(2, .int (0 : Int32)), (1, .int (6 : Int32)), (0, .ref a.1)]) hx hb dX0_reset_45 rfl hl (by decide) rfl (fun ls hl => ?_)
              refine lv_iload_n hx hb dX0_reset_46 rfl (lv_at hl 0 rfl) ?_
              refine lv_iconst (v := 2) hx hb dX0_reset_47 (by decide) ?_
              refine lv_icmp_ge (tgt := 65) hx hb dX0_reset_48 (by decide) (fun h => absurd h (by decide)) (fun _ => ?_)
              refine lv_aload_n hx hb dX0_reset_51 rfl (lv_at hl 2 rfl) ?_
              refine lv_iload_n hx hb dX0_reset_52 rfl (lv_at hl 0 rfl) ?_
              refine lv_iconst (v := 0) hx hb dX0_reset_53 (by decide) ?_
              refine lv_iconst (v := 0) hx hb dX0_reset_54 (by decide) ?_
              refine lv_iconst (v := 0) hx hb dX0_reset_55 (by decide) ?_
              refine cc_V hC hGx hD hEx hlocks (c_X0_putSpan l hl9 k a hD (0 : Int32) (0 : Int32) (0 : Int32) (0 : Int32) (vp_updL (vp_updL (vp_updL (vp_updL (vp_updL (vp_updL z.1 (0 : Int32).toNatClampNeg (1008673 : Int64)) (1 : Int32).toNatClampNeg (1008673 : Int64)) (2 : Int32).toNatClampNeg (1008673 : Int64)) (3 : Int32).toNatClampNeg (1008673 : Int64)) (4 : Int32).toNatClampNeg (1008673 : Int64)) (5 : Int32).toNatClampNeg (1008673 : Int64), z.2.1, z.2.2.1, z.2.2.2.1, z.2.2.2.2.1, z.2.2.2.2.2)) (gV w_82 w_83 w_6 w_26 w_84) kk_X0_putSpan rfl ⟨Nat.le_of_ble_eq_true rfl, Nat.le_of_ble_eq_true rfl⟩ ⟨Nat.le_of_ble_eq_true rfl, Nat.le_of_ble_eq_true rfl⟩ ⟨Nat.le_of_ble_eq_true rfl, Nat.le_of_ble_eq_true rfl⟩ hP hS hl.1 rfl rfl (Nat.le_of_ble_eq_true rfl) dX0_reset_56 (fun h_190 => ?_) (fun h_190 H locs hP hS => ?_)
              · have hm : m_X0_reset z = ((m_X0_putSpan (0 : Int32) (0 : Int32) (0 : Int32) (0 : Int32) (vp_updL (vp_updL (vp_updL (vp_updL (vp_updL (vp_updL z.1 (0 : Int32).toNatClampNeg (1008673 : Int64)) (1 : Int32).toNatClampNeg (1008673 : Int64)) (2 : Int32).toNatClampNeg (1008673 : Int64)) (3 : Int32).toNatClampNeg (1008673 : Int64)) (4 : Int32).toNatClampNeg (1008673 : Int64)) (5 : Int32).toNatClampNeg (1008673 : Int64), z.2.1, z.2.2.1, z.2.2.2.1, z.2.2.2.2.1, z.2.2.2.2.2)).1, 0, (m_X0_putSpan (0 : Int32) (0 : Int32) (0 : Int32) (0 : Int32) (vp_updL (vp_updL (vp_updL (vp_updL (vp_updL (vp_updL z.1 (0 : Int32).toNatClampNeg (1008673 : Int64)) (1 : Int32).toNatClampNeg (1008673 : Int64)) (2 : Int32).toNatClampNeg (1008673 : Int64)) (3 : Int32).toNatClampNeg (1008673 : Int64)) (4 : Int32).toNatClampNeg (1008673 : Int64)) (5 : Int32).toNatClampNeg (1008673 : Int64), z.2.1, z.2.2.1, z.2.2.2.1, z.2.2.2.2.1, z.2.2.2.2.2)).2) := hm.trans (if_neg h_190)
                exact ⟨by rw [hm], by rw [hm]⟩
              · have hm := hm.trans (if_pos h_190)
                refine lv_iinc (v := (1 : Int32)) (lv' := [(2, .int (1 : Int32)), (1, .int (6 : Int32)), (0, .ref a.1)]) hx hb dX0_reset_59 hl (k := 0) rfl (by decide) (by decide) rfl (fun ls hl => ?_)
                refine lv_goto (tgt := 46) hx hb dX0_reset_62 (by decide) ?_
                refine lv_iload_n hx hb dX0_reset_46 rfl (lv_at hl 0 rfl) ?_
                refine lv_iconst (v := 2) hx hb dX0_reset_47 (by decide) ?_
                refine lv_icmp_ge (tgt := 65) hx hb dX0_reset_48 (by decide) (fun h => absurd h (by decide)) (fun _ => ?_)
                refine lv_aload_n hx hb dX0_reset_51 rfl (lv_at hl 2 rfl) ?_
                refine lv_iload_n hx hb dX0_reset_52 rfl (lv_at hl 0 rfl) ?_
                refine lv_iconst (v := 0) hx hb dX0_reset_53 (by decide) ?_
                refine lv_iconst (v := 0) hx hb dX0_reset_54 (by decide) ?_
                refine lv_iconst (v := 0) hx hb dX0_reset_55 (by decide) ?_
                refine cc_V hC hGx hD hEx hlocks (c_X0_putSpan l hl9 k a hD (1 : Int32) (0 : Int32) (0 : Int32) (0 : Int32) ((m_X0_putSpan (0 : Int32) (0 : Int32) (0 : Int32) (0 : Int32) (vp_updL (vp_updL (vp_updL (vp_updL (vp_updL (vp_updL z.1 (0 : Int32).toNatClampNeg (1008673 : Int64)) (1 : Int32).toNatClampNeg (1008673 : Int64)) (2 : Int32).toNatClampNeg (1008673 : Int64)) (3 : Int32).toNatClampNeg (1008673 : Int64)) (4 : Int32).toNatClampNeg (1008673 : Int64)) (5 : Int32).toNatClampNeg (1008673 : Int64), z.2.1, z.2.2.1, z.2.2.2.1, z.2.2.2.2.1, z.2.2.2.2.2)).2)) (gV w_82 w_83 w_6 w_26 w_84) kk_X0_putSpan rfl ⟨Nat.le_of_ble_eq_true rfl, Nat.le_of_ble_eq_true rfl⟩ ⟨Nat.le_of_ble_eq_true rfl, Nat.le_of_ble_eq_true rfl⟩ ⟨Nat.le_of_ble_eq_true rfl, Nat.le_of_ble_eq_true rfl⟩ hP hS hl.1 rfl rfl (Nat.le_of_ble_eq_true rfl) dX0_reset_56 (fun h_191 => ?_) (fun h_191 H locs hP hS => ?_)
                · have hm : m_X0_reset z = ((m_X0_putSpan (1 : Int32) (0 : Int32) (0 : Int32) (0 : Int32) ((m_X0_putSpan (0 : Int32) (0 : Int32) (0 : Int32) (0 : Int32) (vp_updL (vp_updL (vp_updL (vp_updL (vp_updL (vp_updL z.1 (0 : Int32).toNatClampNeg (1008673 : Int64)) (1 : Int32).toNatClampNeg (1008673 : Int64)) (2 : Int32).toNatClampNeg (1008673 : Int64)) (3 : Int32).toNatClampNeg (1008673 : Int64)) (4 : Int32).toNatClampNeg (1008673 : Int64)) (5 : Int32).toNatClampNeg (1008673 : Int64), z.2.1, z.2.2.1, z.2.2.2.1, z.2.2.2.2.1, z.2.2.2.2.2)).2)).1, 0, (m_X0_putSpan (1 : Int32) (0 : Int32) (0 : Int32) (0 : Int32) ((m_X0_putSpan (0 : Int32) (0 : Int32) (0 : Int32) (0 : Int32) (vp_updL (vp_updL (vp_updL (vp_updL (vp_updL (vp_updL z.1 (0 : Int32).toNatClampNeg (1008673 : Int64)) (1 : Int32).toNatClampNeg (1008673 : Int64)) (2 : Int32).toNatClampNeg (1008673 : Int64)) (3 : Int32).toNatClampNeg (1008673 : Int64)) (4 : Int32).toNatClampNeg (1008673 : Int64)) (5 : Int32).toNatClampNeg (1008673 : Int64), z.2.1, z.2.2.1, z.2.2.2.1, z.2.2.2.2.1, z.2.2.2.2.2)).2)).2) := hm.trans (if_neg h_191)
                  exact ⟨by rw [hm], by rw [hm]⟩
                · have hm := hm.trans (if_pos h_191)
                  refine lv_iinc (v := (2 : Int32)) (lv' := [(2, .int (2 : Int32)), (1, .int (6 : Int32)), (0, .ref a.1)]) hx hb dX0_reset_59 hl (k := 0) rfl (by decide) (by decide) rfl (fun ls hl => ?_)
                  refine lv_goto (tgt := 46) hx hb dX0_reset_62 (by decide) ?_
                  refine lv_iload_n hx hb dX0_reset_46 rfl (lv_at hl 0 rfl) ?_
                  refine lv_iconst (v := 2) hx hb dX0_reset_47 (by decide) ?_
                  refine lv_icmp_ge (tgt := 65) hx hb dX0_reset_48 (by decide) (fun _ => ?_) (fun h => absurd h (by decide))
                  refine lv_iload_n hx hb dX0_reset_65 rfl (lv_at hl 1 rfl) ?_
                  have hm : m_X0_reset z = (0, (6 : Int32), (m_X0_putSpan (1 : Int32) (0 : Int32) (0 : Int32) (0 : Int32) ((m_X0_putSpan (0 : Int32) (0 : Int32) (0 : Int32) (0 : Int32) (vp_updL (vp_updL (vp_updL (vp_updL (vp_updL (vp_updL z.1 (0 : Int32).toNatClampNeg (1008673 : Int64)) (1 : Int32).toNatClampNeg (1008673 : Int64)) (2 : Int32).toNatClampNeg (1008673 : Int64)) (3 : Int32).toNatClampNeg (1008673 : Int64)) (4 : Int32).toNatClampNeg (1008673 : Int64)) (5 : Int32).toNatClampNeg (1008673 : Int64), z.2.1, z.2.2.1, z.2.2.2.1, z.2.2.2.2.1, z.2.2.2.2.2)).2)).2) := hm
                  exact c_iret (E := (6 : Int32)) hx hb hr hlocks (by rw [hm]) (by rw [hm]) (by rw [hm]) hP hS ⟨Nat.le_of_ble_eq_true rfl, Nat.le_of_ble_eq_true rfl⟩ dX0_reset_66
