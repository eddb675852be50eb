theorem kk_X1_init : pK yX1_init wsX1_init cX1_init 1 none 0 := ⟨⟨_, rfl⟩, by decide +kernel, by decide +kernel, by decide +kernel⟩
set_option maxRecDepth 100000 in
set_option maxHeartbeats 4000000 in
theorem c_X1_init (l : Launch) (k : Kx) (x : Nat) : Met l yX1_init wsX1_init { frames := 1, cells := 0, slots := 0, locals := 40 } (va_Pc [.ref x] (Gx k)) pQ0 0 0 (fun _ => False) := by
  refine Met.ofW (cc := cX1_init) (maxL := 1) (ret := none) (by decide) rfl ?_
  intro p e s m args below meth c s₁ B hml hv
  obtain ⟨rfl, hGx⟩ := hv
  have hx := B.exec
  have hb := B.bytes
  have hr := B.returns
  have hts9 := atoms_spec (ws := wsX1_init) B.pre
  have hown : s.vm.findClass RX1 = some m.cls := findClass_of_methodNamed B.named
  have hlocks := B.notSynchronized
  have htg : ∀ w ∈ GL, w.before _ s = true := fun w h => hts9 w (List.mem_cons_of_mem _ h)
  have hC : CallFix p m c cX1_init 1 s _ wsX1_init RX1 := ⟨hx, hb, hml, hown, hts9⟩
  have hl := lv_entry ([.ref x]) (n := 1) (Nat.le_of_ble_eq_true rfl)
  rw [lg_entry_eq]
  generalize (lg_sl ([.ref x]) ++ List.replicate (1 - (lg_sl ([.ref x])).length) Slot.unset).toArray = ls at hl ⊢
  have hl : lv_has ls 1 [(0, .ref x)] := hl
  refine lv_aload_n hx hb dX1_init_0 rfl (lv_at hl 0 rfl) ?_
  refine W.objInit hx hb hown (htg _ w_613) (htg _ w_54) (htg _ w_55) rfl (by rw [hml]; exact hl.1) rfl dX1_init_1 (Nat.le_of_ble_eq_true rfl) (Nat.le_of_ble_eq_true rfl) ?_
  refine W.eq (g2 := F0 m 4 ls []) rfl ?_
  exact W.vret hx hb hr (fun t ht _ => ⟨rfl, ht⟩) (fun _ h => absurd h List.not_mem_nil) dX1_init_4
theorem kk_X0_init : pK yX0_init wsX0_init cX0_init 2 none 0 := ⟨⟨_, rfl⟩, by decide +kernel, by decide +kernel, by decide +kernel⟩
set_option maxRecDepth 100000 in
set_option maxHeartbeats 4000000 in
theorem c_X0_init (l : Launch) (k : Kx) (x : Nat) : Met l yX0_init wsX0_init { frames := 1, cells := 4, slots := 12, locals := 40 } (va_Pc [.ref x] (ciPc k x)) (ciQ k x) 4 12 (fun q => q = x) := by
  refine Met.ofW (cc := cX0_init) (maxL := 2) (ret := none) (by decide) rfl ?_
  intro p e s m args below meth c s₁ B hml hv
  obtain ⟨rfl, hGx, hN, hxb⟩ := hv
  have hx := B.exec
  have hb := B.bytes
  have hr := B.returns
  have hts9 := atoms_spec (ws := wsX0_init) B.pre
  have hown : s.vm.findClass RX0 = some m.cls := findClass_of_methodNamed B.named
  have hlocks := B.notSynchronized
  have htg : ∀ w ∈ GL, w.before _ s = true := fun w h => hts9 w (List.mem_cons_of_mem _ h)
  have hC : CallFix p m c cX0_init 2 s _ wsX0_init RX0 := ⟨hx, hb, hml, hown, hts9⟩
  have hl := lv_entry ([.ref x]) (n := 2) (Nat.le_of_ble_eq_true rfl)
  rw [lg_entry_eq]
  generalize (lg_sl ([.ref x]) ++ List.replicate (2 - (lg_sl ([.ref x])).length) Slot.unset).toArray = ls at hl ⊢
  have hl : lv_has ls 2 [(0, .ref x)] := hl
  have hin : meth.name = "<init>" := (name_of_methodNamed B.named B.method).1
  have hxl : x < s.heap.size := (hN 0 _ rfl).lt
  have hA : ∀ q, s.heap.size ≤ q → xA x s.heap.size q := fun q h => Or.inr h
  have hP : va_P (kD k) vwCl [(x, .inr (2, [.null, .null, .null, .null, .int 0, .int 0]))] s.heap := hN
  have hD : va_D (xA x s.heap.size) [(x, .inr (2, [.null, .null, .null, .null, .int 0, .int 0]))] := va_D1 (Or.inl rfl)
  have hS : va_S (xA x s.heap.size) s.heap s.heap [] := va_S.rf
  refine lv_aload_n hx hb dX0_init_0 rfl (lv_at hl 0 rfl) ?_
  refine W.objInit hx hb hown (htg _ w_53) (htg _ w_54) (htg _ w_55) rfl (by rw [hml]; exact hl.1) rfl dX0_init_1 (Nat.le_of_ble_eq_true rfl) (Nat.le_of_ble_eq_true rfl) ?_
  refine W.eq (g2 := F0 m 4 ls []) rfl ?_
  refine lv_aload_n hx hb dX0_init_4 rfl (lv_at hl 0 rfl) ?_
  refine lv_bipush (v := 6) hx hb dX0_init_5 (by decide) ?_
  refine va_newa (atype := .long) (a0 := (6, .inr (.inl (fun _ => 0)))) (N' := 6) hx hb (htg _ w_76) rfl hGx.1 hP hD hS hA (fun _ => rfl) (by decide) (by decide) (by decide) (Nat.le_of_ble_eq_true rfl) (Nat.le_of_ble_eq_true rfl) dX0_init_7 (fun q1 cA H hK hP hD hS => ?_)
  have hcA : cA = kJ k := Option.some.inj ((show s.vm.findClass ("[" ++ FieldType.long.toString) = some cA from (hK.2 5 _ rfl).2).symm.trans (hGx.1.2 0 _ rfl).2)
  subst hcA
  have hP : va_P (kD k) vwCl [(x, .inr (2, [.null, .null, .null, .null, .int 0, .int 0])), (q1, .inl (kJ k, 6, .inr (.inl (fun _ => 0))))] H := hP
  have hD : va_D (xA x s.heap.size) [(x, .inr (2, [.null, .null, .null, .null, .int 0, .int 0])), (q1, .inl (kJ k, 6, .inr (.inl (fun _ => 0))))] := hD
  refine va_putF (D := kD k) (ci := 2) (v := .ref q1) (ty := .array .long) (C := RX0) (T := TX0) (N := 6) (A := xA x s.heap.size) (H0 := s.heap) hx hb htg inG_X0 tyX0 tyX0_ok nmX0 hown hGx.1 hP hD hS 0 rfl rfl 0 (by decide) (htg _ w_57) (fun _ h9 => h9) rfl hin rfl (by decide +kernel) rfl rfl (Nat.le_of_ble_eq_true rfl) dX0_init_9 (fun H locs hP hD hS => ?_)
  have hP : va_P (kD k) vwCl [(x, .inr (2, [.ref q1, .null, .null, .null, .int 0, .int 0])), (q1, .inl (kJ k, 6, .inr (.inl (fun _ => 0))))] H := hP
  have hD : va_D (xA x s.heap.size) [(x, .inr (2, [.ref q1, .null, .null, .null, .int 0, .int 0])), (q1, .inl (kJ k, 6, .inr (.inl (fun _ => 0))))] := hD
  refine lv_aload_n hx hb dX0_init_12 rfl (lv_at hl 0 rfl) ?_
  refine lv_iconst (v := 2) hx hb dX0_init_13 (by decide) ?_
  refine va_newa (atype := .int) (a0 := (2, .inl (fun _ => 0))) (N' := 2) hx hb (htg _ w_77) rfl hGx.1 hP hD hS hA (fun _ => rfl) (by decide) (by decide) (by decide) (Nat.le_of_ble_eq_true rfl) (Nat.le_of_ble_eq_true rfl) dX0_init_14 (fun q2 cA H hK hP hD hS => ?_)
  have hcA : cA = kI k := Option.some.inj ((show s.vm.findClass ("[" ++ FieldType.int.toString) = some cA from (hK.2 5 _ rfl).2).symm.trans (hGx.1.2 1 _ rfl).2)
  subst hcA
  have hP : va_P (kD k) vwCl [(x, .inr (2, [.ref q1, .null, .null, .null, .int 0, .int 0])), (q1, .inl (kJ k, 6, .inr (.inl (fun _ => 0)))), (q2, .inl (kI k, 2, .inl (fun _ => 0)))] H := hP
  have hD : va_D (xA x s.heap.size) [(x, .inr (2, [.ref q1, .null, .null, .null, .int 0, .int 0])), (q1, .inl (kJ k, 6, .inr (.inl (fun _ => 0)))), (q2, .inl (kI k, 2, .inl (fun _ => 0)))] := hD
  refine va_putF (D := kD k) (ci := 2) (v := .ref q2) (ty := .array .int) (C := RX0) (T := TX0) (N := 6) (A := xA x s.heap.size) (H0 := s.heap) hx hb htg inG_X0 tyX0 tyX0_ok nmX0 hown hGx.1 hP hD hS 0 rfl rfl 1 (by decide) (htg _ w_58) (fun _ h9 => h9) rfl hin rfl (by decide +kernel) rfl rfl (Nat.le_of_ble_eq_true rfl) dX0_init_16 (fun H locs hP hD hS => ?_)
  have hP : va_P (kD k) vwCl [(x, .inr (2, [.ref q1, .ref q2, .null, .null, .int 0, .int 0])), (q1, .inl (kJ k, 6, .inr (.inl (fun _ => 0)))), (q2, .inl (kI k, 2, .inl (fun _ => 0)))] H := hP
  have hD : va_D (xA x s.heap.size) [(x, .inr (2, [.ref q1, .ref q2, .null, .null, .int 0, .int 0])), (q1, .inl (kJ k, 6, .inr (.inl (fun _ => 0)))), (q2, .inl (kI k, 2, .inl (fun _ => 0)))] := hD
  refine lv_aload_n hx hb dX0_init_19 rfl (lv_at hl 0 rfl) ?_
  refine lv_iconst (v := 2) hx hb dX0_init_20 (by decide) ?_
  refine va_newa (atype := .int) (a0 := (2, .inl (fun _ => 0))) (N' := 2) hx hb (htg _ w_77) rfl hGx.1 hP hD hS hA (fun _ => rfl) (by decide) (by decide) (by decide) (Nat.le_of_ble_eq_true rfl) (Nat.le_of_ble_eq_true rfl) dX0_init_21 (fun q3 cA H hK hP hD hS => ?_)
  have hcA : cA = kI k := Option.some.inj ((show s.vm.findClass ("[" ++ FieldType.int.toString) = some cA from (hK.2 5 _ rfl).2).symm.trans (hGx.1.2 1 _ rfl).2)
  subst hcA
  have hP : va_P (kD k) vwCl [(x, .inr (2, [.ref q1, .ref q2, .null, .null, .int 0, .int 0])), (q1, .inl (kJ k, 6, .inr (.inl (fun _ => 0)))), (q2, .inl (kI k, 2, .inl (fun _ => 0))), (q3, .inl (kI k, 2, .inl (fun _ => 0)))] H := hP
  have hD : va_D (xA x s.heap.size) [(x, .inr (2, [.ref q1, .ref q2, .null, .null, .int 0, .int 0])), (q1, .inl (kJ k, 6, .inr (.inl (fun _ => 0)))), (q2, .inl (kI k, 2, .inl (fun _ => 0))), (q3, .inl (kI k, 2, .inl (fun _ => 0)))] := hD
  refine va_putF (D := kD k) (ci := 2) (v := .ref q3) (ty := .array .int) (C := RX0) (T := TX0) (N := 6) (A := xA x s.heap.size) (H0 := s.heap) hx hb htg inG_X0 tyX0 tyX0_ok nmX0 hown hGx.1 hP hD hS 0 rfl rfl 2 (by decide) (htg _ w_59) (fun _ h9 => h9) rfl hin rfl (by decide +kernel) rfl rfl (Nat.le_of_ble_eq_true rfl) dX0_init_23 (fun H locs hP hD hS => ?_)
  have hP : va_P (kD k) vwCl [(x, .inr (2, [.ref q1, .ref q2, .ref q3, .null, .int 0, .int 0])), (q1, .inl (kJ k, 6, .inr (.inl (fun _ => 0)))), (q2, .inl (kI k, 2, .inl (fun _ => 0))), (q3, .inl (kI k, 2, .inl (fun _ => 0)))] H := hP
  have hD : va_D (xA x s.heap.size) [(x, .inr (2, [.ref q1, .ref q2, .ref q3, .null, .int 0, .int 0])), (q1, .inl (kJ k, 6, .inr (.inl (fun _ => 0)))), (q2, .inl (kI k, 2, .inl (fun _ => 0))), (q3, .inl (kI k, 2, .inl (fun _ => 0)))] := hD
  refine lv_aload_n hx hb dX0_init_26 rfl (lv_at hl 0 rfl) ?_
  refine lv_iconst (v := 2) hx hb dX0_init_27 (by decide) ?_
  refine va_newa (atype := .int) (a0 := (2, .inl (fun _ => 0))) (N' := 2) hx hb (htg _ w_77) rfl hGx.1 hP hD hS hA (fun _ => rfl) (by decide) (by decide) (by decide) (Nat.le_of_ble_eq_true rfl) (Nat.le_of_ble_eq_true rfl) dX0_init_28 (fun q4 cA H hK hP hD hS => ?_)
  have hcA : cA = kI k := Option.some.inj ((show s.vm.findClass ("[" ++ FieldType.int.toString) = some cA from (hK.2 5 _ rfl).2).symm.trans (hGx.1.2 1 _ rfl).2)
  subst hcA
  have hP : va_P (kD k) vwCl [(x, .inr (2, [.ref q1, .ref q2, .ref q3, .null, .int 0, .int 0])), (q1, .inl (kJ k, 6, .inr (.inl (fun _ => 0)))), (q2, .inl (kI k, 2, .inl (fun _ => 0))), (q3, .inl (kI k, 2, .inl (fun _ => 0))), (q4, .inl (kI k, 2, .inl (fun _ => 0)))] H := hP
  have hD : va_D (xA x s.heap.size) [(x, .inr (2, [.ref q1, .ref q2, .ref q3, .null, .int 0, .int 0])), (q1, .inl (kJ k, 6, .inr (.inl (fun _ => 0)))), (q2, .inl (kI k, 2, .inl (fun _ => 0))), (q3, .inl (kI k, 2, .inl (fun _ => 0))), (q4, .inl (kI k, 2, .inl (fun _ => 0)))] := hD
  refine va_putF (D := kD k) (ci := 2) (v := .ref q4) (ty := .array .int) (C := RX0) (T := TX0) (N := 6) (A := xA x s.heap.size) (H0 := s.heap) hx hb htg inG_X0 tyX0 tyX0_ok nmX0 hown hGx.1 hP hD hS 0 rfl rfl 3 (by decide) (htg _ w_60) (fun _ h9 => h9) rfl hin rfl (by decide +kernel) rfl rfl (Nat.le_of_ble_eq_true rfl) dX0_init_30 (fun H locs hP hD hS => ?_)
  have hP : va_P (kD k) vwCl [(x, .inr (2, [.ref q1, .ref q2, .ref q3, .ref q4, .int 0, .int 0])), (q1, .inl (kJ k, 6, .inr (.inl (fun _ => 0)))), (q2, .inl (kI k, 2, .inl (fun _ => 0))), (q3, .inl (kI k, 2, .inl (fun _ => 0))), (q4, .inl (kI k, 2, .inl (fun _ => 0)))] H := hP
  have hD : va_D (xA x s.heap.size) [(x, .inr (2, [.ref q1, .ref q2, .ref q3, .ref q4, .int 0, .int 0])), (q1, .inl (kJ k, 6, .inr (.inl (fun _ => 0)))), (q2, .inl (kI k, 2, .inl (fun _ => 0))), (q3, .inl (kI k, 2, .inl (fun _ => 0))), (q4, .inl (kI k, 2, .inl (fun _ => 0)))] := hD
  refine lv_aload_n hx hb dX0_init_33 rfl (lv_at hl 0 rfl) ?_
  refine lv_iconst (v := 0) hx hb dX0_init_34 (by decide) ?_
  refine va_put (D := kD k) (ci := 2) (v := .int 0) (ty := .int) (C := RX0) (T := TX0) (N := 6) (A := xA x s.heap.size) (H0 := s.heap) hx hb htg inG_X0 tyX0 tyX0_ok nmX0 hown hGx.1 hP hD hS 0 rfl rfl 4 (by decide) (htg _ w_61) (fun _ h9 => h9) rfl (by decide +kernel) rfl rfl (Nat.le_of_ble_eq_true rfl) dX0_init_35 (fun H locs hP hD hS => ?_)
  have hP : va_P (kD k) vwCl [(x, .inr (2, [.ref q1, .ref q2, .ref q3, .ref q4, .int 0, .int 0])), (q1, .inl (kJ k, 6, .inr (.inl (fun _ => 0)))), (q2, .inl (kI k, 2, .inl (fun _ => 0))), (q3, .inl (kI k, 2, .inl (fun _ => 0))), (q4, .inl (kI k, 2, .inl (fun _ => 0)))] H := hP
  have hD : va_D (xA x s.heap.size) [(x, .inr (2, [.ref q1, .ref q2, .ref q3, .ref q4, .int 0, .int 0])), (q1, .inl (kJ k, 6, .inr (.inl (fun _ => 0)))), (q2, .inl (kI k, 2, .inl (fun _ => 0))), (q3, .inl (kI k, 2, .inl (fun _ => 0))), (q4, .inl (kI k, 2, .inl (fun _ => 0)))] := hD
  refine lv_aload_n hx hb dX0_init_38 rfl (lv_at hl 0 rfl) ?_
  refine lv_iconst (v := 0) hx hb dX0_init_39 (by decide) ?_
  refine va_put (D := kD k) (ci := 2) (v := .int 0) (ty := .int) (C := RX0) (T := TX0) (N := 6) (A := xA x s.heap.size) (H0 := s.heap) hx hb htg inG_X0 tyX0 tyX0_ok nmX0 hown hGx.1 hP hD hS 0 rfl rfl 5 (by decide) (htg _ w_62) (fun _ h9 => h9) rfl (by decide +kernel) rfl rfl (Nat.le_of_ble_eq_true rfl) dX0_init_40 (fun H locs hP hD hS => ?_)
  have hP : va_P (kD k) vwCl [(x, .inr (2, [.ref q1, .ref q2, .ref q3, .ref q4, .int 0, .int 0])), (q1, .inl (kJ k, 6, .inr (.inl (fun _ => 0)))), (q2, .inl (kI k, 2, .inl (fun _ => 0))), (q3, .inl (kI k, 2, .inl (fun _ => 0))), (q4, .inl (kI k, 2, .inl (fun _ => 0)))] H := hP
  have hD : va_D (xA x s.heap.size) [(x, .inr (2, [.ref q1, .ref q2, .ref q3, .ref q4, .int 0, .int 0])), (q1, .inl (kJ k, 6, .inr (.inl (fun _ => 0)))), (q2, .inl (kI k, 2, .inl (fun _ => 0))), (q3, .inl (kI k, 2, .inl (fun _ => 0))), (q4, .inl (kI k, 2, .inl (fun _ => 0)))] := hD
  refine lv_iconst (v := 0) hx hb dX0_init_43 (by decide) ?_
  refine lv_istore_n (lv' := [(1, .int 0), (0, .ref x)]) hx hb dX0_init_44 rfl hl (by decide) rfl (fun ls hl => ?_)
  refine lv_iload_n hx hb dX0_init_45 rfl (lv_at hl 0 rfl) ?_
  refine lv_aload_n hx hb dX0_init_46 rfl (lv_at hl 1 rfl) ?_
  refine va_get (D := kD k) (ci := 2) (v := .ref q1) (C := RX0) (T := TX0) (N := 6) hx hb htg inG_X0 hown hGx.1 hP 0 rfl rfl 0 (by decide) (htg _ w_57) (fun _ h9 => h9) rfl dX0_init_47 ?_
  refine va_alen (D := kD k) (v := 6) hx hb hGx.1 hP 1 0 rfl rfl (show Int32.ofNat 6 = 6 by decide) dX0_init_50 ?_
  refine lv_icmp_ge (tgt := 69) hx hb dX0_init_51 (by decide) (fun h => absurd h (by decide)) (fun _ => ?_)
  refine lv_aload_n hx hb dX0_init_54 rfl (lv_at hl 1 rfl) ?_
  refine va_get (D := kD k) (ci := 2) (v := .ref q1) (C := RX0) (T := TX0) (N := 6) hx hb htg inG_X0 hown hGx.1 hP 0 rfl rfl 0 (by decide) (htg _ w_57) (fun _ h9 => h9) rfl dX0_init_55 ?_
  refine lv_iload_n hx hb dX0_init_58 rfl (lv_at hl 0 rfl) ?_
  refine lv_ldc2 hx hb hown (htg _ w_56) dX0_init_59 ?_
  refine va_last (D := kD k) (A := xA x s.heap.size) hx hb hGx.1 hP hD hS 1 0 rfl rfl (show ¬ ((0 : Int32) < 0 ∨ 6 ≤ (0 : Int32).toNatClampNeg) by decide) dX0_init_62 (fun H locs hP hD hS => ?_)
  have hP : va_P (kD k) vwCl [(x, .inr (2, [.ref q1, .ref q2, .ref q3, .ref q4, .int 0, .int 0])), (q1, .inl (kJ k, 6, .inr (.inl (vp_updL (fun _ => 0) (0 : Int32).toNatClampNeg 1008673)))), (q2, .inl (kI k, 2, .inl (fun _ => 0))), (q3, .inl (kI k, 2, .inl (fun _ => 0))), (q4, .inl (kI k, 2, .inl (fun _ => 0)))] H := hP
  have hD : va_D (xA x s.heap.size) [(x, .inr (2, [.ref q1, .ref q2, .ref q3, .ref q4, .int 0, .int 0])), (q1, .inl (kJ k, 6, .inr (.inl (vp_updL (fun _ => 0) (0 : Int32).toNatClampNeg 1008673)))), (q2, .inl (kI k, 2, .inl (fun _ => 0))), (q3, .inl (kI k, 2, .inl (fun _ => 0))), (q4, .inl (kI k, 2, .inl (fun _ => 0)))] := hD
  refine lv_iinc (v := 1) (lv' := [(1, .int 1), (0, .ref x)]) hx hb dX0_init_63 hl (k := 0) rfl (by decide) (by decide) rfl (fun ls hl => ?_)
  refine lv_goto (tgt := 45) hx hb dX0_init_66 (by decide) ?_
  refine lv_iload_n hx hb dX0_init_45 rfl (lv_at hl 0 rfl) ?_
  refine lv_aload_n hx hb dX0_init_46 rfl (lv_at hl 1 rfl) ?_
  refine va_get (D := kD k) (ci := 2) (v := .ref q1) (C := RX0) (T := TX0) (N := 6) hx hb htg inG_X0 hown hGx.1 hP 0 rfl rfl 0 (by decide) (htg _ w_57) (fun _ h9 => h9) rfl dX0_init_47 ?_
  refine va_alen (D := kD k) (v := 6) hx hb hGx.1 hP 1 0 rfl rfl (show Int32.ofNat 6 = 6 by decide) dX0_init_50 ?_
  refine lv_icmp_ge (tgt := 69) hx hb dX0_init_51 (by decide) (fun h => absurd h (by decide)) (fun _ => ?_)
  refine lv_aload_n hx hb dX0_init_54 rfl (lv_at hl 1 rfl) ?_
  refine va_get (D := kD k) (ci := 2) (v := .ref q1) (C := RX0) (T := TX0) (N := 6) hx hb htg inG_X0 hown hGx.1 hP 0 rfl rfl 0 (by decide) (htg _ w_57) (fun _ h9 => h9) rfl dX0_init_55 ?_
  refine lv_iload_n hx hb dX0_init_58 rfl (lv_at hl 0 rfl) ?_
  refine lv_ldc2 hx hb hown (htg _ w_56) dX0_init_59 ?_
  refine va_last (D := kD k) (A := xA x s.heap.size) hx hb hGx.1 hP hD hS 1 0 rfl rfl (show ¬ ((1 : Int32) < 0 ∨ 6 ≤ (1 : Int32).toNatClampNeg) by decide) dX0_init_62 (fun H locs hP hD hS => ?_)
  have hP : va_P (kD k) vwCl [(x, .inr (2, [.ref q1, .ref q2, .ref q3, .ref q4, .int 0, .int 0])), (q1, .inl (kJ k, 6, .inr (.inl (vp_updL (vp_updL (fun _ => 0) (0 : Int32).toNatClampNeg 1008673) (1 : Int32).toNatClampNeg 1008673)))), (q2, .inl (kI k, 2, .inl (fun _ => 0))), (q3, .inl (kI k, 2, .inl (fun _ => 0))), (q4, .inl (kI k, 2, .inl (fun _ => 0)))] H := hP
  have hD : va_D (xA x s.heap.size) [(x, .inr (2, [.ref q1, .ref q2, .ref q3, .ref q4, .int 0, .int 0])), (q1, .inl (kJ k, 6, .inr (.inl (vp_updL (vp_updL (fun _ => 0) (0 : Int32).toNatClampNeg 1008673) (1 : Int32).toNatClampNeg 1008673)))), (q2, .inl (kI k, 2, .inl (fun _ => 0))), (q3, .inl (kI k, 2, .inl (fun _ => 0))), (q4, .inl (kI k, 2, .inl (fun _ => 0)))] := hD
  refine lv_iinc (v := 2) (lv' := [(1, .int 2), (0, .ref x)]) hx hb dX0_init_63 hl (k := 0) rfl (by decide) (by decide) rfl (fun ls hl => ?_)
  refine lv_goto (tgt := 45) hx hb dX0_init_66 (by decide) ?_
  refine lv_iload_n hx hb dX0_init_45 rfl (lv_at hl 0 rfl) ?_
  refine lv_aload_n hx hb dX0_init_46 rfl (lv_at hl 1 rfl) ?_
  refine va_get (D := kD k) (ci := 2) (v := .ref q1) (C := RX0) (T := TX0) (N := 6) hx hb htg inG_X0 hown hGx.1 hP 0 rfl rfl 0 (by decide) (htg _ w_57) (fun _ h9 => h9) rfl dX0_init_47 ?_
  refine va_alen (D := kD k) (v := 6) hx hb hGx.1 hP 1 0 rfl rfl (show Int32.ofNat 6 = 6 by decide) dX0_init_50 ?_
  refine lv_icmp_ge (tgt := 69) hx hb dX0_init_51 (by decide) (fun h => absurd h (by decide)) (fun _ => ?_)
  refine lv_aload_n hx hb dX0_init_54 rfl (lv_at hl 1 rfl) ?_
  refine va_get (D := kD k) (ci := 2) (v := .ref q1) (C := RX0) (T := TX0) (N := 6) hx hb htg inG_X0 hown hGx.1 hP 0 rfl rfl 0 (by decide) (htg _ w_57) (fun _ h9 => h9) rfl dX0_init_55 ?_
  refine lv_iload_n hx hb dX0_init_58 rfl (lv_at hl 0 rfl) ?_
  refine lv_ldc2 hx hb hown (htg _ w_56) dX0_init_59 ?_
  refine va_last (D := kD k) (A := xA x s.heap.size) hx hb hGx.1 hP hD hS 1 0 rfl rfl (show ¬ ((2 : Int32) < 0 ∨ 6 ≤ (2 : Int32).toNatClampNeg) by decide) dX0_init_62 (fun H locs hP hD hS => ?_)
  have hP : va_P (kD k) vwCl [(x, .inr (2, [.ref q1, .ref q2, .ref q3, .ref q4, .int 0, .int 0])), (q1, .inl (kJ k, 6, .inr (.inl (vp_updL (vp_updL (vp_updL (fun _ => 0) (0 : Int32).toNatClampNeg 1008673) (1 : Int32).toNatClampNeg 1008673) (2 : Int32).toNatClampNeg 1008673)))), (q2, .inl (kI k, 2, .inl (fun _ => 0))), (q3, .inl (kI k, 2, .inl (fun _ => 0))), (q4, .inl (kI k, 2, .inl (fun _ => 0)))] H := hP
  have hD : va_D (xA x s.heap.size) [(x, .inr (2, [.ref q1, .ref q2, .ref q3, .ref q4, .int 0, .int 0])), (q1, .inl (kJ k, 6, .inr (.inl (vp_updL (vp_updL (vp_updL (fun _ => 0) (0 : Int32).toNatClampNeg 1008673) (1 : Int32).toNatClampNeg 1008673) (2 : Int32).toNatClampNeg 1008673)))), (q2, .inl (kI k, 2, .inl (fun _ => 0))), (q3, .inl (kI k, 2, .inl (fun _ => 0))), (q4, .inl (kI k, 2, .inl (fun _ => 0)))] := hD
  refine lv_iinc (v := 3) (lv' := [(1, .int 3), (0, .ref x)]) hx hb dX0_init_63 hl (k := 0) rfl (by decide) (by decide) rfl (fun ls hl => ?_)
  refine lv_goto (tgt := 45) hx hb dX0_init_66 (by decide) ?_
  refine lv_iload_n hx hb dX0_init_45 rfl (lv_at hl 0 rfl) ?_
  refine lv_aload_n hx hb dX0_init_46 rfl (lv_at hl 1 rfl) ?_
  refine va_get (D := kD k) (ci := 2) (v := .ref q1) (C := RX0) (T := TX0) (N := 6) hx hb htg inG_X0 hown hGx.1 hP 0 rfl rfl 0 (by decide) (htg _ w_57) (fun _ h9 => h9) rfl dX0_init_47 ?_
  refine va_alen (D := kD k) (v := 6) hx hb hGx.1 hP 1 0 rfl rfl (show Int32.ofNat 6 = 6 by decide) dX0_init_50 ?_
  refine lv_icmp_ge (tgt := 69) hx hb dX0_init_51 (by decide) (fun h => absurd h (by decide)) (fun _ => ?_)
  refine lv_aload_n hx hb dX0_init_54 rfl (lv_at hl 1 rfl) ?_
  refine va_get (D := kD k) (ci := 2) (v := .ref q1) (C := RX0) (T := TX0) (N := 6) hx hb htg inG_X0 hown hGx.1 hP 0 rfl rfl 0 (by decide) (htg _ w_57) (fun _ h9 => h9) rfl dX0_init_55 ?_
  refine lv_iload_n hx hb dX0_init_58 rfl (lv_at hl 0 rfl) ?_
  refine lv_ldc2 hx hb hown (htg _ w_56) dX0_init_59 ?_
  refine va_last (D := kD k) (A := xA x s.heap.size) hx hb hGx.1 hP hD hS 1 0 rfl rfl (show ¬ ((3 : Int32) < 0 ∨ 6 ≤ (3 : Int32).toNatClampNeg) by decide) dX0_init_62 (fun H locs hP hD hS => ?_)
  have hP : va_P (kD k) vwCl [(x, .inr (2, [.ref q1, .ref q2, .ref q3, .ref q4, .int 0, .int 0])), (q1, .inl (kJ k, 6, .inr (.inl (vp_updL (vp_updL (vp_updL (vp_updL (fun _ => 0) (0 : Int32).toNatClampNeg 1008673) (1 : Int32).toNatClampNeg 1008673) (2 : Int32).toNatClampNeg 1008673) (3 : Int32).toNatClampNeg 1008673)))), (q2, .inl (kI k, 2, .inl (fun _ => 0))), (q3, .inl (kI k, 2, .inl (fun _ => 0))), (q4, .inl (kI k, 2, .inl (fun _ => 0)))] H := hP
  have hD : va_D (xA x s.heap.size) [(x, .inr (2, [.ref q1, .ref q2, .ref q3, .ref q4, .int 0, .int 0])), (q1, .inl (kJ k, 6, .inr (.inl (vp_updL (vp_updL (vp_updL (vp_updL (fun _ => 0) (0 : Int32).toNatClampNeg 1008673) (1 : Int32).toNatClampNeg 1008673) (2 : Int32).toNatClampNeg 1008673) (3 : Int32).toNatClampNeg 1008673)))), (q2, .inl (kI k, 2, .inl (fun _ => 0))), (q3, .inl (kI k, 2, .inl (fun _ => 0))), (q4, .inl (kI k, 2, .inl (fun _ => 0)))] := hD
  refine lv_iinc (v := 4) (lv' := [(1, .int 4), (0, .ref x)]) hx hb dX0_init_63 hl (k := 0) rfl (by decide) (by decide) rfl (fun ls hl => ?_)
  refine lv_goto (tgt := 45) hx hb dX0_init_66 (by decide) ?_
  refine lv_iload_n hx hb dX0_init_45 rfl (lv_at hl 0 rfl) ?_
  refine lv_aload_n hx hb dX0_init_46 rfl (lv_at hl 1 rfl) ?_
  refine va_get (D := kD k) (ci := 2) (v := .ref q1) (C := RX0) (T := TX0) (N := 6) hx hb htg inG_X0 hown hGx.1 hP 0 rfl rfl 0 (by decide) (htg _ w_57) (fun _ h9 => h9) rfl dX0_init_47 ?_
  refine va_alen (D := kD k) (v := 6) hx hb hGx.1 hP 1 0 rfl rfl (show Int32.ofNat 6 = 6 by decide) dX0_init_50 ?_
  refine lv_icmp_ge (tgt := 69) hx hb dX0_init_51 (by decide) (fun h => absurd h (by decide)) (fun _ => ?_)
  refine lv_aload_n hx hb dX0_init_54 rfl (lv_at hl 1 rfl) ?_
  refine va_get (D := kD k) (ci := 2) (v := .ref q1) (C := RX0) (T := TX0) (N := 6) hx hb htg inG_X0 hown hGx.1 hP 0 rfl rfl 0 (by decide) (htg _ w_57) (fun _ h9 => h9) rfl dX0_init_55 ?_
  refine lv_iload_n hx hb dX0_init_58 rfl (lv_at hl 0 rfl) ?_
  refine lv_ldc2 hx hb hown (htg _ w_56) dX0_init_59 ?_
  refine va_last (D := kD k) (A := xA x s.heap.size) hx hb hGx.1 hP hD hS 1 0 rfl rfl (show ¬ ((4 : Int32) < 0 ∨ 6 ≤ (4 : Int32).toNatClampNeg) by decide) dX0_init_62 (fun H locs hP hD hS => ?_)
  have hP : va_P (kD k) vwCl [(x, .inr (2, [.ref q1, .ref q2, .ref q3, .ref q4, .int 0, .int 0])), (q1, .inl (kJ k, 6, .inr (.inl (vp_updL (vp_updL (vp_updL (vp_updL (vp_updL (fun _ => 0) (0 : Int32).toNatClampNeg 1008673) (1 : Int32).toNatClampNeg 1008673) (2 : Int32).toNatClampNeg 1008673) (3 : Int32).toNatClampNeg 1008673) (4 : Int32).toNatClampNeg 1008673)))), (q2, .inl (kI k, 2, .inl (fun _ => 0))), (q3, .inl (kI k, 2, .inl (fun _ => 0))), (q4, .inl (kI k, 2, .inl (fun _ => 0)))] H := hP
  have hD : va_D (xA x s.heap.size) [(x, .inr (2, [.ref q1, .ref q2, .ref q3, .ref q4, .int 0, .int 0])), (q1, .inl (kJ k, 6, .inr (.inl (vp_updL (vp_updL (vp_updL (vp_updL (vp_updL (fun _ => 0) (0 : Int32).toNatClampNeg 1008673) (1 : Int32).toNatClampNeg 1008673) (2 : Int32).toNatClampNeg 1008673) (3 : Int32).toNatClampNeg 1008673) (4 : Int32).toNatClampNeg 1008673)))), (q2, .inl (kI k, 2, .inl (fun _ => 0))), (q3, .inl (kI k, 2, .inl (fun _ => 0))), (q4, .inl (kI k, 2, .inl (fun _ => 0)))] := hD
  refine lv_iinc (v := 5) (lv' := [(1, .int 5), (0, .ref x)]) hx hb dX0_init_63 hl (k := 0) rfl (by decide) (by decide) rfl (fun ls hl => ?_)
  refine lv_goto (tgt := 45) hx hb dX0_init_66 (by decide) ?_
  refine lv_iload_n hx hb dX0_init_45 rfl (lv_at hl 0 rfl) ?_
  refine lv_aload_n hx hb dX0_init_46 rfl (lv_at hl 1 rfl) ?_
  refine va_get (D := kD k) (ci := 2) (v := .ref q1) (C := RX0) (T := TX0) (N := 6) hx hb htg inG_X0 hown hGx.1 hP 0 rfl rfl 0 (by decide) (htg _ w_57) (fun _ h9 => h9) rfl dX0_init_47 ?_
  refine va_alen (D := kD k) (v := 6) hx hb hGx.1 hP 1 0 rfl rfl (show Int32.ofNat 6 = 6 by decide) dX0_init_50 ?_
  refine lv_icmp_ge (tgt := 69) hx hb dX0_init_51 (by decide) (fun h => absurd h (by decide)) (fun _ => ?_)
  refine lv_aload_n hx hb dX0_init_54 rfl (lv_at hl 1 rfl) ?_
  refine va_get (D := kD k) (ci := 2) (v := .ref q1) (C := RX0) (T := TX0) (N := 6) hx hb htg inG_X0 hown hGx.1 hP 0 rfl rfl 0 (by decide) (htg _ w_57) (fun _ h9 => h9) rfl dX0_init_55 ?_
  refine lv_iload_n hx hb dX0_init_58 rfl (lv_at hl 0 rfl) ?_
  refine lv_ldc2 hx hb hown (htg _ w_56) dX0_init_59 ?_
  refine va_last (D := kD k) (A := xA x s.heap.size) hx hb hGx.1 hP hD hS 1 0 rfl rfl (show ¬ ((5 : Int32) < 0 ∨ 6 ≤ (5 : Int32).toNatClampNeg) by decide) dX0_init_62 (fun H locs hP hD hS => ?_)
  have hP : va_P (kD k) vwCl [(x, .inr (2, [.ref q1, .ref q2, .ref q3, .ref q4, .int 0, .int 0])), (q1, .inl (kJ k, 6, .inr (.inl (vp_updL (vp_updL (vp_updL (vp_updL (vp_updL (vp_updL (fun _ => 0) (0 : Int32).toNatClampNeg 1008673) (1 : Int32).toNatClampNeg 1008673) (2 : Int32).toNatClampNeg 1008673) (3 : Int32).toNatClampNeg 1008673) (4 : Int32).toNatClampNeg 1008673) (5 : Int32).toNatClampNeg 1008673)))), (q2, .inl (kI k, 2, .inl (fun _ => 0))), (q3, .inl (kI k, 2, .inl (fun _ => 0))), (q4, .inl (kI k, 2, .inl (fun _ => 0)))] H := hP
  have hD : va_D (xA x s.heap.size) [(x, .inr (2, [.ref q1, .ref q2, .ref q3, .ref q4, .int 0, .int 0])), (q1, .inl (kJ k, 6, .inr (.inl (vp_updL (vp_updL (vp_updL (vp_updL (vp_updL (vp_updL (fun _ => 0) (0 : Int32).toNatClampNeg 1008673) (1 : Int32).toNatClampNeg 1008673) (2 : Int32).toNatClampNeg 1008673) (3 : Int32).toNatClampNeg 1008673) (4 : Int32).toNatClampNeg 1008673) (5 : Int32).toNatClampNeg 1008673)))), (q2, .inl (kI k, 2, .inl (fun _ => 0))), (q3, .inl (kI k, 2, .inl (fun _ => 0))), (q4, .inl (kI k, 2, .inl (fun _ => 0)))] := hD
  refine lv_iinc (v := 6) (lv' := [(1, .int 6), (0, .ref x)]) hx hb dX0_init_63 hl (k := 0) rfl (by decide) (by decide) rfl (fun ls hl => ?_)
  refine lv_goto (tgt := 45) hx hb dX0_init_66 (by decide) ?_
  refine lv_iload_n hx hb dX0_init_45 rfl (lv_at hl 0 rfl) ?_
  refine lv_aload_n hx hb dX0_init_46 rfl (lv_at hl 1 rfl) ?_
  refine va_get (D := kD k) (ci := 2) (v := .ref q1) (C := RX0) (T := TX0) (N := 6) hx hb htg inG_X0 hown hGx.1 hP 0 rfl rfl 0 (by decide) (htg _ w_57) (fun _ h9 => h9) rfl dX0_init_47 ?_
  refine va_alen (D := kD k) (v := 6) hx hb hGx.1 hP 1 0 rfl rfl (show Int32.ofNat 6 = 6 by decide) dX0_init_50 ?_
  refine lv_icmp_ge (tgt := 69) hx hb dX0_init_51 (by decide) (fun _ => ?_) (fun h => absurd h (by decide))
  have hP : va_P (kD k) vwCl (cW k (x, q1, q2, q3, q4) z0C) H := hP
  have hD : va_D (xA x s.heap.size) (cW k (x, q1, q2, q3, q4) z0C) := hD
  refine m_low ?_
  refine W.widen (k := 4) (n := 12) (Nat.le_of_ble_eq_true rfl) (Nat.le_of_ble_eq_true rfl) ?_
  exact W.vret hx hb hr (fun t ht _ => ⟨rfl, ⟨(x, q1, q2, q3, q4), rfl, hD, by rw [ht]; exact hP, fun q h => by
    rcases h with rfl | rfl | rfl | rfl | rfl
    · exact hD.2 0 _ rfl
    · exact hD.2 1 _ rfl
    · exact hD.2 2 _ rfl
    · exact hD.2 3 _ rfl
    · exact hD.2 4 _ rfl⟩, by rw [ht]; exact hS.1, fun q h1 h2 => by rw [ht]; exact hS.2.1 q h1 (fun h => h.elim h2 (fun h3 => Nat.lt_irrefl _ (Nat.lt_of_lt_of_le h1 h3)))⟩) (fun q hq9 => by
    obtain ⟨h1, h2⟩ := List.mem_filter.mp hq9
    exact (hS.2.2 q h1).elim (fun h => h) (fun h => absurd (of_decide_eq_true h2) (Nat.not_lt.mpr h))) dX0_init_69
