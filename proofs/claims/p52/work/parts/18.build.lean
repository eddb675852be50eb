def o_J5_length_8abf5  (z : BS) : Option (Int32 × BS) := some (z.2, z)
theorem kk_J5_length_8abf5 : pK yJ5_length_8abf5 wsJ5_length_8abf5 cJ5_length_8abf5 1 (some .int) 0 := ⟨⟨_, rfl⟩, by decide +kernel, by decide +kernel, by decide +kernel⟩
set_option maxRecDepth 100000 in
set_option maxHeartbeats 4000000 in
theorem k_J5_length_8abf5 (l : Launch) (k : Kx) (a : Nat × Nat)  (z : BS) {r : Int32 × BS} (hm : o_J5_length_8abf5 z = some r) : bM l k a yJ5_length_8abf5 wsJ5_length_8abf5 0 0 [] z (some (.int r.1)) r.2 := by
  refine Met.ofW (cc := cJ5_length_8abf5) (maxL := 1) (ret := (some .int)) (by decide) rfl ?_
  intro p e s m args below meth c s₁ B hml hv
  obtain ⟨rfl, hGx, ⟨hne, hab⟩, hP⟩ := hv
  have hx := B.exec
  have hb := B.bytes
  have hr := B.returns
  have hts := atoms_spec (ws := wsJ5_length_8abf5) B.pre
  have hown : s.vm.findClass RJ5 = some m.cls := findClass_of_methodNamed B.named
  have hlocks := B.notSynchronized
  have htg : ∀ w ∈ GL, w.before _ s = true := fun w h => hts w (List.mem_cons_of_mem _ h)
  have hC : CallFix p m c cJ5_length_8abf5 1 s _ wsJ5_length_8abf5 RJ5 := ⟨hx, hb, hml, hown, hts⟩
  have hAB : ∀ q, b2 a q → kB k ≤ q := hab
  have hS : va_S (b2 a) s.heap s.heap [] := va_S.rf
  have hl := lv_entry ([.ref a.1]) (n := 1) (Nat.le_of_ble_eq_true rfl)
  rw [lg_entry_eq]
  generalize (lg_sl ([.ref a.1]) ++ List.replicate (1 - (lg_sl ([.ref a.1])).length) Slot.unset).toArray = ls at hl ⊢
  have hl : lv_has ls 1 [(0, .ref a.1)] := hl
  refine lv_aload_n hx hb dJ5_length_8abf5_0 rfl (lv_at hl 0 rfl) ?_
  refine va_get (D := kD k) (ci := 1) (v := .int z.2) (C := RJ4) (T := TJ4) (N := 4) hx hb htg inG_J4 hown hGx.1 hP 0 rfl rfl 3 (by decide) (htg _ w_345) (fun _ h9 => h9) rfl dJ5_length_8abf5_1 ?_
  exact b_iret hx hb hr hlocks (Option.some.inj hm) hP hS dJ5_length_8abf5_4
def o_J5_isLatin1_aae02  (z : BS) : Option (Int32 × BS) := some ((1 : Int32), z)
theorem kk_J5_isLatin1_aae02 : pK yJ5_isLatin1_aae02 wsJ5_isLatin1_aae02 cJ5_isLatin1_aae02 1 (some .boolean) 0 := ⟨⟨_, rfl⟩, by decide +kernel, by decide +kernel, by decide +kernel⟩
set_option maxRecDepth 100000 in
set_option maxHeartbeats 4000000 in
theorem k_J5_isLatin1_aae02 (l : Launch) (k : Kx) (a : Nat × Nat)  (z : BS) {r : Int32 × BS} (hm : o_J5_isLatin1_aae02 z = some r) : bM l k a yJ5_isLatin1_aae02 wsJ5_isLatin1_aae02 0 0 [] z (some (.int r.1)) r.2 := by
  refine Met.ofW (cc := cJ5_isLatin1_aae02) (maxL := 1) (ret := (some .boolean)) (by decide) rfl ?_
  intro p e s m args below meth c s₁ B hml hv
  obtain ⟨rfl, hGx, ⟨hne, hab⟩, hP⟩ := hv
  have hx := B.exec
  have hb := B.bytes
  have hr := B.returns
  have hts := atoms_spec (ws := wsJ5_isLatin1_aae02) B.pre
  have hown : s.vm.findClass RJ5 = some m.cls := findClass_of_methodNamed B.named
  have hlocks := B.notSynchronized
  have htg : ∀ w ∈ GL, w.before _ s = true := fun w h => hts w (List.mem_cons_of_mem _ h)
  have hC : CallFix p m c cJ5_isLatin1_aae02 1 s _ wsJ5_isLatin1_aae02 RJ5 := ⟨hx, hb, hml, hown, hts⟩
  have hAB : ∀ q, b2 a q → kB k ≤ q := hab
  have hS : va_S (b2 a) s.heap s.heap [] := va_S.rf
  have hl := lv_entry ([.ref a.1]) (n := 1) (Nat.le_of_ble_eq_true rfl)
  rw [lg_entry_eq]
  generalize (lg_sl ([.ref a.1]) ++ List.replicate (1 - (lg_sl ([.ref a.1])).length) Slot.unset).toArray = ls at hl ⊢
  have hl : lv_has ls 1 [(0, .ref a.1)] := hl
  refine va_gets hx hb (gx_cs hGx) (vs_up hAB hS) hown (htg _ w_334) (fun _ h9 => h9) dJ5_isLatin1_aae02_0 ?_
  refine lv_if_eq (tgt := 17) hx hb dJ5_isLatin1_aae02_3 (by decide) (fun h => absurd h (by decide)) (fun _ => ?_)
  refine lv_aload_n hx hb dJ5_isLatin1_aae02_6 rfl (lv_at hl 0 rfl) ?_
  refine va_get (D := kD k) (ci := 1) (v := .int (0 : Int32)) (C := RJ4) (T := TJ4) (N := 4) hx hb htg inG_J4 hown hGx.1 hP 0 rfl rfl 1 (by decide) (htg _ w_343) (fun _ h9 => h9) rfl dJ5_isLatin1_aae02_7 ?_
  refine lv_if_ne (tgt := 17) hx hb dJ5_isLatin1_aae02_10 (by decide) (fun h => absurd h (by decide)) (fun _ => ?_)
  refine lv_iconst (v := 1) hx hb dJ5_isLatin1_aae02_13 (by decide) ?_
  refine lv_goto (tgt := 18) hx hb dJ5_isLatin1_aae02_14 (by decide) ?_
  exact b_zret hx hb hr hlocks rfl (Option.some.inj hm) hP hS dJ5_isLatin1_aae02_18
def o_J5_ensureCapacityInternal_d00df (p0 : Int32) (z : BS) : Option (Unit × BS) := (if p0 - ((16 : Int32) >>> ((0 : Int32) &&& 31)) ≤ 0 then some ((), z) else none)
theorem kk_J5_ensureCapacityInternal_d00df : pK yJ5_ensureCapacityInternal_d00df wsJ5_ensureCapacityInternal_d00df cJ5_ensureCapacityInternal_d00df 3 none 1 := ⟨⟨_, rfl⟩, by decide +kernel, by decide +kernel, by decide +kernel⟩
set_option maxRecDepth 100000 in
set_option maxHeartbeats 4000000 in
theorem k_J5_ensureCapacityInternal_d00df (l : Launch) (k : Kx) (a : Nat × Nat) (p0 : Int32) (z : BS) {r : Unit × BS} (hm : o_J5_ensureCapacityInternal_d00df p0 z = some r) : bM l k a yJ5_ensureCapacityInternal_d00df wsJ5_ensureCapacityInternal_d00df 0 0 [.int p0] z none r.2 := by
  refine Met.ofW (cc := cJ5_ensureCapacityInternal_d00df) (maxL := 3) (ret := none) (by decide) rfl ?_
  intro p e s m args below meth c s₁ B hml hv
  obtain ⟨rfl, hGx, ⟨hne, hab⟩, hP⟩ := hv
  have hx := B.exec
  have hb := B.bytes
  have hr := B.returns
  have hts := atoms_spec (ws := wsJ5_ensureCapacityInternal_d00df) B.pre
  have hown : s.vm.findClass RJ5 = some m.cls := findClass_of_methodNamed B.named
  have hlocks := B.notSynchronized
  have htg : ∀ w ∈ GL, w.before _ s = true := fun w h => hts w (List.mem_cons_of_mem _ h)
  have hC : CallFix p m c cJ5_ensureCapacityInternal_d00df 3 s _ wsJ5_ensureCapacityInternal_d00df RJ5 := ⟨hx, hb, hml, hown, hts⟩
  have hAB : ∀ q, b2 a q → kB k ≤ q := hab
  have hS : va_S (b2 a) s.heap s.heap [] := va_S.rf
  have hl := lv_entry ([.ref a.1, .int p0]) (n := 3) (Nat.le_of_ble_eq_true rfl)
  rw [lg_entry_eq]
  generalize (lg_sl ([.ref a.1, .int p0]) ++ List.replicate (3 - (lg_sl ([.ref a.1, .int p0])).length) Slot.unset).toArray = ls at hl ⊢
  have hl : lv_has ls 3 [(0, .ref a.1), (1, .int p0)] := hl
  refine lv_aload_n hx hb dJ5_ensureCapacityInternal_d00df_0 rfl (lv_at hl 0 rfl) ?_
  refine va_get (D := kD k) (ci := 1) (v := .ref a.2) (C := RJ4) (T := TJ4) (N := 4) hx hb htg inG_J4 hown hGx.1 hP 0 rfl rfl 0 (by decide) (htg _ w_342) (fun _ h9 => h9) rfl dJ5_ensureCapacityInternal_d00df_1 ?_
  refine va_alen (D := kD k) (v := 16) hx hb hGx.1 hP 1 2 rfl rfl (show Int32.ofNat 16 = 16 by decide) dJ5_ensureCapacityInternal_d00df_4 ?_
  refine lv_aload_n hx hb dJ5_ensureCapacityInternal_d00df_5 rfl (lv_at hl 0 rfl) ?_
  refine va_get (D := kD k) (ci := 1) (v := .int (0 : Int32)) (C := RJ4) (T := TJ4) (N := 4) hx hb htg inG_J4 hown hGx.1 hP 0 rfl rfl 1 (by decide) (htg _ w_343) (fun _ h9 => h9) rfl dJ5_ensureCapacityInternal_d00df_6 ?_
  refine lv_ishr hx hb dJ5_ensureCapacityInternal_d00df_9 ?_
  refine lv_istore_n (lv' := [(2, .int ((16 : Int32) >>> ((0 : Int32) &&& 31))), (0, .ref a.1), (1, .int p0)]) hx hb dJ5_ensureCapacityInternal_d00df_10 rfl hl (by decide) rfl (fun ls hl => ?_)
  refine lv_iload_n hx hb dJ5_ensureCapacityInternal_d00df_11 rfl (lv_at hl 2 rfl) ?_
  refine lv_iload_n hx hb dJ5_ensureCapacityInternal_d00df_12 rfl (lv_at hl 0 rfl) ?_
  refine lv_isub hx hb dJ5_ensureCapacityInternal_d00df_13 ?_
  refine lv_if_le (tgt := 38) hx hb dJ5_ensureCapacityInternal_d00df_14 (by decide) (fun h_1 => ?_) (fun h_1 => ?_)
  · have hm := (if_pos h_1).symm.trans hm
    exact b_vret hx hb hr hlocks (Option.some.inj hm) hP hS dJ5_ensureCapacityInternal_d00df_38
  · have hm := (if_neg h_1).symm.trans hm
    refine lv_aload_n hx hb dJ5_ensureCapacityInternal_d00df_17 rfl (lv_at hl 1 rfl) ?_
    refine lv_aload_n hx hb dJ5_ensureCapacityInternal_d00df_18 rfl (lv_at hl 1 rfl) ?_
    refine va_get (D := kD k) (ci := 1) (v := .ref a.2) (C := RJ4) (T := TJ4) (N := 4) hx hb htg inG_J4 hown hGx.1 hP 0 rfl rfl 0 (by decide) (htg _ w_342) (fun _ h9 => h9) rfl dJ5_ensureCapacityInternal_d00df_19 ?_
    refine lv_aload_n hx hb dJ5_ensureCapacityInternal_d00df_22 rfl (lv_at hl 1 rfl) ?_
    refine lv_iload_n hx hb dJ5_ensureCapacityInternal_d00df_23 rfl (lv_at hl 2 rfl) ?_
    cases hm
def o_J5_append_3fe6f (p0 : Int32) (z : BS) : Option (Unit × BS) := ((o_J5_ensureCapacityInternal_d00df (z.2 + (1 : Int32)) z).bind fun x_1 => ((o_J5_isLatin1_aae02  x_1.2).bind fun x_2 => (if x_2.1 = 0 then ((o_J5_isLatin1_aae02  x_2.2).bind fun x_3 => (if x_3.1 = 0 then none else none)) else (if m_J1_canEncode_fc78d p0 = 0 then ((o_J5_isLatin1_aae02  x_2.2).bind fun x_4 => (if x_4.1 = 0 then none else none)) else (if x_2.2.2 < 0 ∨ 16 ≤ x_2.2.2.toNatClampNeg then none else some ((), (upd x_2.2.1 x_2.2.2.toNatClampNeg (vp_nar .byte p0.toInt8.toInt32), (x_2.2.2 + (1 : Int32)))))))))
theorem kk_J5_append_3fe6f : pK yJ5_append_3fe6f wsJ5_append_3fe6f cJ5_append_3fe6f 2 (some (.object "java/lang/AbstractStringBuilder")) 1 := ⟨⟨_, rfl⟩, by decide +kernel, by decide +kernel, by decide +kernel⟩
set_option maxRecDepth 100000 in
set_option maxHeartbeats 4000000 in
theorem k_J5_append_3fe6f (l : Launch) (k : Kx) (a : Nat × Nat) (p0 : Int32) (z : BS) {r : Unit × BS} (hm : o_J5_append_3fe6f p0 z = some r) : bM l k a yJ5_append_3fe6f wsJ5_append_3fe6f 1 22 [.int p0] z (some (.ref a.1)) r.2 := by
  refine Met.ofW (cc := cJ5_append_3fe6f) (maxL := 2) (ret := (some (.object "java/lang/AbstractStringBuilder"))) (by decide) rfl ?_
  intro p e s m args below meth c s₁ B hml hv
  obtain ⟨rfl, hGx, ⟨hne, hab⟩, hP⟩ := hv
  have hx := B.exec
  have hb := B.bytes
  have hr := B.returns
  have hts := atoms_spec (ws := wsJ5_append_3fe6f) B.pre
  have hown : s.vm.findClass RJ5 = some m.cls := findClass_of_methodNamed B.named
  have hlocks := B.notSynchronized
  have htg : ∀ w ∈ GL, w.before _ s = true := fun w h => hts w (List.mem_cons_of_mem _ h)
  have hC : CallFix p m c cJ5_append_3fe6f 2 s _ wsJ5_append_3fe6f RJ5 := ⟨hx, hb, hml, hown, hts⟩
  have hAB : ∀ q, b2 a q → kB k ≤ q := hab
  have hS : va_S (b2 a) s.heap s.heap [] := va_S.rf
  have hl := lv_entry ([.ref a.1, .int p0]) (n := 2) (Nat.le_of_ble_eq_true rfl)
  rw [lg_entry_eq]
  generalize (lg_sl ([.ref a.1, .int p0]) ++ List.replicate (2 - (lg_sl ([.ref a.1, .int p0])).length) Slot.unset).toArray = ls at hl ⊢
  have hl : lv_has ls 2 [(0, .ref a.1), (1, .int p0)] := hl
  refine lv_aload_n hx hb dJ5_append_3fe6f_0 rfl (lv_at hl 0 rfl) ?_
  refine lv_aload_n hx hb dJ5_append_3fe6f_1 rfl (lv_at hl 0 rfl) ?_
  refine va_get (D := kD k) (ci := 1) (v := .int z.2) (C := RJ4) (T := TJ4) (N := 4) hx hb htg inG_J4 hown hGx.1 hP 0 rfl rfl 3 (by decide) (htg _ w_345) (fun _ h9 => h9) rfl dJ5_append_3fe6f_2 ?_
  refine lv_iconst (v := 1) hx hb dJ5_append_3fe6f_5 (by decide) ?_
  refine lv_iadd hx hb dJ5_append_3fe6f_6 ?_
  obtain ⟨x_1, hx_1, hm⟩ := Option.bind_eq_some_iff.mp hm
  refine bc_U hC hGx (k_J5_ensureCapacityInternal_d00df l k a (z.2 + (1 : Int32)) z hx_1) (gU w_365 w_1394 w_0 w_366 w_37 w_367) kk_J5_ensureCapacityInternal_d00df hne ⟨Nat.le_of_ble_eq_true rfl, Nat.le_of_ble_eq_true rfl⟩ ⟨Nat.le_of_ble_eq_true rfl, Nat.le_of_ble_eq_true rfl⟩ hP hS (fun _ h => h) hAB hl.1 rfl rfl (Nat.le_of_ble_eq_true rfl) dJ5_append_3fe6f_7 (fun H _ hP hS _ _ _ => ?_)
  refine lv_aload_n hx hb dJ5_append_3fe6f_10 rfl (lv_at hl 0 rfl) ?_
  obtain ⟨x_2, hx_2, hm⟩ := Option.bind_eq_some_iff.mp hm
  refine bc_U hC hGx (k_J5_isLatin1_aae02 l k a  x_1.2 hx_2) (gU w_395 w_397 w_398 w_396 w_37 w_399) kk_J5_isLatin1_aae02 hne ⟨Nat.le_of_ble_eq_true rfl, Nat.le_of_ble_eq_true rfl⟩ ⟨Nat.le_of_ble_eq_true rfl, Nat.le_of_ble_eq_true rfl⟩ hP hS (fun _ h => h) hAB hl.1 rfl rfl (Nat.le_of_ble_eq_true rfl) dJ5_append_3fe6f_11 (fun H _ hP hS _ _ _ => ?_)
  refine lv_if_eq (tgt := 45) hx hb dJ5_append_3fe6f_14 (by decide) (fun h_1 => ?_) (fun h_1 => ?_)
  · have hm := (if_pos h_1).symm.trans hm
    refine lv_aload_n hx hb dJ5_append_3fe6f_45 rfl (lv_at hl 0 rfl) ?_
    obtain ⟨x_3, hx_3, hm⟩ := Option.bind_eq_some_iff.mp hm
    refine bc_U hC hGx (k_J5_isLatin1_aae02 l k a  x_2.2 hx_3) (gU w_395 w_397 w_398 w_396 w_37 w_399) kk_J5_isLatin1_aae02 hne ⟨Nat.le_of_ble_eq_true rfl, Nat.le_of_ble_eq_true rfl⟩ ⟨Nat.le_of_ble_eq_true rfl, Nat.le_of_ble_eq_true rfl⟩ hP hS (fun _ h => h) hAB hl.1 rfl rfl (Nat.le_of_ble_eq_true rfl) dJ5_append_3fe6f_46 (fun H _ hP hS _ _ _ => ?_)
    refine lv_if_eq (tgt := 56) hx hb dJ5_append_3fe6f_49 (by decide) (fun h_2 => ?_) (fun h_2 => ?_)
    · have hm := (if_pos h_2).symm.trans hm
      refine lv_aload_n hx hb dJ5_append_3fe6f_56 rfl (lv_at hl 0 rfl) ?_
      refine va_get (D := kD k) (ci := 1) (v := .ref a.2) (C := RJ4) (T := TJ4) (N := 4) hx hb htg inG_J4 hown hGx.1 hP 0 rfl rfl 0 (by decide) (htg _ w_342) (fun _ h9 => h9) rfl dJ5_append_3fe6f_57 ?_
      refine lv_aload_n hx hb dJ5_append_3fe6f_60 rfl (lv_at hl 0 rfl) ?_
      refine lv_dup hx hb dJ5_append_3fe6f_61 rfl ?_
      refine va_get (D := kD k) (ci := 1) (v := .int x_3.2.2) (C := RJ4) (T := TJ4) (N := 4) hx hb htg inG_J4 hown hGx.1 hP 0 rfl rfl 3 (by decide) (htg _ w_345) (fun _ h9 => h9) rfl dJ5_append_3fe6f_62 ?_
      refine lv_dup_x1 hx hb dJ5_append_3fe6f_65 rfl rfl ?_
      refine lv_iconst (v := 1) hx hb dJ5_append_3fe6f_66 (by decide) ?_
      refine lv_iadd hx hb dJ5_append_3fe6f_67 ?_
      refine va_put (D := kD k) (ci := 1) (v := .int (x_3.2.2 + (1 : Int32))) (ty := .int) (C := RJ4) (T := TJ4) (N := 4) hx hb htg inG_J4 tyJ4 tyJ4_ok nmJ4 hown hGx.1 hP (bW.own hne) hS 0 rfl rfl 3 (by decide) (htg _ w_345) (fun _ h9 => h9) rfl (by decide +kernel) rfl rfl (Nat.le_of_ble_eq_true rfl) dJ5_append_3fe6f_68 (fun H locs hP1 _ hS => ?_)
      have hP : bP k a (x_3.2.1, x_3.2.2 + (1 : Int32)) H := hP1
      refine lv_iload_n hx hb dJ5_append_3fe6f_71 rfl (lv_at hl 1 rfl) ?_
      cases hm
    · have hm := (if_neg h_2).symm.trans hm
      refine lv_aload_n hx hb dJ5_append_3fe6f_52 rfl (lv_at hl 0 rfl) ?_
      cases hm
  · have hm := (if_neg h_1).symm.trans hm
    refine lv_iload_n hx hb dJ5_append_3fe6f_17 rfl (lv_at hl 1 rfl) ?_
    refine pc_S hC (c_J1_canEncode_fc78d l p0) (gS w_400 w_401 w_44 w_402) kk_J1_canEncode_fc78d ⟨Nat.le_of_ble_eq_true rfl, Nat.le_of_ble_eq_true rfl⟩ ⟨Nat.le_of_ble_eq_true rfl, Nat.le_of_ble_eq_true rfl⟩ hl.1 rfl rfl (Nat.le_of_ble_eq_true rfl) dJ5_append_3fe6f_18 ?_
    refine lv_if_eq (tgt := 45) hx hb dJ5_append_3fe6f_21 (by decide) (fun h_3 => ?_) (fun h_3 => ?_)
    · have hm := (if_pos h_3).symm.trans hm
      refine lv_aload_n hx hb dJ5_append_3fe6f_45 rfl (lv_at hl 0 rfl) ?_
      obtain ⟨x_4, hx_4, hm⟩ := Option.bind_eq_some_iff.mp hm
      refine bc_U hC hGx (k_J5_isLatin1_aae02 l k a  x_2.2 hx_4) (gU w_395 w_397 w_398 w_396 w_37 w_399) kk_J5_isLatin1_aae02 hne ⟨Nat.le_of_ble_eq_true rfl, Nat.le_of_ble_eq_true rfl⟩ ⟨Nat.le_of_ble_eq_true rfl, Nat.le_of_ble_eq_true rfl⟩ hP hS (fun _ h => h) hAB hl.1 rfl rfl (Nat.le_of_ble_eq_true rfl) dJ5_append_3fe6f_46 (fun H _ hP hS _ _ _ => ?_)
      refine lv_if_eq (tgt := 56) hx hb dJ5_append_3fe6f_49 (by decide) (fun h_4 => ?_) (fun h_4 => ?_)
      · have hm := (if_pos h_4).symm.trans hm
        refine lv_aload_n hx hb dJ5_append_3fe6f_56 rfl (lv_at hl 0 rfl) ?_
        refine va_get (D := kD k) (ci := 1) (v := .ref a.2) (C := RJ4) (T := TJ4) (N := 4) hx hb htg inG_J4 hown hGx.1 hP 0 rfl rfl 0 (by decide) (htg _ w_342) (fun _ h9 => h9) rfl dJ5_append_3fe6f_57 ?_
        refine lv_aload_n hx hb dJ5_append_3fe6f_60 rfl (lv_at hl 0 rfl) ?_
        refine lv_dup hx hb dJ5_append_3fe6f_61 rfl ?_
        refine va_get (D := kD k) (ci := 1) (v := .int x_4.2.2) (C := RJ4) (T := TJ4) (N := 4) hx hb htg inG_J4 hown hGx.1 hP 0 rfl rfl 3 (by decide) (htg _ w_345) (fun _ h9 => h9) rfl dJ5_append_3fe6f_62 ?_
        refine lv_dup_x1 hx hb dJ5_append_3fe6f_65 rfl rfl ?_
        refine lv_iconst (v := 1) hx hb dJ5_append_3fe6f_66 (by decide) ?_
        refine lv_iadd hx hb dJ5_append_3fe6f_67 ?_
        refine va_put (D := kD k) (ci := 1) (v := .int (x_4.2.2 + (1 : Int32))) (ty := .int) (C := RJ4) (T := TJ4) (N := 4) hx hb htg inG_J4 tyJ4 tyJ4_ok nmJ4 hown hGx.1 hP (bW.own hne) hS 0 rfl rfl 3 (by decide) (htg _ w_345) (fun _ h9 => h9) rfl (by decide +kernel) rfl rfl (Nat.le_of_ble_eq_true rfl) dJ5_append_3fe6f_68 (fun H locs hP1 _ hS => ?_)
        have hP : bP k a (x_4.2.1, x_4.2.2 + (1 : Int32)) H := hP1
        refine lv_iload_n hx hb dJ5_append_3fe6f_71 rfl (lv_at hl 1 rfl) ?_
        cases hm
      · have hm := (if_neg h_4).symm.trans hm
        refine lv_aload_n hx hb dJ5_append_3fe6f_52 rfl (lv_at hl 0 rfl) ?_
        cases hm
    · have hm := (if_neg h_3).symm.trans hm
      refine lv_aload_n hx hb dJ5_append_3fe6f_24 rfl (lv_at hl 0 rfl) ?_
      refine va_get (D := kD k) (ci := 1) (v := .ref a.2) (C := RJ4) (T := TJ4) (N := 4) hx hb htg inG_J4 hown hGx.1 hP 0 rfl rfl 0 (by decide) (htg _ w_342) (fun _ h9 => h9) rfl dJ5_append_3fe6f_25 ?_
      refine lv_aload_n hx hb dJ5_append_3fe6f_28 rfl (lv_at hl 0 rfl) ?_
      refine lv_dup hx hb dJ5_append_3fe6f_29 rfl ?_
      refine va_get (D := kD k) (ci := 1) (v := .int x_2.2.2) (C := RJ4) (T := TJ4) (N := 4) hx hb htg inG_J4 hown hGx.1 hP 0 rfl rfl 3 (by decide) (htg _ w_345) (fun _ h9 => h9) rfl dJ5_append_3fe6f_30 ?_
      refine lv_dup_x1 hx hb dJ5_append_3fe6f_33 rfl rfl ?_
      refine lv_iconst (v := 1) hx hb dJ5_append_3fe6f_34 (by decide) ?_
      refine lv_iadd hx hb dJ5_append_3fe6f_35 ?_
      refine va_put (D := kD k) (ci := 1) (v := .int (x_2.2.2 + (1 : Int32))) (ty := .int) (C := RJ4) (T := TJ4) (N := 4) hx hb htg inG_J4 tyJ4 tyJ4_ok nmJ4 hown hGx.1 hP (bW.own hne) hS 0 rfl rfl 3 (by decide) (htg _ w_345) (fun _ h9 => h9) rfl (by decide +kernel) rfl rfl (Nat.le_of_ble_eq_true rfl) dJ5_append_3fe6f_36 (fun H locs hP1 _ hS => ?_)
      have hP : bP k a (x_2.2.1, x_2.2.2 + (1 : Int32)) H := hP1
      refine lv_iload_n hx hb dJ5_append_3fe6f_39 rfl (lv_at hl 1 rfl) ?_
      refine lv_i2b (v := p0.toInt8.toInt32) hx hb dJ5_append_3fe6f_40 rfl ?_
      by_cases h_5 : x_2.2.2 < 0 ∨ 16 ≤ x_2.2.2.toNatClampNeg
      · have hm := (if_pos h_5).symm.trans hm
        cases hm
      have hm := (if_neg h_5).symm.trans hm
      refine va_bast (D := kD k) hx hb hGx.1 hP (bW.own hne) hS 1 2 rfl rfl h_5 dJ5_append_3fe6f_41 (fun H locs hP1 _ hS => ?_)
      have hP : bP k a (upd x_2.2.1 x_2.2.2.toNatClampNeg (vp_nar .byte p0.toInt8.toInt32), (x_2.2.2 + (1 : Int32))) H := hP1
      refine lv_goto (tgt := 75) hx hb dJ5_append_3fe6f_42 (by decide) ?_
      refine lv_aload_n hx hb dJ5_append_3fe6f_75 rfl (lv_at hl 0 rfl) ?_
      exact b_tret hx hb hr hlocks (Option.some.inj hm) hP hS dJ5_append_3fe6f_76
