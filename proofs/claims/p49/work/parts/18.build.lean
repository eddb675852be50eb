def o_J5_length_8abf5  (z : Int32) : Option (Int32 × Int32) := some (z, z)
theorem kk_J5_length_8abf5 : pK yJ5_length_8abf5 wsJ5_length_8abf5 cJ5_length_8abf5 1 (some .int) 0 := ⟨⟨_, rfl⟩, by decide +kernel, by decide +kernel, by decide +kernel⟩
set_option maxRecDepth 100000 in
set_option maxHeartbeats 4000000 in
theorem k_J5_length_8abf5 (l : Launch) (k : Kx) (a : Nat × Nat)  (z : Int32) {r : Int32 × Int32} (hm : o_J5_length_8abf5 z = some r) : bN l k a yJ5_length_8abf5 wsJ5_length_8abf5 0 0 [.ref a.1] [] z (some (.int r.1)) r.2 := by
  refine Met.ofW (cc := cJ5_length_8abf5) (maxL := 1) (ret := (some .int)) (by decide) rfl ?_
  intro p e s m args below meth c s₁ B hml hv
  obtain ⟨rfl, hGx, ⟨hne, hab⟩, ⟨f, hf, hP⟩, hts⟩ := hv
  have hx := B.exec
  have hb := B.bytes
  have hr := B.returns
  have hts9 := atoms_spec (ws := wsJ5_length_8abf5) B.pre
  have hown : s.vm.findClass RJ5 = some m.cls := findClass_of_methodNamed B.named
  have hlocks := B.notSynchronized
  have htg : ∀ w ∈ GL, w.before _ s = true := fun w h => hts9 w (List.mem_cons_of_mem _ h)
  have hC : CallFix p m c cJ5_length_8abf5 1 s _ wsJ5_length_8abf5 RJ5 := ⟨hx, hb, hml, hown, hts9⟩
  have hAB : ∀ q, b2 a q → kB k ≤ q := hab
  have hS : va_S (b2 a) s.heap s.heap [] := va_S.rf
  have hl := lv_entry ([.ref a.1]) (n := 1) (Nat.le_of_ble_eq_true rfl)
  rw [lg_entry_eq]
  generalize (lg_sl ([.ref a.1]) ++ List.replicate (1 - (lg_sl ([.ref a.1])).length) Slot.unset).toArray = ls at hl ⊢
  have hl : lv_has ls 1 [(0, .ref a.1)] := hl
  refine lv_aload_n hx hb dJ5_length_8abf5_0 rfl (lv_at hl 0 rfl) ?_
  refine va_get (D := kD k) (ci := 1) (v := .int z) (C := RJ4) (T := TJ4) (N := 4) hx hb htg inG_J4 hown hGx.1 hP 0 rfl rfl 3 (by decide) (htg _ w_345) (fun _ h9 => h9) rfl dJ5_length_8abf5_1 ?_
  exact b_iret hx hb hr hlocks (Option.some.inj hm) ⟨_, hf, hP⟩ hS dJ5_length_8abf5_4
def o_J4_length_8abf5  (z : Int32) : Option (Int32 × Int32) := ((o_J5_length_8abf5 z).bind fun x_1 => some (x_1.1, x_1.2))
theorem kk_J4_length_8abf5 : pK yJ4_length_8abf5 wsJ4_length_8abf5 cJ4_length_8abf5 1 (some .int) 0 := ⟨⟨_, rfl⟩, by decide +kernel, by decide +kernel, by decide +kernel⟩
set_option maxRecDepth 100000 in
set_option maxHeartbeats 4000000 in
theorem k_J4_length_8abf5 (l : Launch) (k : Kx) (a : Nat × Nat)  (z : Int32) {r : Int32 × Int32} (hm : o_J4_length_8abf5 z = some r) : bN l k a yJ4_length_8abf5 wsJ4_length_8abf5 1 20 [.ref a.1] [] z (some (.int r.1)) r.2 := by
  refine Met.ofW (cc := cJ4_length_8abf5) (maxL := 1) (ret := (some .int)) (by decide) rfl ?_
  intro p e s m args below meth c s₁ B hml hv
  obtain ⟨rfl, hGx, ⟨hne, hab⟩, ⟨f, hf, hP⟩, hts⟩ := hv
  have hx := B.exec
  have hb := B.bytes
  have hr := B.returns
  have hts9 := atoms_spec (ws := wsJ4_length_8abf5) B.pre
  have hown : s.vm.findClass RJ4 = some m.cls := findClass_of_methodNamed B.named
  have hlocks := B.notSynchronized
  have htg : ∀ w ∈ GL, w.before _ s = true := fun w h => hts9 w (List.mem_cons_of_mem _ h)
  have hC : CallFix p m c cJ4_length_8abf5 1 s _ wsJ4_length_8abf5 RJ4 := ⟨hx, hb, hml, hown, hts9⟩
  have hAB : ∀ q, b2 a q → kB k ≤ q := hab
  have hS : va_S (b2 a) s.heap s.heap [] := va_S.rf
  have hl := lv_entry ([.ref a.1]) (n := 1) (Nat.le_of_ble_eq_true rfl)
  rw [lg_entry_eq]
  generalize (lg_sl ([.ref a.1]) ++ List.replicate (1 - (lg_sl ([.ref a.1])).length) Slot.unset).toArray = ls at hl ⊢
  have hl : lv_has ls 1 [(0, .ref a.1)] := hl
  refine lv_aload_n hx hb dJ4_length_8abf5_0 rfl (lv_at hl 0 rfl) ?_
  obtain ⟨x_1, hx_1, hm⟩ := Option.bind_eq_some_iff.mp hm
  refine bc_SU hC hGx (k_J5_length_8abf5 l k a   z hx_1) (gS0 w_499 w_494 w_37 w_495 w_354 w_500) kk_J5_length_8abf5 (by decide) hne ⟨Nat.le_of_ble_eq_true rfl, Nat.le_of_ble_eq_true rfl⟩ ⟨Nat.le_of_ble_eq_true rfl, Nat.le_of_ble_eq_true rfl⟩ ⟨_, hf, hP⟩ (fun _ h => absurd h List.not_mem_nil) hS (fun _ h => h) hAB hl.1 rfl rfl (Nat.le_of_ble_eq_true rfl) dJ4_length_8abf5_1 (fun H L1 hP hS _ hz hq => ?_)
  obtain ⟨f, hf, hP⟩ := hP
  exact b_iret hx hb hr hlocks (Option.some.inj hm) ⟨_, hf, hP⟩ hS dJ4_length_8abf5_4
def o_J5_isLatin1_aae02  (z : Int32) : Option (Int32 × Int32) := some ((1 : Int32), z)
theorem kk_J5_isLatin1_aae02 : pK yJ5_isLatin1_aae02 wsJ5_isLatin1_aae02 cJ5_isLatin1_aae02 1 (some .boolean) 0 := ⟨⟨_, rfl⟩, by decide +kernel, by decide +kernel, by decide +kernel⟩
set_option maxRecDepth 100000 in
set_option maxHeartbeats 4000000 in
theorem k_J5_isLatin1_aae02 (l : Launch) (k : Kx) (a : Nat × Nat)  (z : Int32) {r : Int32 × Int32} (hm : o_J5_isLatin1_aae02 z = some r) : bN l k a yJ5_isLatin1_aae02 wsJ5_isLatin1_aae02 0 0 [.ref a.1] [] z (some (.int r.1)) r.2 := by
  refine Met.ofW (cc := cJ5_isLatin1_aae02) (maxL := 1) (ret := (some .boolean)) (by decide) rfl ?_
  intro p e s m args below meth c s₁ B hml hv
  obtain ⟨rfl, hGx, ⟨hne, hab⟩, ⟨f, hf, hP⟩, hts⟩ := hv
  have hx := B.exec
  have hb := B.bytes
  have hr := B.returns
  have hts9 := atoms_spec (ws := wsJ5_isLatin1_aae02) B.pre
  have hown : s.vm.findClass RJ5 = some m.cls := findClass_of_methodNamed B.named
  have hlocks := B.notSynchronized
  have htg : ∀ w ∈ GL, w.before _ s = true := fun w h => hts9 w (List.mem_cons_of_mem _ h)
  have hC : CallFix p m c cJ5_isLatin1_aae02 1 s _ wsJ5_isLatin1_aae02 RJ5 := ⟨hx, hb, hml, hown, hts9⟩
  have hAB : ∀ q, b2 a q → kB k ≤ q := hab
  have hS : va_S (b2 a) s.heap s.heap [] := va_S.rf
  have hl := lv_entry ([.ref a.1]) (n := 1) (Nat.le_of_ble_eq_true rfl)
  rw [lg_entry_eq]
  generalize (lg_sl ([.ref a.1]) ++ List.replicate (1 - (lg_sl ([.ref a.1])).length) Slot.unset).toArray = ls at hl ⊢
  have hl : lv_has ls 1 [(0, .ref a.1)] := hl
  refine va_gets hx hb (gx_cs hGx) (vs_up hAB hS) hown (htg _ w_334) (fun _ h9 => h9) dJ5_isLatin1_aae02_0 ?_
  refine lv_if_eq (tgt := 17) hx hb dJ5_isLatin1_aae02_3 (by decide) (fun h => absurd h (by decide)) (fun _ => ?_)
  refine lv_aload_n hx hb dJ5_isLatin1_aae02_6 rfl (lv_at hl 0 rfl) ?_
  refine va_get (D := kD k) (ci := 1) (v := .int (0 : Int32)) (C := RJ4) (T := TJ4) (N := 4) hx hb htg inG_J4 hown hGx.1 hP 0 rfl rfl 1 (by decide) (htg _ w_343) (fun _ h9 => h9) rfl dJ5_isLatin1_aae02_7 ?_
  refine lv_if_ne (tgt := 17) hx hb dJ5_isLatin1_aae02_10 (by decide) (fun h => absurd h (by decide)) (fun _ => ?_)
  refine lv_iconst (v := 1) hx hb dJ5_isLatin1_aae02_13 (by decide) ?_
  refine lv_goto (tgt := 18) hx hb dJ5_isLatin1_aae02_14 (by decide) ?_
  exact b_zret hx hb hr hlocks rfl (Option.some.inj hm) ⟨_, hf, hP⟩ hS dJ5_isLatin1_aae02_18
def o_J5_getValue_6d5f1  (z : Int32) : Option (Unit × Int32) := some ((), z)
theorem kk_J5_getValue_6d5f1 : pK yJ5_getValue_6d5f1 wsJ5_getValue_6d5f1 cJ5_getValue_6d5f1 1 (some (.array .byte)) 0 := ⟨⟨_, rfl⟩, by decide +kernel, by decide +kernel, by decide +kernel⟩
set_option maxRecDepth 100000 in
set_option maxHeartbeats 4000000 in
theorem k_J5_getValue_6d5f1 (l : Launch) (k : Kx) (a : Nat × Nat)  (z : Int32) {r : Unit × Int32} (hm : o_J5_getValue_6d5f1 z = some r) : bN l k a yJ5_getValue_6d5f1 wsJ5_getValue_6d5f1 0 0 [.ref a.1] [] z (some (.ref a.2)) r.2 := by
  refine Met.ofW (cc := cJ5_getValue_6d5f1) (maxL := 1) (ret := (some (.array .byte))) (by decide) rfl ?_
  intro p e s m args below meth c s₁ B hml hv
  obtain ⟨rfl, hGx, ⟨hne, hab⟩, ⟨f, hf, hP⟩, hts⟩ := hv
  have hx := B.exec
  have hb := B.bytes
  have hr := B.returns
  have hts9 := atoms_spec (ws := wsJ5_getValue_6d5f1) B.pre
  have hown : s.vm.findClass RJ5 = some m.cls := findClass_of_methodNamed B.named
  have hlocks := B.notSynchronized
  have htg : ∀ w ∈ GL, w.before _ s = true := fun w h => hts9 w (List.mem_cons_of_mem _ h)
  have hC : CallFix p m c cJ5_getValue_6d5f1 1 s _ wsJ5_getValue_6d5f1 RJ5 := ⟨hx, hb, hml, hown, hts9⟩
  have hAB : ∀ q, b2 a q → kB k ≤ q := hab
  have hS : va_S (b2 a) s.heap s.heap [] := va_S.rf
  have hl := lv_entry ([.ref a.1]) (n := 1) (Nat.le_of_ble_eq_true rfl)
  rw [lg_entry_eq]
  generalize (lg_sl ([.ref a.1]) ++ List.replicate (1 - (lg_sl ([.ref a.1])).length) Slot.unset).toArray = ls at hl ⊢
  have hl : lv_has ls 1 [(0, .ref a.1)] := hl
  refine lv_aload_n hx hb dJ5_getValue_6d5f1_0 rfl (lv_at hl 0 rfl) ?_
  refine va_get (D := kD k) (ci := 1) (v := .ref a.2) (C := RJ4) (T := TJ4) (N := 4) hx hb htg inG_J4 hown hGx.1 hP 0 rfl rfl 0 (by decide) (htg _ w_342) (fun _ h9 => h9) rfl dJ5_getValue_6d5f1_1 ?_
  exact b_tret hx hb hr (by first | exact Or.inl ⟨_, rfl⟩ | exact Or.inr ⟨_, rfl⟩) hlocks (Option.some.inj hm) ⟨_, hf, hP⟩ hS dJ5_getValue_6d5f1_4
def o_J5_ensureCapacityInternal_d00df (p0 : Int32) (z : Int32) : Option (Unit × Int32) := (if p0 - ((16 : Int32) >>> ((0 : Int32) &&& 31)) ≤ 0 then some ((), z) else none)
theorem kk_J5_ensureCapacityInternal_d00df : pK yJ5_ensureCapacityInternal_d00df wsJ5_ensureCapacityInternal_d00df cJ5_ensureCapacityInternal_d00df 3 none 1 := ⟨⟨_, rfl⟩, by decide +kernel, by decide +kernel, by decide +kernel⟩
set_option maxRecDepth 100000 in
set_option maxHeartbeats 4000000 in
theorem k_J5_ensureCapacityInternal_d00df (l : Launch) (k : Kx) (a : Nat × Nat) (p0 : Int32) (z : Int32) {r : Unit × Int32} (hm : o_J5_ensureCapacityInternal_d00df p0 z = some r) : bN l k a yJ5_ensureCapacityInternal_d00df wsJ5_ensureCapacityInternal_d00df 0 0 [.ref a.1, .int p0] [] z none r.2 := by
  refine Met.ofW (cc := cJ5_ensureCapacityInternal_d00df) (maxL := 3) (ret := none) (by decide) rfl ?_
  intro p e s m args below meth c s₁ B hml hv
  obtain ⟨rfl, hGx, ⟨hne, hab⟩, ⟨f, hf, hP⟩, hts⟩ := hv
  have hx := B.exec
  have hb := B.bytes
  have hr := B.returns
  have hts9 := atoms_spec (ws := wsJ5_ensureCapacityInternal_d00df) B.pre
  have hown : s.vm.findClass RJ5 = some m.cls := findClass_of_methodNamed B.named
  have hlocks := B.notSynchronized
  have htg : ∀ w ∈ GL, w.before _ s = true := fun w h => hts9 w (List.mem_cons_of_mem _ h)
  have hC : CallFix p m c cJ5_ensureCapacityInternal_d00df 3 s _ wsJ5_ensureCapacityInternal_d00df RJ5 := ⟨hx, hb, hml, hown, hts9⟩
  have hAB : ∀ q, b2 a q → kB k ≤ q := hab
  have hS : va_S (b2 a) s.heap s.heap [] := va_S.rf
  have hl := lv_entry ([.ref a.1, .int p0]) (n := 3) (Nat.le_of_ble_eq_true rfl)
  rw [lg_entry_eq]
  generalize (lg_sl ([.ref a.1, .int p0]) ++ List.replicate (3 - (lg_sl ([.ref a.1, .int p0])).length) Slot.unset).toArray = ls at hl ⊢
  have hl : lv_has ls 3 [(0, .ref a.1), (1, .int p0)] := hl
  refine lv_aload_n hx hb dJ5_ensureCapacityInternal_d00df_0 rfl (lv_at hl 0 rfl) ?_
  refine va_get (D := kD k) (ci := 1) (v := .ref a.2) (C := RJ4) (T := TJ4) (N := 4) hx hb htg inG_J4 hown hGx.1 hP 0 rfl rfl 0 (by decide) (htg _ w_342) (fun _ h9 => h9) rfl dJ5_ensureCapacityInternal_d00df_1 ?_
  refine va_alen (D := kD k) (v := 16) hx hb hGx.1 hP 1 2 rfl rfl (show Int32.ofNat 16 = 16 by decide) dJ5_ensureCapacityInternal_d00df_4 ?_
  refine lv_aload_n hx hb dJ5_ensureCapacityInternal_d00df_5 rfl (lv_at hl 0 rfl) ?_
  refine va_get (D := kD k) (ci := 1) (v := .int (0 : Int32)) (C := RJ4) (T := TJ4) (N := 4) hx hb htg inG_J4 hown hGx.1 hP 0 rfl rfl 1 (by decide) (htg _ w_343) (fun _ h9 => h9) rfl dJ5_ensureCapacityInternal_d00df_6 ?_
  refine lv_ishr hx hb dJ5_ensureCapacityInternal_d00df_9 ?_
  refine lv_istore_n (lv' := [(2, .int ((16 : Int32) >>> ((0 : Int32) &&& 31))), (0, .ref a.1), (1, .int p0)]) hx hb dJ5_ensureCapacityInternal_d00df_10 rfl hl (by decide) rfl (fun ls hl => ?_)
  refine lv_iload_n hx hb dJ5_ensureCapacityInternal_d00df_11 rfl (lv_at hl 2 rfl) ?_
  refine lv_iload_n hx hb dJ5_ensureCapacityInternal_d00df_12 rfl (lv_at hl 0 rfl) ?_
  refine lv_isub hx hb dJ5_ensureCapacityInternal_d00df_13 ?_
  refine lv_if_le (tgt := 38) hx hb dJ5_ensureCapacityInternal_d00df_14 (by decide) (fun h_1 => ?_) (fun h_1 => ?_)
  · have hm := (if_pos h_1).symm.trans hm
    exact b_vret hx hb hr hlocks (Option.some.inj hm) ⟨_, hf, hP⟩ hS dJ5_ensureCapacityInternal_d00df_38
  · have hm := (if_neg h_1).symm.trans hm
    refine lv_aload_n hx hb dJ5_ensureCapacityInternal_d00df_17 rfl (lv_at hl 1 rfl) ?_
    refine lv_aload_n hx hb dJ5_ensureCapacityInternal_d00df_18 rfl (lv_at hl 1 rfl) ?_
    refine va_get (D := kD k) (ci := 1) (v := .ref a.2) (C := RJ4) (T := TJ4) (N := 4) hx hb htg inG_J4 hown hGx.1 hP 0 rfl rfl 0 (by decide) (htg _ w_342) (fun _ h9 => h9) rfl dJ5_ensureCapacityInternal_d00df_19 ?_
    refine lv_aload_n hx hb dJ5_ensureCapacityInternal_d00df_22 rfl (lv_at hl 1 rfl) ?_
    refine lv_iload_n hx hb dJ5_ensureCapacityInternal_d00df_23 rfl (lv_at hl 2 rfl) ?_
    cases hm
def o_J5_append_3fe6f (p0 : Int32) (z : Int32) : Option (Unit × Int32) := ((o_J5_ensureCapacityInternal_d00df (z + (1 : Int32)) z).bind fun x_1 => ((o_J5_isLatin1_aae02 x_1.2).bind fun x_2 => (if x_2.1 = 0 then ((o_J5_isLatin1_aae02 x_2.2).bind fun x_3 => (if x_3.1 = 0 then none else none)) else (if m_J1_canEncode_fc78d p0 = 0 then ((o_J5_isLatin1_aae02 x_2.2).bind fun x_4 => (if x_4.1 = 0 then none else none)) else (if x_2.2 < 0 ∨ 16 ≤ x_2.2.toNatClampNeg then none else some ((), x_2.2 + (1 : Int32)))))))
theorem kk_J5_append_3fe6f : pK yJ5_append_3fe6f wsJ5_append_3fe6f cJ5_append_3fe6f 2 (some (.object "java/lang/AbstractStringBuilder")) 1 := ⟨⟨_, rfl⟩, by decide +kernel, by decide +kernel, by decide +kernel⟩
set_option maxRecDepth 100000 in
set_option maxHeartbeats 4000000 in
theorem k_J5_append_3fe6f (l : Launch) (k : Kx) (a : Nat × Nat) (p0 : Int32) (z : Int32) {r : Unit × Int32} (hm : o_J5_append_3fe6f p0 z = some r) : bN l k a yJ5_append_3fe6f wsJ5_append_3fe6f 1 22 [.ref a.1, .int p0] [] z (some (.ref a.1)) r.2 := by
  refine Met.ofW (cc := cJ5_append_3fe6f) (maxL := 2) (ret := (some (.object "java/lang/AbstractStringBuilder"))) (by decide) rfl ?_
  intro p e s m args below meth c s₁ B hml hv
  obtain ⟨rfl, hGx, ⟨hne, hab⟩, ⟨f, hf, hP⟩, hts⟩ := hv
  have hx := B.exec
  have hb := B.bytes
  have hr := B.returns
  have hts9 := atoms_spec (ws := wsJ5_append_3fe6f) B.pre
  have hown : s.vm.findClass RJ5 = some m.cls := findClass_of_methodNamed B.named
  have hlocks := B.notSynchronized
  have htg : ∀ w ∈ GL, w.before _ s = true := fun w h => hts9 w (List.mem_cons_of_mem _ h)
  have hC : CallFix p m c cJ5_append_3fe6f 2 s _ wsJ5_append_3fe6f RJ5 := ⟨hx, hb, hml, hown, hts9⟩
  have hAB : ∀ q, b2 a q → kB k ≤ q := hab
  have hS : va_S (b2 a) s.heap s.heap [] := va_S.rf
  have hl := lv_entry ([.ref a.1, .int p0]) (n := 2) (Nat.le_of_ble_eq_true rfl)
  rw [lg_entry_eq]
  generalize (lg_sl ([.ref a.1, .int p0]) ++ List.replicate (2 - (lg_sl ([.ref a.1, .int p0])).length) Slot.unset).toArray = ls at hl ⊢
  have hl : lv_has ls 2 [(0, .ref a.1), (1, .int p0)] := hl
  refine lv_aload_n hx hb dJ5_append_3fe6f_0 rfl (lv_at hl 0 rfl) ?_
  refine lv_aload_n hx hb dJ5_append_3fe6f_1 rfl (lv_at hl 0 rfl) ?_
  refine va_get (D := kD k) (ci := 1) (v := .int z) (C := RJ4) (T := TJ4) (N := 4) hx hb htg inG_J4 hown hGx.1 hP 0 rfl rfl 3 (by decide) (htg _ w_345) (fun _ h9 => h9) rfl dJ5_append_3fe6f_2 ?_
  refine lv_iconst (v := 1) hx hb dJ5_append_3fe6f_5 (by decide) ?_
  refine lv_iadd hx hb dJ5_append_3fe6f_6 ?_
  obtain ⟨x_1, hx_1, hm⟩ := Option.bind_eq_some_iff.mp hm
  refine bc_U hC hGx (k_J5_ensureCapacityInternal_d00df l k a (z + (1 : Int32))  z hx_1) (gU w_365 w_1398 w_0 w_366 w_37 w_367) kk_J5_ensureCapacityInternal_d00df  hne ⟨Nat.le_of_ble_eq_true rfl, Nat.le_of_ble_eq_true rfl⟩ ⟨Nat.le_of_ble_eq_true rfl, Nat.le_of_ble_eq_true rfl⟩ ⟨_, hf, hP⟩ (fun _ h => absurd h List.not_mem_nil) hS (fun _ h => h) hAB hl.1 rfl rfl (Nat.le_of_ble_eq_true rfl) dJ5_append_3fe6f_7 (fun H L1 hP hS _ hz hq => ?_)
  obtain ⟨f, hf, hP⟩ := hP
  refine lv_aload_n hx hb dJ5_append_3fe6f_10 rfl (lv_at hl 0 rfl) ?_
  obtain ⟨x_2, hx_2, hm⟩ := Option.bind_eq_some_iff.mp hm
  refine bc_U hC hGx (k_J5_isLatin1_aae02 l k a   x_1.2 hx_2) (gU w_395 w_397 w_398 w_396 w_37 w_399) kk_J5_isLatin1_aae02  hne ⟨Nat.le_of_ble_eq_true rfl, Nat.le_of_ble_eq_true rfl⟩ ⟨Nat.le_of_ble_eq_true rfl, Nat.le_of_ble_eq_true rfl⟩ ⟨_, hf, hP⟩ (fun _ h => absurd h List.not_mem_nil) hS (fun _ h => h) hAB hl.1 rfl rfl (Nat.le_of_ble_eq_true rfl) dJ5_append_3fe6f_11 (fun H L2 hP hS _ hz hq => ?_)
  obtain ⟨f, hf, hP⟩ := hP
  refine lv_if_eq (tgt := 45) hx hb dJ5_append_3fe6f_14 (by decide) (fun h_1 => ?_) (fun h_1 => ?_)
  · have hm := (if_pos h_1).symm.trans hm
    refine lv_aload_n hx hb dJ5_append_3fe6f_45 rfl (lv_at hl 0 rfl) ?_
    obtain ⟨x_3, hx_3, hm⟩ := Option.bind_eq_some_iff.mp hm
    refine bc_U hC hGx (k_J5_isLatin1_aae02 l k a   x_2.2 hx_3) (gU w_395 w_397 w_398 w_396 w_37 w_399) kk_J5_isLatin1_aae02  hne ⟨Nat.le_of_ble_eq_true rfl, Nat.le_of_ble_eq_true rfl⟩ ⟨Nat.le_of_ble_eq_true rfl, Nat.le_of_ble_eq_true rfl⟩ ⟨_, hf, hP⟩ (fun _ h => absurd h List.not_mem_nil) hS (fun _ h => h) hAB hl.1 rfl rfl (Nat.le_of_ble_eq_true rfl) dJ5_append_3fe6f_46 (fun H L3 hP hS _ hz hq => ?_)
    obtain ⟨f, hf, hP⟩ := hP
    refine lv_if_eq (tgt := 56) hx hb dJ5_append_3fe6f_49 (by decide) (fun h_2 => ?_) (fun h_2 => ?_)
    · have hm := (if_pos h_2).symm.trans hm
      refine lv_aload_n hx hb dJ5_append_3fe6f_56 rfl (lv_at hl 0 rfl) ?_
      refine va_get (D := kD k) (ci := 1) (v := .ref a.2) (C := RJ4) (T := TJ4) (N := 4) hx hb htg inG_J4 hown hGx.1 hP 0 rfl rfl 0 (by decide) (htg _ w_342) (fun _ h9 => h9) rfl dJ5_append_3fe6f_57 ?_
      refine lv_aload_n hx hb dJ5_append_3fe6f_60 rfl (lv_at hl 0 rfl) ?_
      refine lv_dup hx hb dJ5_append_3fe6f_61 rfl ?_
      refine va_get (D := kD k) (ci := 1) (v := .int x_3.2) (C := RJ4) (T := TJ4) (N := 4) hx hb htg inG_J4 hown hGx.1 hP 0 rfl rfl 3 (by decide) (htg _ w_345) (fun _ h9 => h9) rfl dJ5_append_3fe6f_62 ?_
      refine lv_dup_x1 hx hb dJ5_append_3fe6f_65 rfl rfl ?_
      refine lv_iconst (v := 1) hx hb dJ5_append_3fe6f_66 (by decide) ?_
      refine lv_iadd hx hb dJ5_append_3fe6f_67 ?_
      refine va_put (D := kD k) (ci := 1) (v := .int (x_3.2 + (1 : Int32))) (ty := .int) (C := RJ4) (T := TJ4) (N := 4) hx hb htg inG_J4 tyJ4 tyJ4_ok nmJ4 hown hGx.1 hP (bW.own hne) hS 0 rfl rfl 3 (by decide) (htg _ w_345) (fun _ h9 => h9) rfl (by decide +kernel) rfl rfl (Nat.le_of_ble_eq_true rfl) dJ5_append_3fe6f_68 (fun H locs hP1 _ hS => ?_)
      have hP : va_P (kD k) vwCl (bW k a f (x_3.2 + (1 : Int32))) H := hP1
      refine lv_iload_n hx hb dJ5_append_3fe6f_71 rfl (lv_at hl 1 rfl) ?_
      cases hm
    · have hm := (if_neg h_2).symm.trans hm
      refine lv_aload_n hx hb dJ5_append_3fe6f_52 rfl (lv_at hl 0 rfl) ?_
      cases hm
  · have hm := (if_neg h_1).symm.trans hm
    refine lv_iload_n hx hb dJ5_append_3fe6f_17 rfl (lv_at hl 1 rfl) ?_
    refine pc_S hC (c_J1_canEncode_fc78d l p0) (gS w_400 w_401 w_44 w_402) kk_J1_canEncode_fc78d ⟨Nat.le_of_ble_eq_true rfl, Nat.le_of_ble_eq_true rfl⟩ ⟨Nat.le_of_ble_eq_true rfl, Nat.le_of_ble_eq_true rfl⟩ hl.1 rfl rfl (Nat.le_of_ble_eq_true rfl) dJ5_append_3fe6f_18 ?_
    refine lv_if_eq (tgt := 45) hx hb dJ5_append_3fe6f_21 (by decide) (fun h_3 => ?_) (fun h_3 => ?_)
    · have hm := (if_pos h_3).symm.trans hm
      refine lv_aload_n hx hb dJ5_append_3fe6f_45 rfl (lv_at hl 0 rfl) ?_
      obtain ⟨x_4, hx_4, hm⟩ := Option.bind_eq_some_iff.mp hm
      refine bc_U hC hGx (k_J5_isLatin1_aae02 l k a   x_2.2 hx_4) (gU w_395 w_397 w_398 w_396 w_37 w_399) kk_J5_isLatin1_aae02  hne ⟨Nat.le_of_ble_eq_true rfl, Nat.le_of_ble_eq_true rfl⟩ ⟨Nat.le_of_ble_eq_true rfl, Nat.le_of_ble_eq_true rfl⟩ ⟨_, hf, hP⟩ (fun _ h => absurd h List.not_mem_nil) hS (fun _ h => h) hAB hl.1 rfl rfl (Nat.le_of_ble_eq_true rfl) dJ5_append_3fe6f_46 (fun H L4 hP hS _ hz hq => ?_)
      obtain ⟨f, hf, hP⟩ := hP
      refine lv_if_eq (tgt := 56) hx hb dJ5_append_3fe6f_49 (by decide) (fun h_4 => ?_) (fun h_4 => ?_)
      · have hm := (if_pos h_4).symm.trans hm
        refine lv_aload_n hx hb dJ5_append_3fe6f_56 rfl (lv_at hl 0 rfl) ?_
        refine va_get (D := kD k) (ci := 1) (v := .ref a.2) (C := RJ4) (T := TJ4) (N := 4) hx hb htg inG_J4 hown hGx.1 hP 0 rfl rfl 0 (by decide) (htg _ w_342) (fun _ h9 => h9) rfl dJ5_append_3fe6f_57 ?_
        refine lv_aload_n hx hb dJ5_append_3fe6f_60 rfl (lv_at hl 0 rfl) ?_
        refine lv_dup hx hb dJ5_append_3fe6f_61 rfl ?_
        refine va_get (D := kD k) (ci := 1) (v := .int x_4.2) (C := RJ4) (T := TJ4) (N := 4) hx hb htg inG_J4 hown hGx.1 hP 0 rfl rfl 3 (by decide) (htg _ w_345) (fun _ h9 => h9) rfl dJ5_append_3fe6f_62 ?_
        refine lv_dup_x1 hx hb dJ5_append_3fe6f_65 rfl rfl ?_
        refine lv_iconst (v := 1) hx hb dJ5_append_3fe6f_66 (by decide) ?_
        refine lv_iadd hx hb dJ5_append_3fe6f_67 ?_
        refine va_put (D := kD k) (ci := 1) (v := .int (x_4.2 + (1 : Int32))) (ty := .int) (C := RJ4) (T := TJ4) (N := 4) hx hb htg inG_J4 tyJ4 tyJ4_ok nmJ4 hown hGx.1 hP (bW.own hne) hS 0 rfl rfl 3 (by decide) (htg _ w_345) (fun _ h9 => h9) rfl (by decide +kernel) rfl rfl (Nat.le_of_ble_eq_true rfl) dJ5_append_3fe6f_68 (fun H locs hP1 _ hS => ?_)
        have hP : va_P (kD k) vwCl (bW k a f (x_4.2 + (1 : Int32))) H := hP1
        refine lv_iload_n hx hb dJ5_append_3fe6f_71 rfl (lv_at hl 1 rfl) ?_
        cases hm
      · have hm := (if_neg h_4).symm.trans hm
        refine lv_aload_n hx hb dJ5_append_3fe6f_52 rfl (lv_at hl 0 rfl) ?_
        cases hm
    · have hm := (if_neg h_3).symm.trans hm
      refine lv_aload_n hx hb dJ5_append_3fe6f_24 rfl (lv_at hl 0 rfl) ?_
      refine va_get (D := kD k) (ci := 1) (v := .ref a.2) (C := RJ4) (T := TJ4) (N := 4) hx hb htg inG_J4 hown hGx.1 hP 0 rfl rfl 0 (by decide) (htg _ w_342) (fun _ h9 => h9) rfl dJ5_append_3fe6f_25 ?_
      refine lv_aload_n hx hb dJ5_append_3fe6f_28 rfl (lv_at hl 0 rfl) ?_
      refine lv_dup hx hb dJ5_append_3fe6f_29 rfl ?_
      refine va_get (D := kD k) (ci := 1) (v := .int x_2.2) (C := RJ4) (T := TJ4) (N := 4) hx hb htg inG_J4 hown hGx.1 hP 0 rfl rfl 3 (by decide) (htg _ w_345) (fun _ h9 => h9) rfl dJ5_append_3fe6f_30 ?_
      refine lv_dup_x1 hx hb dJ5_append_3fe6f_33 rfl rfl ?_
      refine lv_iconst (v := 1) hx hb dJ5_append_3fe6f_34 (by decide) ?_
      refine lv_iadd hx hb dJ5_append_3fe6f_35 ?_
      refine va_put (D := kD k) (ci := 1) (v := .int (x_2.2 + (1 : Int32))) (ty := .int) (C := RJ4) (T := TJ4) (N := 4) hx hb htg inG_J4 tyJ4 tyJ4_ok nmJ4 hown hGx.1 hP (bW.own hne) hS 0 rfl rfl 3 (by decide) (htg _ w_345) (fun _ h9 => h9) rfl (by decide +kernel) rfl rfl (Nat.le_of_ble_eq_true rfl) dJ5_append_3fe6f_36 (fun H locs hP1 _ hS => ?_)
      have hP : va_P (kD k) vwCl (bW k a f (x_2.2 + (1 : Int32))) H := hP1
      refine lv_iload_n hx hb dJ5_append_3fe6f_39 rfl (lv_at hl 1 rfl) ?_
      refine lv_i2b (v := p0.toInt8.toInt32) hx hb dJ5_append_3fe6f_40 rfl ?_
      by_cases h_5 : x_2.2 < 0 ∨ 16 ≤ x_2.2.toNatClampNeg
      · have hm := (if_pos h_5).symm.trans hm
        cases hm
      have hm := (if_neg h_5).symm.trans hm
      refine va_bast (D := kD k) hx hb hGx.1 hP (bW.own hne) hS 1 2 rfl rfl h_5 dJ5_append_3fe6f_41 (fun H locs hP1 _ hS => ?_)
      obtain ⟨f, hf, hP⟩ := b_bst (k := k) (a := a) (z := x_2.2 + (1 : Int32)) hf hP1
      refine lv_goto (tgt := 75) hx hb dJ5_append_3fe6f_42 (by decide) ?_
      refine lv_aload_n hx hb dJ5_append_3fe6f_75 rfl (lv_at hl 0 rfl) ?_
      exact b_tret hx hb hr (by first | exact Or.inl ⟨_, rfl⟩ | exact Or.inr ⟨_, rfl⟩) hlocks (Option.some.inj hm) ⟨_, hf, hP⟩ hS dJ5_append_3fe6f_76
def l22_2_J6_getChars_ba4f3 (p0 : Int32) (p1 : Int32) : Nat → Int32 → Int32 → Int32 → Option (Int32 × Int32)
  | 0, _, _, _ => none
  | n + 1, x22_0, x22_5, z22 => (if (-100 : Int32) < x22_0 then (if -x22_0 < 0 ∨ 100 ≤ (-x22_0).toNatClampNeg then none else (if x22_5 + (-1) < 0 ∨ 16 ≤ (x22_5 + (-1)).toNatClampNeg then none else (if (-9 : Int32) ≤ x22_0 then (if (x22_5 + (-1)) + (-1) < 0 ∨ 16 ≤ ((x22_5 + (-1)) + (-1)).toNatClampNeg then none else some ((x22_5 + (-1)) + (-1), z22)) else (if -x22_0 < 0 ∨ 100 ≤ (-x22_0).toNatClampNeg then none else (if (x22_5 + (-1)) + (-1) < 0 ∨ 16 ≤ ((x22_5 + (-1)) + (-1)).toNatClampNeg then none else (if ((x22_5 + (-1)) + (-1)) + (-1) < 0 ∨ 16 ≤ (((x22_5 + (-1)) + (-1)) + (-1)).toNatClampNeg then none else some (((x22_5 + (-1)) + (-1)) + (-1), z22))))))) else (if ((x22_0 / (100 : Int32)) * (100 : Int32)) - x22_0 < 0 ∨ 100 ≤ (((x22_0 / (100 : Int32)) * (100 : Int32)) - x22_0).toNatClampNeg then none else (if x22_5 + (-1) < 0 ∨ 16 ≤ (x22_5 + (-1)).toNatClampNeg then none else (if ((x22_0 / (100 : Int32)) * (100 : Int32)) - x22_0 < 0 ∨ 100 ≤ (((x22_0 / (100 : Int32)) * (100 : Int32)) - x22_0).toNatClampNeg then none else (if (x22_5 + (-1)) + (-1) < 0 ∨ 16 ≤ ((x22_5 + (-1)) + (-1)).toNatClampNeg then none else l22_2_J6_getChars_ba4f3 p0 p1 n (x22_0 / (100 : Int32)) ((x22_5 + (-1)) + (-1)) z22)))))
def l22_1_J6_getChars_ba4f3 (p0 : Int32) (p1 : Int32) : Nat → Int32 → Int32 → Int32 → Option (Int32 × Int32)
  | 0, _, _, _ => none
  | n + 1, x22_0, x22_5, z22 => (if (-100 : Int32) < x22_0 then (if -x22_0 < 0 ∨ 100 ≤ (-x22_0).toNatClampNeg then none else (if x22_5 + (-1) < 0 ∨ 16 ≤ (x22_5 + (-1)).toNatClampNeg then none else (if (-9 : Int32) ≤ x22_0 then some (x22_5 + (-1), z22) else (if -x22_0 < 0 ∨ 100 ≤ (-x22_0).toNatClampNeg then none else (if (x22_5 + (-1)) + (-1) < 0 ∨ 16 ≤ ((x22_5 + (-1)) + (-1)).toNatClampNeg then none else some ((x22_5 + (-1)) + (-1), z22)))))) else (if ((x22_0 / (100 : Int32)) * (100 : Int32)) - x22_0 < 0 ∨ 100 ≤ (((x22_0 / (100 : Int32)) * (100 : Int32)) - x22_0).toNatClampNeg then none else (if x22_5 + (-1) < 0 ∨ 16 ≤ (x22_5 + (-1)).toNatClampNeg then none else (if ((x22_0 / (100 : Int32)) * (100 : Int32)) - x22_0 < 0 ∨ 100 ≤ (((x22_0 / (100 : Int32)) * (100 : Int32)) - x22_0).toNatClampNeg then none else (if (x22_5 + (-1)) + (-1) < 0 ∨ 16 ≤ ((x22_5 + (-1)) + (-1)).toNatClampNeg then none else l22_1_J6_getChars_ba4f3 p0 p1 n (x22_0 / (100 : Int32)) ((x22_5 + (-1)) + (-1)) z22)))))
def o_J6_getChars_ba4f3 (p0 : Int32) (p1 : Int32) (z : Int32) : Option (Int32 × Int32) := (if 0 ≤ p0 then l22_1_J6_getChars_ba4f3 p0 p1 8 (-p0) p1 z else l22_2_J6_getChars_ba4f3 p0 p1 8 p0 p1 z)
theorem kk_J6_getChars_ba4f3 : pK yJ6_getChars_ba4f3 wsJ6_getChars_ba4f3 cJ6_getChars_ba4f3 7 (some .int) 3 := ⟨⟨_, rfl⟩, by decide +kernel, by decide +kernel, by decide +kernel⟩
set_option maxRecDepth 100000 in
set_option maxHeartbeats 4000000 in
theorem k_J6_getChars_ba4f3 (l : Launch) (k : Kx) (a : Nat × Nat) (p0 : Int32) (p1 : Int32) (z : Int32) {r : Int32 × Int32} (hm : o_J6_getChars_ba4f3 p0 p1 z = some r) : bN l k a yJ6_getChars_ba4f3 wsJ6_getChars_ba4f3 0 0 [.int p0, .int p1, .ref a.2] [] z (some (.int r.1)) r.2 := by
  refine Met.ofW (cc := cJ6_getChars_ba4f3) (maxL := 7) (ret := (some .int)) (by decide) rfl ?_
  intro p e s m args below meth c s₁ B hml hv
  obtain ⟨rfl, hGx, ⟨hne, hab⟩, ⟨f, hf, hP⟩, hts⟩ := hv
  have hx := B.exec
  have hb := B.bytes
  have hr := B.returns
  have hts9 := atoms_spec (ws := wsJ6_getChars_ba4f3) B.pre
  have hown : s.vm.findClass RJ6 = some m.cls := findClass_of_methodNamed B.named
  have hlocks := B.notSynchronized
  have htg : ∀ w ∈ GL, w.before _ s = true := fun w h => hts9 w (List.mem_cons_of_mem _ h)
  have hC : CallFix p m c cJ6_getChars_ba4f3 7 s _ wsJ6_getChars_ba4f3 RJ6 := ⟨hx, hb, hml, hown, hts9⟩
  have hAB : ∀ q, b2 a q → kB k ≤ q := hab
  have hS : va_S (b2 a) s.heap s.heap [] := va_S.rf
  have hl := lv_entry ([.int p0, .int p1, .ref a.2]) (n := 7) (Nat.le_of_ble_eq_true rfl)
  rw [lg_entry_eq]
  generalize (lg_sl ([.int p0, .int p1, .ref a.2]) ++ List.replicate (7 - (lg_sl ([.int p0, .int p1, .ref a.2])).length) Slot.unset).toArray = ls at hl ⊢
  have hl : lv_has ls 7 [(0, .int p0), (1, .int p1), (2, .ref a.2)] := hl
  refine lv_iload_n hx hb dJ6_getChars_ba4f3_0 rfl (lv_at hl 1 rfl) ?_
  refine lv_istore (lv' := [(5, .int p1), (0, .int p0), (1, .int p1), (2, .ref a.2)]) hx hb dJ6_getChars_ba4f3_1 hl (by decide) rfl (fun ls hl => ?_)
  refine lv_iload_n hx hb dJ6_getChars_ba4f3_3 rfl (lv_at hl 1 rfl) ?_
  refine lv_if_ge (tgt := 11) hx hb dJ6_getChars_ba4f3_4 (by decide) (fun h_1 => ?_) (fun h_1 => ?_)
  · have hm := (if_pos h_1).symm.trans hm
    refine lv_iconst (v := 0) hx hb dJ6_getChars_ba4f3_11 (by decide) ?_
    refine lv_istore (lv' := [(6, .int (0 : Int32)), (5, .int p1), (0, .int p0), (1, .int p1), (2, .ref a.2)]) hx hb dJ6_getChars_ba4f3_12 hl (by decide) rfl (fun ls hl => ?_)
    refine lv_iload hx hb dJ6_getChars_ba4f3_14 (lv_at hl 0 rfl) ?_
    refine lv_if_ne (tgt := 22) hx hb dJ6_getChars_ba4f3_16 (by decide) (fun h => absurd h (by decide)) (fun _ => ?_)
    refine lv_iload_n hx hb dJ6_getChars_ba4f3_19 rfl (lv_at hl 2 rfl) ?_
    refine lv_ineg hx hb dJ6_getChars_ba4f3_20 ?_
    refine lv_istore_n (lv' := [(0, .int (-p0)), (6, .int (0 : Int32)), (5, .int p1), (1, .int p1), (2, .ref a.2)]) hx hb dJ6_getChars_ba4f3_21 rfl hl (by decide) rfl (fun ls hl => ?_)
    have J22 : ∀ (n : Nat) (x22_0 : Int32) (x22_5 : Int32) (ls : Array Slot) (H : Heap) (locs : List Loc) (f : Nat → Int32) (z22 : Int32), lv_has ls 7 [(0, .int x22_0), (6, .int (0 : Int32)), (5, .int x22_5), (1, .int p1), (2, .ref a.2)] → sb_Fit f → va_P (kD k) vwCl (bW k a f z22) H → tAll a [] s H → va_S (b2 a) s.heap H locs → l22_1_J6_getChars_ba4f3 p0 p1 n x22_0 x22_5 z22 = some r → W p l e (headSpec wsJ6_getChars_ba4f3 { frames := 0, cells := 0, slots := 0, locals := 0 }).room s m ([.int p0, .int p1, .ref a.2] : List Value).toArray below meth c H locs 0 0 (MQ below (bQ k a (some (.int r.1)) r.2) ([.int p0, .int p1, .ref a.2] : List Value).toArray s 0 0 (b2 a)) (F0 m 22 ls []) := by
      intro n
      induction n with
      | zero => intro x22_0 x22_5 ls H locs f z22 hl hf hP hts hS hm; cases hm
      | succ n ih =>
        intro x22_0 x22_5 ls H locs f z22 hl hf hP hts hS hm
        refine lv_iload_n hx hb dJ6_getChars_ba4f3_22 rfl (lv_at hl 0 rfl) ?_
        refine lv_bipush (v := (-100)) hx hb dJ6_getChars_ba4f3_23 (by decide) ?_
        refine lv_icmp_gt (tgt := 72) hx hb dJ6_getChars_ba4f3_25 (by decide) (fun h_2 => ?_) (fun h_2 => ?_)
        · have hm := (if_pos h_2).symm.trans hm
          refine lv_aload_n hx hb dJ6_getChars_ba4f3_72 rfl (lv_at hl 4 rfl) ?_
          refine lv_iinc (v := x22_5 + (-1)) (lv' := [(5, .int (x22_5 + (-1))), (0, .int x22_0), (6, .int (0 : Int32)), (1, .int p1), (2, .ref a.2)]) hx hb dJ6_getChars_ba4f3_73 hl (k := 2) rfl rfl (by decide) rfl (fun ls hl => ?_)
          refine lv_iload hx hb dJ6_getChars_ba4f3_76 (lv_at hl 0 rfl) ?_
          obtain ⟨t_1, hZ_1, hT_1⟩ := gx_ones hGx
          refine va_gets hx hb hZ_1 (vs_up hAB hS) hown (htg _ w_456) (fun _ h9 => h9) dJ6_getChars_ba4f3_78 ?_
          refine lv_iload_n hx hb dJ6_getChars_ba4f3_81 rfl (lv_at hl 1 rfl) ?_
          refine lv_ineg hx hb dJ6_getChars_ba4f3_82 ?_
          by_cases h_3 : -x22_0 < 0 ∨ 100 ≤ (-x22_0).toNatClampNeg
          · have hm := (if_pos h_3).symm.trans hm
            cases hm
          have hm := (if_neg h_3).symm.trans hm
          refine va_tb (v := .int (gOnes (-x22_0).toNatClampNeg)) hx hb hT_1 (vs_up hAB hS) h_3 rfl dJ6_getChars_ba4f3_83 ?_
          by_cases h_4 : x22_5 + (-1) < 0 ∨ 16 ≤ (x22_5 + (-1)).toNatClampNeg
          · have hm := (if_pos h_4).symm.trans hm
            cases hm
          have hm := (if_neg h_4).symm.trans hm
          refine va_bast (D := kD k) hx hb hGx.1 hP (bW.own hne) hS 1 2 rfl rfl h_4 dJ6_getChars_ba4f3_84 (fun H locs hP1 _ hS => ?_)
          obtain ⟨f, hf, hP⟩ := b_bst (k := k) (a := a) (z := z22) hf hP1
          refine lv_iload_n hx hb dJ6_getChars_ba4f3_85 rfl (lv_at hl 1 rfl) ?_
          refine lv_bipush (v := (-9)) hx hb dJ6_getChars_ba4f3_86 (by decide) ?_
          refine lv_icmp_ge (tgt := 104) hx hb dJ6_getChars_ba4f3_88 (by decide) (fun h_5 => ?_) (fun h_5 => ?_)
          · have hm := (if_pos h_5).symm.trans hm
            refine lv_iload hx hb dJ6_getChars_ba4f3_104 (lv_at hl 2 rfl) ?_
            refine lv_if_eq (tgt := 118) hx hb dJ6_getChars_ba4f3_106 (by decide) (fun _ => ?_) (fun h => absurd h (by decide))
            refine lv_iload hx hb dJ6_getChars_ba4f3_118 (lv_at hl 0 rfl) ?_
            exact b_iret hx hb hr hlocks (Option.some.inj hm) ⟨_, hf, hP⟩ hS dJ6_getChars_ba4f3_120
          · have hm := (if_neg h_5).symm.trans hm
            refine lv_aload_n hx hb dJ6_getChars_ba4f3_91 rfl (lv_at hl 4 rfl) ?_
            refine lv_iinc (v := (x22_5 + (-1)) + (-1)) (lv' := [(5, .int ((x22_5 + (-1)) + (-1))), (0, .int x22_0), (6, .int (0 : Int32)), (1, .int p1), (2, .ref a.2)]) hx hb dJ6_getChars_ba4f3_92 hl (k := 0) rfl rfl (by decide) rfl (fun ls hl => ?_)
            refine lv_iload hx hb dJ6_getChars_ba4f3_95 (lv_at hl 0 rfl) ?_
            obtain ⟨t_2, hZ_2, hT_2⟩ := gx_tens hGx
            refine va_gets hx hb hZ_2 (vs_up hAB hS) hown (htg _ w_457) (fun _ h9 => h9) dJ6_getChars_ba4f3_97 ?_
            refine lv_iload_n hx hb dJ6_getChars_ba4f3_100 rfl (lv_at hl 1 rfl) ?_
            refine lv_ineg hx hb dJ6_getChars_ba4f3_101 ?_
            by_cases h_6 : -x22_0 < 0 ∨ 100 ≤ (-x22_0).toNatClampNeg
            · have hm := (if_pos h_6).symm.trans hm
              cases hm
            have hm := (if_neg h_6).symm.trans hm
            refine va_tb (v := .int (gTens (-x22_0).toNatClampNeg)) hx hb hT_2 (vs_up hAB hS) h_6 rfl dJ6_getChars_ba4f3_102 ?_
            by_cases h_7 : (x22_5 + (-1)) + (-1) < 0 ∨ 16 ≤ ((x22_5 + (-1)) + (-1)).toNatClampNeg
            · have hm := (if_pos h_7).symm.trans hm
              cases hm
            have hm := (if_neg h_7).symm.trans hm
            refine va_bast (D := kD k) hx hb hGx.1 hP (bW.own hne) hS 1 2 rfl rfl h_7 dJ6_getChars_ba4f3_103 (fun H locs hP1 _ hS => ?_)
            obtain ⟨f, hf, hP⟩ := b_bst (k := k) (a := a) (z := z22) hf hP1
            refine lv_iload hx hb dJ6_getChars_ba4f3_104 (lv_at hl 2 rfl) ?_
            refine lv_if_eq (tgt := 118) hx hb dJ6_getChars_ba4f3_106 (by decide) (fun _ => ?_) (fun h => absurd h (by decide))
            refine lv_iload hx hb dJ6_getChars_ba4f3_118 (lv_at hl 0 rfl) ?_
            exact b_iret hx hb hr hlocks (Option.some.inj hm) ⟨_, hf, hP⟩ hS dJ6_getChars_ba4f3_120
        · have hm := (if_neg h_2).symm.trans hm
          refine lv_iload_n hx hb dJ6_getChars_ba4f3_28 rfl (lv_at hl 0 rfl) ?_
          refine lv_bipush (v := 100) hx hb dJ6_getChars_ba4f3_29 (by decide) ?_
          refine lv_idiv hx hb dJ6_getChars_ba4f3_31 (by decide) ?_
          refine lv_istore_n (lv' := [(3, .int (x22_0 / (100 : Int32))), (0, .int x22_0), (6, .int (0 : Int32)), (5, .int x22_5), (1, .int p1), (2, .ref a.2)]) hx hb dJ6_getChars_ba4f3_32 rfl hl (by decide) rfl (fun ls hl => ?_)
          refine lv_iload_n hx hb dJ6_getChars_ba4f3_33 rfl (lv_at hl 0 rfl) ?_
          refine lv_bipush (v := 100) hx hb dJ6_getChars_ba4f3_34 (by decide) ?_
          refine lv_imul hx hb dJ6_getChars_ba4f3_36 ?_
          refine lv_iload_n hx hb dJ6_getChars_ba4f3_37 rfl (lv_at hl 1 rfl) ?_
          refine lv_isub hx hb dJ6_getChars_ba4f3_38 ?_
          refine lv_istore (lv' := [(4, .int (((x22_0 / (100 : Int32)) * (100 : Int32)) - x22_0)), (3, .int (x22_0 / (100 : Int32))), (0, .int x22_0), (6, .int (0 : Int32)), (5, .int x22_5), (1, .int p1), (2, .ref a.2)]) hx hb dJ6_getChars_ba4f3_39 hl (by decide) rfl (fun ls hl => ?_)
          refine lv_iload_n hx hb dJ6_getChars_ba4f3_41 rfl (lv_at hl 1 rfl) ?_
          refine lv_istore_n (lv' := [(0, .int (x22_0 / (100 : Int32))), (4, .int (((x22_0 / (100 : Int32)) * (100 : Int32)) - x22_0)), (3, .int (x22_0 / (100 : Int32))), (6, .int (0 : Int32)), (5, .int x22_5), (1, .int p1), (2, .ref a.2)]) hx hb dJ6_getChars_ba4f3_42 rfl hl (by decide) rfl (fun ls hl => ?_)
          refine lv_aload_n hx hb dJ6_getChars_ba4f3_43 rfl (lv_at hl 6 rfl) ?_
          refine lv_iinc (v := x22_5 + (-1)) (lv' := [(5, .int (x22_5 + (-1))), (0, .int (x22_0 / (100 : Int32))), (4, .int (((x22_0 / (100 : Int32)) * (100 : Int32)) - x22_0)), (3, .int (x22_0 / (100 : Int32))), (6, .int (0 : Int32)), (1, .int p1), (2, .ref a.2)]) hx hb dJ6_getChars_ba4f3_44 hl (k := 4) rfl rfl (by decide) rfl (fun ls hl => ?_)
          refine lv_iload hx hb dJ6_getChars_ba4f3_47 (lv_at hl 0 rfl) ?_
          obtain ⟨t_3, hZ_3, hT_3⟩ := gx_ones hGx
          refine va_gets hx hb hZ_3 (vs_up hAB hS) hown (htg _ w_456) (fun _ h9 => h9) dJ6_getChars_ba4f3_49 ?_
          refine lv_iload hx hb dJ6_getChars_ba4f3_52 (lv_at hl 2 rfl) ?_
          by_cases h_8 : ((x22_0 / (100 : Int32)) * (100 : Int32)) - x22_0 < 0 ∨ 100 ≤ (((x22_0 / (100 : Int32)) * (100 : Int32)) - x22_0).toNatClampNeg
          · have hm := (if_pos h_8).symm.trans hm
            cases hm
          have hm := (if_neg h_8).symm.trans hm
          refine va_tb (v := .int (gOnes (((x22_0 / (100 : Int32)) * (100 : Int32)) - x22_0).toNatClampNeg)) hx hb hT_3 (vs_up hAB hS) h_8 rfl dJ6_getChars_ba4f3_54 ?_
          by_cases h_9 : x22_5 + (-1) < 0 ∨ 16 ≤ (x22_5 + (-1)).toNatClampNeg
          · have hm := (if_pos h_9).symm.trans hm
            cases hm
          have hm := (if_neg h_9).symm.trans hm
          refine va_bast (D := kD k) hx hb hGx.1 hP (bW.own hne) hS 1 2 rfl rfl h_9 dJ6_getChars_ba4f3_55 (fun H locs hP1 _ hS => ?_)
          obtain ⟨f, hf, hP⟩ := b_bst (k := k) (a := a) (z := z22) hf hP1
          refine lv_aload_n hx hb dJ6_getChars_ba4f3_56 rfl (lv_at hl 6 rfl) ?_
          refine lv_iinc (v := (x22_5 + (-1)) + (-1)) (lv' := [(5, .int ((x22_5 + (-1)) + (-1))), (0, .int (x22_0 / (100 : Int32))), (4, .int (((x22_0 / (100 : Int32)) * (100 : Int32)) - x22_0)), (3, .int (x22_0 / (100 : Int32))), (6, .int (0 : Int32)), (1, .int p1), (2, .ref a.2)]) hx hb dJ6_getChars_ba4f3_57 hl (k := 0) rfl rfl (by decide) rfl (fun ls hl => ?_)
          refine lv_iload hx hb dJ6_getChars_ba4f3_60 (lv_at hl 0 rfl) ?_
          obtain ⟨t_4, hZ_4, hT_4⟩ := gx_tens hGx
          refine va_gets hx hb hZ_4 (vs_up hAB hS) hown (htg _ w_457) (fun _ h9 => h9) dJ6_getChars_ba4f3_62 ?_
          refine lv_iload hx hb dJ6_getChars_ba4f3_65 (lv_at hl 2 rfl) ?_
          by_cases h_10 : ((x22_0 / (100 : Int32)) * (100 : Int32)) - x22_0 < 0 ∨ 100 ≤ (((x22_0 / (100 : Int32)) * (100 : Int32)) - x22_0).toNatClampNeg
          · have hm := (if_pos h_10).symm.trans hm
            cases hm
          have hm := (if_neg h_10).symm.trans hm
          refine va_tb (v := .int (gTens (((x22_0 / (100 : Int32)) * (100 : Int32)) - x22_0).toNatClampNeg)) hx hb hT_4 (vs_up hAB hS) h_10 rfl dJ6_getChars_ba4f3_67 ?_
          by_cases h_11 : (x22_5 + (-1)) + (-1) < 0 ∨ 16 ≤ ((x22_5 + (-1)) + (-1)).toNatClampNeg
          · have hm := (if_pos h_11).symm.trans hm
            cases hm
          have hm := (if_neg h_11).symm.trans hm
          refine va_bast (D := kD k) hx hb hGx.1 hP (bW.own hne) hS 1 2 rfl rfl h_11 dJ6_getChars_ba4f3_68 (fun H locs hP1 _ hS => ?_)
          obtain ⟨f, hf, hP⟩ := b_bst (k := k) (a := a) (z := z22) hf hP1
          refine lv_goto (tgt := 22) hx hb dJ6_getChars_ba4f3_69 (by decide) ?_
          exact ih (x22_0 / (100 : Int32)) ((x22_5 + (-1)) + (-1)) ls _ _ _ _ (lv_sub hl [1, 4, 0, 5, 6] rfl) hf hP (fun _ h => absurd h List.not_mem_nil) hS hm
    exact J22 8 (-p0) p1 ls _ _ _ _ (lv_sub hl [0, 1, 2, 3, 4] rfl) hf hP (fun _ h => absurd h List.not_mem_nil) hS hm
  · have hm := (if_neg h_1).symm.trans hm
    refine lv_iconst (v := 1) hx hb dJ6_getChars_ba4f3_7 (by decide) ?_
    refine lv_goto (tgt := 12) hx hb dJ6_getChars_ba4f3_8 (by decide) ?_
    refine lv_istore (lv' := [(6, .int (1 : Int32)), (5, .int p1), (0, .int p0), (1, .int p1), (2, .ref a.2)]) hx hb dJ6_getChars_ba4f3_12 hl (by decide) rfl (fun ls hl => ?_)
    refine lv_iload hx hb dJ6_getChars_ba4f3_14 (lv_at hl 0 rfl) ?_
    refine lv_if_ne (tgt := 22) hx hb dJ6_getChars_ba4f3_16 (by decide) (fun _ => ?_) (fun h => absurd h (by decide))
    have J22 : ∀ (n : Nat) (x22_0 : Int32) (x22_5 : Int32) (ls : Array Slot) (H : Heap) (locs : List Loc) (f : Nat → Int32) (z22 : Int32), lv_has ls 7 [(6, .int (1 : Int32)), (5, .int x22_5), (0, .int x22_0), (1, .int p1), (2, .ref a.2)] → sb_Fit f → va_P (kD k) vwCl (bW k a f z22) H → tAll a [] s H → va_S (b2 a) s.heap H locs → l22_2_J6_getChars_ba4f3 p0 p1 n x22_0 x22_5 z22 = some r → W p l e (headSpec wsJ6_getChars_ba4f3 { frames := 0, cells := 0, slots := 0, locals := 0 }).room s m ([.int p0, .int p1, .ref a.2] : List Value).toArray below meth c H locs 0 0 (MQ below (bQ k a (some (.int r.1)) r.2) ([.int p0, .int p1, .ref a.2] : List Value).toArray s 0 0 (b2 a)) (F0 m 22 ls []) := by
      intro n
      induction n with
      | zero => intro x22_0 x22_5 ls H locs f z22 hl hf hP hts hS hm; cases hm
      | succ n ih =>
        intro x22_0 x22_5 ls H locs f z22 hl hf hP hts hS hm
        refine lv_iload_n hx hb dJ6_getChars_ba4f3_22 rfl (lv_at hl 2 rfl) ?_
        refine lv_bipush (v := (-100)) hx hb dJ6_getChars_ba4f3_23 (by decide) ?_
        refine lv_icmp_gt (tgt := 72) hx hb dJ6_getChars_ba4f3_25 (by decide) (fun h_12 => ?_) (fun h_12 => ?_)
        · have hm := (if_pos h_12).symm.trans hm
          refine lv_aload_n hx hb dJ6_getChars_ba4f3_72 rfl (lv_at hl 4 rfl) ?_
          refine lv_iinc (v := x22_5 + (-1)) (lv' := [(5, .int (x22_5 + (-1))), (6, .int (1 : Int32)), (0, .int x22_0), (1, .int p1), (2, .ref a.2)]) hx hb dJ6_getChars_ba4f3_73 hl (k := 1) rfl rfl (by decide) rfl (fun ls hl => ?_)
          refine lv_iload hx hb dJ6_getChars_ba4f3_76 (lv_at hl 0 rfl) ?_
          obtain ⟨t_5, hZ_5, hT_5⟩ := gx_ones hGx
          refine va_gets hx hb hZ_5 (vs_up hAB hS) hown (htg _ w_456) (fun _ h9 => h9) dJ6_getChars_ba4f3_78 ?_
          refine lv_iload_n hx hb dJ6_getChars_ba4f3_81 rfl (lv_at hl 2 rfl) ?_
          refine lv_ineg hx hb dJ6_getChars_ba4f3_82 ?_
          by_cases h_13 : -x22_0 < 0 ∨ 100 ≤ (-x22_0).toNatClampNeg
          · have hm := (if_pos h_13).symm.trans hm
            cases hm
          have hm := (if_neg h_13).symm.trans hm
          refine va_tb (v := .int (gOnes (-x22_0).toNatClampNeg)) hx hb hT_5 (vs_up hAB hS) h_13 rfl dJ6_getChars_ba4f3_83 ?_
          by_cases h_14 : x22_5 + (-1) < 0 ∨ 16 ≤ (x22_5 + (-1)).toNatClampNeg
          · have hm := (if_pos h_14).symm.trans hm
            cases hm
          have hm := (if_neg h_14).symm.trans hm
          refine va_bast (D := kD k) hx hb hGx.1 hP (bW.own hne) hS 1 2 rfl rfl h_14 dJ6_getChars_ba4f3_84 (fun H locs hP1 _ hS => ?_)
          obtain ⟨f, hf, hP⟩ := b_bst (k := k) (a := a) (z := z22) hf hP1
          refine lv_iload_n hx hb dJ6_getChars_ba4f3_85 rfl (lv_at hl 2 rfl) ?_
          refine lv_bipush (v := (-9)) hx hb dJ6_getChars_ba4f3_86 (by decide) ?_
          refine lv_icmp_ge (tgt := 104) hx hb dJ6_getChars_ba4f3_88 (by decide) (fun h_15 => ?_) (fun h_15 => ?_)
          · have hm := (if_pos h_15).symm.trans hm
            refine lv_iload hx hb dJ6_getChars_ba4f3_104 (lv_at hl 1 rfl) ?_
            refine lv_if_eq (tgt := 118) hx hb dJ6_getChars_ba4f3_106 (by decide) (fun h => absurd h (by decide)) (fun _ => ?_)
            refine lv_aload_n hx hb dJ6_getChars_ba4f3_109 rfl (lv_at hl 4 rfl) ?_
            refine lv_iinc (v := (x22_5 + (-1)) + (-1)) (lv' := [(5, .int ((x22_5 + (-1)) + (-1))), (6, .int (1 : Int32)), (0, .int x22_0), (1, .int p1), (2, .ref a.2)]) hx hb dJ6_getChars_ba4f3_110 hl (k := 0) rfl rfl (by decide) rfl (fun ls hl => ?_)
            refine lv_iload hx hb dJ6_getChars_ba4f3_113 (lv_at hl 0 rfl) ?_
            refine lv_bipush (v := 45) hx hb dJ6_getChars_ba4f3_115 (by decide) ?_
            by_cases h_16 : (x22_5 + (-1)) + (-1) < 0 ∨ 16 ≤ ((x22_5 + (-1)) + (-1)).toNatClampNeg
            · have hm := (if_pos h_16).symm.trans hm
              cases hm
            have hm := (if_neg h_16).symm.trans hm
            refine va_bast (D := kD k) hx hb hGx.1 hP (bW.own hne) hS 1 2 rfl rfl h_16 dJ6_getChars_ba4f3_117 (fun H locs hP1 _ hS => ?_)
            obtain ⟨f, hf, hP⟩ := b_bst (k := k) (a := a) (z := z22) hf hP1
            refine lv_iload hx hb dJ6_getChars_ba4f3_118 (lv_at hl 0 rfl) ?_
            exact b_iret hx hb hr hlocks (Option.some.inj hm) ⟨_, hf, hP⟩ hS dJ6_getChars_ba4f3_120
          · have hm := (if_neg h_15).symm.trans hm
            refine lv_aload_n hx hb dJ6_getChars_ba4f3_91 rfl (lv_at hl 4 rfl) ?_
            refine lv_iinc (v := (x22_5 + (-1)) + (-1)) (lv' := [(5, .int ((x22_5 + (-1)) + (-1))), (6, .int (1 : Int32)), (0, .int x22_0), (1, .int p1), (2, .ref a.2)]) hx hb dJ6_getChars_ba4f3_92 hl (k := 0) rfl rfl (by decide) rfl (fun ls hl => ?_)
            refine lv_iload hx hb dJ6_getChars_ba4f3_95 (lv_at hl 0 rfl) ?_
            obtain ⟨t_6, hZ_6, hT_6⟩ := gx_tens hGx
            refine va_gets hx hb hZ_6 (vs_up hAB hS) hown (htg _ w_457) (fun _ h9 => h9) dJ6_getChars_ba4f3_97 ?_
            refine lv_iload_n hx hb dJ6_getChars_ba4f3_100 rfl (lv_at hl 2 rfl) ?_
            refine lv_ineg hx hb dJ6_getChars_ba4f3_101 ?_
            by_cases h_17 : -x22_0 < 0 ∨ 100 ≤ (-x22_0).toNatClampNeg
            · have hm := (if_pos h_17).symm.trans hm
              cases hm
            have hm := (if_neg h_17).symm.trans hm
            refine va_tb (v := .int (gTens (-x22_0).toNatClampNeg)) hx hb hT_6 (vs_up hAB hS) h_17 rfl dJ6_getChars_ba4f3_102 ?_
            by_cases h_18 : (x22_5 + (-1)) + (-1) < 0 ∨ 16 ≤ ((x22_5 + (-1)) + (-1)).toNatClampNeg
            · have hm := (if_pos h_18).symm.trans hm
              cases hm
            have hm := (if_neg h_18).symm.trans hm
            refine va_bast (D := kD k) hx hb hGx.1 hP (bW.own hne) hS 1 2 rfl rfl h_18 dJ6_getChars_ba4f3_103 (fun H locs hP1 _ hS => ?_)
            obtain ⟨f, hf, hP⟩ := b_bst (k := k) (a := a) (z := z22) hf hP1
            refine lv_iload hx hb dJ6_getChars_ba4f3_104 (lv_at hl 1 rfl) ?_
            refine lv_if_eq (tgt := 118) hx hb dJ6_getChars_ba4f3_106 (by decide) (fun h => absurd h (by decide)) (fun _ => ?_)
            refine lv_aload_n hx hb dJ6_getChars_ba4f3_109 rfl (lv_at hl 4 rfl) ?_
            refine lv_iinc (v := ((x22_5 + (-1)) + (-1)) + (-1)) (lv' := [(5, .int (((x22_5 + (-1)) + (-1)) + (-1))), (6, .int (1 : Int32)), (0, .int x22_0), (1, .int p1), (2, .ref a.2)]) hx hb dJ6_getChars_ba4f3_110 hl (k := 0) rfl rfl (by decide) rfl (fun ls hl => ?_)
            refine lv_iload hx hb dJ6_getChars_ba4f3_113 (lv_at hl 0 rfl) ?_
            refine lv_bipush (v := 45) hx hb dJ6_getChars_ba4f3_115 (by decide) ?_
            by_cases h_19 : ((x22_5 + (-1)) + (-1)) + (-1) < 0 ∨ 16 ≤ (((x22_5 + (-1)) + (-1)) + (-1)).toNatClampNeg
            · have hm := (if_pos h_19).symm.trans hm
              cases hm
            have hm := (if_neg h_19).symm.trans hm
            refine va_bast (D := kD k) hx hb hGx.1 hP (bW.own hne) hS 1 2 rfl rfl h_19 dJ6_getChars_ba4f3_117 (fun H locs hP1 _ hS => ?_)
            obtain ⟨f, hf, hP⟩ := b_bst (k := k) (a := a) (z := z22) hf hP1
            refine lv_iload hx hb dJ6_getChars_ba4f3_118 (lv_at hl 0 rfl) ?_
            exact b_iret hx hb hr hlocks (Option.some.inj hm) ⟨_, hf, hP⟩ hS dJ6_getChars_ba4f3_120
        · have hm := (if_neg h_12).symm.trans hm
          refine lv_iload_n hx hb dJ6_getChars_ba4f3_28 rfl (lv_at hl 2 rfl) ?_
          refine lv_bipush (v := 100) hx hb dJ6_getChars_ba4f3_29 (by decide) ?_
          refine lv_idiv hx hb dJ6_getChars_ba4f3_31 (by decide) ?_
          refine lv_istore_n (lv' := [(3, .int (x22_0 / (100 : Int32))), (6, .int (1 : Int32)), (5, .int x22_5), (0, .int x22_0), (1, .int p1), (2, .ref a.2)]) hx hb dJ6_getChars_ba4f3_32 rfl hl (by decide) rfl (fun ls hl => ?_)
          refine lv_iload_n hx hb dJ6_getChars_ba4f3_33 rfl (lv_at hl 0 rfl) ?_
          refine lv_bipush (v := 100) hx hb dJ6_getChars_ba4f3_34 (by decide) ?_
          refine lv_imul hx hb dJ6_getChars_ba4f3_36 ?_
          refine lv_iload_n hx hb dJ6_getChars_ba4f3_37 rfl (lv_at hl 3 rfl) ?_
          refine lv_isub hx hb dJ6_getChars_ba4f3_38 ?_
          refine lv_istore (lv' := [(4, .int (((x22_0 / (100 : Int32)) * (100 : Int32)) - x22_0)), (3, .int (x22_0 / (100 : Int32))), (6, .int (1 : Int32)), (5, .int x22_5), (0, .int x22_0), (1, .int p1), (2, .ref a.2)]) hx hb dJ6_getChars_ba4f3_39 hl (by decide) rfl (fun ls hl => ?_)
          refine lv_iload_n hx hb dJ6_getChars_ba4f3_41 rfl (lv_at hl 1 rfl) ?_
          refine lv_istore_n (lv' := [(0, .int (x22_0 / (100 : Int32))), (4, .int (((x22_0 / (100 : Int32)) * (100 : Int32)) - x22_0)), (3, .int (x22_0 / (100 : Int32))), (6, .int (1 : Int32)), (5, .int x22_5), (1, .int p1), (2, .ref a.2)]) hx hb dJ6_getChars_ba4f3_42 rfl hl (by decide) rfl (fun ls hl => ?_)
          refine lv_aload_n hx hb dJ6_getChars_ba4f3_43 rfl (lv_at hl 6 rfl) ?_
          refine lv_iinc (v := x22_5 + (-1)) (lv' := [(5, .int (x22_5 + (-1))), (0, .int (x22_0 / (100 : Int32))), (4, .int (((x22_0 / (100 : Int32)) * (100 : Int32)) - x22_0)), (3, .int (x22_0 / (100 : Int32))), (6, .int (1 : Int32)), (1, .int p1), (2, .ref a.2)]) hx hb dJ6_getChars_ba4f3_44 hl (k := 4) rfl rfl (by decide) rfl (fun ls hl => ?_)
          refine lv_iload hx hb dJ6_getChars_ba4f3_47 (lv_at hl 0 rfl) ?_
          obtain ⟨t_7, hZ_7, hT_7⟩ := gx_ones hGx
          refine va_gets hx hb hZ_7 (vs_up hAB hS) hown (htg _ w_456) (fun _ h9 => h9) dJ6_getChars_ba4f3_49 ?_
          refine lv_iload hx hb dJ6_getChars_ba4f3_52 (lv_at hl 2 rfl) ?_
          by_cases h_20 : ((x22_0 / (100 : Int32)) * (100 : Int32)) - x22_0 < 0 ∨ 100 ≤ (((x22_0 / (100 : Int32)) * (100 : Int32)) - x22_0).toNatClampNeg
          · have hm := (if_pos h_20).symm.trans hm
            cases hm
          have hm := (if_neg h_20).symm.trans hm
          refine va_tb (v := .int (gOnes (((x22_0 / (100 : Int32)) * (100 : Int32)) - x22_0).toNatClampNeg)) hx hb hT_7 (vs_up hAB hS) h_20 rfl dJ6_getChars_ba4f3_54 ?_
          by_cases h_21 : x22_5 + (-1) < 0 ∨ 16 ≤ (x22_5 + (-1)).toNatClampNeg
          · have hm := (if_pos h_21).symm.trans hm
            cases hm
          have hm := (if_neg h_21).symm.trans hm
          refine va_bast (D := kD k) hx hb hGx.1 hP (bW.own hne) hS 1 2 rfl rfl h_21 dJ6_getChars_ba4f3_55 (fun H locs hP1 _ hS => ?_)
          obtain ⟨f, hf, hP⟩ := b_bst (k := k) (a := a) (z := z22) hf hP1
          refine lv_aload_n hx hb dJ6_getChars_ba4f3_56 rfl (lv_at hl 6 rfl) ?_
          refine lv_iinc (v := (x22_5 + (-1)) + (-1)) (lv' := [(5, .int ((x22_5 + (-1)) + (-1))), (0, .int (x22_0 / (100 : Int32))), (4, .int (((x22_0 / (100 : Int32)) * (100 : Int32)) - x22_0)), (3, .int (x22_0 / (100 : Int32))), (6, .int (1 : Int32)), (1, .int p1), (2, .ref a.2)]) hx hb dJ6_getChars_ba4f3_57 hl (k := 0) rfl rfl (by decide) rfl (fun ls hl => ?_)
          refine lv_iload hx hb dJ6_getChars_ba4f3_60 (lv_at hl 0 rfl) ?_
          obtain ⟨t_8, hZ_8, hT_8⟩ := gx_tens hGx
          refine va_gets hx hb hZ_8 (vs_up hAB hS) hown (htg _ w_457) (fun _ h9 => h9) dJ6_getChars_ba4f3_62 ?_
          refine lv_iload hx hb dJ6_getChars_ba4f3_65 (lv_at hl 2 rfl) ?_
          by_cases h_22 : ((x22_0 / (100 : Int32)) * (100 : Int32)) - x22_0 < 0 ∨ 100 ≤ (((x22_0 / (100 : Int32)) * (100 : Int32)) - x22_0).toNatClampNeg
          · have hm := (if_pos h_22).symm.trans hm
            cases hm
          have hm := (if_neg h_22).symm.trans hm
          refine va_tb (v := .int (gTens (((x22_0 / (100 : Int32)) * (100 : Int32)) - x22_0).toNatClampNeg)) hx hb hT_8 (vs_up hAB hS) h_22 rfl dJ6_getChars_ba4f3_67 ?_
          by_cases h_23 : (x22_5 + (-1)) + (-1) < 0 ∨ 16 ≤ ((x22_5 + (-1)) + (-1)).toNatClampNeg
          · have hm := (if_pos h_23).symm.trans hm
            cases hm
          have hm := (if_neg h_23).symm.trans hm
          refine va_bast (D := kD k) hx hb hGx.1 hP (bW.own hne) hS 1 2 rfl rfl h_23 dJ6_getChars_ba4f3_68 (fun H locs hP1 _ hS => ?_)
          obtain ⟨f, hf, hP⟩ := b_bst (k := k) (a := a) (z := z22) hf hP1
          refine lv_goto (tgt := 22) hx hb dJ6_getChars_ba4f3_69 (by decide) ?_
          exact ih (x22_0 / (100 : Int32)) ((x22_5 + (-1)) + (-1)) ls _ _ _ _ (lv_sub hl [4, 0, 1, 5, 6] rfl) hf hP (fun _ h => absurd h List.not_mem_nil) hS hm
    exact J22 8 p0 p1 ls _ _ _ _ (lv_sub hl [0, 1, 2, 3, 4] rfl) hf hP (fun _ h => absurd h List.not_mem_nil) hS hm
def o_J5_append_c97b9 (p0 : Int32) (z : Int32) : Option (Unit × Int32) := ((o_J6_stringSize_0f7a4 p0).bind fun x_1 => ((o_J5_ensureCapacityInternal_d00df (z + x_1) z).bind fun x_2 => ((o_J5_isLatin1_aae02 x_2.2).bind fun x_3 => (if x_3.1 = 0 then none else ((o_J6_getChars_ba4f3 p0 (z + x_1) x_3.2).bind fun x_4 => some ((), z + x_1))))))
theorem kk_J5_append_c97b9 : pK yJ5_append_c97b9 wsJ5_append_c97b9 cJ5_append_c97b9 4 (some (.object "java/lang/AbstractStringBuilder")) 1 := ⟨⟨_, rfl⟩, by decide +kernel, by decide +kernel, by decide +kernel⟩
set_option maxRecDepth 100000 in
set_option maxHeartbeats 4000000 in
theorem k_J5_append_c97b9 (l : Launch) (k : Kx) (a : Nat × Nat) (p0 : Int32) (z : Int32) {r : Unit × Int32} (hm : o_J5_append_c97b9 p0 z = some r) : bN l k a yJ5_append_c97b9 wsJ5_append_c97b9 1 26 [.ref a.1, .int p0] [] z (some (.ref a.1)) r.2 := by
  refine Met.ofW (cc := cJ5_append_c97b9) (maxL := 4) (ret := (some (.object "java/lang/AbstractStringBuilder"))) (by decide) rfl ?_
  intro p e s m args below meth c s₁ B hml hv
  obtain ⟨rfl, hGx, ⟨hne, hab⟩, ⟨f, hf, hP⟩, hts⟩ := hv
  have hx := B.exec
  have hb := B.bytes
  have hr := B.returns
  have hts9 := atoms_spec (ws := wsJ5_append_c97b9) B.pre
  have hown : s.vm.findClass RJ5 = some m.cls := findClass_of_methodNamed B.named
  have hlocks := B.notSynchronized
  have htg : ∀ w ∈ GL, w.before _ s = true := fun w h => hts9 w (List.mem_cons_of_mem _ h)
  have hC : CallFix p m c cJ5_append_c97b9 4 s _ wsJ5_append_c97b9 RJ5 := ⟨hx, hb, hml, hown, hts9⟩
  have hAB : ∀ q, b2 a q → kB k ≤ q := hab
  have hS : va_S (b2 a) s.heap s.heap [] := va_S.rf
  have hl := lv_entry ([.ref a.1, .int p0]) (n := 4) (Nat.le_of_ble_eq_true rfl)
  rw [lg_entry_eq]
  generalize (lg_sl ([.ref a.1, .int p0]) ++ List.replicate (4 - (lg_sl ([.ref a.1, .int p0])).length) Slot.unset).toArray = ls at hl ⊢
  have hl : lv_has ls 4 [(0, .ref a.1), (1, .int p0)] := hl
  refine lv_aload_n hx hb dJ5_append_c97b9_0 rfl (lv_at hl 0 rfl) ?_
  refine va_get (D := kD k) (ci := 1) (v := .int z) (C := RJ4) (T := TJ4) (N := 4) hx hb htg inG_J4 hown hGx.1 hP 0 rfl rfl 3 (by decide) (htg _ w_345) (fun _ h9 => h9) rfl dJ5_append_c97b9_1 ?_
  refine lv_istore_n (lv' := [(2, .int z), (0, .ref a.1), (1, .int p0)]) hx hb dJ5_append_c97b9_4 rfl hl (by decide) rfl (fun ls hl => ?_)
  refine lv_iload_n hx hb dJ5_append_c97b9_5 rfl (lv_at hl 0 rfl) ?_
  refine lv_iload_n hx hb dJ5_append_c97b9_6 rfl (lv_at hl 2 rfl) ?_
  obtain ⟨x_1, hx_1, hm⟩ := Option.bind_eq_some_iff.mp hm
  refine pc_S hC (k_J6_stringSize_0f7a4 l p0 hx_1) (gS w_450 w_451 w_46 w_452) kk_J6_stringSize_0f7a4 ⟨Nat.le_of_ble_eq_true rfl, Nat.le_of_ble_eq_true rfl⟩ ⟨Nat.le_of_ble_eq_true rfl, Nat.le_of_ble_eq_true rfl⟩ hl.1 rfl rfl (Nat.le_of_ble_eq_true rfl) dJ5_append_c97b9_7 ?_
  refine lv_iadd hx hb dJ5_append_c97b9_10 ?_
  refine lv_istore_n (lv' := [(3, .int (z + x_1)), (2, .int z), (0, .ref a.1), (1, .int p0)]) hx hb dJ5_append_c97b9_11 rfl hl (by decide) rfl (fun ls hl => ?_)
  refine lv_aload_n hx hb dJ5_append_c97b9_12 rfl (lv_at hl 2 rfl) ?_
  refine lv_iload_n hx hb dJ5_append_c97b9_13 rfl (lv_at hl 0 rfl) ?_
  obtain ⟨x_2, hx_2, hm⟩ := Option.bind_eq_some_iff.mp hm
  refine bc_U hC hGx (k_J5_ensureCapacityInternal_d00df l k a (z + x_1)  z hx_2) (gU w_365 w_1398 w_0 w_366 w_37 w_367) kk_J5_ensureCapacityInternal_d00df  hne ⟨Nat.le_of_ble_eq_true rfl, Nat.le_of_ble_eq_true rfl⟩ ⟨Nat.le_of_ble_eq_true rfl, Nat.le_of_ble_eq_true rfl⟩ ⟨_, hf, hP⟩ (fun _ h => absurd h List.not_mem_nil) hS (fun _ h => h) hAB hl.1 rfl rfl (Nat.le_of_ble_eq_true rfl) dJ5_append_c97b9_14 (fun H L2 hP hS _ hz hq => ?_)
  obtain ⟨f, hf, hP⟩ := hP
  refine lv_aload_n hx hb dJ5_append_c97b9_17 rfl (lv_at hl 2 rfl) ?_
  obtain ⟨x_3, hx_3, hm⟩ := Option.bind_eq_some_iff.mp hm
  refine bc_U hC hGx (k_J5_isLatin1_aae02 l k a   x_2.2 hx_3) (gU w_395 w_397 w_398 w_396 w_37 w_399) kk_J5_isLatin1_aae02  hne ⟨Nat.le_of_ble_eq_true rfl, Nat.le_of_ble_eq_true rfl⟩ ⟨Nat.le_of_ble_eq_true rfl, Nat.le_of_ble_eq_true rfl⟩ ⟨_, hf, hP⟩ (fun _ h => absurd h List.not_mem_nil) hS (fun _ h => h) hAB hl.1 rfl rfl (Nat.le_of_ble_eq_true rfl) dJ5_append_c97b9_18 (fun H L3 hP hS _ hz hq => ?_)
  obtain ⟨f, hf, hP⟩ := hP
  refine lv_if_eq (tgt := 37) hx hb dJ5_append_c97b9_21 (by decide) (fun h_1 => ?_) (fun h_1 => ?_)
  · have hm := (if_pos h_1).symm.trans hm
    refine lv_iload_n hx hb dJ5_append_c97b9_37 rfl (lv_at hl 3 rfl) ?_
    refine lv_iload_n hx hb dJ5_append_c97b9_38 rfl (lv_at hl 1 rfl) ?_
    refine lv_iload_n hx hb dJ5_append_c97b9_39 rfl (lv_at hl 0 rfl) ?_
    refine lv_aload_n hx hb dJ5_append_c97b9_40 rfl (lv_at hl 2 rfl) ?_
    refine va_get (D := kD k) (ci := 1) (v := .ref a.2) (C := RJ4) (T := TJ4) (N := 4) hx hb htg inG_J4 hown hGx.1 hP 0 rfl rfl 0 (by decide) (htg _ w_342) (fun _ h9 => h9) rfl dJ5_append_c97b9_41 ?_
    cases hm
  · have hm := (if_neg h_1).symm.trans hm
    refine lv_iload_n hx hb dJ5_append_c97b9_24 rfl (lv_at hl 3 rfl) ?_
    refine lv_iload_n hx hb dJ5_append_c97b9_25 rfl (lv_at hl 0 rfl) ?_
    refine lv_aload_n hx hb dJ5_append_c97b9_26 rfl (lv_at hl 2 rfl) ?_
    refine va_get (D := kD k) (ci := 1) (v := .ref a.2) (C := RJ4) (T := TJ4) (N := 4) hx hb htg inG_J4 hown hGx.1 hP 0 rfl rfl 0 (by decide) (htg _ w_342) (fun _ h9 => h9) rfl dJ5_append_c97b9_27 ?_
    obtain ⟨x_4, hx_4, hm⟩ := Option.bind_eq_some_iff.mp hm
    refine bc_S hC hGx (k_J6_getChars_ba4f3 l k a p0 (z + x_1)  x_3.2 hx_4) (gS w_453 w_454 w_46 w_455) kk_J6_getChars_ba4f3  hne ⟨Nat.le_of_ble_eq_true rfl, Nat.le_of_ble_eq_true rfl⟩ ⟨Nat.le_of_ble_eq_true rfl, Nat.le_of_ble_eq_true rfl⟩ ⟨_, hf, hP⟩ (fun _ h => absurd h List.not_mem_nil) hS (fun _ h => h) hAB hl.1 rfl rfl (Nat.le_of_ble_eq_true rfl) dJ5_append_c97b9_30 (fun H L4 hP hS _ hz hq => ?_)
    obtain ⟨f, hf, hP⟩ := hP
    refine lv_pop hx hb dJ5_append_c97b9_33 rfl ?_
    refine lv_goto (tgt := 48) hx hb dJ5_append_c97b9_34 (by decide) ?_
    refine lv_aload_n hx hb dJ5_append_c97b9_48 rfl (lv_at hl 2 rfl) ?_
    refine lv_iload_n hx hb dJ5_append_c97b9_49 rfl (lv_at hl 0 rfl) ?_
    refine va_put (D := kD k) (ci := 1) (v := .int (z + x_1)) (ty := .int) (C := RJ4) (T := TJ4) (N := 4) hx hb htg inG_J4 tyJ4 tyJ4_ok nmJ4 hown hGx.1 hP (bW.own hne) hS 0 rfl rfl 3 (by decide) (htg _ w_345) (fun _ h9 => h9) rfl (by decide +kernel) rfl rfl (Nat.le_of_ble_eq_true rfl) dJ5_append_c97b9_50 (fun H locs hP1 _ hS => ?_)
    have hP : va_P (kD k) vwCl (bW k a f (z + x_1)) H := hP1
    refine lv_aload_n hx hb dJ5_append_c97b9_53 rfl (lv_at hl 2 rfl) ?_
    exact b_tret hx hb hr (by first | exact Or.inl ⟨_, rfl⟩ | exact Or.inr ⟨_, rfl⟩) hlocks (Option.some.inj hm) ⟨_, hf, hP⟩ hS dJ5_append_c97b9_54
def o_J5_inflateIfNeededFor_a7421 (nt : Nat) (z : Int32) : Option (Unit × Int32) := some ((), z)
theorem kk_J5_inflateIfNeededFor_a7421 : pK yJ5_inflateIfNeededFor_a7421 wsJ5_inflateIfNeededFor_a7421 cJ5_inflateIfNeededFor_a7421 2 none 1 := ⟨⟨_, rfl⟩, by decide +kernel, by decide +kernel, by decide +kernel⟩
set_option maxRecDepth 100000 in
set_option maxHeartbeats 4000000 in
theorem k_J5_inflateIfNeededFor_a7421 (l : Launch) (k : Kx) (a : Nat × Nat) (t : Nat × Nat) (nt : Nat) (z : Int32) {r : Unit × Int32} (hm : o_J5_inflateIfNeededFor_a7421 nt z = some r) : bN l k a yJ5_inflateIfNeededFor_a7421 wsJ5_inflateIfNeededFor_a7421 1 20 [.ref a.1, .ref t.1] [(t, nt)] z none r.2 := by
  refine Met.ofW (cc := cJ5_inflateIfNeededFor_a7421) (maxL := 2) (ret := none) (by decide) rfl ?_
  intro p e s m args below meth c s₁ B hml hv
  obtain ⟨rfl, hGx, ⟨hne, hab⟩, ⟨f, hf, hP⟩, hts⟩ := hv
  have hx := B.exec
  have hb := B.bytes
  have hr := B.returns
  have hts9 := atoms_spec (ws := wsJ5_inflateIfNeededFor_a7421) B.pre
  have hown : s.vm.findClass RJ5 = some m.cls := findClass_of_methodNamed B.named
  have hlocks := B.notSynchronized
  have htg : ∀ w ∈ GL, w.before _ s = true := fun w h => hts9 w (List.mem_cons_of_mem _ h)
  have hC : CallFix p m c cJ5_inflateIfNeededFor_a7421 2 s _ wsJ5_inflateIfNeededFor_a7421 RJ5 := ⟨hx, hb, hml, hown, hts9⟩
  have hAB : ∀ q, b2 a q → kB k ≤ q := hab
  have hS : va_S (b2 a) s.heap s.heap [] := va_S.rf
  have hl := lv_entry ([.ref a.1, .ref t.1]) (n := 2) (Nat.le_of_ble_eq_true rfl)
  rw [lg_entry_eq]
  generalize (lg_sl ([.ref a.1, .ref t.1]) ++ List.replicate (2 - (lg_sl ([.ref a.1, .ref t.1])).length) Slot.unset).toArray = ls at hl ⊢
  have hl : lv_has ls 2 [(0, .ref a.1), (1, .ref t.1)] := hl
  refine va_gets hx hb (gx_cs hGx) (vs_up hAB hS) hown (htg _ w_334) (fun _ h9 => h9) dJ5_inflateIfNeededFor_a7421_0 ?_
  refine lv_if_eq (tgt := 21) hx hb dJ5_inflateIfNeededFor_a7421_3 (by decide) (fun h => absurd h (by decide)) (fun _ => ?_)
  refine lv_aload_n hx hb dJ5_inflateIfNeededFor_a7421_6 rfl (lv_at hl 0 rfl) ?_
  refine va_get (D := kD k) (ci := 1) (v := .int (0 : Int32)) (C := RJ4) (T := TJ4) (N := 4) hx hb htg inG_J4 hown hGx.1 hP 0 rfl rfl 1 (by decide) (htg _ w_343) (fun _ h9 => h9) rfl dJ5_inflateIfNeededFor_a7421_7 ?_
  refine lv_aload_n hx hb dJ5_inflateIfNeededFor_a7421_10 rfl (lv_at hl 1 rfl) ?_
  refine sc_V hC hGx (c_J0_coder_7d493 l k t nt) (gV w_543 w_533 w_534 w_39 w_535) kk_J0_coder_7d493 rfl (hts _ List.mem_cons_self).1 ⟨Nat.le_of_ble_eq_true rfl, Nat.le_of_ble_eq_true rfl⟩ ⟨Nat.le_of_ble_eq_true rfl, Nat.le_of_ble_eq_true rfl⟩ hS hAB hl.1 (Nat.le_of_ble_eq_true rfl) dJ5_inflateIfNeededFor_a7421_11 ?_
  refine lv_icmp_eq (tgt := 21) hx hb dJ5_inflateIfNeededFor_a7421_14 (by decide) (fun _ => ?_) (fun h => absurd h (by decide))
  exact b_vret hx hb hr hlocks (Option.some.inj hm) ⟨_, hf, hP⟩ hS dJ5_inflateIfNeededFor_a7421_21
def o_J5_putStringAt_47b60 (p0 : Int32) (nt : Nat) (z : Int32) : Option (Unit × Int32) := ((o_J5_inflateIfNeededFor_a7421 nt z).bind fun x_1 => ((o_J0_getBytes_840e7 p0 (0 : Int32) nt x_1.2).bind fun x_2 => some ((), x_2.2)))
theorem kk_J5_putStringAt_47b60 : pK yJ5_putStringAt_47b60 wsJ5_putStringAt_47b60 cJ5_putStringAt_47b60 3 none 2 := ⟨⟨_, rfl⟩, by decide +kernel, by decide +kernel, by decide +kernel⟩
set_option maxRecDepth 100000 in
set_option maxHeartbeats 4000000 in
theorem k_J5_putStringAt_47b60 (l : Launch) (k : Kx) (a : Nat × Nat) (p0 : Int32) (t : Nat × Nat) (nt : Nat) (z : Int32) {r : Unit × Int32} (hm : o_J5_putStringAt_47b60 p0 nt z = some r) : bN l k a yJ5_putStringAt_47b60 wsJ5_putStringAt_47b60 2 83 [.ref a.1, .int p0, .ref t.1] [(t, nt)] z none r.2 := by
  refine Met.ofW (cc := cJ5_putStringAt_47b60) (maxL := 3) (ret := none) (by decide) rfl ?_
  intro p e s m args below meth c s₁ B hml hv
  obtain ⟨rfl, hGx, ⟨hne, hab⟩, ⟨f, hf, hP⟩, hts⟩ := hv
  have hx := B.exec
  have hb := B.bytes
  have hr := B.returns
  have hts9 := atoms_spec (ws := wsJ5_putStringAt_47b60) B.pre
  have hown : s.vm.findClass RJ5 = some m.cls := findClass_of_methodNamed B.named
  have hlocks := B.notSynchronized
  have htg : ∀ w ∈ GL, w.before _ s = true := fun w h => hts9 w (List.mem_cons_of_mem _ h)
  have hC : CallFix p m c cJ5_putStringAt_47b60 3 s _ wsJ5_putStringAt_47b60 RJ5 := ⟨hx, hb, hml, hown, hts9⟩
  have hAB : ∀ q, b2 a q → kB k ≤ q := hab
  have hS : va_S (b2 a) s.heap s.heap [] := va_S.rf
  have hl := lv_entry ([.ref a.1, .int p0, .ref t.1]) (n := 3) (Nat.le_of_ble_eq_true rfl)
  rw [lg_entry_eq]
  generalize (lg_sl ([.ref a.1, .int p0, .ref t.1]) ++ List.replicate (3 - (lg_sl ([.ref a.1, .int p0, .ref t.1])).length) Slot.unset).toArray = ls at hl ⊢
  have hl : lv_has ls 3 [(0, .ref a.1), (1, .int p0), (2, .ref t.1)] := hl
  refine lv_aload_n hx hb dJ5_putStringAt_47b60_0 rfl (lv_at hl 0 rfl) ?_
  refine lv_aload_n hx hb dJ5_putStringAt_47b60_1 rfl (lv_at hl 2 rfl) ?_
  obtain ⟨x_1, hx_1, hm⟩ := Option.bind_eq_some_iff.mp hm
  refine bc_U hC hGx (k_J5_inflateIfNeededFor_a7421 l k a  t nt z hx_1) (gU w_540 w_1405 w_5 w_541 w_37 w_542) kk_J5_inflateIfNeededFor_a7421  hne ⟨Nat.le_of_ble_eq_true rfl, Nat.le_of_ble_eq_true rfl⟩ ⟨Nat.le_of_ble_eq_true rfl, Nat.le_of_ble_eq_true rfl⟩ ⟨_, hf, hP⟩ hts hS (fun _ h => h) hAB hl.1 rfl rfl (Nat.le_of_ble_eq_true rfl) dJ5_putStringAt_47b60_2 (fun H L1 hP hS _ hz hq => ?_)
  have hts := hts.up hq
  obtain ⟨f, hf, hP⟩ := hP
  refine lv_aload_n hx hb dJ5_putStringAt_47b60_5 rfl (lv_at hl 2 rfl) ?_
  refine lv_aload_n hx hb dJ5_putStringAt_47b60_6 rfl (lv_at hl 0 rfl) ?_
  refine va_get (D := kD k) (ci := 1) (v := .ref a.2) (C := RJ4) (T := TJ4) (N := 4) hx hb htg inG_J4 hown hGx.1 hP 0 rfl rfl 0 (by decide) (htg _ w_342) (fun _ h9 => h9) rfl dJ5_putStringAt_47b60_7 ?_
  refine lv_iload_n hx hb dJ5_putStringAt_47b60_10 rfl (lv_at hl 1 rfl) ?_
  refine lv_aload_n hx hb dJ5_putStringAt_47b60_11 rfl (lv_at hl 0 rfl) ?_
  refine va_get (D := kD k) (ci := 1) (v := .int (0 : Int32)) (C := RJ4) (T := TJ4) (N := 4) hx hb htg inG_J4 hown hGx.1 hP 0 rfl rfl 1 (by decide) (htg _ w_343) (fun _ h9 => h9) rfl dJ5_putStringAt_47b60_12 ?_
  obtain ⟨x_2, hx_2, hm⟩ := Option.bind_eq_some_iff.mp hm
  refine bc_T hC hGx (k_J0_getBytes_840e7 l k a p0 (0 : Int32) t nt x_1.2 hx_2) (gV w_544 w_545 w_546 w_39 w_547) kk_J0_getBytes_840e7 rfl hne ⟨Nat.le_of_ble_eq_true rfl, Nat.le_of_ble_eq_true rfl⟩ ⟨Nat.le_of_ble_eq_true rfl, Nat.le_of_ble_eq_true rfl⟩ ⟨_, hf, hP⟩ hts hS (fun _ h => h) hAB hl.1 rfl rfl (Nat.le_of_ble_eq_true rfl) dJ5_putStringAt_47b60_15 (fun H L2 hP hS _ hz hq => ?_)
  have hts := hts.up hq
  obtain ⟨f, hf, hP⟩ := hP
  exact b_vret hx hb hr hlocks (Option.some.inj hm) ⟨_, hf, hP⟩ hS dJ5_putStringAt_47b60_18
def o_J5_append_cf1ce (nt : Nat) (z : Int32) : Option (Unit × Int32) := ((o_J5_ensureCapacityInternal_d00df (z + (Int32.ofNat nt)) z).bind fun x_1 => ((o_J5_putStringAt_47b60 x_1.2 nt x_1.2).bind fun x_2 => some ((), x_2.2 + (Int32.ofNat nt))))
theorem kk_J5_append_cf1ce : pK yJ5_append_cf1ce wsJ5_append_cf1ce cJ5_append_cf1ce 3 (some (.object "java/lang/AbstractStringBuilder")) 1 := ⟨⟨_, rfl⟩, by decide +kernel, by decide +kernel, by decide +kernel⟩
set_option maxRecDepth 100000 in
set_option maxHeartbeats 4000000 in
theorem k_J5_append_cf1ce (l : Launch) (k : Kx) (a : Nat × Nat) (t : Nat × Nat) (nt : Nat) (z : Int32) {r : Unit × Int32} (hm : o_J5_append_cf1ce nt z = some r) : bN l k a yJ5_append_cf1ce wsJ5_append_cf1ce 3 105 [.ref a.1, .ref t.1] [(t, nt)] z (some (.ref a.1)) r.2 := by
  refine Met.ofW (cc := cJ5_append_cf1ce) (maxL := 3) (ret := (some (.object "java/lang/AbstractStringBuilder"))) (by decide) rfl ?_
  intro p e s m args below meth c s₁ B hml hv
  obtain ⟨rfl, hGx, ⟨hne, hab⟩, ⟨f, hf, hP⟩, hts⟩ := hv
  have hx := B.exec
  have hb := B.bytes
  have hr := B.returns
  have hts9 := atoms_spec (ws := wsJ5_append_cf1ce) B.pre
  have hown : s.vm.findClass RJ5 = some m.cls := findClass_of_methodNamed B.named
  have hlocks := B.notSynchronized
  have htg : ∀ w ∈ GL, w.before _ s = true := fun w h => hts9 w (List.mem_cons_of_mem _ h)
  have hC : CallFix p m c cJ5_append_cf1ce 3 s _ wsJ5_append_cf1ce RJ5 := ⟨hx, hb, hml, hown, hts9⟩
  have hAB : ∀ q, b2 a q → kB k ≤ q := hab
  have hS : va_S (b2 a) s.heap s.heap [] := va_S.rf
  have hl := lv_entry ([.ref a.1, .ref t.1]) (n := 3) (Nat.le_of_ble_eq_true rfl)
  rw [lg_entry_eq]
  generalize (lg_sl ([.ref a.1, .ref t.1]) ++ List.replicate (3 - (lg_sl ([.ref a.1, .ref t.1])).length) Slot.unset).toArray = ls at hl ⊢
  have hl : lv_has ls 3 [(0, .ref a.1), (1, .ref t.1)] := hl
  refine lv_aload_n hx hb dJ5_append_cf1ce_0 rfl (lv_at hl 1 rfl) ?_
  refine lv_ifnonnull (tgt := 9) hx hb dJ5_append_cf1ce_1 (by decide) ?_
  refine lv_aload_n hx hb dJ5_append_cf1ce_9 rfl (lv_at hl 1 rfl) ?_
  refine sc_V hC hGx (c_J0_length_8abf5 l k t nt) (gV w_528 w_529 w_530 w_39 w_531) kk_J0_length_8abf5 rfl (hts _ List.mem_cons_self).1 ⟨Nat.le_of_ble_eq_true rfl, Nat.le_of_ble_eq_true rfl⟩ ⟨Nat.le_of_ble_eq_true rfl, Nat.le_of_ble_eq_true rfl⟩ hS hAB hl.1 (Nat.le_of_ble_eq_true rfl) dJ5_append_cf1ce_10 ?_
  refine lv_istore_n (lv' := [(2, .int (Int32.ofNat nt)), (0, .ref a.1), (1, .ref t.1)]) hx hb dJ5_append_cf1ce_13 rfl hl (by decide) rfl (fun ls hl => ?_)
  refine lv_aload_n hx hb dJ5_append_cf1ce_14 rfl (lv_at hl 1 rfl) ?_
  refine lv_aload_n hx hb dJ5_append_cf1ce_15 rfl (lv_at hl 1 rfl) ?_
  refine va_get (D := kD k) (ci := 1) (v := .int z) (C := RJ4) (T := TJ4) (N := 4) hx hb htg inG_J4 hown hGx.1 hP 0 rfl rfl 3 (by decide) (htg _ w_345) (fun _ h9 => h9) rfl dJ5_append_cf1ce_16 ?_
  refine lv_iload_n hx hb dJ5_append_cf1ce_19 rfl (lv_at hl 0 rfl) ?_
  refine lv_iadd hx hb dJ5_append_cf1ce_20 ?_
  obtain ⟨x_1, hx_1, hm⟩ := Option.bind_eq_some_iff.mp hm
  refine bc_U hC hGx (k_J5_ensureCapacityInternal_d00df l k a (z + (Int32.ofNat nt))  z hx_1) (gU w_365 w_1398 w_0 w_366 w_37 w_367) kk_J5_ensureCapacityInternal_d00df  hne ⟨Nat.le_of_ble_eq_true rfl, Nat.le_of_ble_eq_true rfl⟩ ⟨Nat.le_of_ble_eq_true rfl, Nat.le_of_ble_eq_true rfl⟩ ⟨_, hf, hP⟩ (fun _ h => absurd h List.not_mem_nil) hS (fun _ h => h) hAB hl.1 rfl rfl (Nat.le_of_ble_eq_true rfl) dJ5_append_cf1ce_21 (fun H L1 hP hS _ hz hq => ?_)
  have hts := hts.up hq
  obtain ⟨f, hf, hP⟩ := hP
  refine lv_aload_n hx hb dJ5_append_cf1ce_24 rfl (lv_at hl 1 rfl) ?_
  refine lv_aload_n hx hb dJ5_append_cf1ce_25 rfl (lv_at hl 1 rfl) ?_
  refine va_get (D := kD k) (ci := 1) (v := .int x_1.2) (C := RJ4) (T := TJ4) (N := 4) hx hb htg inG_J4 hown hGx.1 hP 0 rfl rfl 3 (by decide) (htg _ w_345) (fun _ h9 => h9) rfl dJ5_append_cf1ce_26 ?_
  refine lv_aload_n hx hb dJ5_append_cf1ce_29 rfl (lv_at hl 2 rfl) ?_
  obtain ⟨x_2, hx_2, hm⟩ := Option.bind_eq_some_iff.mp hm
  refine bc_U hC hGx (k_J5_putStringAt_47b60 l k a x_1.2 t nt x_1.2 hx_2) (gU w_537 w_1404 w_4 w_538 w_37 w_539) kk_J5_putStringAt_47b60  hne ⟨Nat.le_of_ble_eq_true rfl, Nat.le_of_ble_eq_true rfl⟩ ⟨Nat.le_of_ble_eq_true rfl, Nat.le_of_ble_eq_true rfl⟩ ⟨_, hf, hP⟩ hts hS (fun _ h => h) hAB hl.1 rfl rfl (Nat.le_of_ble_eq_true rfl) dJ5_append_cf1ce_30 (fun H L2 hP hS _ hz hq => ?_)
  have hts := hts.up hq
  obtain ⟨f, hf, hP⟩ := hP
  refine lv_aload_n hx hb dJ5_append_cf1ce_33 rfl (lv_at hl 1 rfl) ?_
  refine lv_dup hx hb dJ5_append_cf1ce_34 rfl ?_
  refine va_get (D := kD k) (ci := 1) (v := .int x_2.2) (C := RJ4) (T := TJ4) (N := 4) hx hb htg inG_J4 hown hGx.1 hP 0 rfl rfl 3 (by decide) (htg _ w_345) (fun _ h9 => h9) rfl dJ5_append_cf1ce_35 ?_
  refine lv_iload_n hx hb dJ5_append_cf1ce_38 rfl (lv_at hl 0 rfl) ?_
  refine lv_iadd hx hb dJ5_append_cf1ce_39 ?_
  refine va_put (D := kD k) (ci := 1) (v := .int (x_2.2 + (Int32.ofNat nt))) (ty := .int) (C := RJ4) (T := TJ4) (N := 4) hx hb htg inG_J4 tyJ4 tyJ4_ok nmJ4 hown hGx.1 hP (bW.own hne) hS 0 rfl rfl 3 (by decide) (htg _ w_345) (fun _ h9 => h9) rfl (by decide +kernel) rfl rfl (Nat.le_of_ble_eq_true rfl) dJ5_append_cf1ce_40 (fun H locs hP1 _ hS => ?_)
  have hP : va_P (kD k) vwCl (bW k a f (x_2.2 + (Int32.ofNat nt))) H := hP1
  refine lv_aload_n hx hb dJ5_append_cf1ce_43 rfl (lv_at hl 1 rfl) ?_
  exact b_tret hx hb hr (by first | exact Or.inl ⟨_, rfl⟩ | exact Or.inr ⟨_, rfl⟩) hlocks (Option.some.inj hm) ⟨_, hf, hP⟩ hS dJ5_append_cf1ce_44
def o_J4_append_cf468 (p0 : Int32) (z : Int32) : Option (Unit × Int32) := ((o_J5_append_3fe6f p0 z).bind fun x_1 => some ((), x_1.2))
theorem kk_J4_append_cf468 : pK yJ4_append_cf468 wsJ4_append_cf468 cJ4_append_cf468 2 (some (.object "java/lang/StringBuilder")) 1 := ⟨⟨_, rfl⟩, by decide +kernel, by decide +kernel, by decide +kernel⟩
set_option maxRecDepth 100000 in
set_option maxHeartbeats 4000000 in
theorem k_J4_append_cf468 (l : Launch) (k : Kx) (a : Nat × Nat) (p0 : Int32) (z : Int32) {r : Unit × Int32} (hm : o_J4_append_cf468 p0 z = some r) : bN l k a yJ4_append_cf468 wsJ4_append_cf468 2 43 [.ref a.1, .int p0] [] z (some (.ref a.1)) r.2 := by
  refine Met.ofW (cc := cJ4_append_cf468) (maxL := 2) (ret := (some (.object "java/lang/StringBuilder"))) (by decide) rfl ?_
  intro p e s m args below meth c s₁ B hml hv
  obtain ⟨rfl, hGx, ⟨hne, hab⟩, ⟨f, hf, hP⟩, hts⟩ := hv
  have hx := B.exec
  have hb := B.bytes
  have hr := B.returns
  have hts9 := atoms_spec (ws := wsJ4_append_cf468) B.pre
  have hown : s.vm.findClass RJ4 = some m.cls := findClass_of_methodNamed B.named
  have hlocks := B.notSynchronized
  have htg : ∀ w ∈ GL, w.before _ s = true := fun w h => hts9 w (List.mem_cons_of_mem _ h)
  have hC : CallFix p m c cJ4_append_cf468 2 s _ wsJ4_append_cf468 RJ4 := ⟨hx, hb, hml, hown, hts9⟩
  have hAB : ∀ q, b2 a q → kB k ≤ q := hab
  have hS : va_S (b2 a) s.heap s.heap [] := va_S.rf
  have hl := lv_entry ([.ref a.1, .int p0]) (n := 2) (Nat.le_of_ble_eq_true rfl)
  rw [lg_entry_eq]
  generalize (lg_sl ([.ref a.1, .int p0]) ++ List.replicate (2 - (lg_sl ([.ref a.1, .int p0])).length) Slot.unset).toArray = ls at hl ⊢
  have hl : lv_has ls 2 [(0, .ref a.1), (1, .int p0)] := hl
  refine lv_aload_n hx hb dJ4_append_cf468_0 rfl (lv_at hl 0 rfl) ?_
  refine lv_iload_n hx hb dJ4_append_cf468_1 rfl (lv_at hl 1 rfl) ?_
  obtain ⟨x_1, hx_1, hm⟩ := Option.bind_eq_some_iff.mp hm
  refine bc_SU hC hGx (k_J5_append_3fe6f l k a p0  z hx_1) (gS0 w_362 w_363 w_37 w_1397 w_354 w_364) kk_J5_append_3fe6f (by decide) hne ⟨Nat.le_of_ble_eq_true rfl, Nat.le_of_ble_eq_true rfl⟩ ⟨Nat.le_of_ble_eq_true rfl, Nat.le_of_ble_eq_true rfl⟩ ⟨_, hf, hP⟩ (fun _ h => absurd h List.not_mem_nil) hS (fun _ h => h) hAB hl.1 rfl rfl (Nat.le_of_ble_eq_true rfl) dJ4_append_cf468_2 (fun H L1 hP hS _ hz hq => ?_)
  obtain ⟨f, hf, hP⟩ := hP
  refine lv_pop hx hb dJ4_append_cf468_5 rfl ?_
  refine lv_aload_n hx hb dJ4_append_cf468_6 rfl (lv_at hl 0 rfl) ?_
  exact b_tret hx hb hr (by first | exact Or.inl ⟨_, rfl⟩ | exact Or.inr ⟨_, rfl⟩) hlocks (Option.some.inj hm) ⟨_, hf, hP⟩ hS dJ4_append_cf468_7
def o_J4_append_bf812 (p0 : Int32) (z : Int32) : Option (Unit × Int32) := ((o_J5_append_c97b9 p0 z).bind fun x_1 => some ((), x_1.2))
theorem kk_J4_append_bf812 : pK yJ4_append_bf812 wsJ4_append_bf812 cJ4_append_bf812 2 (some (.object "java/lang/StringBuilder")) 1 := ⟨⟨_, rfl⟩, by decide +kernel, by decide +kernel, by decide +kernel⟩
set_option maxRecDepth 100000 in
set_option maxHeartbeats 4000000 in
theorem k_J4_append_bf812 (l : Launch) (k : Kx) (a : Nat × Nat) (p0 : Int32) (z : Int32) {r : Unit × Int32} (hm : o_J4_append_bf812 p0 z = some r) : bN l k a yJ4_append_bf812 wsJ4_append_bf812 2 49 [.ref a.1, .int p0] [] z (some (.ref a.1)) r.2 := by
  refine Met.ofW (cc := cJ4_append_bf812) (maxL := 2) (ret := (some (.object "java/lang/StringBuilder"))) (by decide) rfl ?_
  intro p e s m args below meth c s₁ B hml hv
  obtain ⟨rfl, hGx, ⟨hne, hab⟩, ⟨f, hf, hP⟩, hts⟩ := hv
  have hx := B.exec
  have hb := B.bytes
  have hr := B.returns
  have hts9 := atoms_spec (ws := wsJ4_append_bf812) B.pre
  have hown : s.vm.findClass RJ4 = some m.cls := findClass_of_methodNamed B.named
  have hlocks := B.notSynchronized
  have htg : ∀ w ∈ GL, w.before _ s = true := fun w h => hts9 w (List.mem_cons_of_mem _ h)
  have hC : CallFix p m c cJ4_append_bf812 2 s _ wsJ4_append_bf812 RJ4 := ⟨hx, hb, hml, hown, hts9⟩
  have hAB : ∀ q, b2 a q → kB k ≤ q := hab
  have hS : va_S (b2 a) s.heap s.heap [] := va_S.rf
  have hl := lv_entry ([.ref a.1, .int p0]) (n := 2) (Nat.le_of_ble_eq_true rfl)
  rw [lg_entry_eq]
  generalize (lg_sl ([.ref a.1, .int p0]) ++ List.replicate (2 - (lg_sl ([.ref a.1, .int p0])).length) Slot.unset).toArray = ls at hl ⊢
  have hl : lv_has ls 2 [(0, .ref a.1), (1, .int p0)] := hl
  refine lv_aload_n hx hb dJ4_append_bf812_0 rfl (lv_at hl 0 rfl) ?_
  refine lv_iload_n hx hb dJ4_append_bf812_1 rfl (lv_at hl 1 rfl) ?_
  obtain ⟨x_1, hx_1, hm⟩ := Option.bind_eq_some_iff.mp hm
  refine bc_SU hC hGx (k_J5_append_c97b9 l k a p0  z hx_1) (gS0 w_447 w_448 w_37 w_1401 w_354 w_449) kk_J5_append_c97b9 (by decide) hne ⟨Nat.le_of_ble_eq_true rfl, Nat.le_of_ble_eq_true rfl⟩ ⟨Nat.le_of_ble_eq_true rfl, Nat.le_of_ble_eq_true rfl⟩ ⟨_, hf, hP⟩ (fun _ h => absurd h List.not_mem_nil) hS (fun _ h => h) hAB hl.1 rfl rfl (Nat.le_of_ble_eq_true rfl) dJ4_append_bf812_2 (fun H L1 hP hS _ hz hq => ?_)
  obtain ⟨f, hf, hP⟩ := hP
  refine lv_pop hx hb dJ4_append_bf812_5 rfl ?_
  refine lv_aload_n hx hb dJ4_append_bf812_6 rfl (lv_at hl 0 rfl) ?_
  exact b_tret hx hb hr (by first | exact Or.inl ⟨_, rfl⟩ | exact Or.inr ⟨_, rfl⟩) hlocks (Option.some.inj hm) ⟨_, hf, hP⟩ hS dJ4_append_bf812_7
def o_J4_append_15ec4 (nt : Nat) (z : Int32) : Option (Unit × Int32) := ((o_J5_append_cf1ce nt z).bind fun x_1 => some ((), x_1.2))
theorem kk_J4_append_15ec4 : pK yJ4_append_15ec4 wsJ4_append_15ec4 cJ4_append_15ec4 2 (some (.object "java/lang/StringBuilder")) 1 := ⟨⟨_, rfl⟩, by decide +kernel, by decide +kernel, by decide +kernel⟩
set_option maxRecDepth 100000 in
set_option maxHeartbeats 4000000 in
theorem k_J4_append_15ec4 (l : Launch) (k : Kx) (a : Nat × Nat) (t : Nat × Nat) (nt : Nat) (z : Int32) {r : Unit × Int32} (hm : o_J4_append_15ec4 nt z = some r) : bN l k a yJ4_append_15ec4 wsJ4_append_15ec4 4 127 [.ref a.1, .ref t.1] [(t, nt)] z (some (.ref a.1)) r.2 := by
  refine Met.ofW (cc := cJ4_append_15ec4) (maxL := 2) (ret := (some (.object "java/lang/StringBuilder"))) (by decide) rfl ?_
  intro p e s m args below meth c s₁ B hml hv
  obtain ⟨rfl, hGx, ⟨hne, hab⟩, ⟨f, hf, hP⟩, hts⟩ := hv
  have hx := B.exec
  have hb := B.bytes
  have hr := B.returns
  have hts9 := atoms_spec (ws := wsJ4_append_15ec4) B.pre
  have hown : s.vm.findClass RJ4 = some m.cls := findClass_of_methodNamed B.named
  have hlocks := B.notSynchronized
  have htg : ∀ w ∈ GL, w.before _ s = true := fun w h => hts9 w (List.mem_cons_of_mem _ h)
  have hC : CallFix p m c cJ4_append_15ec4 2 s _ wsJ4_append_15ec4 RJ4 := ⟨hx, hb, hml, hown, hts9⟩
  have hAB : ∀ q, b2 a q → kB k ≤ q := hab
  have hS : va_S (b2 a) s.heap s.heap [] := va_S.rf
  have hl := lv_entry ([.ref a.1, .ref t.1]) (n := 2) (Nat.le_of_ble_eq_true rfl)
  rw [lg_entry_eq]
  generalize (lg_sl ([.ref a.1, .ref t.1]) ++ List.replicate (2 - (lg_sl ([.ref a.1, .ref t.1])).length) Slot.unset).toArray = ls at hl ⊢
  have hl : lv_has ls 2 [(0, .ref a.1), (1, .ref t.1)] := hl
  refine lv_aload_n hx hb dJ4_append_15ec4_0 rfl (lv_at hl 0 rfl) ?_
  refine lv_aload_n hx hb dJ4_append_15ec4_1 rfl (lv_at hl 1 rfl) ?_
  obtain ⟨x_1, hx_1, hm⟩ := Option.bind_eq_some_iff.mp hm
  refine bc_SU hC hGx (k_J5_append_cf1ce l k a  t nt z hx_1) (gS0 w_519 w_520 w_37 w_1402 w_354 w_521) kk_J5_append_cf1ce (by decide) hne ⟨Nat.le_of_ble_eq_true rfl, Nat.le_of_ble_eq_true rfl⟩ ⟨Nat.le_of_ble_eq_true rfl, Nat.le_of_ble_eq_true rfl⟩ ⟨_, hf, hP⟩ hts hS (fun _ h => h) hAB hl.1 rfl rfl (Nat.le_of_ble_eq_true rfl) dJ4_append_15ec4_2 (fun H L1 hP hS _ hz hq => ?_)
  have hts := hts.up hq
  obtain ⟨f, hf, hP⟩ := hP
  refine lv_pop hx hb dJ4_append_15ec4_5 rfl ?_
  refine lv_aload_n hx hb dJ4_append_15ec4_6 rfl (lv_at hl 0 rfl) ?_
  exact b_tret hx hb hr (by first | exact Or.inl ⟨_, rfl⟩ | exact Or.inr ⟨_, rfl⟩) hlocks (Option.some.inj hm) ⟨_, hf, hP⟩ hS dJ4_append_15ec4_7
def l2_1_X0_appendFilled (p1 : Int32) (p2 : Int32) : Nat → Int32 → Int32 → Option (Unit × Int32)
  | 0, _, _ => none
  | n + 1, x2_3, z2 => (if x2_3 ≤ (1 : Int32) then ((o_J4_append_bf812 p1 z2).bind fun x_1 => some ((), x_1.2)) else (if x2_3 ≤ p1 then ((o_J4_append_bf812 p1 z2).bind fun x_2 => some ((), x_2.2)) else ((o_J4_append_cf468 (48 : Int32) z2).bind fun x_3 => l2_1_X0_appendFilled p1 p2 n (x2_3 / (10 : Int32)) x_3.2)))
def o_X0_appendFilled (p1 : Int32) (p2 : Int32) (z : Int32) : Option (Unit × Int32) := l2_1_X0_appendFilled p1 p2 8 p2 z
theorem kk_X0_appendFilled : pK yX0_appendFilled wsX0_appendFilled cX0_appendFilled 4 none 3 := ⟨⟨_, rfl⟩, by decide +kernel, by decide +kernel, by decide +kernel⟩
set_option maxRecDepth 100000 in
set_option maxHeartbeats 4000000 in
theorem k_X0_appendFilled (l : Launch) (k : Kx) (a : Nat × Nat) (p1 : Int32) (p2 : Int32) (z : Int32) {r : Unit × Int32} (hm : o_X0_appendFilled p1 p2 z = some r) : bN l k a yX0_appendFilled wsX0_appendFilled 3 70 [.ref a.1, .int p1, .int p2] [] z none r.2 := by
  refine Met.ofW (cc := cX0_appendFilled) (maxL := 4) (ret := none) (by decide) rfl ?_
  intro p e s m args below meth c s₁ B hml hv
  obtain ⟨rfl, hGx, ⟨hne, hab⟩, ⟨f, hf, hP⟩, hts⟩ := hv
  have hx := B.exec
  have hb := B.bytes
  have hr := B.returns
  have hts9 := atoms_spec (ws := wsX0_appendFilled) B.pre
  have hown : s.vm.findClass RX0 = some m.cls := findClass_of_methodNamed B.named
  have hlocks := B.notSynchronized
  have htg : ∀ w ∈ GL, w.before _ s = true := fun w h => hts9 w (List.mem_cons_of_mem _ h)
  have hC : CallFix p m c cX0_appendFilled 4 s _ wsX0_appendFilled RX0 := ⟨hx, hb, hml, hown, hts9⟩
  have hAB : ∀ q, b2 a q → kB k ≤ q := hab
  have hS : va_S (b2 a) s.heap s.heap [] := va_S.rf
  have hl := lv_entry ([.ref a.1, .int p1, .int p2]) (n := 4) (Nat.le_of_ble_eq_true rfl)
  rw [lg_entry_eq]
  generalize (lg_sl ([.ref a.1, .int p1, .int p2]) ++ List.replicate (4 - (lg_sl ([.ref a.1, .int p1, .int p2])).length) Slot.unset).toArray = ls at hl ⊢
  have hl : lv_has ls 4 [(0, .ref a.1), (1, .int p1), (2, .int p2)] := hl
  refine lv_iload_n hx hb dX0_appendFilled_0 rfl (lv_at hl 2 rfl) ?_
  refine lv_istore_n (lv' := [(3, .int p2), (0, .ref a.1), (1, .int p1), (2, .int p2)]) hx hb dX0_appendFilled_1 rfl hl (by decide) rfl (fun ls hl => ?_)
  have J2 : ∀ (n : Nat) (x2_3 : Int32) (ls : Array Slot) (H : Heap) (locs : List Loc) (f : Nat → Int32) (z2 : Int32), lv_has ls 4 [(3, .int x2_3), (0, .ref a.1), (1, .int p1), (2, .int p2)] → sb_Fit f → va_P (kD k) vwCl (bW k a f z2) H → tAll a [] s H → va_S (b2 a) s.heap H locs → l2_1_X0_appendFilled p1 p2 n x2_3 z2 = some r → W p l e (headSpec wsX0_appendFilled { frames := 3, cells := 0, slots := 0, locals := 70 }).room s m ([.ref a.1, .int p1, .int p2] : List Value).toArray below meth c H locs 0 0 (MQ below (bQ k a none r.2) ([.ref a.1, .int p1, .int p2] : List Value).toArray s 0 0 (b2 a)) (F0 m 2 ls []) := by
    intro n
    induction n with
    | zero => intro x2_3 ls H locs f z2 hl hf hP hts hS hm; cases hm
    | succ n ih =>
      intro x2_3 ls H locs f z2 hl hf hP hts hS hm
      refine lv_iload_n hx hb dX0_appendFilled_2 rfl (lv_at hl 0 rfl) ?_
      refine lv_iconst (v := 1) hx hb dX0_appendFilled_3 (by decide) ?_
      refine lv_icmp_le (tgt := 27) hx hb dX0_appendFilled_4 (by decide) (fun h_1 => ?_) (fun h_1 => ?_)
      · have hm := (if_pos h_1).symm.trans hm
        refine lv_aload_n hx hb dX0_appendFilled_27 rfl (lv_at hl 1 rfl) ?_
        refine lv_iload_n hx hb dX0_appendFilled_28 rfl (lv_at hl 2 rfl) ?_
        obtain ⟨x_1, hx_1, hm⟩ := Option.bind_eq_some_iff.mp hm
        refine bc_V hC hGx (k_J4_append_bf812 l k a p1  z2 hx_1) (gV w_443 w_444 w_445 w_38 w_446) kk_J4_append_bf812 rfl hne ⟨Nat.le_of_ble_eq_true rfl, Nat.le_of_ble_eq_true rfl⟩ ⟨Nat.le_of_ble_eq_true rfl, Nat.le_of_ble_eq_true rfl⟩ ⟨_, hf, hP⟩ (fun _ h => absurd h List.not_mem_nil) hS (fun _ h => h) hAB hl.1 rfl rfl (Nat.le_of_ble_eq_true rfl) dX0_appendFilled_29 (fun H L1 hP hS _ hz hq => ?_)
        obtain ⟨f, hf, hP⟩ := hP
        refine lv_pop hx hb dX0_appendFilled_32 rfl ?_
        exact b_vret hx hb hr hlocks (Option.some.inj hm) ⟨_, hf, hP⟩ hS dX0_appendFilled_33
      · have hm := (if_neg h_1).symm.trans hm
        refine lv_iload_n hx hb dX0_appendFilled_7 rfl (lv_at hl 2 rfl) ?_
        refine lv_iload_n hx hb dX0_appendFilled_8 rfl (lv_at hl 0 rfl) ?_
        refine lv_icmp_ge (tgt := 27) hx hb dX0_appendFilled_9 (by decide) (fun h_2 => ?_) (fun h_2 => ?_)
        · have hm := (if_pos h_2).symm.trans hm
          refine lv_aload_n hx hb dX0_appendFilled_27 rfl (lv_at hl 1 rfl) ?_
          refine lv_iload_n hx hb dX0_appendFilled_28 rfl (lv_at hl 2 rfl) ?_
          obtain ⟨x_2, hx_2, hm⟩ := Option.bind_eq_some_iff.mp hm
          refine bc_V hC hGx (k_J4_append_bf812 l k a p1  z2 hx_2) (gV w_443 w_444 w_445 w_38 w_446) kk_J4_append_bf812 rfl hne ⟨Nat.le_of_ble_eq_true rfl, Nat.le_of_ble_eq_true rfl⟩ ⟨Nat.le_of_ble_eq_true rfl, Nat.le_of_ble_eq_true rfl⟩ ⟨_, hf, hP⟩ (fun _ h => absurd h List.not_mem_nil) hS (fun _ h => h) hAB hl.1 rfl rfl (Nat.le_of_ble_eq_true rfl) dX0_appendFilled_29 (fun H L2 hP hS _ hz hq => ?_)
          obtain ⟨f, hf, hP⟩ := hP
          refine lv_pop hx hb dX0_appendFilled_32 rfl ?_
          exact b_vret hx hb hr hlocks (Option.some.inj hm) ⟨_, hf, hP⟩ hS dX0_appendFilled_33
        · have hm := (if_neg h_2).symm.trans hm
          refine lv_aload_n hx hb dX0_appendFilled_12 rfl (lv_at hl 1 rfl) ?_
          refine lv_bipush (v := 48) hx hb dX0_appendFilled_13 (by decide) ?_
          obtain ⟨x_3, hx_3, hm⟩ := Option.bind_eq_some_iff.mp hm
          refine bc_V hC hGx (k_J4_append_cf468 l k a (48 : Int32)  z2 hx_3) (gV w_358 w_359 w_360 w_38 w_361) kk_J4_append_cf468 rfl hne ⟨Nat.le_of_ble_eq_true rfl, Nat.le_of_ble_eq_true rfl⟩ ⟨Nat.le_of_ble_eq_true rfl, Nat.le_of_ble_eq_true rfl⟩ ⟨_, hf, hP⟩ (fun _ h => absurd h List.not_mem_nil) hS (fun _ h => h) hAB hl.1 rfl rfl (Nat.le_of_ble_eq_true rfl) dX0_appendFilled_15 (fun H L3 hP hS _ hz hq => ?_)
          obtain ⟨f, hf, hP⟩ := hP
          refine lv_pop hx hb dX0_appendFilled_18 rfl ?_
          refine lv_iload_n hx hb dX0_appendFilled_19 rfl (lv_at hl 0 rfl) ?_
          refine lv_bipush (v := 10) hx hb dX0_appendFilled_20 (by decide) ?_
          refine lv_idiv hx hb dX0_appendFilled_22 (by decide) ?_
          refine lv_istore_n (lv' := [(3, .int (x2_3 / (10 : Int32))), (0, .ref a.1), (1, .int p1), (2, .int p2)]) hx hb dX0_appendFilled_23 rfl hl (by decide) rfl (fun ls hl => ?_)
          refine lv_goto (tgt := 2) hx hb dX0_appendFilled_24 (by decide) ?_
          exact ih (x2_3 / (10 : Int32)) ls _ _ _ _ (lv_sub hl [0, 1, 2, 3] rfl) hf hP (fun _ h => absurd h List.not_mem_nil) hS hm
  exact J2 8 p2 ls _ _ _ _ (lv_sub hl [0, 1, 2, 3] rfl) hf hP (fun _ h => absurd h List.not_mem_nil) hS hm
