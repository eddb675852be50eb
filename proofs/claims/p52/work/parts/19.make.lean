theorem kk_J5_init_d00df : pK yJ5_init_d00df wsJ5_init_d00df cJ5_init_d00df 2 none 1 := ⟨⟨_, rfl⟩, by decide +kernel, by decide +kernel, by decide +kernel⟩
set_option maxRecDepth 100000 in
set_option maxHeartbeats 4000000 in
theorem c_J5_init_d00df (l : Launch) (k : Kx) (x : Nat) : Met l yJ5_init_d00df wsJ5_init_d00df { frames := 1, cells := 1, slots := 16, locals := 40 } (va_Pc [.ref x, .int 16] (niPc k x)) (niQ k x) 1 16 (fun q => q = x) := by
  refine Met.ofW (cc := cJ5_init_d00df) (maxL := 2) (ret := none) (by decide) rfl ?_
  intro p e s m args below meth c s₁ B hml hv
  obtain ⟨rfl, hGx, hN, hxb⟩ := hv
  have hx := B.exec
  have hb := B.bytes
  have hr := B.returns
  have hts9 := atoms_spec (ws := wsJ5_init_d00df) B.pre
  have hown : s.vm.findClass RJ5 = some m.cls := findClass_of_methodNamed B.named
  have hlocks := B.notSynchronized
  have htg : ∀ w ∈ GL, w.before _ s = true := fun w h => hts9 w (List.mem_cons_of_mem _ h)
  have hC : CallFix p m c cJ5_init_d00df 2 s _ wsJ5_init_d00df RJ5 := ⟨hx, hb, hml, hown, hts9⟩
  have hl := lv_entry ([.ref x, .int 16]) (n := 2) (Nat.le_of_ble_eq_true rfl)
  rw [lg_entry_eq]
  generalize (lg_sl ([.ref x, .int 16]) ++ List.replicate (2 - (lg_sl ([.ref x, .int 16])).length) Slot.unset).toArray = ls at hl ⊢
  have hl : lv_has ls 2 [(0, .ref x), (1, .int 16)] := hl
  have hxl : x < s.heap.size := (hN 0 _ rfl).lt
  refine lv_aload_n hx hb dJ5_init_d00df_0 rfl (lv_at hl 0 rfl) ?_
  refine W.objInit hx hb hown (htg _ w_333) (htg _ w_54) (htg _ w_55) rfl (by rw [hml]; exact hl.1) rfl dJ5_init_d00df_1 (Nat.le_of_ble_eq_true rfl) (Nat.le_of_ble_eq_true rfl) ?_
  refine W.eq (g2 := F0 m 4 ls []) rfl ?_
  refine va_gets hx hb (gx_cs hGx) va_S.rf hown (htg _ w_334) (fun _ h9 => h9) dJ5_init_d00df_4 ?_
  refine lv_if_eq (tgt := 25) hx hb dJ5_init_d00df_7 (by decide) (fun h => absurd h (by decide)) (fun _ => ?_)
  refine lv_aload_n hx hb dJ5_init_d00df_10 rfl (lv_at hl 0 rfl) ?_
  refine lv_iload_n hx hb dJ5_init_d00df_11 rfl (lv_at hl 1 rfl) ?_
  refine y_new (n := 16) (A := fun _ => False) hx hb (htg _ w_144) hGx va_S.rf (by decide) (by decide) (by decide) ⟨Nat.le_of_ble_eq_true rfl, Nat.le_of_ble_eq_true rfl⟩ dJ5_init_d00df_12 (fun x2 H1 hx2 hz1 hY hq1 _ => ?_)
  have hN1 : nB k x H1 := va_P.up1 hN (fun h => hq1 x h)
  have hxne : x2 ≠ x := Nat.ne_of_gt (Nat.lt_of_lt_of_le hxl hx2)
  refine va_put (D := kD k) (ci := 1) (v := .ref x2) (ty := .array .byte) (C := RJ4) (T := TJ4) (N := 4) (H0 := H1) hx hb htg inG_J4 tyJ4 tyJ4_ok nmJ4 hown hGx.1 hN1 (va_D1 rfl) (va_S.rf (A := fun q => q = x)) 0 rfl rfl 0 (by decide) (htg _ w_342) (fun _ h9 => h9) rfl (by decide +kernel) rfl rfl (Nat.le_of_ble_eq_true rfl) dJ5_init_d00df_14 (fun H2 locs2 hP2 _ hS2 => ?_)
  refine lv_aload_n hx hb dJ5_init_d00df_17 rfl (lv_at hl 0 rfl) ?_
  refine lv_iconst (v := 0) hx hb dJ5_init_d00df_18 (by decide) ?_
  refine va_put (D := kD k) (ci := 1) (v := .int 0) (ty := .byte) (C := RJ4) (T := TJ4) (N := 4) (H0 := H1) hx hb htg inG_J4 tyJ4 tyJ4_ok nmJ4 hown hGx.1 hP2 (va_D1 rfl) hS2 0 rfl rfl 1 (by decide) (htg _ w_343) (fun _ h9 => h9) rfl (by decide +kernel) rfl rfl (Nat.le_of_ble_eq_true rfl) dJ5_init_d00df_19 (fun H3 locs3 hP3 _ hS3 => ?_)
  refine lv_goto (tgt := 38) hx hb dJ5_init_d00df_22 (by decide) ?_
  have hY3 : yP k x2 16 (fun _ => 0) H3 := va_P.up1 hY (fun h => hS3.2.1 x2 h hxne)
  exact W.vret hx hb hr (fun t ht _ => ⟨rfl, ⟨x2, hx2, _, sb_fit0, by rw [ht]; exact va_P.app (w1 := [(x, _)]) (w2 := [(x2, _)]) hP3 hY3⟩, by rw [ht]; exact Nat.le_trans hz1 hS3.1, fun q h1 h2 => by rw [ht, hS3.2.1 q (Nat.lt_of_lt_of_le h1 hz1) h2]; exact hq1 q h1⟩) hS3.2.2 dJ5_init_d00df_38
theorem kk_J4_init_da8c8 : pK yJ4_init_da8c8 wsJ4_init_da8c8 cJ4_init_da8c8 1 none 0 := ⟨⟨_, rfl⟩, by decide +kernel, by decide +kernel, by decide +kernel⟩
set_option maxRecDepth 100000 in
set_option maxHeartbeats 4000000 in
theorem c_J4_init_da8c8 (l : Launch) (k : Kx) (x : Nat) : Met l yJ4_init_da8c8 wsJ4_init_da8c8 { frames := 2, cells := 1, slots := 16, locals := 80 } (va_Pc [.ref x] (niPc k x)) (niQ k x) 1 16 (fun q => q = x) := by
  refine Met.ofW (cc := cJ4_init_da8c8) (maxL := 1) (ret := none) (by decide) rfl ?_
  intro p e s m args below meth c s₁ B hml hv
  obtain ⟨rfl, hGx, hN, hxb⟩ := hv
  have hx := B.exec
  have hb := B.bytes
  have hr := B.returns
  have hts9 := atoms_spec (ws := wsJ4_init_da8c8) B.pre
  have hown : s.vm.findClass RJ4 = some m.cls := findClass_of_methodNamed B.named
  have hlocks := B.notSynchronized
  have htg : ∀ w ∈ GL, w.before _ s = true := fun w h => hts9 w (List.mem_cons_of_mem _ h)
  have hC : CallFix p m c cJ4_init_da8c8 1 s _ wsJ4_init_da8c8 RJ4 := ⟨hx, hb, hml, hown, hts9⟩
  have hl := lv_entry ([.ref x]) (n := 1) (Nat.le_of_ble_eq_true rfl)
  rw [lg_entry_eq]
  generalize (lg_sl ([.ref x]) ++ List.replicate (1 - (lg_sl ([.ref x])).length) Slot.unset).toArray = ls at hl ⊢
  have hl : lv_has ls 1 [(0, .ref x)] := hl
  refine lv_aload_n hx hb dJ4_init_da8c8_0 rfl (lv_at hl 0 rfl) ?_
  refine lv_bipush (v := 16) hx hb dJ4_init_da8c8_1 (by decide) ?_
  refine run_go (rest := []) (va_runI (rest := []) (b := x) (As := [.int 16]) hC (c_J5_init_d00df l k x) ⟨callB_of 1 hC.2.2.2.2 (gC w_332) kk_J5_init_d00df.1.choose_spec rfl rfl (htg _ w_37) (htg _ w_330) kk_J5_init_d00df.2 ⟨Nat.le_of_ble_eq_true rfl, Nat.le_of_ble_eq_true rfl⟩, rfl, (htg _ w_331)⟩ ⟨niPc.blind, fun U hU hW => ⟨rfl, hGx.at (A := fun _ => False) va_S.rf (fun _ h => h.elim) hU hW, by rw [hU]; exact hN, hxb⟩⟩ rfl rfl hl.1 rfl (lv_room (Nat.le_of_ble_eq_true rfl)) dJ4_init_da8c8_3 ⟨Nat.le_of_ble_eq_true rfl, Nat.le_of_ble_eq_true rfl⟩) (fun v st₀ t L h0 hW ⟨hv, ⟨x2, hx2, hB⟩, hz, hq⟩ hL => ?_)
  cases hv
  rw [h0] at hx2 hz hq
  exact W.vret hx hb hr (fun t2 ht _ => ⟨rfl, ⟨x2, hx2, by rw [ht]; exact hB⟩, by rw [ht]; exact hz, fun q h4 h5 => by rw [ht]; exact hq q h4 h5⟩) (fun q hq => hL q hq) dJ4_init_da8c8_6
theorem kk_J7_checkLength_df160 : pK yJ7_checkLength_df160 wsJ7_checkLength_df160 cJ7_checkLength_df160 2 none 2 := ⟨⟨_, rfl⟩, by decide +kernel, by decide +kernel, by decide +kernel⟩
set_option maxRecDepth 100000 in
set_option maxHeartbeats 4000000 in
theorem c_J7_checkLength_df160 (l : Launch) (p0 p1 : Int32) (hp : p0 ≤ p1) : Met l yJ7_checkLength_df160 wsJ7_checkLength_df160 { frames := 0, cells := 0, slots := 0, locals := 0 } (fun v _ => v = ([.int p0, .int p1] : List Value).toArray) pQ0 0 0 (fun _ => False) := by
  refine Met.ofW (cc := cJ7_checkLength_df160) (maxL := 2) (ret := none) (by decide) rfl ?_
  intro p e s m args below meth c s₁ B hml hv
  obtain rfl := hv
  have hx := B.exec
  have hb := B.bytes
  have hr := B.returns
  have hts9 := atoms_spec (ws := wsJ7_checkLength_df160) B.pre
  have hown : s.vm.findClass RJ7 = some m.cls := findClass_of_methodNamed B.named
  have hlocks := B.notSynchronized
  have htg : ∀ w ∈ GL, w.before _ s = true := fun w h => hts9 w (List.mem_cons_of_mem _ h)
  have hC : CallFix p m c cJ7_checkLength_df160 2 s _ wsJ7_checkLength_df160 RJ7 := ⟨hx, hb, hml, hown, hts9⟩
  have hl := lv_entry ([.int p0, .int p1]) (n := 2) (Nat.le_of_ble_eq_true rfl)
  rw [lg_entry_eq]
  generalize (lg_sl ([.int p0, .int p1]) ++ List.replicate (2 - (lg_sl ([.int p0, .int p1])).length) Slot.unset).toArray = ls at hl ⊢
  have hl : lv_has ls 2 [(0, .int p0), (1, .int p1)] := hl
  refine lv_iload_n hx hb dJ7_checkLength_df160_0 rfl (lv_at hl 1 rfl) ?_
  refine lv_iload_n hx hb dJ7_checkLength_df160_1 rfl (lv_at hl 0 rfl) ?_
  refine lv_icmp_ge (tgt := 37) hx hb dJ7_checkLength_df160_2 (by decide) (fun _ => ?_) (fun h => absurd hp h)
  exact W.vret hx hb hr (fun t ht _ => ⟨rfl, ht⟩) (fun _ h => absurd h List.not_mem_nil) dJ7_checkLength_df160_37
theorem kk_J7_copyOfRangeByte_39247 : pK yJ7_copyOfRangeByte_39247 wsJ7_copyOfRangeByte_39247 cJ7_copyOfRangeByte_39247 5 (some (.array .byte)) 3 := ⟨⟨_, rfl⟩, by decide +kernel, by decide +kernel, by decide +kernel⟩
set_option maxRecDepth 100000 in
set_option maxHeartbeats 4000000 in
theorem c_J7_copyOfRangeByte_39247 (l : Launch) (k : Kx) (c0 : Nat) (f : Nat → Int32) (z : Int32) (hz0 : ¬ z < 0) (hz1 : z.toNatClampNeg < 16) : Met l yJ7_copyOfRangeByte_39247 wsJ7_copyOfRangeByte_39247 { frames := 1, cells := 1, slots := 16, locals := 60 } (va_Pc [.ref c0, .int 0, .int z] (ryPc k c0 f)) (ryQ k z.toNatClampNeg) 1 16 (fun _ => False) := by
  refine Met.ofW (cc := cJ7_copyOfRangeByte_39247) (maxL := 5) (ret := (some (.array .byte))) (by decide) rfl ?_
  intro p e s m args below meth c s₁ B hml hv
  obtain ⟨rfl, hGx, hY, hf⟩ := hv
  have hx := B.exec
  have hb := B.bytes
  have hr := B.returns
  have hts9 := atoms_spec (ws := wsJ7_copyOfRangeByte_39247) B.pre
  have hown : s.vm.findClass RJ7 = some m.cls := findClass_of_methodNamed B.named
  have hlocks := B.notSynchronized
  have htg : ∀ w ∈ GL, w.before _ s = true := fun w h => hts9 w (List.mem_cons_of_mem _ h)
  have hC : CallFix p m c cJ7_copyOfRangeByte_39247 5 s _ wsJ7_copyOfRangeByte_39247 RJ7 := ⟨hx, hb, hml, hown, hts9⟩
  have hl := lv_entry ([.ref c0, .int 0, .int z]) (n := 5) (Nat.le_of_ble_eq_true rfl)
  rw [lg_entry_eq]
  generalize (lg_sl ([.ref c0, .int 0, .int z]) ++ List.replicate (5 - (lg_sl ([.ref c0, .int 0, .int z])).length) Slot.unset).toArray = ls at hl ⊢
  have hl : lv_has ls 5 [(0, .ref c0), (1, .int 0), (2, .int z)] := hl
  have hcl : c0 < s.heap.size := (hY 0 _ rfl).lt
  refine lv_iload_n hx hb dJ7_copyOfRangeByte_39247_0 rfl (lv_at hl 1 rfl) ?_
  refine lv_iload_n hx hb dJ7_copyOfRangeByte_39247_1 rfl (lv_at hl 2 rfl) ?_
  refine run_go (rest := []) (va_runS (rest := []) (As := [.int 0, .int z]) hC (c_J7_checkLength_df160 l 0 z (Int32.not_lt.mp hz0)) (va_cwS 2 hC.2.2.2.2 (gS w_508 w_509 w_42 w_510) kk_J7_checkLength_df160.1.choose_spec rfl rfl kk_J7_checkLength_df160.2 ⟨Nat.le_of_ble_eq_true rfl, Nat.le_of_ble_eq_true rfl⟩) preEq rfl rfl hl.1 rfl (lv_room (Nat.le_of_ble_eq_true rfl)) dJ7_copyOfRangeByte_39247_2 ⟨Nat.le_of_ble_eq_true rfl, Nat.le_of_ble_eq_true rfl⟩) (fun v st₀ t L h0 hW ⟨hv, hh⟩ hL => ?_)
  cases hv
  rw [hh, h0]
  refine m_forget (locs := []) (fun q hq => (hL q hq).elim) ?_
  refine W.eq (g2 := F0 m 5 ls []) rfl ?_
  refine lv_iload_n hx hb dJ7_copyOfRangeByte_39247_5 rfl (lv_at hl 2 rfl) ?_
  refine lv_iload_n hx hb dJ7_copyOfRangeByte_39247_6 rfl (lv_at hl 1 rfl) ?_
  refine lv_isub hx hb dJ7_copyOfRangeByte_39247_7 ?_
  rw [Int32.sub_zero]
  refine lv_istore_n (lv' := [(3, .int z), (0, .ref c0), (1, .int 0), (2, .int z)]) hx hb dJ7_copyOfRangeByte_39247_8 rfl hl (by decide) rfl (fun ls hl => ?_)
  refine lv_iload_n hx hb dJ7_copyOfRangeByte_39247_9 rfl (lv_at hl 0 rfl) ?_
  have hzs : z.toNatClampNeg ≤ 16 := Nat.le_of_lt hz1
  refine y_new (n := z.toNatClampNeg) (A := nA s.heap.size) hx hb (htg _ w_144) hGx va_S.rf hz0 rfl (by show z.toNatClampNeg * 1 ≤ _; omega) ⟨Nat.le_of_ble_eq_true rfl, (by show 0 + 0 + z.toNatClampNeg ≤ 16; omega)⟩ dJ7_copyOfRangeByte_39247_10 (fun x2 H1 hx2 hsz1 hY2 hq1 hS1 => ?_)
  refine lv_astore (lv' := [(4, .ref x2), (3, .int z), (0, .ref c0), (1, .int 0), (2, .int z)]) hx hb dJ7_copyOfRangeByte_39247_12 hl (by decide) rfl (fun ls hl => ?_)
  refine lv_aload_n hx hb dJ7_copyOfRangeByte_39247_14 rfl (lv_at hl 2 rfl) ?_
  refine lv_iload_n hx hb dJ7_copyOfRangeByte_39247_15 rfl (lv_at hl 3 rfl) ?_
  refine lv_aload hx hb dJ7_copyOfRangeByte_39247_16 (lv_at hl 0 rfl) ?_
  refine lv_iconst (v := 0) hx hb dJ7_copyOfRangeByte_39247_18 (by decide) ?_
  refine lv_aload_n hx hb dJ7_copyOfRangeByte_39247_19 rfl (lv_at hl 2 rfl) ?_
  have hY1 : yP k c0 16 f H1 := va_P.up1 hY (fun h => hq1 c0 h)
  refine va_alen (D := kD k) (v := 16) hx hb hGx.1 hY1 0 2 rfl rfl (show Int32.ofNat 16 = 16 by decide) dJ7_copyOfRangeByte_39247_20 ?_
  refine lv_iload_n hx hb dJ7_copyOfRangeByte_39247_21 rfl (lv_at hl 3 rfl) ?_
  refine lv_isub hx hb dJ7_copyOfRangeByte_39247_22 ?_
  refine lv_iload_n hx hb dJ7_copyOfRangeByte_39247_23 rfl (lv_at hl 1 rfl) ?_
  refine va_mmin hx hb (hml.trans hl.1.symm) hown (htg _ w_391) (htg _ w_215) (htg _ w_36) (htg _ w_216) (Nat.le_of_ble_eq_true rfl) (Nat.le_of_ble_eq_true rfl) (Nat.le_of_ble_eq_true rfl) (by show 0 + 0 + z.toNatClampNeg ≤ 16; omega) dJ7_copyOfRangeByte_39247_24 ?_
  rw [min16 hz0 hz1]
  have hX : va_T .byte c0 16 (fun j => .int (f j)) (nA s.heap.size) s s.heap := ⟨_, hY 0 _ rfl, (hGx.1.2 2 _ rfl).1 16 _, (fun q => by cases q), (by show 16 ≤ (arrV _ _ _).slots.size; rw [arrV_size] <;> exact Nat.le_refl _), (by show (arrV _ _ _).slots.size.toInt32 = _; rw [arrV_size]; rfl), fun j hj => arrV_read _ _ hj, Nat.not_le.mpr hcl⟩
  refine vk_copyt (D := kD k) (A := nA s.heap.size) hx hb (hml.trans hl.1.symm) hown (htg _ w_392) (htg _ w_394) (htg _ w_393) (htg _ w_43) hGx.1 hY2 (va_D1 hx2) hS1 hX 0 2 rfl rfl (by decide) (by decide) hz0 (by show 0 + z.toNatClampNeg ≤ 16; omega) (by show 0 + z.toNatClampNeg ≤ z.toNatClampNeg; omega) (fun i _ => hf _) (Nat.le_of_ble_eq_true rfl) (Nat.le_of_ble_eq_true rfl) dJ7_copyOfRangeByte_39247_27 (fun H2 locs hP2 _ hS2 => ?_)
  refine m_forget (locs := []) (ex := locs) (fun q hq => hS2.2.2 q hq) ?_
  refine lv_aload hx hb dJ7_copyOfRangeByte_39247_30 (lv_at hl 0 rfl) ?_
  refine W.widen (k := 1) (n := 16) (Nat.le_of_ble_eq_true rfl) (by show 0 + 0 + z.toNatClampNeg ≤ 16; omega) ?_
  exact W.aret (v := .ref x2) hx hb hr (Or.inr ⟨_, rfl⟩) (Or.inr ⟨_, rfl⟩) (fun t2 ht _ => ⟨⟨x2, _, rfl, hx2, sb_fitC hf sb_fit0, by rw [ht]; exact hP2⟩, by rw [ht]; exact hS2.1, fun q h1 _ => by rw [ht]; exact hS2.2.1 q h1 (Nat.not_le.mpr h1)⟩) (fun _ h => absurd h List.not_mem_nil) dJ7_copyOfRangeByte_39247_32
theorem kk_J7_copyOfRange_39247 : pK yJ7_copyOfRange_39247 wsJ7_copyOfRange_39247 cJ7_copyOfRange_39247 3 (some (.array .byte)) 3 := ⟨⟨_, rfl⟩, by decide +kernel, by decide +kernel, by decide +kernel⟩
set_option maxRecDepth 100000 in
set_option maxHeartbeats 4000000 in
theorem c_J7_copyOfRange_39247 (l : Launch) (k : Kx) (c0 : Nat) (f : Nat → Int32) (z : Int32) (hz0 : ¬ z < 0) (hz1 : z.toNatClampNeg < 16) : Met l yJ7_copyOfRange_39247 wsJ7_copyOfRange_39247 { frames := 2, cells := 1, slots := 16, locals := 120 } (va_Pc [.ref c0, .int 0, .int z] (ryPc k c0 f)) (ryQ k z.toNatClampNeg) 1 16 (fun _ => False) := by
  refine Met.ofW (cc := cJ7_copyOfRange_39247) (maxL := 3) (ret := (some (.array .byte))) (by decide) rfl ?_
  intro p e s m args below meth c s₁ B hml hv
  obtain ⟨rfl, hGx, hY, hf⟩ := hv
  have hx := B.exec
  have hb := B.bytes
  have hr := B.returns
  have hts9 := atoms_spec (ws := wsJ7_copyOfRange_39247) B.pre
  have hown : s.vm.findClass RJ7 = some m.cls := findClass_of_methodNamed B.named
  have hlocks := B.notSynchronized
  have htg : ∀ w ∈ GL, w.before _ s = true := fun w h => hts9 w (List.mem_cons_of_mem _ h)
  have hC : CallFix p m c cJ7_copyOfRange_39247 3 s _ wsJ7_copyOfRange_39247 RJ7 := ⟨hx, hb, hml, hown, hts9⟩
  have hl := lv_entry ([.ref c0, .int 0, .int z]) (n := 3) (Nat.le_of_ble_eq_true rfl)
  rw [lg_entry_eq]
  generalize (lg_sl ([.ref c0, .int 0, .int z]) ++ List.replicate (3 - (lg_sl ([.ref c0, .int 0, .int z])).length) Slot.unset).toArray = ls at hl ⊢
  have hl : lv_has ls 3 [(0, .ref c0), (1, .int 0), (2, .int z)] := hl
  refine lv_iload_n hx hb dJ7_copyOfRange_39247_0 rfl (lv_at hl 1 rfl) ?_
  refine lv_if_ne (tgt := 10) hx hb dJ7_copyOfRange_39247_1 (by decide) (fun h => absurd rfl h) (fun _ => ?_)
  refine lv_iload_n hx hb dJ7_copyOfRange_39247_4 rfl (lv_at hl 2 rfl) ?_
  refine lv_aload_n hx hb dJ7_copyOfRange_39247_5 rfl (lv_at hl 0 rfl) ?_
  refine va_alen (D := kD k) (v := 16) hx hb hGx.1 hY 0 2 rfl rfl (show Int32.ofNat 16 = 16 by decide) dJ7_copyOfRange_39247_6 ?_
  refine lv_icmp_eq (tgt := 17) hx hb dJ7_copyOfRange_39247_7 (by decide) (fun h => absurd hz1 (by rw [h]; decide)) (fun _ => ?_)
  refine lv_aload_n hx hb dJ7_copyOfRange_39247_10 rfl (lv_at hl 0 rfl) ?_
  refine lv_iload_n hx hb dJ7_copyOfRange_39247_11 rfl (lv_at hl 1 rfl) ?_
  refine lv_iload_n hx hb dJ7_copyOfRange_39247_12 rfl (lv_at hl 2 rfl) ?_
  refine run_go (rest := []) (va_runS (rest := []) (As := [.ref c0, .int 0, .int z]) hC (c_J7_copyOfRangeByte_39247 l k c0 f z hz0 hz1) (va_cwS 3 hC.2.2.2.2 (gS w_505 w_506 w_42 w_507) kk_J7_copyOfRangeByte_39247.1.choose_spec rfl rfl kk_J7_copyOfRangeByte_39247.2 ⟨Nat.le_of_ble_eq_true rfl, Nat.le_of_ble_eq_true rfl⟩) ⟨ryPc.blind, fun U hU hW => ⟨rfl, hGx.at (A := fun _ => False) va_S.rf (fun _ h => h.elim) hU hW, by rw [hU]; exact hY, hf⟩⟩ rfl rfl hl.1 rfl (lv_room (Nat.le_of_ble_eq_true rfl)) dJ7_copyOfRange_39247_13 ⟨Nat.le_of_ble_eq_true rfl, Nat.le_of_ble_eq_true rfl⟩) (fun v st₀ t L h0 hW ⟨⟨x2, g, hv, hx2, hg, hY2⟩, hz, hq⟩ hL => ?_)
  cases hv
  rw [h0] at hx2 hz hq
  refine m_forget (locs := []) (fun q hq => (hL q hq).elim) ?_
  exact W.aret (v := .ref x2) hx hb hr (Or.inr ⟨_, rfl⟩) (Or.inr ⟨_, rfl⟩) (fun t2 ht _ => ⟨⟨x2, g, rfl, hx2, hg, by rw [ht]; exact hY2⟩, by rw [ht]; exact hz, fun q h1 h2 => by rw [ht]; exact hq q h1 h2⟩) (fun _ h => absurd h List.not_mem_nil) dJ7_copyOfRange_39247_16
