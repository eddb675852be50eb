theorem kk_J5_init_d00df : pK yJ5_init_d00df wsJ5_init_d00df cJ5_init_d00df 2 none 1 := ⟨⟨_, rfl⟩, by decide +kernel, by decide +kernel, by decide +kernel⟩
set_option maxRecDepth 100000 in
set_option maxHeartbeats 4000000 in
theorem c_J5_init_d00df (l : Launch) (k : Kx) (x : Nat) : Met l yJ5_init_d00df wsJ5_init_d00df { frames := 1, cells := 1, slots := 16, locals := 40 } (va_Pc [.ref x, .int 16] (niPc k x)) (niQ k x) 1 16 (fun q => q = x) := by
  refine Met.ofW (cc := cJ5_init_d00df) (maxL := 2) (ret := none) (by decide) rfl ?_
  intro p e s m args below meth c s₁ B hml hv
  obtain ⟨rfl, hGx, hN, hxb⟩ := hv
  have hx := B.exec
  have hb := B.bytes
  have hr := B.returns
  have hts9 := atoms_spec (ws := wsJ5_init_d00df) B.pre
  have hown : s.vm.findClass RJ5 = some m.cls := findClass_of_methodNamed B.named
  have hlocks := B.notSynchronized
  have htg : ∀ w ∈ GL, w.before _ s = true := fun w h => hts9 w (List.mem_cons_of_mem _ h)
  have hC : CallFix p m c cJ5_init_d00df 2 s _ wsJ5_init_d00df RJ5 := ⟨hx, hb, hml, hown, hts9⟩
  have hl := lv_entry ([.ref x, .int 16]) (n := 2) (Nat.le_of_ble_eq_true rfl)
  rw [lg_entry_eq]
  generalize (lg_sl ([.ref x, .int 16]) ++ List.replicate (2 - (lg_sl ([.ref x, .int 16])).length) Slot.unset).toArray = ls at hl ⊢
  have hl : lv_has ls 2 [(0, .ref x), (1, .int 16)] := hl
  have hxl : x < s.heap.size := (hN 0 _ rfl).lt
  refine lv_aload_n hx hb dJ5_init_d00df_0 rfl (lv_at hl 0 rfl) ?_
  refine W.objInit hx hb hown (htg _ w_333) (htg _ w_54) (htg _ w_55) rfl (by rw [hml]; exact hl.1) rfl dJ5_init_d00df_1 (Nat.le_of_ble_eq_true rfl) (Nat.le_of_ble_eq_true rfl) ?_
  refine W.eq (g2 := F0 m 4 ls []) rfl ?_
  refine va_gets hx hb (gx_cs hGx) va_S.rf hown (htg _ w_334) (fun _ h9 => h9) dJ5_init_d00df_4 ?_
  refine lv_if_eq (tgt := 25) hx hb dJ5_init_d00df_7 (by decide) (fun h => absurd h (by decide)) (fun _ => ?_)
  refine lv_aload_n hx hb dJ5_init_d00df_10 rfl (lv_at hl 0 rfl) ?_
  refine lv_iload_n hx hb dJ5_init_d00df_11 rfl (lv_at hl 1 rfl) ?_
  refine y_new (n := 16) (A := fun _ => False) hx hb (htg _ w_144) hGx va_S.rf (by decide) (by decide) (by decide) ⟨Nat.le_of_ble_eq_true rfl, Nat.le_of_ble_eq_true rfl⟩ dJ5_init_d00df_12 (fun x2 H1 hx2 hz1 hY hq1 _ => ?_)
  have hN1 : nB k x H1 := va_P.up1 hN (fun h => hq1 x h)
  have hxne : x2 ≠ x := Nat.ne_of_gt (Nat.lt_of_lt_of_le hxl hx2)
  refine va_put (D := kD k) (ci := 1) (v := .ref x2) (ty := .array .byte) (C := RJ4) (T := TJ4) (N := 4) (H0 := H1) hx hb htg inG_J4 tyJ4 tyJ4_ok nmJ4 hown hGx.1 hN1 (va_D1 (A := fun q => q = x) rfl) (va_S.rf (A := fun q => q = x)) 0 rfl rfl 0 (by decide) (htg _ w_342) (fun _ h9 => h9) rfl (by decide +kernel) rfl rfl (Nat.le_of_ble_eq_true rfl) dJ5_init_d00df_14 (fun H2 locs2 hP2 _ hS2 => ?_)
  refine lv_aload_n hx hb dJ5_init_d00df_17 rfl (lv_at hl 0 rfl) ?_
  refine lv_iconst (v := 0) hx hb dJ5_init_d00df_18 (by decide) ?_
  refine va_put (D := kD k) (ci := 1) (v := .int 0) (ty := .byte) (C := RJ4) (T := TJ4) (N := 4) (H0 := H1) hx hb htg inG_J4 tyJ4 tyJ4_ok nmJ4 hown hGx.1 hP2 (va_D1 (A := fun q => q = x) rfl) hS2 0 rfl rfl 1 (by decide) (htg _ w_343) (fun _ h9 => h9) rfl (by decide +kernel) rfl rfl (Nat.le_of_ble_eq_true rfl) dJ5_init_d00df_19 (fun H3 locs3 hP3 _ hS3 => ?_)
  refine lv_goto (tgt := 38) hx hb dJ5_init_d00df_22 (by decide) ?_
  have hY3 : yP k x2 16 (fun _ => 0) H3 := va_P.up1 hY (fun h => hS3.2.1 x2 h hxne)
  exact W.vret hx hb hr (fun t ht _ => ⟨rfl, ⟨x2, hx2, _, sb_fit0, by rw [ht]; exact va_P.app (w1 := [(x, _)]) (w2 := [(x2, _)]) hP3 hY3⟩, by rw [ht]; exact Nat.le_trans hz1 hS3.1, fun q h1 h2 => by rw [ht, hS3.2.1 q (Nat.lt_of_lt_of_le h1 hz1) h2]; exact hq1 q h1⟩) hS3.2.2 dJ5_init_d00df_38
theorem kk_J4_init_da8c8 : pK yJ4_init_da8c8 wsJ4_init_da8c8 cJ4_init_da8c8 1 none 0 := ⟨⟨_, rfl⟩, by decide +kernel, by decide +kernel, by decide +kernel⟩
set_option maxRecDepth 100000 in
set_option maxHeartbeats 4000000 in
theorem c_J4_init_da8c8 (l : Launch) (k : Kx) (x : Nat) : Met l yJ4_init_da8c8 wsJ4_init_da8c8 { frames := 2, cells := 1, slots := 16, locals := 80 } (va_Pc [.ref x] (niPc k x)) (niQ k x) 1 16 (fun q => q = x) := by
  refine Met.ofW (cc := cJ4_init_da8c8) (maxL := 1) (ret := none) (by decide) rfl ?_
  intro p e s m args below meth c s₁ B hml hv
  obtain ⟨rfl, hGx, hN, hxb⟩ := hv
  have hx := B.exec
  have hb := B.bytes
  have hr := B.returns
  have hts9 := atoms_spec (ws := wsJ4_init_da8c8) B.pre
  have hown : s.vm.findClass RJ4 = some m.cls := findClass_of_methodNamed B.named
  have hlocks := B.notSynchronized
  have htg : ∀ w ∈ GL, w.before _ s = true := fun w h => hts9 w (List.mem_cons_of_mem _ h)
  have hC : CallFix p m c cJ4_init_da8c8 1 s _ wsJ4_init_da8c8 RJ4 := ⟨hx, hb, hml, hown, hts9⟩
  have hl := lv_entry ([.ref x]) (n := 1) (Nat.le_of_ble_eq_true rfl)
  rw [lg_entry_eq]
  generalize (lg_sl ([.ref x]) ++ List.replicate (1 - (lg_sl ([.ref x])).length) Slot.unset).toArray = ls at hl ⊢
  have hl : lv_has ls 1 [(0, .ref x)] := hl
  refine lv_aload_n hx hb dJ4_init_da8c8_0 rfl (lv_at hl 0 rfl) ?_
  refine lv_bipush (v := 16) hx hb dJ4_init_da8c8_1 (by decide) ?_
  refine run_go (rest := []) (va_runI (rest := []) (b := x) (As := [.int 16]) hC (c_J5_init_d00df l k x) ⟨callB_of 1 hC.2.2.2.2 (gC w_332) kk_J5_init_d00df.1.choose_spec rfl rfl (htg _ w_37) (htg _ w_330) kk_J5_init_d00df.2 ⟨Nat.le_of_ble_eq_true rfl, Nat.le_of_ble_eq_true rfl⟩, rfl, (htg _ w_331)⟩ ⟨niPc.blind, fun U hU hW => ⟨rfl, hGx.at (A := fun _ => False) va_S.rf (fun _ h => h.elim) hU hW, by rw [hU]; exact hN, hxb⟩⟩ rfl rfl hl.1 rfl (lv_room (Nat.le_of_ble_eq_true rfl)) dJ4_init_da8c8_3 ⟨Nat.le_of_ble_eq_true rfl, Nat.le_of_ble_eq_true rfl⟩) (fun v st₀ t L h0 hW ⟨hv, ⟨x2, hx2, hB⟩, hz, hq⟩ hL => ?_)
  cases hv
  rw [h0] at hx2 hz hq
  exact W.vret hx hb hr (fun t2 ht _ => ⟨rfl, ⟨x2, hx2, by rw [ht]; exact hB⟩, by rw [ht]; exact hz, fun q h4 h5 => by rw [ht]; exact hq q h4 h5⟩) (fun q hq => hL q hq) dJ4_init_da8c8_6
theorem kk_J7_checkLength_df160 : pK yJ7_checkLength_df160 wsJ7_checkLength_df160 cJ7_checkLength_df160 2 none 2 := ⟨⟨_, rfl⟩, by decide +kernel, by decide +kernel, by decide +kernel⟩
set_option maxRecDepth 100000 in
set_option maxHeartbeats 4000000 in
theorem c_J7_checkLength_df160 (l : Launch) (p0 p1 : Int32) (hp : p0 ≤ p1) : Met l yJ7_checkLength_df160 wsJ7_checkLength_df160 { frames := 0, cells := 0, slots := 0, locals := 0 } (fun v _ => v = ([.int p0, .int p1] : List Value).toArray) pQ0 0 0 (fun _ => False) := by
  refine Met.ofW (cc := cJ7_checkLength_df160) (maxL := 2) (ret := none) (by decide) rfl ?_
  intro p e s m args below meth c s₁ B hml hv
  obtain rfl := hv
  have hx := B.exec
  have hb := B.bytes
  have hr := B.returns
  have hts9 := atoms_spec (ws := wsJ7_checkLength_df160) B.pre
  have hown : s.vm.findClass RJ7 = some m.cls := findClass_of_methodNamed B.named
  have hlocks := B.notSynchronized
  have htg : ∀ w ∈ GL, w.before _ s = true := fun w h => hts9 w (List.mem_cons_of_mem _ h)
  have hC : CallFix p m c cJ7_checkLength_df160 2 s _ wsJ7_checkLength_df160 RJ7 := ⟨hx, hb, hml, hown, hts9⟩
  have hl := lv_entry ([.int p0, .int p1]) (n := 2) (Nat.le_of_ble_eq_true rfl)
  rw [lg_entry_eq]
  generalize (lg_sl ([.int p0, .int p1]) ++ List.replicate (2 - (lg_sl ([.int p0, .int p1])).length) Slot.unset).toArray = ls at hl ⊢
  have hl : lv_has ls 2 [(0, .int p0), (1, .int p1)] := hl
  refine lv_iload_n hx hb dJ7_checkLength_df160_0 rfl (lv_at hl 1 rfl) ?_
  refine lv_iload_n hx hb dJ7_checkLength_df160_1 rfl (lv_at hl 0 rfl) ?_
  refine lv_icmp_ge (tgt := 37) hx hb dJ7_checkLength_df160_2 (by decide) (fun _ => ?_) (fun h => absurd hp h)
  exact W.vret hx hb hr (fun t ht _ => ⟨rfl, ht⟩) (fun _ h => absurd h List.not_mem_nil) dJ7_checkLength_df160_37
theorem kk_J7_copyOfRangeByte_39247 : pK yJ7_copyOfRangeByte_39247 wsJ7_copyOfRangeByte_39247 cJ7_copyOfRangeByte_39247 5 (some (.array .byte)) 3 := ⟨⟨_, rfl⟩, by decide +kernel, by decide +kernel, by decide +kernel⟩
set_option maxRecDepth 100000 in
set_option maxHeartbeats 4000000 in
theorem c_J7_copyOfRangeByte_39247 (l : Launch) (k : Kx) (c0 : Nat) (f : Nat → Int32) (z : Int32) (hz0 : ¬ z < 0) (hz1 : z.toNatClampNeg < 16) : Met l yJ7_copyOfRangeByte_39247 wsJ7_copyOfRangeByte_39247 { frames := 1, cells := 1, slots := 16, locals := 60 } (va_Pc [.ref c0, .int 0, .int z] (ryPc k c0 f)) (ryQ k z.toNatClampNeg) 1 16 (fun _ => False) := by
  refine Met.ofW (cc := cJ7_copyOfRangeByte_39247) (maxL := 5) (ret := (some (.array .byte))) (by decide) rfl ?_
  intro p e s m args below meth c s₁ B hml hv
  obtain ⟨rfl, hGx, hY, hf⟩ := hv
  have hx := B.exec
  have hb := B.bytes
  have hr := B.returns
  have hts9 := atoms_spec (ws := wsJ7_copyOfRangeByte_39247) B.pre
  have hown : s.vm.findClass RJ7 = some m.cls := findClass_of_methodNamed B.named
  have hlocks := B.notSynchronized
  have htg : ∀ w ∈ GL, w.before _ s = true := fun w h => hts9 w (List.mem_cons_of_mem _ h)
  have hC : CallFix p m c cJ7_copyOfRangeByte_39247 5 s _ wsJ7_copyOfRangeByte_39247 RJ7 := ⟨hx, hb, hml, hown, hts9⟩
  have hl := lv_entry ([.ref c0, .int 0, .int z]) (n := 5) (Nat.le_of_ble_eq_true rfl)
  rw [lg_entry_eq]
  generalize (lg_sl ([.ref c0, .int 0, .int z]) ++ List.replicate (5 - (lg_sl ([.ref c0, .int 0, .int z])).length) Slot.unset).toArray = ls at hl ⊢
  have hl : lv_has ls 5 [(0, .ref c0), (1, .int 0), (2, .int z)] := hl
  have hcl : c0 < s.heap.size := (hY 0 _ rfl).lt
  refine lv_iload_n hx hb dJ7_copyOfRangeByte_39247_0 rfl (lv_at hl 1 rfl) ?_
  refine lv_iload_n hx hb dJ7_copyOfRangeByte_39247_1 rfl (lv_at hl 2 rfl) ?_
  refine run_go (rest := []) (va_runS (rest := []) (As := [.int 0, .int z]) hC (c_J7_checkLength_df160 l 0 z (Int32.not_lt.mp hz0)) (va_cwS 2 hC.2.2.2.2 (gS w_508 w_509 w_42 w_510) kk_J7_checkLength_df160.1.choose_spec rfl rfl kk_J7_checkLength_df160.2 ⟨Nat.le_of_ble_eq_true rfl, Nat.le_of_ble_eq_true rfl⟩) preEq rfl rfl hl.1 rfl (lv_room (Nat.le_of_ble_eq_true rfl)) dJ7_copyOfRangeByte_39247_2 ⟨Nat.le_of_ble_eq_true rfl, Nat.le_of_ble_eq_true rfl⟩) (fun v st₀ t L h0 hW ⟨hv, hh⟩ hL => ?_)
  cases hv
  rw [hh, h0]
  refine m_forget (locs := []) (fun q hq => (hL q hq).elim) ?_
  refine W.eq (g2 := F0 m 5 ls []) rfl ?_
  refine lv_iload_n hx hb dJ7_copyOfRangeByte_39247_5 rfl (lv_at hl 2 rfl) ?_
  refine lv_iload_n hx hb dJ7_copyOfRangeByte_39247_6 rfl (lv_at hl 1 rfl) ?_
  refine lv_isub hx hb dJ7_copyOfRangeByte_39247_7 ?_
  rw [Int32.sub_zero]
  refine lv_istore_n (lv' := [(3, .int z), (0, .ref c0), (1, .int 0), (2, .int z)]) hx hb dJ7_copyOfRangeByte_39247_8 rfl hl (by decide) rfl (fun ls hl => ?_)
  refine lv_iload_n hx hb dJ7_copyOfRangeByte_39247_9 rfl (lv_at hl 0 rfl) ?_
  have hzs : z.toNatClampNeg ≤ 16 := Nat.le_of_lt hz1
  refine y_new (n := z.toNatClampNeg) (A := nA s.heap.size) hx hb (htg _ w_144) hGx va_S.rf hz0 rfl (by show z.toNatClampNeg * 1 ≤ _; omega) ⟨Nat.le_of_ble_eq_true rfl, (by show 0 + 0 + z.toNatClampNeg ≤ 16; omega)⟩ dJ7_copyOfRangeByte_39247_10 (fun x2 H1 hx2 hsz1 hY2 hq1 hS1 => ?_)
  refine lv_astore (lv' := [(4, .ref x2), (3, .int z), (0, .ref c0), (1, .int 0), (2, .int z)]) hx hb dJ7_copyOfRangeByte_39247_12 hl (by decide) rfl (fun ls hl => ?_)
  refine lv_aload_n hx hb dJ7_copyOfRangeByte_39247_14 rfl (lv_at hl 2 rfl) ?_
  refine lv_iload_n hx hb dJ7_copyOfRangeByte_39247_15 rfl (lv_at hl 3 rfl) ?_
  refine lv_aload hx hb dJ7_copyOfRangeByte_39247_16 (lv_at hl 0 rfl) ?_
  refine lv_iconst (v := 0) hx hb dJ7_copyOfRangeByte_39247_18 (by decide) ?_
  refine lv_aload_n hx hb dJ7_copyOfRangeByte_39247_19 rfl (lv_at hl 2 rfl) ?_
  have hY1 : yP k c0 16 f H1 := va_P.up1 hY (fun h => hq1 c0 h)
  refine va_alen (D := kD k) (v := 16) hx hb hGx.1 hY1 0 2 rfl rfl (show Int32.ofNat 16 = 16 by decide) dJ7_copyOfRangeByte_39247_20 ?_
  refine lv_iload_n hx hb dJ7_copyOfRangeByte_39247_21 rfl (lv_at hl 3 rfl) ?_
  refine lv_isub hx hb dJ7_copyOfRangeByte_39247_22 ?_
  refine lv_iload_n hx hb dJ7_copyOfRangeByte_39247_23 rfl (lv_at hl 1 rfl) ?_
  refine va_mmin hx hb (hml.trans hl.1.symm) hown (htg _ w_391) (htg _ w_215) (htg _ w_36) (htg _ w_216) (Nat.le_of_ble_eq_true rfl) (Nat.le_of_ble_eq_true rfl) (Nat.le_of_ble_eq_true rfl) (by show 0 + 0 + z.toNatClampNeg ≤ 16; omega) dJ7_copyOfRangeByte_39247_24 ?_
  rw [min16 hz0 hz1]
  have hX : va_T .byte c0 16 (fun j => .int (f j)) (nA s.heap.size) s s.heap := ⟨arrV (kY k) 16 (fun j => .int (f j)), hY 0 _ rfl, (hGx.1.2 2 _ rfl).1 16 _, (fun q => by cases q), (Nat.le_of_eq (arrV_size _ _ _).symm), (by rw [arrV_size] <;> rfl), fun j hj => arrV_read _ _ hj, Nat.not_le.mpr hcl⟩
  refine vk_copyt (D := kD k) (A := nA s.heap.size) hx hb (hml.trans hl.1.symm) hown (htg _ w_392) (htg _ w_394) (htg _ w_393) (htg _ w_43) hGx.1 hY2 (va_D1 hx2) hS1 hX 0 2 rfl rfl (by decide) (by decide) hz0 (by show 0 + z.toNatClampNeg ≤ 16; omega) (by show 0 + z.toNatClampNeg ≤ z.toNatClampNeg; omega) (fun i _ => hf _) (Nat.le_of_ble_eq_true rfl) (Nat.le_of_ble_eq_true rfl) dJ7_copyOfRangeByte_39247_27 (fun H2 locs hP2 _ hS2 => ?_)
  refine m_forget (locs := []) (ex := locs) (fun q hq => hS2.2.2 q hq) ?_
  refine lv_aload hx hb dJ7_copyOfRangeByte_39247_30 (lv_at hl 0 rfl) ?_
  refine W.widen (k := 1) (n := 16) (Nat.le_of_ble_eq_true rfl) (by show 0 + 0 + z.toNatClampNeg ≤ 16; omega) ?_
  exact W.aret (v := .ref x2) hx hb hr (Or.inr ⟨_, rfl⟩) (Or.inr ⟨_, rfl⟩) (fun t2 ht _ => ⟨⟨x2, _, rfl, hx2, sb_fitC hf sb_fit0, by rw [ht]; exact hP2⟩, by rw [ht]; exact hS2.1, fun q h1 _ => by rw [ht]; exact hS2.2.1 q h1 (Nat.not_le.mpr h1)⟩) (fun _ h => absurd h List.not_mem_nil) dJ7_copyOfRangeByte_39247_32
theorem kk_J7_copyOfRange_39247 : pK yJ7_copyOfRange_39247 wsJ7_copyOfRange_39247 cJ7_copyOfRange_39247 3 (some (.array .byte)) 3 := ⟨⟨_, rfl⟩, by decide +kernel, by decide +kernel, by decide +kernel⟩
set_option maxRecDepth 100000 in
set_option maxHeartbeats 4000000 in
theorem c_J7_copyOfRange_39247 (l : Launch) (k : Kx) (c0 : Nat) (f : Nat → Int32) (z : Int32) (hz0 : ¬ z < 0) (hz1 : z.toNatClampNeg < 16) : Met l yJ7_copyOfRange_39247 wsJ7_copyOfRange_39247 { frames := 2, cells := 1, slots := 16, locals := 120 } (va_Pc [.ref c0, .int 0, .int z] (ryPc k c0 f)) (ryQ k z.toNatClampNeg) 1 16 (fun _ => False) := by
  refine Met.ofW (cc := cJ7_copyOfRange_39247) (maxL := 3) (ret := (some (.array .byte))) (by decide) rfl ?_
  intro p e s m args below meth c s₁ B hml hv
  obtain ⟨rfl, hGx, hY, hf⟩ := hv
  have hx := B.exec
  have hb := B.bytes
  have hr := B.returns
  have hts9 := atoms_spec (ws := wsJ7_copyOfRange_39247) B.pre
  have hown : s.vm.findClass RJ7 = some m.cls := findClass_of_methodNamed B.named
  have hlocks := B.notSynchronized
  have htg : ∀ w ∈ GL, w.before _ s = true := fun w h => hts9 w (List.mem_cons_of_mem _ h)
  have hC : CallFix p m c cJ7_copyOfRange_39247 3 s _ wsJ7_copyOfRange_39247 RJ7 := ⟨hx, hb, hml, hown, hts9⟩
  have hl := lv_entry ([.ref c0, .int 0, .int z]) (n := 3) (Nat.le_of_ble_eq_true rfl)
  rw [lg_entry_eq]
  generalize (lg_sl ([.ref c0, .int 0, .int z]) ++ List.replicate (3 - (lg_sl ([.ref c0, .int 0, .int z])).length) Slot.unset).toArray = ls at hl ⊢
  have hl : lv_has ls 3 [(0, .ref c0), (1, .int 0), (2, .int z)] := hl
  refine lv_iload_n hx hb dJ7_copyOfRange_39247_0 rfl (lv_at hl 1 rfl) ?_
  refine lv_if_ne (tgt := 10) hx hb dJ7_copyOfRange_39247_1 (by decide) (fun h => absurd rfl h) (fun _ => ?_)
  refine lv_iload_n hx hb dJ7_copyOfRange_39247_4 rfl (lv_at hl 2 rfl) ?_
  refine lv_aload_n hx hb dJ7_copyOfRange_39247_5 rfl (lv_at hl 0 rfl) ?_
  refine va_alen (D := kD k) (v := 16) hx hb hGx.1 hY 0 2 rfl rfl (show Int32.ofNat 16 = 16 by decide) dJ7_copyOfRange_39247_6 ?_
  refine lv_icmp_eq (tgt := 17) hx hb dJ7_copyOfRange_39247_7 (by decide) (fun h => absurd hz1 (by rw [h]; decide)) (fun _ => ?_)
  refine lv_aload_n hx hb dJ7_copyOfRange_39247_10 rfl (lv_at hl 0 rfl) ?_
  refine lv_iload_n hx hb dJ7_copyOfRange_39247_11 rfl (lv_at hl 1 rfl) ?_
  refine lv_iload_n hx hb dJ7_copyOfRange_39247_12 rfl (lv_at hl 2 rfl) ?_
  refine run_go (rest := []) (va_runS (rest := []) (As := [.ref c0, .int 0, .int z]) hC (c_J7_copyOfRangeByte_39247 l k c0 f z hz0 hz1) (va_cwS 3 hC.2.2.2.2 (gS w_505 w_506 w_42 w_507) kk_J7_copyOfRangeByte_39247.1.choose_spec rfl rfl kk_J7_copyOfRangeByte_39247.2 ⟨Nat.le_of_ble_eq_true rfl, Nat.le_of_ble_eq_true rfl⟩) ⟨ryPc.blind, fun U hU hW => ⟨rfl, hGx.at (A := fun _ => False) va_S.rf (fun _ h => h.elim) hU hW, by rw [hU]; exact hY, hf⟩⟩ rfl rfl hl.1 rfl (lv_room (Nat.le_of_ble_eq_true rfl)) dJ7_copyOfRange_39247_13 ⟨Nat.le_of_ble_eq_true rfl, Nat.le_of_ble_eq_true rfl⟩) (fun v st₀ t L h0 hW ⟨⟨x2, g, hv, hx2, hg, hY2⟩, hz, hq⟩ hL => ?_)
  cases hv
  rw [h0] at hx2 hz hq
  refine m_forget (locs := []) (fun q hq => (hL q hq).elim) ?_
  exact W.aret (v := .ref x2) hx hb hr (Or.inr ⟨_, rfl⟩) (Or.inr ⟨_, rfl⟩) (fun t2 ht _ => ⟨⟨x2, g, rfl, hx2, hg, by rw [ht]; exact hY2⟩, by rw [ht]; exact hz, fun q h1 h2 => by rw [ht]; exact hq q h1 h2⟩) (fun _ h => absurd h List.not_mem_nil) dJ7_copyOfRange_39247_16
theorem kk_J0_init_db425 : pK yJ0_init_db425 wsJ0_init_db425 cJ0_init_db425 5 none 2 := ⟨⟨_, rfl⟩, by decide +kernel, by decide +kernel, by decide +kernel⟩
set_option maxRecDepth 100000 in
set_option maxHeartbeats 4000000 in
theorem c_J0_init_db425 (l : Launch) (k : Kx) (x : Nat) (a : Nat × Nat) (z : Int32) (hz0 : ¬ z < 0) (hz1 : z.toNatClampNeg < 16) : Met l yJ0_init_db425 wsJ0_init_db425 { frames := 3, cells := 1, slots := 16, locals := 180 } (va_Pc [.ref x, .ref a.1, .null] (tiPc k x a z)) (tiQ k x a z.toNatClampNeg) 1 16 (x2A a x) := by
  refine Met.ofW (cc := cJ0_init_db425) (maxL := 5) (ret := none) (by decide) rfl ?_
  intro p e s m args below meth c s₁ B hml hv
  obtain ⟨rfl, hGx, hN, hxb, hxa, ⟨hne, hab⟩, hP⟩ := hv
  have hx := B.exec
  have hb := B.bytes
  have hr := B.returns
  have hts9 := atoms_spec (ws := wsJ0_init_db425) B.pre
  have hown : s.vm.findClass RJ0 = some m.cls := findClass_of_methodNamed B.named
  have hlocks := B.notSynchronized
  have htg : ∀ w ∈ GL, w.before _ s = true := fun w h => hts9 w (List.mem_cons_of_mem _ h)
  have hC : CallFix p m c cJ0_init_db425 5 s _ wsJ0_init_db425 RJ0 := ⟨hx, hb, hml, hown, hts9⟩
  have hl := lv_entry ([.ref x, .ref a.1, .null]) (n := 5) (Nat.le_of_ble_eq_true rfl)
  rw [lg_entry_eq]
  generalize (lg_sl ([.ref x, .ref a.1, .null]) ++ List.replicate (5 - (lg_sl ([.ref x, .ref a.1, .null])).length) Slot.unset).toArray = ls at hl ⊢
  have hl : lv_has ls 5 [(0, .ref x), (1, .ref a.1), (2, .null)] := hl
  have hin : meth.name = "<init>" := (name_of_methodNamed B.named B.method).1
  have hxl : x < s.heap.size := (hN 0 _ rfl).lt
  have hal := hP.lt
  have hAB : ∀ q, x2A a x q → kB k ≤ q := fun q h => h.elim (hab q) (fun h => h ▸ hxb)
  have hS : va_S (x2A a x) s.heap s.heap [] := va_S.rf
  refine lv_aload_n hx hb dJ0_init_db425_0 rfl (lv_at hl 0 rfl) ?_
  refine W.objInit hx hb hown (htg _ w_487) (htg _ w_54) (htg _ w_55) rfl (by rw [hml]; exact hl.1) rfl dJ0_init_db425_1 (Nat.le_of_ble_eq_true rfl) (Nat.le_of_ble_eq_true rfl) ?_
  refine W.eq (g2 := F0 m 4 ls []) rfl ?_
  refine lv_aload_n hx hb dJ0_init_db425_4 rfl (lv_at hl 1 rfl) ?_
  refine bc_U hC hGx (k_J5_getValue_6d5f1 l k a z (r := ((), z)) rfl) (gU w_488 w_490 w_491 w_489 w_37 w_492) kk_J5_getValue_6d5f1 hne ⟨Nat.le_of_ble_eq_true rfl, Nat.le_of_ble_eq_true rfl⟩ ⟨Nat.le_of_ble_eq_true rfl, Nat.le_of_ble_eq_true rfl⟩ hP (fun _ h => absurd h List.not_mem_nil) hS (fun _ h => Or.inl h) hAB hl.1 rfl rfl (Nat.le_of_ble_eq_true rfl) dJ0_init_db425_5 (fun H L hP hS hL hz hq => ?_)
  have hN := va_P.up1 hN (fun h => hq x h hxa)
  have hP : bP k a z H := hP
  refine lv_astore_n (lv' := [(3, .ref a.2), (0, .ref x), (1, .ref a.1), (2, .null)]) hx hb dJ0_init_db425_8 rfl hl (by decide) rfl (fun ls hl => ?_)
  refine lv_aload_n hx hb dJ0_init_db425_9 rfl (lv_at hl 2 rfl) ?_
  refine bc_O hC hGx (k_J4_length_8abf5 l k a z (r := (z, z)) rfl) (gO w_493 w_495 w_494 w_496 w_497 w_38 w_498) kk_J4_length_8abf5 (List.mem_cons_of_mem _ w_500) ⟨by decide, by decide, by decide +kernel⟩ hne ⟨Nat.le_of_ble_eq_true rfl, Nat.le_of_ble_eq_true rfl⟩ ⟨Nat.le_of_ble_eq_true rfl, Nat.le_of_ble_eq_true rfl⟩ hP (fun _ h => absurd h List.not_mem_nil) hS (fun _ h => Or.inl h) hAB hl.1 rfl rfl (Nat.le_of_ble_eq_true rfl) dJ0_init_db425_10 (fun H L hP hS hL hz hq => ?_)
  have hN := va_P.up1 hN (fun h => hq x h hxa)
  have hP : bP k a z H := hP
  refine lv_istore (lv' := [(4, .int z), (3, .ref a.2), (0, .ref x), (1, .ref a.1), (2, .null)]) hx hb dJ0_init_db425_13 hl (by decide) rfl (fun ls hl => ?_)
  refine lv_aload_n hx hb dJ0_init_db425_15 rfl (lv_at hl 3 rfl) ?_
  refine bc_U hC hGx (k_J5_isLatin1_aae02 l k a z (r := (1, z)) rfl) (gU w_501 w_397 w_398 w_396 w_37 w_399) kk_J5_isLatin1_aae02 hne ⟨Nat.le_of_ble_eq_true rfl, Nat.le_of_ble_eq_true rfl⟩ ⟨Nat.le_of_ble_eq_true rfl, Nat.le_of_ble_eq_true rfl⟩ hP (fun _ h => absurd h List.not_mem_nil) hS (fun _ h => Or.inl h) hAB hl.1 rfl rfl (Nat.le_of_ble_eq_true rfl) dJ0_init_db425_16 (fun H L hP hS hL hz hq => ?_)
  have hN := va_P.up1 hN (fun h => hq x h hxa)
  have hP : bP k a z H := hP
  refine lv_if_eq (tgt := 41) hx hb dJ0_init_db425_19 (by decide) (fun h => absurd h (show ¬ (1 : Int32) = 0 by decide)) (fun _ => ?_)
  refine lv_aload_n hx hb dJ0_init_db425_22 rfl (lv_at hl 2 rfl) ?_
  refine lv_iconst (v := 0) hx hb dJ0_init_db425_23 (by decide) ?_
  obtain ⟨f, hf, hPf⟩ := hP
  have hP3 : va_P (kD k) vwCl ((x, .inr (0, [.null, .int 0, .int 0, .int 0])) :: bW k a f z) H := va_P.app (w1 := [(x, _)]) hN hPf
  have hD3 : va_D (x2A a x) ((x, .inr (0, [.null, .int 0, .int 0, .int 0])) :: bW k a f z) := va_D.app (w1 := [(x, _)]) (va_D1 (A := x2A a x) (Or.inr rfl)) ((bW.own hne).weaken (fun _ _ _ h => Or.inl h)) (fun i j p q hi hj e => hxa (by
    match i, j, hi, hj with
    | 0, 0, hi, hj => cases hi; cases hj; exact Or.inl e
    | 0, 1, hi, hj => cases hi; cases hj; exact Or.inr e
    | 0, j + 2, _, hj => cases hj
    | i + 1, _, hi, _ => cases hi))
  refine va_putF (D := kD k) (ci := 0) (v := .int 0) (ty := .byte) (C := RJ0) (T := TJ0) (N := 4) (A := x2A a x) (H0 := s.heap) hx hb htg inG_J0 tyJ0 tyJ0_ok nmJ0 hown hGx.1 hP3 hD3 hS 0 rfl rfl 1 (by decide) (htg _ w_566) (fun _ h9 => h9) rfl hin rfl (by decide +kernel) rfl rfl (Nat.le_of_ble_eq_true rfl) dJ0_init_db425_24 (fun H1 locs hP1 _ hS => ?_)
  have hN1 : va_P (kD k) vwCl [(x, .inr (0, [.null, .int 0, .int 0, .int 0]))] H1 := hP1.sub [0] rfl
  have hY1 : yP k a.2 16 f H1 := hP1.sub [2] rfl
  refine lv_aload_n hx hb dJ0_init_db425_27 rfl (lv_at hl 2 rfl) ?_
  refine lv_aload_n hx hb dJ0_init_db425_28 rfl (lv_at hl 1 rfl) ?_
  refine lv_iconst (v := 0) hx hb dJ0_init_db425_29 (by decide) ?_
  refine lv_iload hx hb dJ0_init_db425_30 (lv_at hl 0 rfl) ?_
  refine run_go (rest := [.ref x]) (va_runS (rest := [.ref x]) (As := [.ref a.2, .int 0, .int z]) hC (c_J7_copyOfRange_39247 l k a.2 f z hz0 hz1) (va_cwS 3 hC.2.2.2.2 (gS w_502 w_503 w_42 w_504) kk_J7_copyOfRange_39247.1.choose_spec rfl rfl kk_J7_copyOfRange_39247.2 ⟨Nat.le_of_ble_eq_true rfl, Nat.le_of_ble_eq_true rfl⟩) ⟨ryPc.blind, fun U hU hW => ⟨rfl, hGx.at hS hAB hU hW, by rw [hU]; exact hY1, hf⟩⟩ rfl rfl hl.1 rfl (lv_room (Nat.le_of_ble_eq_true rfl)) dJ0_init_db425_32 ⟨Nat.le_of_ble_eq_true rfl, Nat.le_of_ble_eq_true rfl⟩) (fun v st₀ t L h0 hW9 ⟨⟨x2, g, hv, hx2, hg, hY2⟩, hzz, hqq⟩ hL => ?_)
  cases hv
  rw [h0] at hx2 hzz hqq
  refine m_forget (fun q hq => (hL q hq).elim) ?_
  have hqq : ∀ q : Nat, q < H1.size → t.heap[q]? = H1[q]? := fun q h1 => hqq q h1 (fun h => h)
  have hN2 : va_P (kD k) vwCl [(x, .inr (0, [.null, .int 0, .int 0, .int 0]))] t.heap := va_P.up1 hN1 (fun h => hqq x h)
  have hS2 : va_S (x2A a x) s.heap t.heap locs := ⟨Nat.le_trans hS.1 hzz, fun q h1 h2 => (hqq q (Nat.lt_of_lt_of_le h1 hS.1)).trans (hS.2.1 q h1 h2), hS.2.2⟩
  have hx2x : x2 ≠ x := Nat.ne_of_gt (Nat.lt_of_lt_of_le hxl (Nat.le_trans hS.1 hx2))
  have hxa2 : ¬ x2A a x x2 := fun h => by
    rcases h with (h | h) | h
    · exact Nat.lt_irrefl _ (Nat.lt_of_lt_of_le (h ▸ hal.1) (Nat.le_trans hS.1 hx2))
    · exact Nat.lt_irrefl _ (Nat.lt_of_lt_of_le (h ▸ hal.2) (Nat.le_trans hS.1 hx2))
    · exact hx2x h
  refine va_putF (D := kD k) (ci := 0) (v := .ref x2) (ty := .array .byte) (C := RJ0) (T := TJ0) (N := 4) (A := x2A a x) (H0 := t.heap) hx hb htg inG_J0 tyJ0 tyJ0_ok nmJ0 hown hGx.1 hN2 (va_D1 (A := x2A a x) (Or.inr rfl)) ⟨Nat.le_refl _, fun _ _ _ => rfl, hS2.2.2⟩ 0 rfl rfl 0 (by decide) (htg _ w_565) (fun _ h9 => h9) rfl hin rfl (by decide +kernel) rfl rfl (Nat.le_of_ble_eq_true rfl) dJ0_init_db425_35 (fun H3 locs3 hP5 _ hS3 => ?_)
  have hY3 : yP k x2 z.toNatClampNeg g H3 := va_P.up1 hY2 (fun h => hS3.2.1 x2 h hxa2)
  refine lv_goto (tgt := 97) hx hb dJ0_init_db425_38 (by decide) ?_
  exact W.vret hx hb hr (fun t2 ht _ => ⟨rfl, ⟨x2, g, Nat.le_trans hS.1 hx2, hg, by rw [ht]; exact va_P.app (w1 := [(x, _)]) hP5 hY3⟩, by rw [ht]; exact Nat.le_trans hS2.1 hS3.1, fun q h1 h2 => by rw [ht, hS3.2.1 q (Nat.lt_of_lt_of_le h1 hS2.1) h2]; exact hS2.2.1 q h1 h2⟩) hS3.2.2 dJ0_init_db425_97
theorem kk_J0_init_81219 : pK yJ0_init_81219 wsJ0_init_81219 cJ0_init_81219 2 none 1 := ⟨⟨_, rfl⟩, by decide +kernel, by decide +kernel, by decide +kernel⟩
set_option maxRecDepth 100000 in
set_option maxHeartbeats 4000000 in
theorem c_J0_init_81219 (l : Launch) (k : Kx) (x : Nat) (a : Nat × Nat) (z : Int32) (hz0 : ¬ z < 0) (hz1 : z.toNatClampNeg < 16) : Met l yJ0_init_81219 wsJ0_init_81219 { frames := 4, cells := 1, slots := 16, locals := 220 } (va_Pc [.ref x, .ref a.1] (tiPc k x a z)) (tiQ k x a z.toNatClampNeg) 1 16 (x2A a x) := by
  refine Met.ofW (cc := cJ0_init_81219) (maxL := 2) (ret := none) (by decide) rfl ?_
  intro p e s m args below meth c s₁ B hml hv
  obtain ⟨rfl, hGx, hN, hxb, hxa, hab, hP⟩ := hv
  have hx := B.exec
  have hb := B.bytes
  have hr := B.returns
  have hts9 := atoms_spec (ws := wsJ0_init_81219) B.pre
  have hown : s.vm.findClass RJ0 = some m.cls := findClass_of_methodNamed B.named
  have hlocks := B.notSynchronized
  have htg : ∀ w ∈ GL, w.before _ s = true := fun w h => hts9 w (List.mem_cons_of_mem _ h)
  have hC : CallFix p m c cJ0_init_81219 2 s _ wsJ0_init_81219 RJ0 := ⟨hx, hb, hml, hown, hts9⟩
  have hl := lv_entry ([.ref x, .ref a.1]) (n := 2) (Nat.le_of_ble_eq_true rfl)
  rw [lg_entry_eq]
  generalize (lg_sl ([.ref x, .ref a.1]) ++ List.replicate (2 - (lg_sl ([.ref x, .ref a.1])).length) Slot.unset).toArray = ls at hl ⊢
  have hl : lv_has ls 2 [(0, .ref x), (1, .ref a.1)] := hl
  refine lv_aload_n hx hb dJ0_init_81219_0 rfl (lv_at hl 0 rfl) ?_
  refine lv_aload_n hx hb dJ0_init_81219_1 rfl (lv_at hl 1 rfl) ?_
  refine lv_null hx hb dJ0_init_81219_2 ?_
  refine run_go (rest := []) (va_runI (rest := []) (b := x) (As := [.ref a.1, .null]) hC (c_J0_init_db425 l k x a z hz0 hz1) ⟨callB_of 2 hC.2.2.2.2 (gC w_486) kk_J0_init_db425.1.choose_spec rfl rfl (htg _ w_39) (htg _ w_484) kk_J0_init_db425.2 ⟨Nat.le_of_ble_eq_true rfl, Nat.le_of_ble_eq_true rfl⟩, rfl, (htg _ w_485)⟩ ⟨tiPc.blind, fun U hU hW => ⟨rfl, hGx.at (A := fun _ => False) va_S.rf (fun _ h => h.elim) hU hW, by rw [hU]; exact hN, hxb, hxa, hab, by rw [hU]; exact hP⟩⟩ rfl rfl hl.1 rfl (lv_room (Nat.le_of_ble_eq_true rfl)) dJ0_init_81219_3 ⟨Nat.le_of_ble_eq_true rfl, Nat.le_of_ble_eq_true rfl⟩) (fun v st₀ t L h0 hW9 ⟨hv, ⟨x2, g, hx2, hg, hB⟩, hz, hq⟩ hL => ?_)
  cases hv
  rw [h0] at hx2 hz hq
  exact W.vret hx hb hr (fun t2 ht _ => ⟨rfl, ⟨x2, g, hx2, hg, by rw [ht]; exact hB⟩, by rw [ht]; exact hz, fun q h4 h5 => by rw [ht]; exact hq q h4 h5⟩) (fun q hq => hL q hq) dJ0_init_81219_6
theorem kk_J4_toString_0e30d : pK yJ4_toString_0e30d wsJ4_toString_0e30d cJ4_toString_0e30d 1 (some (.object "java/lang/String")) 0 := ⟨⟨_, rfl⟩, by decide +kernel, by decide +kernel, by decide +kernel⟩
set_option maxRecDepth 100000 in
set_option maxHeartbeats 4000000 in
theorem c_J4_toString_0e30d (l : Launch) (k : Kx) (a : Nat × Nat) (z : Int32) (hz0 : ¬ z < 0) (hz1 : z.toNatClampNeg < 16) : Met l yJ4_toString_0e30d wsJ4_toString_0e30d { frames := 5, cells := 2, slots := 20, locals := 300 } (va_Pc [.ref a.1] (bPc k a z [])) (toQ k a z.toNatClampNeg) 2 20 (b2 a) := by
  refine Met.ofW (cc := cJ4_toString_0e30d) (maxL := 1) (ret := (some (.object "java/lang/String"))) (by decide) rfl ?_
  intro p e s m args below meth c s₁ B hml hv
  obtain ⟨rfl, hGx, ⟨hne, hab⟩, hP, -⟩ := hv
  have hx := B.exec
  have hb := B.bytes
  have hr := B.returns
  have hts9 := atoms_spec (ws := wsJ4_toString_0e30d) B.pre
  have hown : s.vm.findClass RJ4 = some m.cls := findClass_of_methodNamed B.named
  have hlocks := B.notSynchronized
  have htg : ∀ w ∈ GL, w.before _ s = true := fun w h => hts9 w (List.mem_cons_of_mem _ h)
  have hC : CallFix p m c cJ4_toString_0e30d 1 s _ wsJ4_toString_0e30d RJ4 := ⟨hx, hb, hml, hown, hts9⟩
  have hl := lv_entry ([.ref a.1]) (n := 1) (Nat.le_of_ble_eq_true rfl)
  rw [lg_entry_eq]
  generalize (lg_sl ([.ref a.1]) ++ List.replicate (1 - (lg_sl ([.ref a.1])).length) Slot.unset).toArray = ls at hl ⊢
  have hl : lv_has ls 1 [(0, .ref a.1)] := hl
  have hal := hP.lt
  refine nt_new (A := b2 a) hx hb htg hown (htg _ w_479) (htg _ w_480) (htg _ w_39) hGx va_S.rf ⟨Nat.le_of_ble_eq_true rfl, Nat.le_of_ble_eq_true rfl⟩ dJ4_toString_0e30d_0 (fun x H1 hx1 hz1 hN hq1 hS1 => ?_)
  refine lv_dup hx hb dJ4_toString_0e30d_3 rfl ?_
  refine lv_aload_n hx hb dJ4_toString_0e30d_4 rfl (lv_at hl 0 rfl) ?_
  have hxa : ¬ b2 a x := fun h => by
    rcases h with h | h
    · exact Nat.lt_irrefl _ (Nat.lt_of_lt_of_le (h ▸ hal.1) hx1)
    · exact Nat.lt_irrefl _ (Nat.lt_of_lt_of_le (h ▸ hal.2) hx1)
  have hxb : kB k ≤ x := Nat.le_trans hGx.2.1 hx1
  have hP1 : bP k a z H1 := hP.up (fun q h _ => hq1 q h)
  refine run_go (rest := [.ref x]) (va_runI (rest := [.ref x]) (b := x) (As := [.ref a.1]) hC (c_J0_init_81219 l k x a z hz0 (by assumption)) ⟨callB_of 1 hC.2.2.2.2 (gC w_483) kk_J0_init_81219.1.choose_spec rfl rfl (htg _ w_39) (htg _ w_481) kk_J0_init_81219.2 ⟨Nat.le_of_ble_eq_true rfl, Nat.le_of_ble_eq_true rfl⟩, rfl, (htg _ w_482)⟩ ⟨tiPc.blind, fun U hU hW => ⟨rfl, hGx.at hS1 hab hU hW, by rw [hU]; exact hN, hxb, hxa, ⟨hne, hab⟩, by rw [hU]; exact hP1⟩⟩ rfl rfl hl.1 rfl (lv_room (Nat.le_of_ble_eq_true rfl)) dJ4_toString_0e30d_5 ⟨Nat.le_of_ble_eq_true rfl, Nat.le_of_ble_eq_true rfl⟩) (fun v st₀ t L h0 hW9 ⟨hv, ⟨x2, g, hx2, hg, hB⟩, hz, hq⟩ hL => ?_)
  cases hv
  rw [h0] at hx2 hz hq
  have hT : tP s (x, x2) z.toNatClampNeg t.heap := tP.made hGx htg hg hB
  refine m_low ?_
  refine W.eq (g2 := F0 m 8 ls [.ref x]) rfl ?_
  have hqz : s.heap.size ≤ t.heap.size ∧ ∀ q : Nat, q < s.heap.size → ¬ b2 a q → t.heap[q]? = s.heap[q]? := ⟨Nat.le_trans hz1 hz, fun q h1 h2 => (hq q (Nat.lt_of_lt_of_le h1 hz1) (fun h => h.elim h2 (fun h => Nat.lt_irrefl _ (Nat.lt_of_lt_of_le h1 (h ▸ hx1))))).trans (hq1 q h1)⟩
  exact W.aret (v := .ref x) hx hb hr (Or.inl ⟨_, rfl⟩) (Or.inr ⟨_, rfl⟩) (fun t2 ht hW2 => ⟨⟨(x, x2), rfl, hx1, Nat.le_trans hz1 hx2, by rw [ht]; exact hT.moved hW2.alike⟩, by rw [ht]; exact hqz.1, fun q h1 h2 => by rw [ht]; exact hqz.2 q h1 h2⟩) (fun q hq9 => by
    obtain ⟨h1, h2⟩ := List.mem_filter.mp hq9
    exact (hL q h1).elim (fun h => h) (fun h => absurd (of_decide_eq_true h2) (Nat.not_lt.mpr (h ▸ hx1)))) dJ4_toString_0e30d_8
