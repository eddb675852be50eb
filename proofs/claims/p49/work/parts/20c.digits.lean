def l_X3_digits (p1 : Int32) : Nat → Nat → Option Nat
  | 0, _ => none
  | n + 1, len => if p1 ≤ Int32.ofNat len then some len else (o_J4_append_15ec4 1 0).bind fun y1 => (o_J4_append_15ec4 len y1.2).bind fun y2 => if y2.2 < 0 ∨ 16 ≤ y2.2.toNatClampNeg then none else l_X3_digits p1 n y2.2.toNatClampNeg
def o_X3_digits (p0 p1 : Int32) : Option Nat := (o_J4_append_15ec4 0 0).bind fun x1 => (o_J4_append_bf812 p0 x1.2).bind fun x2 => if x2.2 < 0 ∨ 16 ≤ x2.2.toNatClampNeg then none else l_X3_digits p1 4 x2.2.toNatClampNeg
theorem kk_X3_digits : pK yX3_digits wsX3_digits cX3_digits 3 (some (.object "java/lang/String")) 2 := ⟨⟨_, rfl⟩, by decide +kernel, by decide +kernel, by decide +kernel⟩
set_option maxRecDepth 100000 in
set_option maxHeartbeats 4000000 in
theorem k_X3_digits (l : Launch) (k : Kx) (p0 p1 : Int32) {r : Nat} (hm : o_X3_digits p0 p1 = some r) : qT l k yX3_digits wsX3_digits 6 330 20 200 [.int p0, .int p1] [] tNew r := by
  refine Met.ofW (cc := cX3_digits) (maxL := 3) (ret := (some (.object "java/lang/String"))) (by decide) rfl ?_
  intro p e s m args below meth c s₁ B hml hv
  obtain ⟨rfl, hGx, -⟩ := hv
  have hx := B.exec
  have hb := B.bytes
  have hr := B.returns
  have hts9 := atoms_spec (ws := wsX3_digits) B.pre
  have hown : s.vm.findClass RX3 = some m.cls := findClass_of_methodNamed B.named
  have hlocks := B.notSynchronized
  have htg : ∀ w ∈ GL, w.before _ s = true := fun w h => hts9 w (List.mem_cons_of_mem _ h)
  have hC : CallFix p m c cX3_digits 3 s _ wsX3_digits RX3 := ⟨hx, hb, hml, hown, hts9⟩
  have hl := lv_entry ([.int p0, .int p1]) (n := 3) (Nat.le_of_ble_eq_true rfl)
  rw [lg_entry_eq]
  generalize (lg_sl ([.int p0, .int p1]) ++ List.replicate (3 - (lg_sl ([.int p0, .int p1])).length) Slot.unset).toArray = ls at hl ⊢
  have hl : lv_has ls 3 [(0, .int p0), (1, .int p1)] := hl
  have hAB : ∀ q, nA s.heap.size q → kB k ≤ q := fun q h => Nat.le_trans hGx.2.1 h
  have hS : va_S (nA s.heap.size) s.heap s.heap [] := va_S.rf
  obtain ⟨ad, av, hvs, hr0, hr1, -⟩ := gx_text hGx
  unfold o_X3_digits at hm
  obtain ⟨x1, hx1, hm⟩ := Option.bind_eq_some_iff.mp hm
  obtain ⟨x2, hx2, hm⟩ := Option.bind_eq_some_iff.mp hm
  by_cases hg1 : x2.2 < 0 ∨ 16 ≤ x2.2.toNatClampNeg
  · rw [if_pos hg1] at hm; cases hm
  rw [if_neg hg1] at hm
  have J : ∀ (n : Nat) (t : Nat × Nat) (len : Nat) (ls : Array Slot) (H : Heap) (cs sl : Nat), lv_has ls 3 [(2, .ref t.1), (0, .int p0), (1, .int p1)] → va_S (nA s.heap.size) s.heap H [] → tP s t len H → tNew s.heap.size t → cs + 4 * n ≤ 20 → sl + 40 * n ≤ 200 → l_X3_digits p1 n len = some r → W p l e (headSpec wsX3_digits { frames := 6, cells := 20, slots := 200, locals := 330 }).room s m ([.int p0, .int p1] : List Value).toArray below meth c H [] cs sl (MQ below (qTQ tNew r) ([.int p0, .int p1] : List Value).toArray s 20 200 (fun _ => False)) (F0 m 20 ls []) := by
    intro n
    induction n with
    | zero => intro t len ls H cs sl hl hS hT hN hc hs hm; cases hm
    | succ n ih =>
      intro t len ls H cs sl hl hS hT hN hc hs hm
      have hm : (if p1 ≤ Int32.ofNat len then some len else (o_J4_append_15ec4 1 0).bind fun y1 => (o_J4_append_15ec4 len y1.2).bind fun y2 => if y2.2 < 0 ∨ 16 ≤ y2.2.toNatClampNeg then none else l_X3_digits p1 n y2.2.toNatClampNeg) = some r := hm
      refine lv_aload_n hx hb dX3_digits_20 rfl (lv_at hl 0 rfl) ?_
      refine sc_V hC hGx (c_J0_length_8abf5 l k t len) (gV w_1311 w_529 w_530 w_39 w_531) kk_J0_length_8abf5 rfl hT ⟨Nat.le_of_ble_eq_true rfl, Nat.le_of_ble_eq_true rfl⟩ ⟨(by show cs ≤ 20; omega), (by show sl ≤ 200; omega)⟩ hS hAB hl.1 (Nat.le_of_ble_eq_true rfl) dX3_digits_21 ?_
      refine lv_iload_n hx hb dX3_digits_24 rfl (lv_at hl 2 rfl) ?_
      refine lv_icmp_ge (tgt := 51) hx hb dX3_digits_25 (by decide) (fun h => ?_) (fun h => ?_)
      · rw [if_pos h] at hm
        obtain rfl := Option.some.inj hm
        refine lv_aload_n hx hb dX3_digits_51 rfl (lv_at hl 0 rfl) ?_
        refine W.widen (k := 20) (n := 200) (by omega) (by omega) ?_
        exact W.aret (v := .ref t.1) hx hb hr (Or.inl ⟨_, rfl⟩) (Or.inr ⟨_, rfl⟩) (fun t2 ht hW2 => ⟨⟨t, rfl, hN, by rw [ht]; exact hT.moved hW2.alike⟩, hS.F ht⟩) (fun _ h => absurd h List.not_mem_nil) dX3_digits_52
      · rw [if_neg h] at hm
        obtain ⟨y1, hy1, hm⟩ := Option.bind_eq_some_iff.mp hm
        obtain ⟨y2, hy2, hm⟩ := Option.bind_eq_some_iff.mp hm
        by_cases hg2 : y2.2 < 0 ∨ 16 ≤ y2.2.toNatClampNeg
        · rw [if_pos hg2] at hm; cases hm
        rw [if_neg hg2] at hm
        have hTl := hT.lt
        have hs4 := hS.1
        refine b_make hC htg hGx (htg _ w_1303) (htg _ w_326) (htg _ w_38) (htg _ w_1304) (htg _ w_328) (gC w_329) hS hAB ⟨Nat.le_of_ble_eq_true rfl, Nat.le_of_ble_eq_true rfl⟩ ⟨(by show cs + 2 ≤ 20; omega), (by show sl + 20 ≤ 200; omega)⟩ hl.1 (Nat.le_of_ble_eq_true rfl) dX3_digits_28 dX3_digits_31 dX3_digits_32 (fun b H hb1 hb2 hne hB hz9 hq hS => ?_)
        have ho : s.heap.size ≤ b.1 ∧ s.heap.size ≤ b.2 := ⟨Nat.le_trans hs4 hb1, Nat.le_trans hs4 hb2⟩
        have hap := ap_lt hTl ⟨hb1, hb2⟩
        have hT := hT.up (fun x h _ => hq x h)
        refine va_ldcS hx hb hown hr1 dX3_digits_35 ?_
        have hL := tP.launch (i := 1) (by decide) hvs hS hAB
        have hlo : ad 1 < s.heap.size ∧ av 1 < s.heap.size := ⟨Nat.lt_of_lt_of_le hL.2.1 hGx.2.1, Nat.lt_of_lt_of_le hL.2.2 hGx.2.1⟩
        have hap0 := ap_lt (t := (ad 1, av 1)) hlo ho
        refine bo_V hC hGx (k_J4_append_15ec4 l k b (ad 1, av 1) 1 0 hy1) (gV w_1308 w_516 w_517 w_38 w_518) kk_J4_append_15ec4 rfl hne ho ⟨Nat.le_of_ble_eq_true rfl, Nat.le_of_ble_eq_true rfl⟩ ⟨(by show cs + 2 ≤ 20; omega), (by show sl + 20 ≤ 200; omega)⟩ hB (tA1 hL.1 hap0) hS hAB hl.1 rfl rfl (Nat.le_of_ble_eq_true rfl) dX3_digits_37 (fun H hB hz9 hq hS => ?_)
        have hT := hT.upb hap hq
        refine lv_aload_n hx hb dX3_digits_40 rfl (lv_at hl 0 rfl) ?_
        refine bo_V hC hGx (k_J4_append_15ec4 l k b t len y1.2 hy2) (gV w_1308 w_516 w_517 w_38 w_518) kk_J4_append_15ec4 rfl hne ho ⟨Nat.le_of_ble_eq_true rfl, Nat.le_of_ble_eq_true rfl⟩ ⟨(by show cs + 2 ≤ 20; omega), (by show sl + 20 ≤ 200; omega)⟩ hB (tA1 hT hap) hS hAB hl.1 rfl rfl (Nat.le_of_ble_eq_true rfl) dX3_digits_41 (fun H hB hz9 hq hS => ?_)
        have hbs := bl_15 hg2
        have hs5 := hS.1
        refine bo_str hC hGx hbs.1 hbs.2 (gV w_1310 w_476 w_477 w_38 w_478) hne ho ⟨Nat.le_of_ble_eq_true rfl, Nat.le_of_ble_eq_true rfl⟩ ⟨(by show cs + 2 + 2 ≤ 20; omega), (by show sl + 20 + 20 ≤ 200; omega)⟩ hB hS hAB hl.1 (Nat.le_of_ble_eq_true rfl) dX3_digits_44 (fun t3 H ht1 ht2 hT hz9 hq hS => ?_)
        refine lv_astore_n (lv' := [(2, .ref t3.1), (0, .int p0), (1, .int p1)]) hx hb dX3_digits_47 rfl hl (by decide) rfl (fun ls hl => ?_)
        refine lv_goto (tgt := 20) hx hb dX3_digits_48 (by decide) ?_
        exact ih t3 _ ls _ _ _ hl hS hT ⟨Nat.le_trans hs5 ht1, Nat.le_trans hs5 ht2⟩ (by omega) (by omega) hm
  refine b_make hC htg hGx (htg _ w_1303) (htg _ w_326) (htg _ w_38) (htg _ w_1304) (htg _ w_328) (gC w_329) hS hAB ⟨Nat.le_of_ble_eq_true rfl, Nat.le_of_ble_eq_true rfl⟩ ⟨Nat.le_of_ble_eq_true rfl, Nat.le_of_ble_eq_true rfl⟩ hl.1 (Nat.le_of_ble_eq_true rfl) dX3_digits_0 dX3_digits_3 dX3_digits_4 (fun b H hb1 hb2 hne hB hz9 hq hS => ?_)
  have ho : s.heap.size ≤ b.1 ∧ s.heap.size ≤ b.2 := ⟨hb1, hb2⟩
  refine va_ldcS hx hb hown hr0 dX3_digits_7 ?_
  have hL := tP.launch (i := 0) (by decide) hvs hS hAB
  have hlo : ad 0 < s.heap.size ∧ av 0 < s.heap.size := ⟨Nat.lt_of_lt_of_le hL.2.1 hGx.2.1, Nat.lt_of_lt_of_le hL.2.2 hGx.2.1⟩
  have hap0 := ap_lt (t := (ad 0, av 0)) hlo ho
  refine bo_V hC hGx (k_J4_append_15ec4 l k b (ad 0, av 0) 0 0 hx1) (gV w_1308 w_516 w_517 w_38 w_518) kk_J4_append_15ec4 rfl hne ho ⟨Nat.le_of_ble_eq_true rfl, Nat.le_of_ble_eq_true rfl⟩ ⟨Nat.le_of_ble_eq_true rfl, Nat.le_of_ble_eq_true rfl⟩ hB (tA1 hL.1 hap0) hS hAB hl.1 rfl rfl (Nat.le_of_ble_eq_true rfl) dX3_digits_9 (fun H hB hz9 hq hS => ?_)
  refine lv_iload_n hx hb dX3_digits_12 rfl (lv_at hl 0 rfl) ?_
  refine bo_V hC hGx (k_J4_append_bf812 l k b p0 x1.2 hx2) (gV w_1309 w_444 w_445 w_38 w_446) kk_J4_append_bf812 rfl hne ho ⟨Nat.le_of_ble_eq_true rfl, Nat.le_of_ble_eq_true rfl⟩ ⟨Nat.le_of_ble_eq_true rfl, Nat.le_of_ble_eq_true rfl⟩ hB (fun _ h => absurd h List.not_mem_nil) hS hAB hl.1 rfl rfl (Nat.le_of_ble_eq_true rfl) dX3_digits_13 (fun H hB hz9 hq hS => ?_)
  have hbs := bl_15 hg1
  have hs5 := hS.1
  refine bo_str hC hGx hbs.1 hbs.2 (gV w_1310 w_476 w_477 w_38 w_478) hne ho ⟨Nat.le_of_ble_eq_true rfl, Nat.le_of_ble_eq_true rfl⟩ ⟨Nat.le_of_ble_eq_true rfl, Nat.le_of_ble_eq_true rfl⟩ hB hS hAB hl.1 (Nat.le_of_ble_eq_true rfl) dX3_digits_16 (fun t3 H ht1 ht2 hT hz9 hq hS => ?_)
  refine lv_astore_n (lv' := [(2, .ref t3.1), (0, .int p0), (1, .int p1)]) hx hb dX3_digits_19 rfl hl (by decide) rfl (fun ls hl => ?_)
  exact J 4 t3 _ ls _ _ _ hl hS hT ⟨Nat.le_trans hs5 ht1, Nat.le_trans hs5 ht2⟩ (by decide) (by decide) hm
def o_X3_textOf (p0 : DT) : Option Nat := if 0 ≤ p0.1 then (o_X3_digits p0.1 4).bind fun n1 => (o_J4_append_15ec4 n1 0).bind fun x1 => (o_J4_append_15ec4 1 x1.2).bind fun x2 => (o_X3_digits p0.2.1 2).bind fun n2 => (o_J4_append_15ec4 n2 x2.2).bind fun x3 => (o_J4_append_15ec4 1 x3.2).bind fun x4 => (o_X3_digits p0.2.2 2).bind fun n3 => (o_J4_append_15ec4 n3 x4.2).bind fun x5 => if x5.2 < 0 ∨ 16 ≤ x5.2.toNatClampNeg then none else some x5.2.toNatClampNeg else some 1
theorem kk_X3_textOf : pK yX3_textOf wsX3_textOf cX3_textOf 1 (some (.object "java/lang/String")) 1 := ⟨⟨_, rfl⟩, by decide +kernel, by decide +kernel, by decide +kernel⟩
set_option maxRecDepth 100000 in
set_option maxHeartbeats 4000000 in
theorem k_X3_textOf (l : Launch) (k : Kx) (p0 : DT) (q0 : Nat) {r : Nat} (hm : o_X3_textOf p0 = some r) : qT l k yX3_textOf wsX3_textOf 7 400 64 640 [.ref q0] [(q0, p0)] tAny r := by
  refine Met.ofW (cc := cX3_textOf) (maxL := 1) (ret := (some (.object "java/lang/String"))) (by decide) rfl ?_
  intro p e s m args below meth c s₁ B hml hv
  obtain ⟨rfl, hGx, hds⟩ := hv
  have hx := B.exec
  have hb := B.bytes
  have hr := B.returns
  have hts9 := atoms_spec (ws := wsX3_textOf) B.pre
  have hown : s.vm.findClass RX3 = some m.cls := findClass_of_methodNamed B.named
  have hlocks := B.notSynchronized
  have htg : ∀ w ∈ GL, w.before _ s = true := fun w h => hts9 w (List.mem_cons_of_mem _ h)
  have hC : CallFix p m c cX3_textOf 1 s _ wsX3_textOf RX3 := ⟨hx, hb, hml, hown, hts9⟩
  have hl := lv_entry ([.ref q0]) (n := 1) (Nat.le_of_ble_eq_true rfl)
  rw [lg_entry_eq]
  generalize (lg_sl ([.ref q0]) ++ List.replicate (1 - (lg_sl ([.ref q0])).length) Slot.unset).toArray = ls at hl ⊢
  have hl : lv_has ls 1 [(0, .ref q0)] := hl
  have hAB : ∀ q, nA s.heap.size q → kB k ≤ q := fun q h => Nat.le_trans hGx.2.1 h
  have hS : va_S (nA s.heap.size) s.heap s.heap [] := va_S.rf
  obtain ⟨ad, av, hvs, hr0, hr1, hr2, hr3, -⟩ := gx_text hGx
  have hd : dP k q0 p0 s.heap := hds (q0, p0) List.mem_cons_self
  unfold o_X3_textOf at hm
  refine lv_aload_n hx hb dX3_textOf_0 rfl (lv_at hl 0 rfl) ?_
  refine va_get (D := kD k) (ci := 4) (v := .int p0.1) (C := RX2) (T := TX2) (N := 3) hx hb htg inG_X2 hown hGx.1 (dP.at hd hS) 0 rfl rfl 0 (by decide) (htg _ w_999) (fun _ h9 => h9) rfl dX3_textOf_1 ?_
  refine lv_if_ge (tgt := 12) hx hb dX3_textOf_4 (by decide) (fun h => ?_) (fun h => ?_)
  · rw [if_pos h] at hm
    obtain ⟨n1, hn1, hm⟩ := Option.bind_eq_some_iff.mp hm
    obtain ⟨x1, hx1, hm⟩ := Option.bind_eq_some_iff.mp hm
    obtain ⟨x2, hx2, hm⟩ := Option.bind_eq_some_iff.mp hm
    obtain ⟨n2, hn2, hm⟩ := Option.bind_eq_some_iff.mp hm
    obtain ⟨x3, hx3, hm⟩ := Option.bind_eq_some_iff.mp hm
    obtain ⟨x4, hx4, hm⟩ := Option.bind_eq_some_iff.mp hm
    obtain ⟨n3, hn3, hm⟩ := Option.bind_eq_some_iff.mp hm
    obtain ⟨x5, hx5, hm⟩ := Option.bind_eq_some_iff.mp hm
    by_cases hg1 : x5.2 < 0 ∨ 16 ≤ x5.2.toNatClampNeg
    · rw [if_pos hg1] at hm; cases hm
    rw [if_neg hg1] at hm
    obtain rfl := Option.some.inj hm
    refine b_make hC htg hGx (htg _ w_1303) (htg _ w_326) (htg _ w_38) (htg _ w_1304) (htg _ w_328) (gC w_329) hS hAB ⟨Nat.le_of_ble_eq_true rfl, Nat.le_of_ble_eq_true rfl⟩ ⟨Nat.le_of_ble_eq_true rfl, Nat.le_of_ble_eq_true rfl⟩ hl.1 (Nat.le_of_ble_eq_true rfl) dX3_textOf_12 dX3_textOf_15 dX3_textOf_16 (fun b H hb1 hb2 hne hB hz9 hq hS => ?_)
    have ho : s.heap.size ≤ b.1 ∧ s.heap.size ≤ b.2 := ⟨hb1, hb2⟩
    refine lv_aload_n hx hb dX3_textOf_19 rfl (lv_at hl 0 rfl) ?_
    refine va_get (D := kD k) (ci := 4) (v := .int p0.1) (C := RX2) (T := TX2) (N := 3) hx hb htg inG_X2 hown hGx.1 (dP.at hd hS) 0 rfl rfl 0 (by decide) (htg _ w_999) (fun _ h9 => h9) rfl dX3_textOf_20 ?_
    refine lv_iconst (v := 4) hx hb dX3_textOf_23 (by decide) ?_
    have hbl := hB.lt
    refine qt_S hC hGx (k_X3_digits l k p0.1 4 hn1) (gS w_1305 w_1306 w_27 w_1307) kk_X3_digits (List.forall_mem_nil _) ⟨Nat.le_of_ble_eq_true rfl, Nat.le_of_ble_eq_true rfl⟩ ⟨Nat.le_of_ble_eq_true rfl, Nat.le_of_ble_eq_true rfl⟩ hS hAB hl.1 rfl rfl (Nat.le_of_ble_eq_true rfl) dX3_textOf_24 (fun tn1 H hF hT hz9 hq hS => ?_)
    have hB := hB.up (fun x h _ => hq x h)
    have hap := ap_ge hbl hF
    refine bo_V hC hGx (k_J4_append_15ec4 l k b tn1 n1 0 hx1) (gV w_1308 w_516 w_517 w_38 w_518) kk_J4_append_15ec4 rfl hne ho ⟨Nat.le_of_ble_eq_true rfl, Nat.le_of_ble_eq_true rfl⟩ ⟨Nat.le_of_ble_eq_true rfl, Nat.le_of_ble_eq_true rfl⟩ hB (tA1 hT hap) hS hAB hl.1 rfl rfl (Nat.le_of_ble_eq_true rfl) dX3_textOf_27 (fun H hB hz9 hq hS => ?_)
    refine va_ldcS hx hb hown hr3 dX3_textOf_30 ?_
    have hL := tP.launch (i := 3) (by decide) hvs hS hAB
    have hlo : ad 3 < s.heap.size ∧ av 3 < s.heap.size := ⟨Nat.lt_of_lt_of_le hL.2.1 hGx.2.1, Nat.lt_of_lt_of_le hL.2.2 hGx.2.1⟩
    have hap0 := ap_lt (t := (ad 3, av 3)) hlo ho
    refine bo_V hC hGx (k_J4_append_15ec4 l k b (ad 3, av 3) 1 x1.2 hx2) (gV w_1308 w_516 w_517 w_38 w_518) kk_J4_append_15ec4 rfl hne ho ⟨Nat.le_of_ble_eq_true rfl, Nat.le_of_ble_eq_true rfl⟩ ⟨Nat.le_of_ble_eq_true rfl, Nat.le_of_ble_eq_true rfl⟩ hB (tA1 hL.1 hap0) hS hAB hl.1 rfl rfl (Nat.le_of_ble_eq_true rfl) dX3_textOf_32 (fun H hB hz9 hq hS => ?_)
    refine lv_aload_n hx hb dX3_textOf_35 rfl (lv_at hl 0 rfl) ?_
    refine va_get (D := kD k) (ci := 4) (v := .int p0.2.1) (C := RX2) (T := TX2) (N := 3) hx hb htg inG_X2 hown hGx.1 (dP.at hd hS) 0 rfl rfl 1 (by decide) (htg _ w_1001) (fun _ h9 => h9) rfl dX3_textOf_36 ?_
    refine lv_iconst (v := 2) hx hb dX3_textOf_39 (by decide) ?_
    have hbl := hB.lt
    refine qt_S hC hGx (k_X3_digits l k p0.2.1 2 hn2) (gS w_1305 w_1306 w_27 w_1307) kk_X3_digits (List.forall_mem_nil _) ⟨Nat.le_of_ble_eq_true rfl, Nat.le_of_ble_eq_true rfl⟩ ⟨Nat.le_of_ble_eq_true rfl, Nat.le_of_ble_eq_true rfl⟩ hS hAB hl.1 rfl rfl (Nat.le_of_ble_eq_true rfl) dX3_textOf_40 (fun tn2 H hF hT hz9 hq hS => ?_)
    have hB := hB.up (fun x h _ => hq x h)
    have hap := ap_ge hbl hF
    refine bo_V hC hGx (k_J4_append_15ec4 l k b tn2 n2 x2.2 hx3) (gV w_1308 w_516 w_517 w_38 w_518) kk_J4_append_15ec4 rfl hne ho ⟨Nat.le_of_ble_eq_true rfl, Nat.le_of_ble_eq_true rfl⟩ ⟨Nat.le_of_ble_eq_true rfl, Nat.le_of_ble_eq_true rfl⟩ hB (tA1 hT hap) hS hAB hl.1 rfl rfl (Nat.le_of_ble_eq_true rfl) dX3_textOf_43 (fun H hB hz9 hq hS => ?_)
    refine va_ldcS hx hb hown hr3 dX3_textOf_46 ?_
    have hL := tP.launch (i := 3) (by decide) hvs hS hAB
    have hlo : ad 3 < s.heap.size ∧ av 3 < s.heap.size := ⟨Nat.lt_of_lt_of_le hL.2.1 hGx.2.1, Nat.lt_of_lt_of_le hL.2.2 hGx.2.1⟩
    have hap0 := ap_lt (t := (ad 3, av 3)) hlo ho
    refine bo_V hC hGx (k_J4_append_15ec4 l k b (ad 3, av 3) 1 x3.2 hx4) (gV w_1308 w_516 w_517 w_38 w_518) kk_J4_append_15ec4 rfl hne ho ⟨Nat.le_of_ble_eq_true rfl, Nat.le_of_ble_eq_true rfl⟩ ⟨Nat.le_of_ble_eq_true rfl, Nat.le_of_ble_eq_true rfl⟩ hB (tA1 hL.1 hap0) hS hAB hl.1 rfl rfl (Nat.le_of_ble_eq_true rfl) dX3_textOf_48 (fun H hB hz9 hq hS => ?_)
    refine lv_aload_n hx hb dX3_textOf_51 rfl (lv_at hl 0 rfl) ?_
    refine va_get (D := kD k) (ci := 4) (v := .int p0.2.2) (C := RX2) (T := TX2) (N := 3) hx hb htg inG_X2 hown hGx.1 (dP.at hd hS) 0 rfl rfl 2 (by decide) (htg _ w_1003) (fun _ h9 => h9) rfl dX3_textOf_52 ?_
    refine lv_iconst (v := 2) hx hb dX3_textOf_55 (by decide) ?_
    have hbl := hB.lt
    refine qt_S hC hGx (k_X3_digits l k p0.2.2 2 hn3) (gS w_1305 w_1306 w_27 w_1307) kk_X3_digits (List.forall_mem_nil _) ⟨Nat.le_of_ble_eq_true rfl, Nat.le_of_ble_eq_true rfl⟩ ⟨Nat.le_of_ble_eq_true rfl, Nat.le_of_ble_eq_true rfl⟩ hS hAB hl.1 rfl rfl (Nat.le_of_ble_eq_true rfl) dX3_textOf_56 (fun tn3 H hF hT hz9 hq hS => ?_)
    have hB := hB.up (fun x h _ => hq x h)
    have hap := ap_ge hbl hF
    refine bo_V hC hGx (k_J4_append_15ec4 l k b tn3 n3 x4.2 hx5) (gV w_1308 w_516 w_517 w_38 w_518) kk_J4_append_15ec4 rfl hne ho ⟨Nat.le_of_ble_eq_true rfl, Nat.le_of_ble_eq_true rfl⟩ ⟨Nat.le_of_ble_eq_true rfl, Nat.le_of_ble_eq_true rfl⟩ hB (tA1 hT hap) hS hAB hl.1 rfl rfl (Nat.le_of_ble_eq_true rfl) dX3_textOf_59 (fun H hB hz9 hq hS => ?_)
    have hbs := bl_15 hg1
    refine bo_str hC hGx hbs.1 hbs.2 (gV w_1310 w_476 w_477 w_38 w_478) hne ho ⟨Nat.le_of_ble_eq_true rfl, Nat.le_of_ble_eq_true rfl⟩ ⟨Nat.le_of_ble_eq_true rfl, Nat.le_of_ble_eq_true rfl⟩ hB hS hAB hl.1 (Nat.le_of_ble_eq_true rfl) dX3_textOf_62 (fun t3 H ht1 ht2 hT hz9 hq hS => ?_)
    refine W.widen (k := 64) (n := 640) (Nat.le_of_ble_eq_true rfl) (Nat.le_of_ble_eq_true rfl) ?_
    exact W.aret (v := .ref t3.1) hx hb hr (Or.inl ⟨_, rfl⟩) (Or.inr ⟨_, rfl⟩) (fun t2 ht hW2 => ⟨⟨t3, rfl, trivial, by rw [ht]; exact hT.moved hW2.alike⟩, hS.F ht⟩) (fun _ h => absurd h List.not_mem_nil) dX3_textOf_65
  · rw [if_neg h] at hm
    obtain rfl := Option.some.inj hm
    refine va_ldcS hx hb hown hr2 dX3_textOf_7 ?_
    refine lv_goto (tgt := 65) hx hb dX3_textOf_9 (by decide) ?_
    have hL := tP.launch (i := 2) (by decide) hvs hS hAB
    refine W.widen (k := 64) (n := 640) (Nat.le_of_ble_eq_true rfl) (Nat.le_of_ble_eq_true rfl) ?_
    exact W.aret (v := .ref (ad 2)) hx hb hr (Or.inl ⟨_, rfl⟩) (Or.inr ⟨_, rfl⟩) (fun t2 ht hW2 => ⟨⟨(ad 2, av 2), rfl, trivial, by rw [ht]; exact hL.1.moved hW2.alike⟩, hS.F ht⟩) (fun _ h => absurd h List.not_mem_nil) dX3_textOf_65
