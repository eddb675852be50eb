def o_X0_text (p0 : Int32) (z : CS) : Option (Nat × Nat) := if (m_X0_dateAt p0 z).1 = 0 then (if 0 ≤ (m_X0_yearIn (m_X0_dateAt p0 z).2).toInt32 then (o_X0_appendFilled (m_X0_yearIn (m_X0_dateAt p0 z).2).toInt32 1000 0).bind fun x1 => (o_J4_append_cf468 45 x1.2).bind fun x2 => (o_X0_appendFilled (m_X0_monthIn (m_X0_dateAt p0 z).2) 10 x2.2).bind fun x3 => (o_J4_append_cf468 45 x3.2).bind fun x4 => (o_X0_appendFilled (m_X0_dayIn (m_X0_dateAt p0 z).2) 10 x4.2).bind fun x5 => if x5.2 < 0 ∨ 16 ≤ x5.2.toNatClampNeg then none else some (0, x5.2.toNatClampNeg) else some (0, 1)) else some ((m_X0_dateAt p0 z).1, 0)
theorem kk_X0_text : pK yX0_text wsX0_text cX0_text 6 (some (.object "java/lang/String")) 1 := ⟨⟨_, rfl⟩, by decide +kernel, by decide +kernel, by decide +kernel⟩
set_option maxRecDepth 100000 in
set_option maxHeartbeats 4000000 in
theorem k_X0_text (l : Launch) (hl9 : l.stackTraces = false) (k : Kx) (a : CA) (hD : cD k a) (p0 : Int32) (z : CS) {r : Nat × Nat} (hm : o_X0_text p0 z = some r) : cT l k a yX0_text wsX0_text 8 420 5 46 [.int p0] z r.2 r.1 z := by
  intro sz
  refine vx_ofW (cc := cX0_text) (maxL := 6) (ret := (some (.object "java/lang/String"))) (by decide) rfl ?_
  intro p e s m args below meth c s₁ B hml hEx hv
  obtain ⟨rfl, rfl, hGx, hP⟩ := hv
  have hx := B.exec
  have hb := B.bytes
  have hr := B.returns
  have hts := atoms_spec (ws := wsX0_text) B.pre
  have hown : s.vm.findClass RX0 = some m.cls := findClass_of_methodNamed B.named
  have hlocks := B.notSynchronized
  have htg : ∀ w ∈ GL, w.before _ s = true := fun w h => hts w (List.mem_cons_of_mem _ h)
  have hC : CallFix p m c cX0_text 6 s _ wsX0_text RX0 := ⟨hx, hb, hml, hown, hts⟩
  have hS : va_S (cA a s.heap.size) s.heap s.heap [] := va_S.rf
  have hAB : ∀ q, cA a s.heap.size q → kB k ≤ q := hD.high hGx.2.1
  have hl := lv_entry ([.ref a.1, .int p0]) (n := 6) (Nat.le_of_ble_eq_true rfl)
  rw [lg_entry_eq]
  generalize (lg_sl ([.ref a.1, .int p0]) ++ List.replicate (6 - (lg_sl ([.ref a.1, .int p0])).length) Slot.unset).toArray = ls at hl ⊢
  have hl : lv_has ls 6 [(0, .ref a.1), (1, .int p0)] := hl
  unfold o_X0_text at hm
  refine lv_aload_n hx hb dX0_text_0 rfl (lv_at hl 0 rfl) ?_
  refine lv_iload_n hx hb dX0_text_1 rfl (lv_at hl 1 rfl) ?_
  refine cc_Vg hC hGx hD hEx hlocks (c_X0_dateAt l hl9 k a hD p0 z) (gV w_153 w_154 w_8 w_26 w_155) kk_X0_dateAt rfl ⟨Nat.le_of_ble_eq_true rfl, Nat.le_of_ble_eq_true rfl⟩ ⟨Nat.le_of_ble_eq_true rfl, Nat.le_of_ble_eq_true rfl⟩ ⟨Nat.le_of_ble_eq_true rfl, Nat.le_of_ble_eq_true rfl⟩ hP hS hl.1 rfl rfl (Nat.le_of_ble_eq_true rfl) dX0_text_2 (fun h => ?_) (fun h H locs hP hS => ?_)
  · rw [if_neg h] at hm
    obtain rfl := Option.some.inj hm
    exact ⟨rfl, rfl⟩
  rw [if_pos h] at hm
  refine lv_lstore_n (lv' := [(2, .long (m_X0_dateAt p0 z).2), (0, .ref a.1), (1, .int p0)]) hx hb dX0_text_5 rfl hl (by decide) rfl (fun ls hl => ?_)
  refine lv_lload_n hx hb dX0_text_6 rfl (lv_at hl 0 rfl) ?_
  refine pc_S hC (c_X0_yearIn l (m_X0_dateAt p0 z).2) (gS w_168 w_169 w_26 w_170) kk_X0_yearIn ⟨Nat.le_of_ble_eq_true rfl, Nat.le_of_ble_eq_true rfl⟩ ⟨Nat.le_of_ble_eq_true rfl, Nat.le_of_ble_eq_true rfl⟩ hl.1 rfl rfl (Nat.le_of_ble_eq_true rfl) dX0_text_7 ?_
  refine lv_l2i hx hb dX0_text_10 rfl ?_
  refine lv_istore (lv' := [(4, .int (m_X0_yearIn (m_X0_dateAt p0 z).2).toInt32), (2, .long (m_X0_dateAt p0 z).2), (0, .ref a.1), (1, .int p0)]) hx hb dX0_text_11 hl (by decide) rfl (fun ls hl => ?_)
  refine lv_iload hx hb dX0_text_13 (lv_at hl 0 rfl) ?_
  refine lv_if_ge (tgt := 21) hx hb dX0_text_15 (by decide) (fun h1 => ?_) (fun h1 => ?_)
  · rw [if_pos h1] at hm
    obtain ⟨x1, hx1, hm⟩ := Option.bind_eq_some_iff.mp hm
    obtain ⟨x2, hx2, hm⟩ := Option.bind_eq_some_iff.mp hm
    obtain ⟨x3, hx3, hm⟩ := Option.bind_eq_some_iff.mp hm
    obtain ⟨x4, hx4, hm⟩ := Option.bind_eq_some_iff.mp hm
    obtain ⟨x5, hx5, hm⟩ := Option.bind_eq_some_iff.mp hm
    by_cases hg1 : x5.2 < 0 ∨ 16 ≤ x5.2.toNatClampNeg
    · rw [if_pos hg1] at hm; cases hm
    rw [if_neg hg1] at hm
    obtain rfl := Option.some.inj hm
    have hs4 := hS.1
    have hPl := fun j q hj => (hP j q hj).lt
    refine b_make hC htg hGx (htg _ w_325) (htg _ w_326) (htg _ w_38) (htg _ w_327) (htg _ w_328) (gC w_329) hS hAB ⟨Nat.le_of_ble_eq_true rfl, Nat.le_of_ble_eq_true rfl⟩ ⟨Nat.le_of_ble_eq_true rfl, Nat.le_of_ble_eq_true rfl⟩ hl.1 (Nat.le_of_ble_eq_true rfl) dX0_text_21 dX0_text_24 dX0_text_25 (fun b H hb1 hb2 hne hB hz9 hq hS => ?_)
    have ho : s.heap.size ≤ b.1 ∧ s.heap.size ≤ b.2 := ⟨Nat.le_trans hs4 hb1, Nat.le_trans hs4 hb2⟩
    have hnb : ∀ (j : Nat) (q : Nat × va_E), (cW k a z)[j]? = some q → ¬ b2 b q.1 := fun j q hj h9 => (ap_lt (b := b) (t := (q.1, q.1)) ⟨hPl j q hj, hPl j q hj⟩ ⟨hb1, hb2⟩).1 h9
    have hP := hP.kept (fun j q hj => hq q.1 (hP j q hj).lt)
    refine lv_astore (lv' := [(5, .ref b.1), (4, .int (m_X0_yearIn (m_X0_dateAt p0 z).2).toInt32), (2, .long (m_X0_dateAt p0 z).2), (0, .ref a.1), (1, .int p0)]) hx hb dX0_text_28 hl (by decide) rfl (fun ls hl => ?_)
    refine lv_aload hx hb dX0_text_30 (lv_at hl 0 rfl) ?_
    refine lv_iload hx hb dX0_text_32 (lv_at hl 1 rfl) ?_
    refine lv_sipush (v := 1000) hx hb dX0_text_34 (by decide) ?_
    refine bo_S hC hGx (k_X0_appendFilled l k b ((m_X0_yearIn (m_X0_dateAt p0 z).2).toInt32) 1000 0 hx1) (gS w_355 w_356 w_26 w_357) kk_X0_appendFilled hne ho ⟨Nat.le_of_ble_eq_true rfl, Nat.le_of_ble_eq_true rfl⟩ ⟨Nat.le_of_ble_eq_true rfl, Nat.le_of_ble_eq_true rfl⟩ hB (fun _ h => absurd h List.not_mem_nil) hS hAB hl.1 rfl rfl (Nat.le_of_ble_eq_true rfl) dX0_text_37 (fun H hB hz9 hq hS => ?_)
    have hP := hP.kept (fun j q hj => hq q.1 (hP j q hj).lt (hnb j q hj))
    refine lv_aload hx hb dX0_text_40 (lv_at hl 0 rfl) ?_
    refine lv_bipush (v := 45) hx hb dX0_text_42 (by decide) ?_
    refine bo_V hC hGx (k_J4_append_cf468 l k b 45 x1.2 hx2) (gV w_358 w_359 w_360 w_38 w_361) kk_J4_append_cf468 rfl hne ho ⟨Nat.le_of_ble_eq_true rfl, Nat.le_of_ble_eq_true rfl⟩ ⟨Nat.le_of_ble_eq_true rfl, Nat.le_of_ble_eq_true rfl⟩ hB (fun _ h => absurd h List.not_mem_nil) hS hAB hl.1 rfl rfl (Nat.le_of_ble_eq_true rfl) dX0_text_44 (fun H hB hz9 hq hS => ?_)
    have hP := hP.kept (fun j q hj => hq q.1 (hP j q hj).lt (hnb j q hj))
    refine lv_pop hx hb dX0_text_47 rfl ?_
    refine lv_aload hx hb dX0_text_48 (lv_at hl 0 rfl) ?_
    refine lv_lload_n hx hb dX0_text_50 rfl (lv_at hl 2 rfl) ?_
    refine pc_S hC (c_X0_monthIn l (m_X0_dateAt p0 z).2) (gS w_192 w_193 w_26 w_194) kk_X0_monthIn ⟨Nat.le_of_ble_eq_true rfl, Nat.le_of_ble_eq_true rfl⟩ ⟨Nat.le_of_ble_eq_true rfl, Nat.le_of_ble_eq_true rfl⟩ hl.1 rfl rfl (Nat.le_of_ble_eq_true rfl) dX0_text_51 ?_
    refine lv_bipush (v := 10) hx hb dX0_text_54 (by decide) ?_
    refine bo_S hC hGx (k_X0_appendFilled l k b (m_X0_monthIn (m_X0_dateAt p0 z).2) 10 x2.2 hx3) (gS w_355 w_356 w_26 w_357) kk_X0_appendFilled hne ho ⟨Nat.le_of_ble_eq_true rfl, Nat.le_of_ble_eq_true rfl⟩ ⟨Nat.le_of_ble_eq_true rfl, Nat.le_of_ble_eq_true rfl⟩ hB (fun _ h => absurd h List.not_mem_nil) hS hAB hl.1 rfl rfl (Nat.le_of_ble_eq_true rfl) dX0_text_56 (fun H hB hz9 hq hS => ?_)
    have hP := hP.kept (fun j q hj => hq q.1 (hP j q hj).lt (hnb j q hj))
    refine lv_aload hx hb dX0_text_59 (lv_at hl 0 rfl) ?_
    refine lv_bipush (v := 45) hx hb dX0_text_61 (by decide) ?_
    refine bo_V hC hGx (k_J4_append_cf468 l k b 45 x3.2 hx4) (gV w_358 w_359 w_360 w_38 w_361) kk_J4_append_cf468 rfl hne ho ⟨Nat.le_of_ble_eq_true rfl, Nat.le_of_ble_eq_true rfl⟩ ⟨Nat.le_of_ble_eq_true rfl, Nat.le_of_ble_eq_true rfl⟩ hB (fun _ h => absurd h List.not_mem_nil) hS hAB hl.1 rfl rfl (Nat.le_of_ble_eq_true rfl) dX0_text_63 (fun H hB hz9 hq hS => ?_)
    have hP := hP.kept (fun j q hj => hq q.1 (hP j q hj).lt (hnb j q hj))
    refine lv_pop hx hb dX0_text_66 rfl ?_
    refine lv_aload hx hb dX0_text_67 (lv_at hl 0 rfl) ?_
    refine lv_lload_n hx hb dX0_text_69 rfl (lv_at hl 2 rfl) ?_
    refine pc_S hC (c_X0_dayIn l (m_X0_dateAt p0 z).2) (gS w_189 w_190 w_26 w_191) kk_X0_dayIn ⟨Nat.le_of_ble_eq_true rfl, Nat.le_of_ble_eq_true rfl⟩ ⟨Nat.le_of_ble_eq_true rfl, Nat.le_of_ble_eq_true rfl⟩ hl.1 rfl rfl (Nat.le_of_ble_eq_true rfl) dX0_text_70 ?_
    refine lv_bipush (v := 10) hx hb dX0_text_73 (by decide) ?_
    refine bo_S hC hGx (k_X0_appendFilled l k b (m_X0_dayIn (m_X0_dateAt p0 z).2) 10 x4.2 hx5) (gS w_355 w_356 w_26 w_357) kk_X0_appendFilled hne ho ⟨Nat.le_of_ble_eq_true rfl, Nat.le_of_ble_eq_true rfl⟩ ⟨Nat.le_of_ble_eq_true rfl, Nat.le_of_ble_eq_true rfl⟩ hB (fun _ h => absurd h List.not_mem_nil) hS hAB hl.1 rfl rfl (Nat.le_of_ble_eq_true rfl) dX0_text_75 (fun H hB hz9 hq hS => ?_)
    have hP := hP.kept (fun j q hj => hq q.1 (hP j q hj).lt (hnb j q hj))
    refine lv_aload hx hb dX0_text_78 (lv_at hl 0 rfl) ?_
    have hbs := bl_15 hg1
    refine bo_str hC hGx hbs.1 hbs.2 (gV w_475 w_476 w_477 w_38 w_478) hne ho ⟨Nat.le_of_ble_eq_true rfl, Nat.le_of_ble_eq_true rfl⟩ ⟨Nat.le_of_ble_eq_true rfl, Nat.le_of_ble_eq_true rfl⟩ hB hS hAB hl.1 (Nat.le_of_ble_eq_true rfl) dX0_text_80 (fun t3 H ht1 ht2 hT hz9 hq hS => ?_)
    have hP := hP.kept (fun j q hj => hq q.1 (hP j q hj).lt (hnb j q hj))
    refine vx_ret (W.widen (k := 5) (n := 46) (Nat.le_of_ble_eq_true rfl) (Nat.le_of_ble_eq_true rfl) ?_)
    exact W.aret (v := .ref t3.1) hx hb hr (Or.inl ⟨_, rfl⟩) (Or.inr ⟨_, rfl⟩) (fun t2 ht hW2 => ⟨rfl, ⟨t3, rfl, by rw [ht]; exact hT.moved hW2.alike⟩, by rw [ht]; exact hP, hS.F ht⟩) hS.2.2 dX0_text_83
  · rw [if_neg h1] at hm
    obtain rfl := Option.some.inj hm
    obtain ⟨ad, av, hvs, hr0, hr1, hr2, hr3, hrq⟩ := gx_text hGx
    refine va_ldcS hx hb hown hrq dX0_text_18 ?_
    have hL := tP.launch (i := 2) (by decide) hvs hS hAB
    refine vx_ret (W.widen (k := 5) (n := 46) (Nat.le_of_ble_eq_true rfl) (Nat.le_of_ble_eq_true rfl) ?_)
    exact W.aret (v := .ref (ad 2)) hx hb hr (Or.inl ⟨_, rfl⟩) (Or.inr ⟨_, rfl⟩) (fun t2 ht hW2 => ⟨rfl, ⟨(ad 2, av 2), rfl, by rw [ht]; exact hL.1.moved hW2.alike⟩, by rw [ht]; exact hP, hS.F ht⟩) hS.2.2 dX0_text_20
