theorem inA_RX0_236 : ∀ w ∈ (vx_atS RX0 236 "java/lang/IndexOutOfBoundsException" ["java/lang/RuntimeException", "java/lang/Exception"]).filter goodWord, w ∈ GL := by decide +kernel
theorem inA_RX0_245 : ∀ w ∈ (vx_atS RX0 245 "java/lang/IllegalArgumentException" ["java/lang/RuntimeException", "java/lang/Exception"]).filter goodWord, w ∈ GL := by decide +kernel
theorem inA_RX0_252 : ∀ w ∈ (vx_atS RX0 252 "java/lang/IllegalStateException" ["java/lang/RuntimeException", "java/lang/Exception"]).filter goodWord, w ∈ GL := by decide +kernel
theorem at_RX0_236 {args : Array Value} {s : State} {k : Kx} (h : Gx k s) (h1 : ∀ w ∈ (vx_atS RX0 236 "java/lang/IndexOutOfBoundsException" ["java/lang/RuntimeException", "java/lang/Exception"]).filter goodWord, w.before args s = true) : ∀ w ∈ vx_atS RX0 236 "java/lang/IndexOutOfBoundsException" ["java/lang/RuntimeException", "java/lang/Exception"], w.before args s = true :=
  vx_hat (B := [.castable "java/lang/IndexOutOfBoundsException" "java/lang/IndexOutOfBoundsException", .declares (Bundle.initS "java/lang/RuntimeException"), .declares (Bundle.initS "java/lang/Exception"), .declares (Bundle.initS "java/lang/Throwable")]) h1 (by decide +kernel) (vx_c (va_Nw.use rfl (h.2.2.2.2.1 "java/lang/IndexOutOfBoundsException" (by decide))) (vx_c (va_Nw.use rfl (h.2.2.2.2.2.1 "java/lang/RuntimeException" (by decide))) (vx_c (va_Nw.use rfl (h.2.2.2.2.2.1 "java/lang/Exception" (by decide))) (vx_c (va_Nw.use rfl (h.2.2.2.2.2.1 "java/lang/Throwable" (by decide))) vx_n))))
theorem at_RX0_245 {args : Array Value} {s : State} {k : Kx} (h : Gx k s) (h1 : ∀ w ∈ (vx_atS RX0 245 "java/lang/IllegalArgumentException" ["java/lang/RuntimeException", "java/lang/Exception"]).filter goodWord, w.before args s = true) : ∀ w ∈ vx_atS RX0 245 "java/lang/IllegalArgumentException" ["java/lang/RuntimeException", "java/lang/Exception"], w.before args s = true :=
  vx_hat (B := [.castable "java/lang/IllegalArgumentException" "java/lang/IllegalArgumentException", .declares (Bundle.initS "java/lang/RuntimeException"), .declares (Bundle.initS "java/lang/Exception"), .declares (Bundle.initS "java/lang/Throwable")]) h1 (by decide +kernel) (vx_c (va_Nw.use rfl (h.2.2.2.2.1 "java/lang/IllegalArgumentException" (by decide))) (vx_c (va_Nw.use rfl (h.2.2.2.2.2.1 "java/lang/RuntimeException" (by decide))) (vx_c (va_Nw.use rfl (h.2.2.2.2.2.1 "java/lang/Exception" (by decide))) (vx_c (va_Nw.use rfl (h.2.2.2.2.2.1 "java/lang/Throwable" (by decide))) vx_n))))
theorem at_RX0_252 {args : Array Value} {s : State} {k : Kx} (h : Gx k s) (h1 : ∀ w ∈ (vx_atS RX0 252 "java/lang/IllegalStateException" ["java/lang/RuntimeException", "java/lang/Exception"]).filter goodWord, w.before args s = true) : ∀ w ∈ vx_atS RX0 252 "java/lang/IllegalStateException" ["java/lang/RuntimeException", "java/lang/Exception"], w.before args s = true :=
  vx_hat (B := [.castable "java/lang/IllegalStateException" "java/lang/IllegalStateException", .declares (Bundle.initS "java/lang/RuntimeException"), .declares (Bundle.initS "java/lang/Exception"), .declares (Bundle.initS "java/lang/Throwable")]) h1 (by decide +kernel) (vx_c (va_Nw.use rfl (h.2.2.2.2.1 "java/lang/IllegalStateException" (by decide))) (vx_c (va_Nw.use rfl (h.2.2.2.2.2.1 "java/lang/RuntimeException" (by decide))) (vx_c (va_Nw.use rfl (h.2.2.2.2.2.1 "java/lang/Exception" (by decide))) (vx_c (va_Nw.use rfl (h.2.2.2.2.2.1 "java/lang/Throwable" (by decide))) vx_n))))
def m_X0_requirePlace (p0 : Int32) : Nat := (if p0 < 0 then 1 else (if p0 < (6 : Int32) then 0 else 1))
theorem kk_X0_requirePlace : pK yX0_requirePlace wsX0_requirePlace cX0_requirePlace 1 none 1 := ⟨⟨_, rfl⟩, by decide +kernel, by decide +kernel, by decide +kernel⟩
set_option maxRecDepth 100000 in
set_option maxHeartbeats 4000000 in
theorem t_X0_requirePlace (l : Launch) (hl9 : l.stackTraces = false) (k : Kx) (p0 : Int32) : tM l k yX0_requirePlace wsX0_requirePlace 6 120 1 6 [.int p0] (m_X0_requirePlace p0) := by
  refine vx_ofW (cc := cX0_requirePlace) (maxL := 1) (ret := none) (by decide) rfl ?_
  intro p e s m args below meth c s₁ B hml hEx hv
  obtain ⟨rfl, hGx⟩ := hv
  have hx := B.exec
  have hb := B.bytes
  have hr := B.returns
  have hts := atoms_spec (ws := wsX0_requirePlace) B.pre
  have hown : s.vm.findClass RX0 = some m.cls := findClass_of_methodNamed B.named
  have hlocks := B.notSynchronized
  have htg : ∀ w ∈ GL, w.before _ s = true := fun w h => hts w (List.mem_cons_of_mem _ h)
  have hC : CallFix p m c cX0_requirePlace 1 s _ wsX0_requirePlace RX0 := ⟨hx, hb, hml, hown, hts⟩
  have hl := lv_entry ([.int p0]) (n := 1) (Nat.le_of_ble_eq_true rfl)
  rw [lg_entry_eq]
  generalize (lg_sl ([.int p0]) ++ List.replicate (1 - (lg_sl ([.int p0])).length) Slot.unset).toArray = ls at hl ⊢
  have hl : lv_has ls 1 [(0, .int p0)] := hl
  have hm : m_X0_requirePlace p0 = m_X0_requirePlace p0 := rfl
  refine lv_iload_n hx hb dX0_requirePlace_0 rfl (lv_at hl 0 rfl) ?_
  refine lv_if_lt (tgt := 10) hx hb dX0_requirePlace_1 (by decide) (fun h_1 => ?_) (fun h_1 => ?_)
  · have hm := hm.trans (if_pos h_1)
    have hm : m_X0_requirePlace p0 = 1 := hm
    obtain ⟨sa, hstr⟩ := gx_str hGx (q := (RX0, 234, "there is no such place")) (by decide +kernel)
    exact vx_throwS (own := RX0) (cls := "java/lang/IndexOutOfBoundsException") (names := ["java/lang/RuntimeException", "java/lang/Exception"]) hx hb hl9 hown (by decide +kernel) (by decide +kernel) (htg _ w_88) (htg _ w_33) hstr (at_RX0_236 hGx (fun w hw => htg w (inA_RX0_236 w hw))) (by decide +kernel) hGx.2.2.1 hGx.2.2.2.1 va_S.rf (hl.1.trans hml.symm) dX0_requirePlace_10 dX0_requirePlace_13 dX0_requirePlace_14 dX0_requirePlace_16 dX0_requirePlace_19 (fun x hx => (hEx x hx).elim) (Nat.le_of_ble_eq_true rfl) (Nat.le_of_ble_eq_true rfl) (Nat.le_of_ble_eq_true rfl) (Nat.le_of_ble_eq_true rfl) hlocks (fun t _ hsz hk => ⟨by rw [hm]; decide, by rw [hm]; rfl, hsz, hk⟩) (fun _ h => absurd h List.not_mem_nil) (Nat.le_of_ble_eq_true rfl) (Nat.le_of_ble_eq_true rfl)
  · have hm := hm.trans (if_neg h_1)
    refine lv_iload_n hx hb dX0_requirePlace_4 rfl (lv_at hl 0 rfl) ?_
    refine lv_bipush (v := 6) hx hb dX0_requirePlace_5 (by decide) ?_
    refine lv_icmp_lt (tgt := 20) hx hb dX0_requirePlace_7 (by decide) (fun h_2 => ?_) (fun h_2 => ?_)
    · have hm := hm.trans (if_pos h_2)
      have hm : m_X0_requirePlace p0 = 0 := hm
      refine vx_ret (W.widen (k := 1) (n := 6) (Nat.le_of_ble_eq_true rfl) (Nat.le_of_ble_eq_true rfl) ?_)
      exact W.vret hx hb hr (fun t ht _ => ⟨hm, rfl, ht⟩) (fun _ h => absurd h List.not_mem_nil) dX0_requirePlace_20
    · have hm := hm.trans (if_neg h_2)
      have hm : m_X0_requirePlace p0 = 1 := hm
      obtain ⟨sa, hstr⟩ := gx_str hGx (q := (RX0, 234, "there is no such place")) (by decide +kernel)
      exact vx_throwS (own := RX0) (cls := "java/lang/IndexOutOfBoundsException") (names := ["java/lang/RuntimeException", "java/lang/Exception"]) hx hb hl9 hown (by decide +kernel) (by decide +kernel) (htg _ w_88) (htg _ w_33) hstr (at_RX0_236 hGx (fun w hw => htg w (inA_RX0_236 w hw))) (by decide +kernel) hGx.2.2.1 hGx.2.2.2.1 va_S.rf (hl.1.trans hml.symm) dX0_requirePlace_10 dX0_requirePlace_13 dX0_requirePlace_14 dX0_requirePlace_16 dX0_requirePlace_19 (fun x hx => (hEx x hx).elim) (Nat.le_of_ble_eq_true rfl) (Nat.le_of_ble_eq_true rfl) (Nat.le_of_ble_eq_true rfl) (Nat.le_of_ble_eq_true rfl) hlocks (fun t _ hsz hk => ⟨by rw [hm]; decide, by rw [hm]; rfl, hsz, hk⟩) (fun _ h => absurd h List.not_mem_nil) (Nat.le_of_ble_eq_true rfl) (Nat.le_of_ble_eq_true rfl)
def m_X0_requireSpan (p0 : Int32) : Nat := (if p0 < 0 then 1 else (if p0 < (2 : Int32) then 0 else 1))
theorem kk_X0_requireSpan : pK yX0_requireSpan wsX0_requireSpan cX0_requireSpan 1 none 1 := ⟨⟨_, rfl⟩, by decide +kernel, by decide +kernel, by decide +kernel⟩
set_option maxRecDepth 100000 in
set_option maxHeartbeats 4000000 in
theorem t_X0_requireSpan (l : Launch) (hl9 : l.stackTraces = false) (k : Kx) (p0 : Int32) : tM l k yX0_requireSpan wsX0_requireSpan 6 120 1 6 [.int p0] (m_X0_requireSpan p0) := by
  refine vx_ofW (cc := cX0_requireSpan) (maxL := 1) (ret := none) (by decide) rfl ?_
  intro p e s m args below meth c s₁ B hml hEx hv
  obtain ⟨rfl, hGx⟩ := hv
  have hx := B.exec
  have hb := B.bytes
  have hr := B.returns
  have hts := atoms_spec (ws := wsX0_requireSpan) B.pre
  have hown : s.vm.findClass RX0 = some m.cls := findClass_of_methodNamed B.named
  have hlocks := B.notSynchronized
  have htg : ∀ w ∈ GL, w.before _ s = true := fun w h => hts w (List.mem_cons_of_mem _ h)
  have hC : CallFix p m c cX0_requireSpan 1 s _ wsX0_requireSpan RX0 := ⟨hx, hb, hml, hown, hts⟩
  have hl := lv_entry ([.int p0]) (n := 1) (Nat.le_of_ble_eq_true rfl)
  rw [lg_entry_eq]
  generalize (lg_sl ([.int p0]) ++ List.replicate (1 - (lg_sl ([.int p0])).length) Slot.unset).toArray = ls at hl ⊢
  have hl : lv_has ls 1 [(0, .int p0)] := hl
  have hm : m_X0_requireSpan p0 = m_X0_requireSpan p0 := rfl
  refine lv_iload_n hx hb dX0_requireSpan_0 rfl (lv_at hl 0 rfl) ?_
  refine lv_if_lt (tgt := 9) hx hb dX0_requireSpan_1 (by decide) (fun h_1 => ?_) (fun h_1 => ?_)
  · have hm := hm.trans (if_pos h_1)
    have hm : m_X0_requireSpan p0 = 1 := hm
    obtain ⟨sa, hstr⟩ := gx_str hGx (q := (RX0, 239, "there is no such span")) (by decide +kernel)
    exact vx_throwS (own := RX0) (cls := "java/lang/IndexOutOfBoundsException") (names := ["java/lang/RuntimeException", "java/lang/Exception"]) hx hb hl9 hown (by decide +kernel) (by decide +kernel) (htg _ w_88) (htg _ w_33) hstr (at_RX0_236 hGx (fun w hw => htg w (inA_RX0_236 w hw))) (by decide +kernel) hGx.2.2.1 hGx.2.2.2.1 va_S.rf (hl.1.trans hml.symm) dX0_requireSpan_9 dX0_requireSpan_12 dX0_requireSpan_13 dX0_requireSpan_15 dX0_requireSpan_18 (fun x hx => (hEx x hx).elim) (Nat.le_of_ble_eq_true rfl) (Nat.le_of_ble_eq_true rfl) (Nat.le_of_ble_eq_true rfl) (Nat.le_of_ble_eq_true rfl) hlocks (fun t _ hsz hk => ⟨by rw [hm]; decide, by rw [hm]; rfl, hsz, hk⟩) (fun _ h => absurd h List.not_mem_nil) (Nat.le_of_ble_eq_true rfl) (Nat.le_of_ble_eq_true rfl)
  · have hm := hm.trans (if_neg h_1)
    refine lv_iload_n hx hb dX0_requireSpan_4 rfl (lv_at hl 0 rfl) ?_
    refine lv_iconst (v := 2) hx hb dX0_requireSpan_5 (by decide) ?_
    refine lv_icmp_lt (tgt := 19) hx hb dX0_requireSpan_6 (by decide) (fun h_2 => ?_) (fun h_2 => ?_)
    · have hm := hm.trans (if_pos h_2)
      have hm : m_X0_requireSpan p0 = 0 := hm
      refine vx_ret (W.widen (k := 1) (n := 6) (Nat.le_of_ble_eq_true rfl) (Nat.le_of_ble_eq_true rfl) ?_)
      exact W.vret hx hb hr (fun t ht _ => ⟨hm, rfl, ht⟩) (fun _ h => absurd h List.not_mem_nil) dX0_requireSpan_19
    · have hm := hm.trans (if_neg h_2)
      have hm : m_X0_requireSpan p0 = 1 := hm
      obtain ⟨sa, hstr⟩ := gx_str hGx (q := (RX0, 239, "there is no such span")) (by decide +kernel)
      exact vx_throwS (own := RX0) (cls := "java/lang/IndexOutOfBoundsException") (names := ["java/lang/RuntimeException", "java/lang/Exception"]) hx hb hl9 hown (by decide +kernel) (by decide +kernel) (htg _ w_88) (htg _ w_33) hstr (at_RX0_236 hGx (fun w hw => htg w (inA_RX0_236 w hw))) (by decide +kernel) hGx.2.2.1 hGx.2.2.2.1 va_S.rf (hl.1.trans hml.symm) dX0_requireSpan_9 dX0_requireSpan_12 dX0_requireSpan_13 dX0_requireSpan_15 dX0_requireSpan_18 (fun x hx => (hEx x hx).elim) (Nat.le_of_ble_eq_true rfl) (Nat.le_of_ble_eq_true rfl) (Nat.le_of_ble_eq_true rfl) (Nat.le_of_ble_eq_true rfl) hlocks (fun t _ hsz hk => ⟨by rw [hm]; decide, by rw [hm]; rfl, hsz, hk⟩) (fun _ h => absurd h List.not_mem_nil) (Nat.le_of_ble_eq_true rfl) (Nat.le_of_ble_eq_true rfl)
def m_X0_requireWithin (p0 : Int32) (p1 : Int32) (p2 : Int32) : Nat := (if p0 < p1 then 2 else (if p0 ≤ p2 then 0 else 2))
theorem kk_X0_requireWithin : pK yX0_requireWithin wsX0_requireWithin cX0_requireWithin 3 none 3 := ⟨⟨_, rfl⟩, by decide +kernel, by decide +kernel, by decide +kernel⟩
set_option maxRecDepth 100000 in
set_option maxHeartbeats 4000000 in
theorem t_X0_requireWithin (l : Launch) (hl9 : l.stackTraces = false) (k : Kx) (p0 : Int32) (p1 : Int32) (p2 : Int32) : tM l k yX0_requireWithin wsX0_requireWithin 6 120 1 6 [.int p0, .int p1, .int p2] (m_X0_requireWithin p0 p1 p2) := by
  refine vx_ofW (cc := cX0_requireWithin) (maxL := 3) (ret := none) (by decide) rfl ?_
  intro p e s m args below meth c s₁ B hml hEx hv
  obtain ⟨rfl, hGx⟩ := hv
  have hx := B.exec
  have hb := B.bytes
  have hr := B.returns
  have hts := atoms_spec (ws := wsX0_requireWithin) B.pre
  have hown : s.vm.findClass RX0 = some m.cls := findClass_of_methodNamed B.named
  have hlocks := B.notSynchronized
  have htg : ∀ w ∈ GL, w.before _ s = true := fun w h => hts w (List.mem_cons_of_mem _ h)
  have hC : CallFix p m c cX0_requireWithin 3 s _ wsX0_requireWithin RX0 := ⟨hx, hb, hml, hown, hts⟩
  have hl := lv_entry ([.int p0, .int p1, .int p2]) (n := 3) (Nat.le_of_ble_eq_true rfl)
  rw [lg_entry_eq]
  generalize (lg_sl ([.int p0, .int p1, .int p2]) ++ List.replicate (3 - (lg_sl ([.int p0, .int p1, .int p2])).length) Slot.unset).toArray = ls at hl ⊢
  have hl : lv_has ls 3 [(0, .int p0), (1, .int p1), (2, .int p2)] := hl
  have hm : m_X0_requireWithin p0 p1 p2 = m_X0_requireWithin p0 p1 p2 := rfl
  refine lv_iload_n hx hb dX0_requireWithin_0 rfl (lv_at hl 0 rfl) ?_
  refine lv_iload_n hx hb dX0_requireWithin_1 rfl (lv_at hl 1 rfl) ?_
  refine lv_icmp_lt (tgt := 10) hx hb dX0_requireWithin_2 (by decide) (fun h_1 => ?_) (fun h_1 => ?_)
  · have hm := hm.trans (if_pos h_1)
    have hm : m_X0_requireWithin p0 p1 p2 = 2 := hm
    obtain ⟨sa, hstr⟩ := gx_str hGx (q := (RX0, 243, "the number is too small or too large")) (by decide +kernel)
    exact vx_throwS (own := RX0) (cls := "java/lang/IllegalArgumentException") (names := ["java/lang/RuntimeException", "java/lang/Exception"]) hx hb hl9 hown (by decide +kernel) (by decide +kernel) (htg _ w_298) (htg _ w_34) hstr (at_RX0_245 hGx (fun w hw => htg w (inA_RX0_245 w hw))) (by decide +kernel) hGx.2.2.1 hGx.2.2.2.1 va_S.rf (hl.1.trans hml.symm) dX0_requireWithin_10 dX0_requireWithin_13 dX0_requireWithin_14 dX0_requireWithin_16 dX0_requireWithin_19 (fun x hx => (hEx x hx).elim) (Nat.le_of_ble_eq_true rfl) (Nat.le_of_ble_eq_true rfl) (Nat.le_of_ble_eq_true rfl) (Nat.le_of_ble_eq_true rfl) hlocks (fun t _ hsz hk => ⟨by rw [hm]; decide, by rw [hm]; rfl, hsz, hk⟩) (fun _ h => absurd h List.not_mem_nil) (Nat.le_of_ble_eq_true rfl) (Nat.le_of_ble_eq_true rfl)
  · have hm := hm.trans (if_neg h_1)
    refine lv_iload_n hx hb dX0_requireWithin_5 rfl (lv_at hl 0 rfl) ?_
    refine lv_iload_n hx hb dX0_requireWithin_6 rfl (lv_at hl 2 rfl) ?_
    refine lv_icmp_le (tgt := 20) hx hb dX0_requireWithin_7 (by decide) (fun h_2 => ?_) (fun h_2 => ?_)
    · have hm := hm.trans (if_pos h_2)
      have hm : m_X0_requireWithin p0 p1 p2 = 0 := hm
      refine vx_ret (W.widen (k := 1) (n := 6) (Nat.le_of_ble_eq_true rfl) (Nat.le_of_ble_eq_true rfl) ?_)
      exact W.vret hx hb hr (fun t ht _ => ⟨hm, rfl, ht⟩) (fun _ h => absurd h List.not_mem_nil) dX0_requireWithin_20
    · have hm := hm.trans (if_neg h_2)
      have hm : m_X0_requireWithin p0 p1 p2 = 2 := hm
      obtain ⟨sa, hstr⟩ := gx_str hGx (q := (RX0, 243, "the number is too small or too large")) (by decide +kernel)
      exact vx_throwS (own := RX0) (cls := "java/lang/IllegalArgumentException") (names := ["java/lang/RuntimeException", "java/lang/Exception"]) hx hb hl9 hown (by decide +kernel) (by decide +kernel) (htg _ w_298) (htg _ w_34) hstr (at_RX0_245 hGx (fun w hw => htg w (inA_RX0_245 w hw))) (by decide +kernel) hGx.2.2.1 hGx.2.2.2.1 va_S.rf (hl.1.trans hml.symm) dX0_requireWithin_10 dX0_requireWithin_13 dX0_requireWithin_14 dX0_requireWithin_16 dX0_requireWithin_19 (fun x hx => (hEx x hx).elim) (Nat.le_of_ble_eq_true rfl) (Nat.le_of_ble_eq_true rfl) (Nat.le_of_ble_eq_true rfl) (Nat.le_of_ble_eq_true rfl) hlocks (fun t _ hsz hk => ⟨by rw [hm]; decide, by rw [hm]; rfl, hsz, hk⟩) (fun _ h => absurd h List.not_mem_nil) (Nat.le_of_ble_eq_true rfl) (Nat.le_of_ble_eq_true rfl)
def m_X0_requireAmount (p0 : Int32) : Nat := (if m_X0_requireWithin p0 (-200000 : Int32) (200000 : Int32) = 0 then 0 else m_X0_requireWithin p0 (-200000 : Int32) (200000 : Int32))
theorem kk_X0_requireAmount : pK yX0_requireAmount wsX0_requireAmount cX0_requireAmount 1 none 1 := ⟨⟨_, rfl⟩, by decide +kernel, by decide +kernel, by decide +kernel⟩
set_option maxRecDepth 100000 in
set_option maxHeartbeats 4000000 in
theorem t_X0_requireAmount (l : Launch) (hl9 : l.stackTraces = false) (k : Kx) (p0 : Int32) : tM l k yX0_requireAmount wsX0_requireAmount 7 142 1 6 [.int p0] (m_X0_requireAmount p0) := by
  refine vx_ofW (cc := cX0_requireAmount) (maxL := 1) (ret := none) (by decide) rfl ?_
  intro p e s m args below meth c s₁ B hml hEx hv
  obtain ⟨rfl, hGx⟩ := hv
  have hx := B.exec
  have hb := B.bytes
  have hr := B.returns
  have hts := atoms_spec (ws := wsX0_requireAmount) B.pre
  have hown : s.vm.findClass RX0 = some m.cls := findClass_of_methodNamed B.named
  have hlocks := B.notSynchronized
  have htg : ∀ w ∈ GL, w.before _ s = true := fun w h => hts w (List.mem_cons_of_mem _ h)
  have hC : CallFix p m c cX0_requireAmount 1 s _ wsX0_requireAmount RX0 := ⟨hx, hb, hml, hown, hts⟩
  have hl := lv_entry ([.int p0]) (n := 1) (Nat.le_of_ble_eq_true rfl)
  rw [lg_entry_eq]
  generalize (lg_sl ([.int p0]) ++ List.replicate (1 - (lg_sl ([.int p0])).length) Slot.unset).toArray = ls at hl ⊢
  have hl : lv_has ls 1 [(0, .int p0)] := hl
  have hm : m_X0_requireAmount p0 = m_X0_requireAmount p0 := rfl
  refine lv_iload_n hx hb dX0_requireAmount_0 rfl (lv_at hl 0 rfl) ?_
  refine lv_ldc hx hb hown (htg _ w_755) dX0_requireAmount_1 ?_
  refine lv_ldc hx hb hown (htg _ w_756) dX0_requireAmount_3 ?_
  refine tt_S hC hGx hEx hlocks (t_X0_requireWithin l hl9 k p0 (-200000 : Int32) (200000 : Int32)) (gS w_295 w_296 w_26 w_297) kk_X0_requireWithin ⟨Nat.le_of_ble_eq_true rfl, Nat.le_of_ble_eq_true rfl⟩ ⟨Nat.le_of_ble_eq_true rfl, Nat.le_of_ble_eq_true rfl⟩ ⟨Nat.le_of_ble_eq_true rfl, Nat.le_of_ble_eq_true rfl⟩ hl.1 rfl rfl (Nat.le_of_ble_eq_true rfl) dX0_requireAmount_5 (fun h_1 => hm.trans (if_neg h_1)) (fun h_1 => ?_)
  have hm := hm.trans (if_pos h_1)
  have hm : m_X0_requireAmount p0 = 0 := hm
  refine vx_ret (W.widen (k := 1) (n := 6) (Nat.le_of_ble_eq_true rfl) (Nat.le_of_ble_eq_true rfl) ?_)
  exact W.vret hx hb hr (fun t ht _ => ⟨hm, rfl, ht⟩) (fun _ h => absurd h List.not_mem_nil) dX0_requireAmount_8
def m_X0_requireUnit (p0 : Int32) : Nat := (if m_X0_requireWithin p0 (0 : Int32) (6 : Int32) = 0 then 0 else m_X0_requireWithin p0 (0 : Int32) (6 : Int32))
theorem kk_X0_requireUnit : pK yX0_requireUnit wsX0_requireUnit cX0_requireUnit 1 none 1 := ⟨⟨_, rfl⟩, by decide +kernel, by decide +kernel, by decide +kernel⟩
set_option maxRecDepth 100000 in
set_option maxHeartbeats 4000000 in
theorem t_X0_requireUnit (l : Launch) (hl9 : l.stackTraces = false) (k : Kx) (p0 : Int32) : tM l k yX0_requireUnit wsX0_requireUnit 7 142 1 6 [.int p0] (m_X0_requireUnit p0) := by
  refine vx_ofW (cc := cX0_requireUnit) (maxL := 1) (ret := none) (by decide) rfl ?_
  intro p e s m args below meth c s₁ B hml hEx hv
  obtain ⟨rfl, hGx⟩ := hv
  have hx := B.exec
  have hb := B.bytes
  have hr := B.returns
  have hts := atoms_spec (ws := wsX0_requireUnit) B.pre
  have hown : s.vm.findClass RX0 = some m.cls := findClass_of_methodNamed B.named
  have hlocks := B.notSynchronized
  have htg : ∀ w ∈ GL, w.before _ s = true := fun w h => hts w (List.mem_cons_of_mem _ h)
  have hC : CallFix p m c cX0_requireUnit 1 s _ wsX0_requireUnit RX0 := ⟨hx, hb, hml, hown, hts⟩
  have hl := lv_entry ([.int p0]) (n := 1) (Nat.le_of_ble_eq_true rfl)
  rw [lg_entry_eq]
  generalize (lg_sl ([.int p0]) ++ List.replicate (1 - (lg_sl ([.int p0])).length) Slot.unset).toArray = ls at hl ⊢
  have hl : lv_has ls 1 [(0, .int p0)] := hl
  have hm : m_X0_requireUnit p0 = m_X0_requireUnit p0 := rfl
  refine lv_iload_n hx hb dX0_requireUnit_0 rfl (lv_at hl 0 rfl) ?_
  refine lv_iconst (v := 0) hx hb dX0_requireUnit_1 (by decide) ?_
  refine lv_bipush (v := 6) hx hb dX0_requireUnit_2 (by decide) ?_
  refine tt_S hC hGx hEx hlocks (t_X0_requireWithin l hl9 k p0 (0 : Int32) (6 : Int32)) (gS w_295 w_296 w_26 w_297) kk_X0_requireWithin ⟨Nat.le_of_ble_eq_true rfl, Nat.le_of_ble_eq_true rfl⟩ ⟨Nat.le_of_ble_eq_true rfl, Nat.le_of_ble_eq_true rfl⟩ ⟨Nat.le_of_ble_eq_true rfl, Nat.le_of_ble_eq_true rfl⟩ hl.1 rfl rfl (Nat.le_of_ble_eq_true rfl) dX0_requireUnit_4 (fun h_1 => hm.trans (if_neg h_1)) (fun h_1 => ?_)
  have hm := hm.trans (if_pos h_1)
  have hm : m_X0_requireUnit p0 = 0 := hm
  refine vx_ret (W.widen (k := 1) (n := 6) (Nat.le_of_ble_eq_true rfl) (Nat.le_of_ble_eq_true rfl) ?_)
  exact W.vret hx hb hr (fun t ht _ => ⟨hm, rfl, ht⟩) (fun _ h => absurd h List.not_mem_nil) dX0_requireUnit_7
def m_X0_requireYearMonthDay (p0 : Int32) (p1 : Int32) (p2 : Int32) : Nat := (if m_X0_requireWithin p0 (-9999 : Int32) (9999 : Int32) = 0 then (if m_X0_requireWithin p1 (1 : Int32) (12 : Int32) = 0 then (if m_X0_requireWithin p2 (1 : Int32) (31 : Int32) = 0 then 0 else m_X0_requireWithin p2 (1 : Int32) (31 : Int32)) else m_X0_requireWithin p1 (1 : Int32) (12 : Int32)) else m_X0_requireWithin p0 (-9999 : Int32) (9999 : Int32))
theorem kk_X0_requireYearMonthDay : pK yX0_requireYearMonthDay wsX0_requireYearMonthDay cX0_requireYearMonthDay 3 none 3 := ⟨⟨_, rfl⟩, by decide +kernel, by decide +kernel, by decide +kernel⟩
set_option maxRecDepth 100000 in
set_option maxHeartbeats 4000000 in
theorem t_X0_requireYearMonthDay (l : Launch) (hl9 : l.stackTraces = false) (k : Kx) (p0 : Int32) (p1 : Int32) (p2 : Int32) : tM l k yX0_requireYearMonthDay wsX0_requireYearMonthDay 7 142 3 18 [.int p0, .int p1, .int p2] (m_X0_requireYearMonthDay p0 p1 p2) := by
  refine vx_ofW (cc := cX0_requireYearMonthDay) (maxL := 3) (ret := none) (by decide) rfl ?_
  intro p e s m args below meth c s₁ B hml hEx hv
  obtain ⟨rfl, hGx⟩ := hv
  have hx := B.exec
  have hb := B.bytes
  have hr := B.returns
  have hts := atoms_spec (ws := wsX0_requireYearMonthDay) B.pre
  have hown : s.vm.findClass RX0 = some m.cls := findClass_of_methodNamed B.named
  have hlocks := B.notSynchronized
  have htg : ∀ w ∈ GL, w.before _ s = true := fun w h => hts w (List.mem_cons_of_mem _ h)
  have hC : CallFix p m c cX0_requireYearMonthDay 3 s _ wsX0_requireYearMonthDay RX0 := ⟨hx, hb, hml, hown, hts⟩
  have hl := lv_entry ([.int p0, .int p1, .int p2]) (n := 3) (Nat.le_of_ble_eq_true rfl)
  rw [lg_entry_eq]
  generalize (lg_sl ([.int p0, .int p1, .int p2]) ++ List.replicate (3 - (lg_sl ([.int p0, .int p1, .int p2])).length) Slot.unset).toArray = ls at hl ⊢
  have hl : lv_has ls 3 [(0, .int p0), (1, .int p1), (2, .int p2)] := hl
  have hm : m_X0_requireYearMonthDay p0 p1 p2 = m_X0_requireYearMonthDay p0 p1 p2 := rfl
  refine lv_iload_n hx hb dX0_requireYearMonthDay_0 rfl (lv_at hl 0 rfl) ?_
  refine lv_sipush (v := (-9999)) hx hb dX0_requireYearMonthDay_1 (by decide) ?_
  refine lv_sipush (v := 9999) hx hb dX0_requireYearMonthDay_4 (by decide) ?_
  refine tt_S hC hGx hEx hlocks (t_X0_requireWithin l hl9 k p0 (-9999 : Int32) (9999 : Int32)) (gS w_295 w_296 w_26 w_297) kk_X0_requireWithin ⟨Nat.le_of_ble_eq_true rfl, Nat.le_of_ble_eq_true rfl⟩ ⟨Nat.le_of_ble_eq_true rfl, Nat.le_of_ble_eq_true rfl⟩ ⟨Nat.le_of_ble_eq_true rfl, Nat.le_of_ble_eq_true rfl⟩ hl.1 rfl rfl (Nat.le_of_ble_eq_true rfl) dX0_requireYearMonthDay_7 (fun h_1 => hm.trans (if_neg h_1)) (fun h_1 => ?_)
  have hm := hm.trans (if_pos h_1)
  refine lv_iload_n hx hb dX0_requireYearMonthDay_10 rfl (lv_at hl 1 rfl) ?_
  refine lv_iconst (v := 1) hx hb dX0_requireYearMonthDay_11 (by decide) ?_
  refine lv_bipush (v := 12) hx hb dX0_requireYearMonthDay_12 (by decide) ?_
  refine tt_S hC hGx hEx hlocks (t_X0_requireWithin l hl9 k p1 (1 : Int32) (12 : Int32)) (gS w_295 w_296 w_26 w_297) kk_X0_requireWithin ⟨Nat.le_of_ble_eq_true rfl, Nat.le_of_ble_eq_true rfl⟩ ⟨Nat.le_of_ble_eq_true rfl, Nat.le_of_ble_eq_true rfl⟩ ⟨Nat.le_of_ble_eq_true rfl, Nat.le_of_ble_eq_true rfl⟩ hl.1 rfl rfl (Nat.le_of_ble_eq_true rfl) dX0_requireYearMonthDay_14 (fun h_2 => hm.trans (if_neg h_2)) (fun h_2 => ?_)
  have hm := hm.trans (if_pos h_2)
  refine lv_iload_n hx hb dX0_requireYearMonthDay_17 rfl (lv_at hl 2 rfl) ?_
  refine lv_iconst (v := 1) hx hb dX0_requireYearMonthDay_18 (by decide) ?_
  refine lv_bipush (v := 31) hx hb dX0_requireYearMonthDay_19 (by decide) ?_
  refine tt_S hC hGx hEx hlocks (t_X0_requireWithin l hl9 k p2 (1 : Int32) (31 : Int32)) (gS w_295 w_296 w_26 w_297) kk_X0_requireWithin ⟨Nat.le_of_ble_eq_true rfl, Nat.le_of_ble_eq_true rfl⟩ ⟨Nat.le_of_ble_eq_true rfl, Nat.le_of_ble_eq_true rfl⟩ ⟨Nat.le_of_ble_eq_true rfl, Nat.le_of_ble_eq_true rfl⟩ hl.1 rfl rfl (Nat.le_of_ble_eq_true rfl) dX0_requireYearMonthDay_21 (fun h_3 => hm.trans (if_neg h_3)) (fun h_3 => ?_)
  have hm := hm.trans (if_pos h_3)
  have hm : m_X0_requireYearMonthDay p0 p1 p2 = 0 := hm
  refine vx_ret (W.widen (k := 3) (n := 18) (Nat.le_of_ble_eq_true rfl) (Nat.le_of_ble_eq_true rfl) ?_)
  exact W.vret hx hb hr (fun t ht _ => ⟨hm, rfl, ht⟩) (fun _ h => absurd h List.not_mem_nil) dX0_requireYearMonthDay_24
def m_X0_requireDayOfMonth (p0 : Int64) (p1 : Int32) (p2 : Int32) : Nat := (if p2 ≤ m_X0_monthLength p1 (m_X0_isLeap p0) then 0 else 3)
theorem kk_X0_requireDayOfMonth : pK yX0_requireDayOfMonth wsX0_requireDayOfMonth cX0_requireDayOfMonth 4 none 3 := ⟨⟨_, rfl⟩, by decide +kernel, by decide +kernel, by decide +kernel⟩
set_option maxRecDepth 100000 in
set_option maxHeartbeats 4000000 in
theorem t_X0_requireDayOfMonth (l : Launch) (hl9 : l.stackTraces = false) (k : Kx) (p0 : Int64) (p1 : Int32) (p2 : Int32) : tM l k yX0_requireDayOfMonth wsX0_requireDayOfMonth 6 120 1 6 [.long p0, .int p1, .int p2] (m_X0_requireDayOfMonth p0 p1 p2) := by
  refine vx_ofW (cc := cX0_requireDayOfMonth) (maxL := 4) (ret := none) (by decide) rfl ?_
  intro p e s m args below meth c s₁ B hml hEx hv
  obtain ⟨rfl, hGx⟩ := hv
  have hx := B.exec
  have hb := B.bytes
  have hr := B.returns
  have hts := atoms_spec (ws := wsX0_requireDayOfMonth) B.pre
  have hown : s.vm.findClass RX0 = some m.cls := findClass_of_methodNamed B.named
  have hlocks := B.notSynchronized
  have htg : ∀ w ∈ GL, w.before _ s = true := fun w h => hts w (List.mem_cons_of_mem _ h)
  have hC : CallFix p m c cX0_requireDayOfMonth 4 s _ wsX0_requireDayOfMonth RX0 := ⟨hx, hb, hml, hown, hts⟩
  have hl := lv_entry ([.long p0, .int p1, .int p2]) (n := 4) (Nat.le_of_ble_eq_true rfl)
  rw [lg_entry_eq]
  generalize (lg_sl ([.long p0, .int p1, .int p2]) ++ List.replicate (4 - (lg_sl ([.long p0, .int p1, .int p2])).length) Slot.unset).toArray = ls at hl ⊢
  have hl : lv_has ls 4 [(0, .long p0), (2, .int p1), (3, .int p2)] := hl
  have hm : m_X0_requireDayOfMonth p0 p1 p2 = m_X0_requireDayOfMonth p0 p1 p2 := rfl
  refine lv_iload_n hx hb dX0_requireDayOfMonth_0 rfl (lv_at hl 2 rfl) ?_
  refine lv_iload_n hx hb dX0_requireDayOfMonth_1 rfl (lv_at hl 1 rfl) ?_
  refine lv_lload_n hx hb dX0_requireDayOfMonth_2 rfl (lv_at hl 0 rfl) ?_
  refine pc_S hC (c_X0_isLeap l p0) (gS w_186 w_187 w_26 w_188) kk_X0_isLeap ⟨Nat.le_of_ble_eq_true rfl, Nat.le_of_ble_eq_true rfl⟩ ⟨Nat.le_of_ble_eq_true rfl, Nat.le_of_ble_eq_true rfl⟩ hl.1 rfl rfl (Nat.le_of_ble_eq_true rfl) dX0_requireDayOfMonth_3 ?_
  refine pc_S hC (c_X0_monthLength l p1 (m_X0_isLeap p0)) (gS w_195 w_196 w_26 w_197) kk_X0_monthLength ⟨Nat.le_of_ble_eq_true rfl, Nat.le_of_ble_eq_true rfl⟩ ⟨Nat.le_of_ble_eq_true rfl, Nat.le_of_ble_eq_true rfl⟩ hl.1 rfl rfl (Nat.le_of_ble_eq_true rfl) dX0_requireDayOfMonth_6 ?_
  refine lv_icmp_le (tgt := 22) hx hb dX0_requireDayOfMonth_9 (by decide) (fun h_1 => ?_) (fun h_1 => ?_)
  · have hm := hm.trans (if_pos h_1)
    have hm : m_X0_requireDayOfMonth p0 p1 p2 = 0 := hm
    refine vx_ret (W.widen (k := 1) (n := 6) (Nat.le_of_ble_eq_true rfl) (Nat.le_of_ble_eq_true rfl) ?_)
    exact W.vret hx hb hr (fun t ht _ => ⟨hm, rfl, ht⟩) (fun _ h => absurd h List.not_mem_nil) dX0_requireDayOfMonth_22
  · have hm := hm.trans (if_neg h_1)
    have hm : m_X0_requireDayOfMonth p0 p1 p2 = 3 := hm
    obtain ⟨sa, hstr⟩ := gx_str hGx (q := (RX0, 250, "the month has not so many days")) (by decide +kernel)
    exact vx_throwS (own := RX0) (cls := "java/lang/IllegalStateException") (names := ["java/lang/RuntimeException", "java/lang/Exception"]) hx hb hl9 hown (by decide +kernel) (by decide +kernel) (htg _ w_635) (htg _ w_35) hstr (at_RX0_252 hGx (fun w hw => htg w (inA_RX0_252 w hw))) (by decide +kernel) hGx.2.2.1 hGx.2.2.2.1 va_S.rf (hl.1.trans hml.symm) dX0_requireDayOfMonth_12 dX0_requireDayOfMonth_15 dX0_requireDayOfMonth_16 dX0_requireDayOfMonth_18 dX0_requireDayOfMonth_21 (fun x hx => (hEx x hx).elim) (Nat.le_of_ble_eq_true rfl) (Nat.le_of_ble_eq_true rfl) (Nat.le_of_ble_eq_true rfl) (Nat.le_of_ble_eq_true rfl) hlocks (fun t _ hsz hk => ⟨by rw [hm]; decide, by rw [hm]; rfl, hsz, hk⟩) (fun _ h => absurd h List.not_mem_nil) (Nat.le_of_ble_eq_true rfl) (Nat.le_of_ble_eq_true rfl)
def m_X0_requireDate (p0 : Int64) : Nat := (if lg_cmp (m_X0_yearIn p0) (-9999 : Int64) < 0 then 3 else (if lg_cmp (m_X0_yearIn p0) (9999 : Int64) ≤ 0 then 0 else 3))
theorem kk_X0_requireDate : pK yX0_requireDate wsX0_requireDate cX0_requireDate 2 none 1 := ⟨⟨_, rfl⟩, by decide +kernel, by decide +kernel, by decide +kernel⟩
set_option maxRecDepth 100000 in
set_option maxHeartbeats 4000000 in
theorem t_X0_requireDate (l : Launch) (hl9 : l.stackTraces = false) (k : Kx) (p0 : Int64) : tM l k yX0_requireDate wsX0_requireDate 6 120 1 6 [.long p0] (m_X0_requireDate p0) := by
  refine vx_ofW (cc := cX0_requireDate) (maxL := 2) (ret := none) (by decide) rfl ?_
  intro p e s m args below meth c s₁ B hml hEx hv
  obtain ⟨rfl, hGx⟩ := hv
  have hx := B.exec
  have hb := B.bytes
  have hr := B.returns
  have hts := atoms_spec (ws := wsX0_requireDate) B.pre
  have hown : s.vm.findClass RX0 = some m.cls := findClass_of_methodNamed B.named
  have hlocks := B.notSynchronized
  have htg : ∀ w ∈ GL, w.before _ s = true := fun w h => hts w (List.mem_cons_of_mem _ h)
  have hC : CallFix p m c cX0_requireDate 2 s _ wsX0_requireDate RX0 := ⟨hx, hb, hml, hown, hts⟩
  have hl := lv_entry ([.long p0]) (n := 2) (Nat.le_of_ble_eq_true rfl)
  rw [lg_entry_eq]
  generalize (lg_sl ([.long p0]) ++ List.replicate (2 - (lg_sl ([.long p0])).length) Slot.unset).toArray = ls at hl ⊢
  have hl : lv_has ls 2 [(0, .long p0)] := hl
  have hm : m_X0_requireDate p0 = m_X0_requireDate p0 := rfl
  refine lv_lload_n hx hb dX0_requireDate_0 rfl (lv_at hl 0 rfl) ?_
  refine pc_S hC (c_X0_yearIn l p0) (gS w_168 w_169 w_26 w_170) kk_X0_yearIn ⟨Nat.le_of_ble_eq_true rfl, Nat.le_of_ble_eq_true rfl⟩ ⟨Nat.le_of_ble_eq_true rfl, Nat.le_of_ble_eq_true rfl⟩ hl.1 rfl rfl (Nat.le_of_ble_eq_true rfl) dX0_requireDate_1 ?_
  refine lv_ldc2 hx hb hown (htg _ w_655) dX0_requireDate_4 ?_
  refine W.lcmp hx hb dX0_requireDate_7 ?_
  refine lv_if_lt (tgt := 22) hx hb dX0_requireDate_8 (by decide) (fun h_1 => ?_) (fun h_1 => ?_)
  · have hm := hm.trans (if_pos h_1)
    have hm : m_X0_requireDate p0 = 3 := hm
    obtain ⟨sa, hstr⟩ := gx_str hGx (q := (RX0, 257, "what comes is no date")) (by decide +kernel)
    exact vx_throwSW (own := RX0) (cls := "java/lang/IllegalStateException") (names := ["java/lang/RuntimeException", "java/lang/Exception"]) hx hb hl9 hown (by decide +kernel) (by decide +kernel) (htg _ w_635) (htg _ w_35) hstr (at_RX0_252 hGx (fun w hw => htg w (inA_RX0_252 w hw))) (by decide +kernel) hGx.2.2.1 hGx.2.2.2.1 va_S.rf (hl.1.trans hml.symm) dX0_requireDate_22 dX0_requireDate_25 dX0_requireDate_26 dX0_requireDate_29 dX0_requireDate_32 (fun x hx => (hEx x hx).elim) (Nat.le_of_ble_eq_true rfl) (Nat.le_of_ble_eq_true rfl) (Nat.le_of_ble_eq_true rfl) (Nat.le_of_ble_eq_true rfl) hlocks (fun t _ hsz hk => ⟨by rw [hm]; decide, by rw [hm]; rfl, hsz, hk⟩) (fun _ h => absurd h List.not_mem_nil) (Nat.le_of_ble_eq_true rfl) (Nat.le_of_ble_eq_true rfl)
  · have hm := hm.trans (if_neg h_1)
    refine lv_lload_n hx hb dX0_requireDate_11 rfl (lv_at hl 0 rfl) ?_
    refine pc_S hC (c_X0_yearIn l p0) (gS w_168 w_169 w_26 w_170) kk_X0_yearIn ⟨Nat.le_of_ble_eq_true rfl, Nat.le_of_ble_eq_true rfl⟩ ⟨Nat.le_of_ble_eq_true rfl, Nat.le_of_ble_eq_true rfl⟩ hl.1 rfl rfl (Nat.le_of_ble_eq_true rfl) dX0_requireDate_12 ?_
    refine lv_ldc2 hx hb hown (htg _ w_656) dX0_requireDate_15 ?_
    refine W.lcmp hx hb dX0_requireDate_18 ?_
    refine lv_if_le (tgt := 33) hx hb dX0_requireDate_19 (by decide) (fun h_2 => ?_) (fun h_2 => ?_)
    · have hm := hm.trans (if_pos h_2)
      have hm : m_X0_requireDate p0 = 0 := hm
      refine vx_ret (W.widen (k := 1) (n := 6) (Nat.le_of_ble_eq_true rfl) (Nat.le_of_ble_eq_true rfl) ?_)
      exact W.vret hx hb hr (fun t ht _ => ⟨hm, rfl, ht⟩) (fun _ h => absurd h List.not_mem_nil) dX0_requireDate_33
    · have hm := hm.trans (if_neg h_2)
      have hm : m_X0_requireDate p0 = 3 := hm
      obtain ⟨sa, hstr⟩ := gx_str hGx (q := (RX0, 257, "what comes is no date")) (by decide +kernel)
      exact vx_throwSW (own := RX0) (cls := "java/lang/IllegalStateException") (names := ["java/lang/RuntimeException", "java/lang/Exception"]) hx hb hl9 hown (by decide +kernel) (by decide +kernel) (htg _ w_635) (htg _ w_35) hstr (at_RX0_252 hGx (fun w hw => htg w (inA_RX0_252 w hw))) (by decide +kernel) hGx.2.2.1 hGx.2.2.2.1 va_S.rf (hl.1.trans hml.symm) dX0_requireDate_22 dX0_requireDate_25 dX0_requireDate_26 dX0_requireDate_29 dX0_requireDate_32 (fun x hx => (hEx x hx).elim) (Nat.le_of_ble_eq_true rfl) (Nat.le_of_ble_eq_true rfl) (Nat.le_of_ble_eq_true rfl) (Nat.le_of_ble_eq_true rfl) hlocks (fun t _ hsz hk => ⟨by rw [hm]; decide, by rw [hm]; rfl, hsz, hk⟩) (fun _ h => absurd h List.not_mem_nil) (Nat.le_of_ble_eq_true rfl) (Nat.le_of_ble_eq_true rfl)
def m_X0_requireNotAhead (p0 : Int64) (p1 : Int64) : Nat := (if 0 ≤ lg_cmp p0 p1 then 0 else 3)
theorem kk_X0_requireNotAhead : pK yX0_requireNotAhead wsX0_requireNotAhead cX0_requireNotAhead 4 none 2 := ⟨⟨_, rfl⟩, by decide +kernel, by decide +kernel, by decide +kernel⟩
set_option maxRecDepth 100000 in
set_option maxHeartbeats 4000000 in
theorem t_X0_requireNotAhead (l : Launch) (hl9 : l.stackTraces = false) (k : Kx) (p0 : Int64) (p1 : Int64) : tM l k yX0_requireNotAhead wsX0_requireNotAhead 6 120 1 6 [.long p0, .long p1] (m_X0_requireNotAhead p0 p1) := by
  refine vx_ofW (cc := cX0_requireNotAhead) (maxL := 4) (ret := none) (by decide) rfl ?_
  intro p e s m args below meth c s₁ B hml hEx hv
  obtain ⟨rfl, hGx⟩ := hv
  have hx := B.exec
  have hb := B.bytes
  have hr := B.returns
  have hts := atoms_spec (ws := wsX0_requireNotAhead) B.pre
  have hown : s.vm.findClass RX0 = some m.cls := findClass_of_methodNamed B.named
  have hlocks := B.notSynchronized
  have htg : ∀ w ∈ GL, w.before _ s = true := fun w h => hts w (List.mem_cons_of_mem _ h)
  have hC : CallFix p m c cX0_requireNotAhead 4 s _ wsX0_requireNotAhead RX0 := ⟨hx, hb, hml, hown, hts⟩
  have hl := lv_entry ([.long p0, .long p1]) (n := 4) (Nat.le_of_ble_eq_true rfl)
  rw [lg_entry_eq]
  generalize (lg_sl ([.long p0, .long p1]) ++ List.replicate (4 - (lg_sl ([.long p0, .long p1])).length) Slot.unset).toArray = ls at hl ⊢
  have hl : lv_has ls 4 [(0, .long p0), (2, .long p1)] := hl
  have hm : m_X0_requireNotAhead p0 p1 = m_X0_requireNotAhead p0 p1 := rfl
  refine lv_lload_n hx hb dX0_requireNotAhead_0 rfl (lv_at hl 0 rfl) ?_
  refine lv_lload_n hx hb dX0_requireNotAhead_1 rfl (lv_at hl 1 rfl) ?_
  refine W.lcmp hx hb dX0_requireNotAhead_2 ?_
  refine lv_if_ge (tgt := 17) hx hb dX0_requireNotAhead_3 (by decide) (fun h_1 => ?_) (fun h_1 => ?_)
  · have hm := hm.trans (if_pos h_1)
    have hm : m_X0_requireNotAhead p0 p1 = 0 := hm
    refine vx_ret (W.widen (k := 1) (n := 6) (Nat.le_of_ble_eq_true rfl) (Nat.le_of_ble_eq_true rfl) ?_)
    exact W.vret hx hb hr (fun t ht _ => ⟨hm, rfl, ht⟩) (fun _ h => absurd h List.not_mem_nil) dX0_requireNotAhead_17
  · have hm := hm.trans (if_neg h_1)
    have hm : m_X0_requireNotAhead p0 p1 = 3 := hm
    obtain ⟨sa, hstr⟩ := gx_str hGx (q := (RX0, 259, "the second date is ahead of the first one")) (by decide +kernel)
    exact vx_throwSW (own := RX0) (cls := "java/lang/IllegalStateException") (names := ["java/lang/RuntimeException", "java/lang/Exception"]) hx hb hl9 hown (by decide +kernel) (by decide +kernel) (htg _ w_635) (htg _ w_35) hstr (at_RX0_252 hGx (fun w hw => htg w (inA_RX0_252 w hw))) (by decide +kernel) hGx.2.2.1 hGx.2.2.2.1 va_S.rf (hl.1.trans hml.symm) dX0_requireNotAhead_6 dX0_requireNotAhead_9 dX0_requireNotAhead_10 dX0_requireNotAhead_13 dX0_requireNotAhead_16 (fun x hx => (hEx x hx).elim) (Nat.le_of_ble_eq_true rfl) (Nat.le_of_ble_eq_true rfl) (Nat.le_of_ble_eq_true rfl) (Nat.le_of_ble_eq_true rfl) hlocks (fun t _ hsz hk => ⟨by rw [hm]; decide, by rw [hm]; rfl, hsz, hk⟩) (fun _ h => absurd h List.not_mem_nil) (Nat.le_of_ble_eq_true rfl) (Nat.le_of_ble_eq_true rfl)
def m_X0_requireSpanHolds (p0 : Int32) : Nat := (if p0 < (-100000 : Int32) then 3 else (if p0 ≤ (100000 : Int32) then 0 else 3))
theorem kk_X0_requireSpanHolds : pK yX0_requireSpanHolds wsX0_requireSpanHolds cX0_requireSpanHolds 1 none 1 := ⟨⟨_, rfl⟩, by decide +kernel, by decide +kernel, by decide +kernel⟩
set_option maxRecDepth 100000 in
set_option maxHeartbeats 4000000 in
theorem t_X0_requireSpanHolds (l : Launch) (hl9 : l.stackTraces = false) (k : Kx) (p0 : Int32) : tM l k yX0_requireSpanHolds wsX0_requireSpanHolds 6 120 1 6 [.int p0] (m_X0_requireSpanHolds p0) := by
  refine vx_ofW (cc := cX0_requireSpanHolds) (maxL := 1) (ret := none) (by decide) rfl ?_
  intro p e s m args below meth c s₁ B hml hEx hv
  obtain ⟨rfl, hGx⟩ := hv
  have hx := B.exec
  have hb := B.bytes
  have hr := B.returns
  have hts := atoms_spec (ws := wsX0_requireSpanHolds) B.pre
  have hown : s.vm.findClass RX0 = some m.cls := findClass_of_methodNamed B.named
  have hlocks := B.notSynchronized
  have htg : ∀ w ∈ GL, w.before _ s = true := fun w h => hts w (List.mem_cons_of_mem _ h)
  have hC : CallFix p m c cX0_requireSpanHolds 1 s _ wsX0_requireSpanHolds RX0 := ⟨hx, hb, hml, hown, hts⟩
  have hl := lv_entry ([.int p0]) (n := 1) (Nat.le_of_ble_eq_true rfl)
  rw [lg_entry_eq]
  generalize (lg_sl ([.int p0]) ++ List.replicate (1 - (lg_sl ([.int p0])).length) Slot.unset).toArray = ls at hl ⊢
  have hl : lv_has ls 1 [(0, .int p0)] := hl
  have hm : m_X0_requireSpanHolds p0 = m_X0_requireSpanHolds p0 := rfl
  refine lv_iload_n hx hb dX0_requireSpanHolds_0 rfl (lv_at hl 0 rfl) ?_
  refine lv_ldc hx hb hown (htg _ w_820) dX0_requireSpanHolds_1 ?_
  refine lv_icmp_lt (tgt := 12) hx hb dX0_requireSpanHolds_3 (by decide) (fun h_1 => ?_) (fun h_1 => ?_)
  · have hm := hm.trans (if_pos h_1)
    have hm : m_X0_requireSpanHolds p0 = 3 := hm
    obtain ⟨sa, hstr⟩ := gx_str hGx (q := (RX0, 261, "the number is too small or too large for a span")) (by decide +kernel)
    exact vx_throwSW (own := RX0) (cls := "java/lang/IllegalStateException") (names := ["java/lang/RuntimeException", "java/lang/Exception"]) hx hb hl9 hown (by decide +kernel) (by decide +kernel) (htg _ w_635) (htg _ w_35) hstr (at_RX0_252 hGx (fun w hw => htg w (inA_RX0_252 w hw))) (by decide +kernel) hGx.2.2.1 hGx.2.2.2.1 va_S.rf (hl.1.trans hml.symm) dX0_requireSpanHolds_12 dX0_requireSpanHolds_15 dX0_requireSpanHolds_16 dX0_requireSpanHolds_19 dX0_requireSpanHolds_22 (fun x hx => (hEx x hx).elim) (Nat.le_of_ble_eq_true rfl) (Nat.le_of_ble_eq_true rfl) (Nat.le_of_ble_eq_true rfl) (Nat.le_of_ble_eq_true rfl) hlocks (fun t _ hsz hk => ⟨by rw [hm]; decide, by rw [hm]; rfl, hsz, hk⟩) (fun _ h => absurd h List.not_mem_nil) (Nat.le_of_ble_eq_true rfl) (Nat.le_of_ble_eq_true rfl)
  · have hm := hm.trans (if_neg h_1)
    refine lv_iload_n hx hb dX0_requireSpanHolds_6 rfl (lv_at hl 0 rfl) ?_
    refine lv_ldc hx hb hown (htg _ w_821) dX0_requireSpanHolds_7 ?_
    refine lv_icmp_le (tgt := 23) hx hb dX0_requireSpanHolds_9 (by decide) (fun h_2 => ?_) (fun h_2 => ?_)
    · have hm := hm.trans (if_pos h_2)
      have hm : m_X0_requireSpanHolds p0 = 0 := hm
      refine vx_ret (W.widen (k := 1) (n := 6) (Nat.le_of_ble_eq_true rfl) (Nat.le_of_ble_eq_true rfl) ?_)
      exact W.vret hx hb hr (fun t ht _ => ⟨hm, rfl, ht⟩) (fun _ h => absurd h List.not_mem_nil) dX0_requireSpanHolds_23
    · have hm := hm.trans (if_neg h_2)
      have hm : m_X0_requireSpanHolds p0 = 3 := hm
      obtain ⟨sa, hstr⟩ := gx_str hGx (q := (RX0, 261, "the number is too small or too large for a span")) (by decide +kernel)
      exact vx_throwSW (own := RX0) (cls := "java/lang/IllegalStateException") (names := ["java/lang/RuntimeException", "java/lang/Exception"]) hx hb hl9 hown (by decide +kernel) (by decide +kernel) (htg _ w_635) (htg _ w_35) hstr (at_RX0_252 hGx (fun w hw => htg w (inA_RX0_252 w hw))) (by decide +kernel) hGx.2.2.1 hGx.2.2.2.1 va_S.rf (hl.1.trans hml.symm) dX0_requireSpanHolds_12 dX0_requireSpanHolds_15 dX0_requireSpanHolds_16 dX0_requireSpanHolds_19 dX0_requireSpanHolds_22 (fun x hx => (hEx x hx).elim) (Nat.le_of_ble_eq_true rfl) (Nat.le_of_ble_eq_true rfl) (Nat.le_of_ble_eq_true rfl) (Nat.le_of_ble_eq_true rfl) hlocks (fun t _ hsz hk => ⟨by rw [hm]; decide, by rw [hm]; rfl, hsz, hk⟩) (fun _ h => absurd h List.not_mem_nil) (Nat.le_of_ble_eq_true rfl) (Nat.le_of_ble_eq_true rfl)
theorem place_in {p : Int32} (h : m_X0_requirePlace p = 0) : vp_in p 6 := by
  unfold m_X0_requirePlace at h
  by_cases h1 : p < 0
  · rw [if_pos h1] at h; exact absurd h (by decide)
  · rw [if_neg h1] at h
    by_cases h2 : p < 6
    · exact vp_in_iff.mpr ⟨by rw [Int32.lt_iff_toInt_lt] at h1; simpa using h1, by rw [Int32.lt_iff_toInt_lt] at h2; simpa using h2⟩
    · simp [h2] at h
theorem span_in {p : Int32} (h : m_X0_requireSpan p = 0) : vp_in p 2 := by
  unfold m_X0_requireSpan at h
  by_cases h1 : p < 0
  · rw [if_pos h1] at h; exact absurd h (by decide)
  · rw [if_neg h1] at h
    by_cases h2 : p < 2
    · exact vp_in_iff.mpr ⟨by rw [Int32.lt_iff_toInt_lt] at h1; simpa using h1, by rw [Int32.lt_iff_toInt_lt] at h2; simpa using h2⟩
    · simp [h2] at h

